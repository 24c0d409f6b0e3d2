set_option maxRecDepth 20000
/-! THE WORLD: every cell that the two objects reach, by number; what each holds that can change is an Int32 of 'bzS' (cell, place); references never change -/
abbrev bzS : Type := Nat → Nat → Int32
abbrev bzGeo : Type := va_G × ClassId × ClassId × (Nat → Nat) × (Nat → Prop)
abbrev ga (g : bzGeo) : Nat → Nat := g.2.2.2.1
abbrev gA (g : bzGeo) : Nat → Prop := g.2.2.2.2
def bzN : Nat := 108
def kdL : List Nat := [9, 6, 0, 11, 11, 7, 11, 11, 11, 11, 2, 4, 11, 11, 2, 4, 11, 11, 1, 11, 11, 11, 11, 11, 4, 11, 4, 11, 6, 0, 11, 11, 7, 11, 11, 11, 11, 2, 4, 11, 11, 2, 4, 11, 11, 1, 11, 11, 11, 11, 11, 4, 11, 4, 11, 0, 11, 11, 7, 11, 11, 11, 11, 2, 4, 11, 11, 2, 4, 11, 11, 12, 3, 4, 11, 2, 4, 11, 11, 8, 4, 11, 11, 5, 4, 11, 5, 4, 11, 5, 4, 11, 5, 4, 11, 10, 11, 11, 11, 11, 11, 11, 11, 11, 11, 11, 11, 11, 13, 13, 13, 13]
def kd (k : Nat) : Nat := kdL.getD k 99
def lyL : List (List Nat) := [[1, 28, 0, 55, 71, 72, 79, 82], [2, 18, 24, 26], [3, 4, 5, 10, 14], [], [], [6, 7, 8, 9], [], [], [], [], [11, 13], [12], [], [], [15, 17], [16], [], [], [19, 20, 21, 22, 23], [], [], [], [], [], [25], [], [27], [], [29, 45, 51, 53], [30, 31, 32, 37, 41], [], [], [33, 34, 35, 36], [], [], [], [], [38, 40], [39], [], [], [42, 44], [43], [], [], [46, 47, 48, 49, 50], [], [], [], [], [], [52], [], [54], [], [56, 57, 58, 63, 67], [], [], [59, 60, 61, 62], [], [], [], [], [64, 66], [65], [], [], [68, 70], [69], [], [], [83, 86, 89, 92], [73, 75], [74], [], [76, 78], [77], [], [], [80], [81], [], [], [84], [85], [], [87], [88], [], [90], [91], [], [93], [94], [], [96, 97, 98, 99, 0, 0, 100, 0, 0, 0, 0, 0, 0, 0, 0, 0, 101, 102, 103, 104, 105, 106, 107, 0, 0, 0, 0], [], [], [], [], [], [], [], [], [], [], [], [], [], [], [], []]
def ly (k j : Nat) : Nat := (lyL.getD k []).getD j 0
def lnL : List Nat := [0, 0, 0, 6, 6, 0, 8, 8, 8, 8, 0, 0, 50, 50, 0, 0, 50, 50, 0, 10, 10, 8, 16, 16, 0, 50, 0, 20, 0, 0, 6, 6, 0, 8, 8, 8, 8, 0, 0, 50, 50, 0, 0, 50, 50, 0, 10, 10, 8, 16, 16, 0, 50, 0, 20, 0, 6, 6, 0, 8, 8, 8, 8, 0, 0, 50, 50, 0, 0, 50, 50, 4, 0, 0, 50, 0, 0, 50, 50, 0, 0, 40, 6, 0, 0, 40, 0, 0, 40, 0, 0, 40, 0, 0, 40, 0, 254, 254, 254, 254, 6, 4, 4, 160, 40, 16, 16, 40, 5, 7, 9, 28]
def ln (k : Nat) : Nat := lnL.getD k 0
def tbL : List (List Int) := [[99, 99, 99, 60, 15], [-1, 0, 0, 0, 1, 2, 3], [1, 1, 2, 6, 24, 120, 720, 5040, 40320], [10, 11, 12, 13, 20, 0, 0, 0, 0, 30, 0, 0, 0, 0, 40, 0, 0, 0, 0, 50, 0, 60, 0, 0, 0, 0, 70, 71]]
/-- what the class's constant rows hold (cells 108 on) -/
def tb (t j : Nat) : Int32 := Int32.ofInt ((tbL.getD (t - 108) []).getD j 0)
theorem kd_lt {k : Nat} (h : kd k ≤ 12) : k < bzN := by
  rcases Nat.lt_or_ge k 112 with q | q
  · have key : ∀ k, k < 112 → kd k ≤ 12 → k < bzN := by decide +kernel
    exact key k q h
  · exact absurd h (by unfold kd; rw [List.getD_eq_getElem?_getD, List.getElem?_eq_none (show kdL.length ≤ k from q)]; decide)
theorem kd_all {P : Nat → Prop} (c : Nat) (hc : c ≠ 99) (h : ∀ k, k < 112 → kd k = c → P k) {k : Nat} (hk : kd k = c) : P k := by
  rcases Nat.lt_or_ge k 112 with q | q
  · exact h k q hk
  · exact absurd hk (by unfold kd; rw [List.getD_eq_getElem?_getD, List.getElem?_eq_none (show kdL.length ≤ k from q)]; exact fun e => hc e.symm)

def bzFs (g : bzGeo) (o : Nat) (f : Nat → Int32) : Nat → List Value
  | 0 => [.ref (ga g (ly o 0)), .ref (ga g (ly o 1)), .ref (ga g (ly o 2)), .ref (ga g (ly o 3)), .ref (ga g (ly o 4)), .int (f 5), .int (f 6), .int (f 7), .int (f 8)]
  | 1 => [.ref (ga g (ly o 0)), .ref (ga g (ly o 1)), .ref (ga g (ly o 2)), .ref (ga g (ly o 3)), .ref (ga g (ly o 4)), .int (f 5), .int (f 6)]
  | 2 => [.ref (ga g (ly o 0)), .ref (ga g (ly o 1)), .int (f 2)]
  | 3 => [.ref (ga g (ly o 0)), .ref (ga g (ly o 1)), .int (f 2), .int (f 3), .int (f 4)]
  | 4 => [.ref (ga g (ly o 0)), .int (f 1)]
  | 5 => [.ref (ga g (ly o 0)), .int (f 1)]
  | 6 => [.ref (ga g (ly o 0)), .ref (ga g (ly o 1)), .ref (ga g (ly o 2)), .ref (ga g (ly o 3)), .int (f 4)]
  | 7 => [.ref (ga g (ly o 0)), .ref (ga g (ly o 1)), .ref (ga g (ly o 2)), .ref (ga g (ly o 3)), .int (f 4), .int (f 5)]
  | 8 => [.ref (ga g (ly o 0)), .int (f 1), .int (f 2), .int (f 3)]
  | 9 => [.ref (ga g (ly o 0)), .ref (ga g (ly o 1)), .int (f 2), .ref (ga g (ly o 3)), .ref (ga g (ly o 4)), .ref (ga g (ly o 5)), .ref (ga g (ly o 6)), .ref (ga g (ly o 7))]
  | 10 => [.ref (ga g (ly o 0)), .ref (ga g (ly o 1)), .ref (ga g (ly o 2)), .ref (ga g (ly o 3)), .int (f 4), .int (f 5), .ref (ga g (ly o 6)), .int (f 7), .int (f 8), .int (f 9), .int (f 10), .int (f 11), .int (f 12), .int (f 13), .int (f 14), .int (f 15), .ref (ga g (ly o 16)), .ref (ga g (ly o 17)), .ref (ga g (ly o 18)), .ref (ga g (ly o 19)), .ref (ga g (ly o 20)), .ref (ga g (ly o 21)), .ref (ga g (ly o 22)), .int (f 23), .int (f 24), .int (f 25), .int (f 26)]
  | _ => []
/-- the row of sheets, as the constructor fills it -/
def bzQf (g : bzGeo) (k : Nat) : Nat → Option Nat := va_up (va_up (va_up (va_up (fun _ => none) 0 (some (ga g (ly k 0)))) 1 (some (ga g (ly k 1)))) 2 (some (ga g (ly k 2)))) 3 (some (ga g (ly k 3)))
theorem bzQf_at (g : bzGeo) (k : Nat) {j : Nat} (h : j < 4) : bzQf g k j = some (ga g (ly k j)) := by
  rcases (show j = 0 ∨ j = 1 ∨ j = 2 ∨ j = 3 by omega) with rfl | rfl | rfl | rfl <;> rfl
def bzCt (g : bzGeo) (σ : bzS) (k : Nat) : va_E := if kd k = 11 then .inl (g.2.1, ln k, .inl (σ k)) else if kd k = 12 then .inl (g.2.2.1, ln k, .inr (.inr (.inr (.inr (bzQf g k))))) else .inr (kd k, bzFs g k (σ k) (kd k))
def bzWs (g : bzGeo) (σ : bzS) : va_W := (List.range bzN).map (fun k => (ga g k, bzCt g σ k))
def bzSt (σ : bzS) (o j : Nat) (v : Int32) : bzS := fun k => if k = o then upd (σ o) j v else σ k
def bzSa (σ : bzS) (o : Nat) (f : Nat → Int32) : bzS := fun k => if k = o then f else σ k
theorem bzCt_i {g : bzGeo} {σ : bzS} {k : Nat} (h : kd k = 11) : bzCt g σ k = .inl (g.2.1, ln k, .inl (σ k)) := by unfold bzCt; rw [if_pos h]
theorem bzCt_q {g : bzGeo} {σ : bzS} {k : Nat} (h : kd k = 12) : bzCt g σ k = .inl (g.2.2.1, ln k, .inr (.inr (.inr (.inr (bzQf g k))))) := by unfold bzCt; rw [if_neg (by rw [h]; decide), if_pos h]
theorem bzCt_o {g : bzGeo} {σ : bzS} {k ci : Nat} (h : kd k = ci) (hc : ci ≤ 10) : bzCt g σ k = .inr (ci, bzFs g k (σ k) ci) := by unfold bzCt; rw [if_neg (by omega), if_neg (by omega), h]
theorem bz_at {g : bzGeo} {σ : bzS} {k : Nat} (h : k < bzN) : (bzWs g σ)[k]? = some (ga g k, bzCt g σ k) := by
  unfold bzWs
  rw [List.getElem?_map, List.getElem?_range h]
  rfl
theorem bz_set {g : bzGeo} {σ σ' : bzS} {k : Nat} {e : va_E} (he : e = bzCt g σ' k) (ho : ∀ q, q ≠ k → σ' q = σ q) : (bzWs g σ).set k (ga g k, e) = bzWs g σ' := by
  subst he
  apply List.ext_getElem?
  intro i
  rcases Nat.lt_or_ge i bzN with q | q
  · by_cases hk : k = i
    · subst hk
      rw [List.getElem?_set_self (by unfold bzWs; rw [List.length_map, List.length_range]; exact q), bz_at q]
    · rw [List.getElem?_set_ne hk, bz_at q, bz_at q]
      unfold bzCt
      rw [ho i (fun e => hk e.symm)]
  · rw [List.getElem?_eq_none (by rw [List.length_set]; unfold bzWs; rw [List.length_map, List.length_range]; exact q), List.getElem?_eq_none (by unfold bzWs; rw [List.length_map, List.length_range]; exact q)]
theorem bz_D {g : bzGeo} {σ τ : bzS} {A : Nat → Prop} (h : va_D A (bzWs g σ)) : va_D A (bzWs g τ) := by
  have key : ∀ (i : Nat) (p : Nat × va_E), (bzWs g τ)[i]? = some p → ∃ e, (bzWs g σ)[i]? = some (p.1, e) := by
    intro i p hp
    rcases Nat.lt_or_ge i bzN with q | q
    · rw [bz_at q] at hp
      cases hp
      exact ⟨_, bz_at q⟩
    · rw [List.getElem?_eq_none (by unfold bzWs; rw [List.length_map, List.length_range]; exact q)] at hp
      cases hp
  refine ⟨fun i j p q hi hj e => ?_, fun k q hk => ?_⟩
  · obtain ⟨a, ha⟩ := key i p hi
    obtain ⟨b, hb⟩ := key j q hj
    exact h.1 i j _ _ ha hb e
  · obtain ⟨a, ha⟩ := key k q hk
    exact h.2 k (q.1, a) ha
abbrev bzTy (g : bzGeo) : List (ClassId × FieldType) := [(g.2.1, .int), (g.2.2.1, .object "BronzeDown$Sheet")]
def bzT1 (g : bzGeo) (t : Nat) (C n : String) (U : State) (H : Heap) : Prop := va_Z C n "[I" (.ref (ga g t)) (gA g) U H ∧ va_T .int (ga g t) (ln t) (fun j => .int (tb t j)) (gA g) U H
/-- the class's constant rows, outside the world -/
def bzTb (g : bzGeo) (U : State) (H : Heap) : Prop := bzT1 g 108 "BronzeDown" "MOST_OF_FIGURE" U H ∧ bzT1 g 109 "BronzeDown$Visitors" "KIND_ABOVE" U H ∧ bzT1 g 110 "BronzeDown$Visitors" "ORDERS" U H ∧ bzT1 g 111 "BronzeDown$Voices" "BODIES" U H
theorem bzTb.kept {g : bzGeo} {U : State} {H H1 : Heap} (h : bzTb g U H) (hq : ∀ a : Nat, a < H.size → ¬ gA g a → H1[a]? = H[a]?) : bzTb g U H1 :=
  ⟨⟨h.1.1.kept hq, h.1.2.kept hq⟩, ⟨h.2.1.1.kept hq, h.2.1.2.kept hq⟩, ⟨h.2.2.1.1.kept hq, h.2.2.1.2.kept hq⟩, ⟨h.2.2.2.1.kept hq, h.2.2.2.2.kept hq⟩⟩
theorem bzTb.moved {g : bzGeo} {u U : State} {H : Heap} (hv : u.vm.Alike U.vm) (h : bzTb g u H) : bzTb g U H :=
  ⟨⟨va_Z.moved hv h.1.1, va_T.moved hv h.1.2⟩, ⟨va_Z.moved hv h.2.1.1, va_T.moved hv h.2.1.2⟩, ⟨va_Z.moved hv h.2.2.1.1, va_T.moved hv h.2.2.1.2⟩, ⟨va_Z.moved hv h.2.2.2.1, va_T.moved hv h.2.2.2.2⟩⟩
def bzNw (U : State) : Prop := ∀ w ∈ NW, va_Nw w U
theorem bzNw.warm {s U : State} (h : bzNw s) (hW : s.WarmedH U.vm) : bzNw U := by
  intro w hw
  have hn := (List.mem_filter.mp hw).2
  have h1 := h w hw
  cases w <;> first | exact va_Nw.warmF hW h1 | exact va_Nw.warmM hW h1 | (simp [bzNest] at hn; done)
theorem bzNw.same {s U : State} (h : bzNw s) (hv : s.vm = U.vm) : bzNw U := by
  intro w hw
  have hn := (List.mem_filter.mp hw).2
  have h1 := h w hw
  cases w <;> first | (simp [bzNest] at hn; done) | exact va_Nw.same rfl hv h1
/-- a method's start: the world holds σ; the machine's words -/
def bzP (g : bzGeo) (σ : bzS) (U : State) : Prop := va_P g.1 vwCl (bzWs g σ) U.heap ∧ va_K g.1 vwCl (bzTy g) U ∧ va_D (gA g) (bzWs g σ) ∧ bzTb g U U.heap ∧ bzNw U
/-- its end -/
def bzB (g : bzGeo) (σ : bzS) (U : State) : Prop := va_P g.1 vwCl (bzWs g σ) U.heap
def bzR (d : Nat) : Room := { frames := d, cells := 0, slots := 0, locals := 40 * d }
abbrev bzCx : Type := Program × Launch × Env × Room × State × MethodId × Array Value × List Frame × Method × Code × (State → Prop) × Nat × Nat
/-- the judgement: from every machine state at pc whose world holds σ, with these locals and this stack, the method comes to its end -/
def bzJ (g : bzGeo) (nL : Nat) (x : bzCx) (σ : bzS) (pc : Nat) (lv : List (Nat × Value)) (st : List Value) : Prop :=
  ∀ (H : Heap) (locs : List Loc) (ls : Array Slot), va_P g.1 vwCl (bzWs g σ) H → va_S (gA g) x.2.2.2.2.1.heap H locs → lv_has ls nL lv → W x.1 x.2.1 x.2.2.1 x.2.2.2.1 x.2.2.2.2.1 x.2.2.2.2.2.1 x.2.2.2.2.2.2.1 x.2.2.2.2.2.2.2.1 x.2.2.2.2.2.2.2.2.1 x.2.2.2.2.2.2.2.2.2.1 H locs x.2.2.2.2.2.2.2.2.2.2.2.1 x.2.2.2.2.2.2.2.2.2.2.2.2 x.2.2.2.2.2.2.2.2.2.2.1 (F0 x.2.2.2.2.2.1 pc ls st)
/-- what stands fast in a method -/
def bzE (g : bzGeo) (d nL : Nat) (cc : ByteArray) (own : String) : bzCx → Prop
  | (p, l, e, R, s, m, args, below, meth, c, Q, k, n) => (p.tables.exec = Jvm.exec ∧ c.code = cc ∧ c.maxLocals = nL ∧ s.vm.findClass own = some m.cls ∧ ∀ w ∈ GW, w.before args s = true) ∧ va_K g.1 vwCl (bzTy g) s ∧ (∀ σ, va_D (gA g) (bzWs g σ)) ∧ bzTb g s s.heap ∧ bzNw s ∧ (d ≤ R.frames ∧ 40 * d ≤ R.locals ∧ k ≤ R.cells ∧ n ≤ R.slots)
def bzF (g : bzGeo) (ret : Option FieldType) (Qc : Array Value → State → Outcome → State → Prop) : bzCx → Prop
  | (p, l, e, R, s, m, args, below, meth, c, Q, k, n) => meth.sig.returnType = ret ∧ meth.locks = false ∧ Q = MQ below Qc args s k n (gA g)

