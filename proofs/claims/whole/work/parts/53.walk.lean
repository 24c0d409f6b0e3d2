set_option linter.unusedVariables false
/-! THE LAWS: the reference's walk -/
def pvJoin (s p q : Int32) : Int32 := (f_X2_joined s p q).getD 0
def pvOp (m a b c : Int32) : Int32 := (f_X2_operand m a b c).getD 0
def pvStep (a b c : Int32) (st : List Int32) (m : Int32) : List Int32 :=
  if m < -3 then (if m = -33 then (match st with | [] => [] | x :: r => (if x = 0 then 1 else 0) :: r) else (match st with | [] => [] | [x] => [x] | y :: x :: r => pvJoin (-m) x y :: r)) else pvOp m a b c :: st
def wkS (σ : bzS) (t : Nat → Int32) (u e p op : Nat) (ok : Bool) (a b c : Int32) : Prop :=
  σ 95 8 = nI u ∧ σ 95 9 = nI p ∧ σ 95 10 = nI e ∧ σ 95 11 = nI op ∧ σ 95 12 = a ∧ σ 95 13 = b ∧ σ 95 14 = c ∧ σ 95 15 = (if ok = true then 1 else 0) ∧ ∀ i, i < e → σ 96 (154 + 50 * u + i) = t i
def wkF (σ τ : bzS) : Prop := (∀ k, k ≠ 95 → τ k = σ k) ∧ ∀ j, (j < 8 ∨ 15 < j) → τ 95 j = σ 95 j
theorem wkF.trans {σ τ ρ : bzS} (h : wkF σ τ) (h2 : wkF τ ρ) : wkF σ ρ := ⟨fun k hk => by rw [h2.1 k hk, h.1 k hk], fun j hj => by rw [h2.2 j hj, h.2 j hj]⟩
theorem wkF.refl (σ : bzS) : wkF σ σ := ⟨fun k _ => rfl, fun j _ => rfl⟩
theorem wkF.st {σ : bzS} {j : Nat} {v : Int32} (h1 : 8 ≤ j) (h2 : j ≤ 15) : wkF σ (bzSt σ 95 j v) := ⟨fun k hk => st_o hk, fun i hi => by rw [st_s, pk_un (by omega)]⟩
theorem wk_byte {σ : bzS} {t : Nat → Int32} {u e p op : Nat} {ok : Bool} {a b c : Int32} (h : wkS σ t u e p op ok a b c) (he : e ≤ 50) (hu : u = 0 ∨ u = 1) (hp : p ≤ e) : f_X10_byteAt 95 (nI p) σ = some (ptAt t e p) := by
  obtain ⟨h1, h2, h3, h4, h5, h6, h7, h8, h9⟩ := h
  by_cases q : p < e
  · have r1 : ptAt t e p = t p := if_pos q
    have ea : 154 + 50 * nI u + nI p = nI (154 + 50 * u + p) := by rw [show (154 : Int32) = nI 154 from rfl, show (50 : Int32) = nI 50 from rfl, pk_mul, nI_add, nI_add]
    have hlt : 154 + 50 * u + p < 254 := by rcases hu with rfl | rfl <;> omega
    rw [r1]
    simp only [f_X10_byteAt, g_95, l_95_0, h1, h3, if_neg (nI_ge q (by omega)), ea, bzGdT (bzIn_nI hlt (by decide)), clN (show 154 + 50 * u + p < 2 ^ 31 by omega), h9 p q]
  · have ep : p = e := by omega
    subst ep
    have r1 : ptAt t p p = -1 := if_neg q
    rw [r1]
    simp only [f_X10_byteAt, g_95, h3, if_pos (Int32.le_refl _)]
theorem wk_at {σ : bzS} {t : Nat → Int32} {u e p op : Nat} {ok : Bool} {a b c : Int32} (h : wkS σ t u e p op ok a b c) : wkS (bzSt σ 95 9 (σ 95 9 + 1)) t u e (p + 1) op ok a b c ∧ wkF σ (bzSt σ 95 9 (σ 95 9 + 1)) := by
  obtain ⟨h1, h2, h3, h4, h5, h6, h7, h8, h9⟩ := h
  refine ⟨⟨?_, ?_, ?_, ?_, ?_, ?_, ?_, ?_, ?_⟩, wkF.st (by decide) (by decide)⟩
  · rw [st_s, pk_un (by decide)]; exact h1
  · rw [st_s, pk_us, h2, nI_1]
  · rw [st_s, pk_un (by decide)]; exact h3
  · rw [st_s, pk_un (by decide)]; exact h4
  · rw [st_s, pk_un (by decide)]; exact h5
  · rw [st_s, pk_un (by decide)]; exact h6
  · rw [st_s, pk_un (by decide)]; exact h7
  · rw [st_s, pk_un (by decide)]; exact h8
  · intro i hi; rw [st_o (by decide)]; exact h9 i hi
theorem wk_bad {σ : bzS} {t : Nat → Int32} {u e p op : Nat} {ok : Bool} {a b c : Int32} (h : wkS σ t u e p op ok a b c) : f_X10_fails 95 σ = some (0, bzSt σ 95 15 0) ∧ wkS (bzSt σ 95 15 0) t u e p op false a b c ∧ wkF σ (bzSt σ 95 15 0) := by
  obtain ⟨h1, h2, h3, h4, h5, h6, h7, h8, h9⟩ := h
  refine ⟨rfl, ⟨?_, ?_, ?_, ?_, ?_, ?_, ?_, ?_, ?_⟩, wkF.st (by decide) (by decide)⟩
  · rw [st_s, pk_un (by decide)]; exact h1
  · rw [st_s, pk_un (by decide)]; exact h2
  · rw [st_s, pk_un (by decide)]; exact h3
  · rw [st_s, pk_un (by decide)]; exact h4
  · rw [st_s, pk_un (by decide)]; exact h5
  · rw [st_s, pk_un (by decide)]; exact h6
  · rw [st_s, pk_un (by decide)]; exact h7
  · rw [st_s, pk_us]; rfl
  · intro i hi; rw [st_o (by decide)]; exact h9 i hi
theorem wk_op {σ : bzS} {t : Nat → Int32} {u e p op : Nat} {ok : Bool} {a b c : Int32} (o2 : Nat) (h : wkS σ t u e p op ok a b c) : wkS (bzSt σ 95 11 (nI o2)) t u e p o2 ok a b c ∧ wkF σ (bzSt σ 95 11 (nI o2)) := by
  obtain ⟨h1, h2, h3, h4, h5, h6, h7, h8, h9⟩ := h
  refine ⟨⟨?_, ?_, ?_, ?_, ?_, ?_, ?_, ?_, ?_⟩, wkF.st (by decide) (by decide)⟩
  · rw [st_s, pk_un (by decide)]; exact h1
  · rw [st_s, pk_un (by decide)]; exact h2
  · rw [st_s, pk_un (by decide)]; exact h3
  · rw [st_s, pk_us]
  · rw [st_s, pk_un (by decide)]; exact h5
  · rw [st_s, pk_un (by decide)]; exact h6
  · rw [st_s, pk_un (by decide)]; exact h7
  · rw [st_s, pk_un (by decide)]; exact h8
  · intro i hi; rw [st_o (by decide)]; exact h9 i hi
theorem dg_m (c : Int32) : f_X10_isDigit c = some (if ptDg c = true then 1 else 0) := by
  unfold f_X10_isDigit f_X10_in
  by_cases h1 : c < 48
  · have : ¬ ptDg c = true := fun h => by
      obtain ⟨a, b⟩ := of_decide_eq_true h
      exact absurd h1 (Int32.not_lt.mpr a)
    rw [if_pos h1, if_neg this]; rfl
  · by_cases h2 : 57 < c
    · have : ¬ ptDg c = true := fun h => by
        obtain ⟨a, b⟩ := of_decide_eq_true h
        exact absurd h2 (Int32.not_lt.mpr b)
      rw [if_neg h1, if_pos h2, if_neg this]; rfl
    · have : ptDg c = true := decide_eq_true ⟨le_of_nlt h1, le_of_nlt h2⟩
      rw [if_neg h1, if_neg h2, if_pos this]; rfl
theorem wk_num {t : Nat → Int32} {u e op : Nat} {a b c : Int32} (he : e ≤ 50) (hu : u = 0 ∨ u = 1) : ∀ k i, i + k = 4 → ∀ (F v p v2 q : Nat) (σ : bzS), k < F → wkS σ t u e p op true a b c → p ≤ e → ptNum t e k (nI v) p = (nI v2, q) → ∃ τ, fl_X10_number_4 95 F (nI v) (nI i) σ = some (nI v2, τ) ∧ wkS τ t u e q op true a b c ∧ wkF σ τ := by
  intro k
  induction k with
  | zero =>
    intro i hi F v p v2 q σ hF h hp hn
    obtain ⟨F, rfl⟩ : ∃ x, F = x + 1 := ⟨F - 1, by omega⟩
    have ei : i = 4 := by omega
    subst ei
    obtain ⟨e1, e2⟩ := Prod.mk.inj hn
    refine ⟨σ, ?_, e2 ▸ h, wkF.refl σ⟩
    simp only [fl_X10_number_4, fb_X10_number_4, if_pos (show (4 : Int32) ≤ nI 4 by decide), e1]
  | succ k ih =>
    intro i hi F v p v2 q σ hF h hp hn
    obtain ⟨F, rfl⟩ : ∃ x, F = x + 1 := ⟨F - 1, by omega⟩
    have i4 : ¬ (4 : Int32) ≤ nI i := nI_ge (show i < 4 by omega) (by decide)
    have nx := wk_byte h he hu hp
    have h9 : σ 95 9 = nI p := h.2.1
    by_cases hd : ptDg (ptAt t e p) = true
    · obtain ⟨d, hd9, ed⟩ := dg_of hd
      have hn : (if ptDg (ptAt t e p) = true then ptNum t e k (nI v * 10 + ptAt t e p - 48) (p + 1) else (nI v, p)) = (nI v2, q) := hn
      rw [if_pos hd, ed, dg_v] at hn
      obtain ⟨a1, a2⟩ := wk_at h
      obtain ⟨τ, t1, t2, t3⟩ := ih (i + 1) (by omega) F (v * 10 + d) (p + 1) v2 q _ (by omega) a1 (dg_in hd) hn
      refine ⟨τ, ?_, t2, a2.trans t3⟩
      rw [h9] at t1
      have ev : 10 * nI v + nI (48 + d) - 48 = nI (v * 10 + d) := by rw [Int32.mul_comm, dg_v]
      simp only [fl_X10_number_4, fb_X10_number_4, if_neg i4, h9, nx, bzBd, dg_m, if_pos hd, if_neg one_ne, bzLet]
      rw [ed, ev, nI_1]; exact t1
    · have hn : (if ptDg (ptAt t e p) = true then ptNum t e k (nI v * 10 + ptAt t e p - 48) (p + 1) else (nI v, p)) = (nI v2, q) := hn
      rw [if_neg hd] at hn
      obtain ⟨e1, e2⟩ := Prod.mk.inj hn
      refine ⟨σ, ?_, e2 ▸ h, wkF.refl σ⟩
      simp only [fl_X10_number_4, fb_X10_number_4, if_neg i4, h9, nx, bzBd, dg_m, if_neg hd, if_true, e1]
theorem wk_named {t : Nat → Int32} {u e op p : Nat} {a b c : Int32} (he : e ≤ 50) (hu : u = 0 ∨ u = 1) {σ : bzS} (h : wkS σ t u e p op true a b c) (x : Int32) :
    (∀ k, ptNm u x = some k → f_X10_named 95 x σ = some (pvOp k a b c, bzSt σ 95 9 (σ 95 9 + 1))) ∧ (ptNm u x = none → f_X10_named 95 x σ = some (0, bzSt σ 95 15 0)) := by
  obtain ⟨h1, h2, h3, h4, h5, h6, h7, h8, h9⟩ := h
  have q12 : bzSt σ 95 9 (σ 95 9 + 1) 95 12 = a := by rw [st_s, pk_un (by decide)]; exact h5
  have q13 : bzSt σ 95 9 (σ 95 9 + 1) 95 13 = b := by rw [st_s, pk_un (by decide)]; exact h6
  have q14 : bzSt σ 95 9 (σ 95 9 + 1) 95 14 = c := by rw [st_s, pk_un (by decide)]; exact h7
  have fa : f_X10_fails 95 σ = some (0, bzSt σ 95 15 0) := rfl
  have u0 : (nI 0 : Int32) = 0 := rfl
  have u1 : ¬ (nI 1 : Int32) = 0 := by decide
  have p1 : pvOp (-1) a b c = a := rfl
  have p2 : pvOp (-2) a b c = b := rfl
  have p3 : pvOp (-3) a b c = c := rfl
  by_cases x1 : x = 119
  · subst x1
    have en : ptNm u 119 = some (-1) := rfl
    refine ⟨fun k hk => ?_, fun hk => by rw [en] at hk; exact no_some hk.symm⟩
    rw [en] at hk
    obtain rfl := Option.some.inj hk
    rw [p1]
    rcases hu with rfl | rfl
    · simp only [f_X10_named, fb_X10_named_11, fb_X10_named_39, fb_X10_named_67, g_95, h1, u0, if_true, if_neg one_ne, if_neg (show ¬ (119 : Int32) = 104 by decide), if_neg (show ¬ (119 : Int32) = 108 by decide), bzLet, q12]
    · simp only [f_X10_named, fb_X10_named_11, fb_X10_named_39, fb_X10_named_67, g_95, h1, if_neg u1, if_true, if_neg one_ne, if_neg (show ¬ (119 : Int32) = 104 by decide), if_neg (show ¬ (119 : Int32) = 102 by decide), bzLet, q12]
  by_cases x2 : x = 104
  · subst x2
    have en : ptNm u 104 = some (-2) := rfl
    refine ⟨fun k hk => ?_, fun hk => by rw [en] at hk; exact no_some hk.symm⟩
    rw [en] at hk
    obtain rfl := Option.some.inj hk
    rw [p2]
    rcases hu with rfl | rfl
    · simp only [f_X10_named, fb_X10_named_11, fb_X10_named_39, fb_X10_named_67, g_95, h1, u0, if_true, if_neg one_ne, if_neg (show ¬ (104 : Int32) = 119 by decide), if_neg (show ¬ (104 : Int32) = 108 by decide), bzLet, q13]
    · simp only [f_X10_named, fb_X10_named_11, fb_X10_named_39, fb_X10_named_67, g_95, h1, if_neg u1, if_true, if_neg one_ne, if_neg (show ¬ (104 : Int32) = 119 by decide), if_neg (show ¬ (104 : Int32) = 102 by decide), bzLet, q13]
  have en : ptNm u x = if x = (if u = 0 then 108 else 102) then some (-3) else none := by
    unfold ptNm; rw [if_neg x1, if_neg x2]
  rcases hu with rfl | rfl
  · rw [if_pos rfl] at en
    by_cases x3 : x = 108
    · subst x3
      rw [if_pos rfl] at en
      refine ⟨fun k hk => ?_, fun hk => by rw [en] at hk; exact no_some hk.symm⟩
      rw [en] at hk
      obtain rfl := Option.some.inj hk
      rw [p3]
      simp only [f_X10_named, fb_X10_named_11, fb_X10_named_39, fb_X10_named_67, g_95, h1, u0, if_true, if_neg (show ¬ (108 : Int32) = 119 by decide), if_neg (show ¬ (108 : Int32) = 104 by decide), bzLet, q14]
    · rw [if_neg x3] at en
      refine ⟨fun k hk => by rw [en] at hk; exact no_some hk, fun _ => ?_⟩
      simp only [f_X10_named, fb_X10_named_11, fb_X10_named_39, fb_X10_named_67, g_95, h1, u0, if_true, if_neg x1, if_neg x2, if_neg x3, fa, bzBp]
  · rw [if_neg (show ¬ (1 : Nat) = 0 by decide)] at en
    by_cases x3 : x = 102
    · subst x3
      rw [if_pos rfl] at en
      refine ⟨fun k hk => ?_, fun hk => by rw [en] at hk; exact no_some hk.symm⟩
      rw [en] at hk
      obtain rfl := Option.some.inj hk
      rw [p3]
      simp only [f_X10_named, fb_X10_named_11, fb_X10_named_39, fb_X10_named_67, g_95, h1, if_neg u1, if_true, if_neg (show ¬ (102 : Int32) = 119 by decide), if_neg (show ¬ (102 : Int32) = 104 by decide), bzLet, q14]
    · rw [if_neg x3] at en
      refine ⟨fun k hk => by rw [en] at hk; exact no_some hk, fun _ => ?_⟩
      simp only [f_X10_named, fb_X10_named_11, fb_X10_named_39, fb_X10_named_67, g_95, h1, if_neg u1, if_true, if_neg x1, if_neg x2, if_neg x3, fa, bzBp]
def wkFn (N : Nat) (lv : Nat) : Nat → bzS → Option (Int32 × bzS) := match lv with
  | 0 => (fr_X10_factor N).2.2.2.2.2
  | 1 => (fr_X10_factor N).2.2.2.2.1
  | 2 => (fr_X10_factor N).2.2.2.1
  | 3 => (fr_X10_factor N).2.2.1
  | 4 => (fr_X10_factor N).2.1
  | _ => (fr_X10_factor N).1
abbrev wkX (t : Nat → Int32) (u e op : Nat) (a b c : Int32) (R : Option (Int32 × bzS)) (σ : bzS) (pre : List Int32) (r : List Int32 × Nat × Bool) : Prop :=
  ∃ v τ, R = some (v, τ) ∧ wkS τ t u e r.2.1 op r.2.2 a b c ∧ wkF σ τ ∧ (r.2.2 = true → ∀ st, r.1.foldl (pvStep a b c) st = v :: st)
theorem pv_sign {a b c x y s : Int32} {r : List Int32} {lv : Nat} (h : ptLv s = lv) (h5 : lv < 5) : pvStep a b c (y :: x :: r) (-s) = pvJoin s x y :: r := by
  rcases ptLv_cs h h5 with ⟨-, rfl⟩ | ⟨-, rfl⟩ | ⟨-, rfl | rfl | rfl⟩ | ⟨-, rfl | rfl⟩ | ⟨-, rfl | rfl | rfl⟩ <;> rfl
/-- the signs of a level: any loop that goes so -/
theorem wk_more {t : Nat → Int32} {u e op lv : Nat} {a b c : Int32} {sub : Nat → ptRes} {S : bzS → Option (Int32 × bzS)} {L : Nat → Int32 → bzS → Option (Int32 × bzS)} (he : e ≤ 50) (h5 : lv < 5)
    (hb : ∀ p r, p ≤ e → sub p = some r → ptOk e p 0 r)
    (hs : ∀ p r, p ≤ e → sub p = some r → ∀ σ, wkS σ t u e p op true a b c → wkX t u e op a b c (S σ) σ [] r)
    (stop : ∀ F v σ p ok, p ≤ e → wkS σ t u e p op ok a b c → (ok = false ∨ ¬ ptLv (ptAt t e p) = lv) → L (F + 1) v σ = some (v, σ))
    (step : ∀ F v σ p x τ, p ≤ e → wkS σ t u e p op true a b c → ptLv (ptAt t e p) = lv → S (bzSt σ 95 9 (σ 95 9 + 1)) = some (x, τ) → L (F + 1) v σ = L F (pvJoin (ptAt t e p) v x) τ) :
    ∀ k F m p ok r v, k < F → (ok = true → 51 ≤ p + k) → ptMore t e lv sub k m p ok = some r → ∀ σ, wkS σ t u e p op ok a b c → p ≤ e → (ok = true → ∀ st, m.foldl (pvStep a b c) st = v :: st) → wkX t u e op a b c (L F v σ) σ [] r := by
  intro k
  induction k with
  | zero =>
    intro F m p ok r v hF hk hr σ h hp hv
    obtain ⟨F, rfl⟩ : ∃ x, F = x + 1 := ⟨F - 1, by omega⟩
    obtain rfl := Option.some.inj hr
    refine ⟨v, σ, stop F v σ p ok hp h ?_, h, wkF.refl σ, hv⟩
    cases ok with
    | false => exact Or.inl rfl
    | true => have := hk rfl; omega
  | succ k ih =>
    intro F m p ok r v hF hk hr σ h hp hv
    obtain ⟨F, rfl⟩ : ∃ x, F = x + 1 := ⟨F - 1, by omega⟩
    cases ok with
    | false =>
      rw [ptMore_f] at hr
      obtain rfl := Option.some.inj hr
      exact ⟨v, σ, stop F v σ p false hp h (Or.inl rfl), h, wkF.refl σ, hv⟩
    | true =>
      by_cases hl : ptLv (ptAt t e p) = lv
      · have hp1 : p < e := ptLv_in (t := t) (by omega)
        cases hsb : sub (p + 1) with
        | none => rw [ptMore_z hl hsb] at hr; exact no_some hr
        | some q =>
          rw [ptMore_s hl hsb] at hr
          obtain ⟨a1, a2⟩ := wk_at h
          obtain ⟨x, τ, t1, t2, t3, t4⟩ := hs _ _ hp1 hsb _ a1
          obtain ⟨b1, b2, b3, b4⟩ := hb _ _ hp1 hsb
          have hk := hk rfl
          obtain ⟨w, ω, w1, w2, w3, w4⟩ := ih F _ _ _ _ (pvJoin (ptAt t e p) v x) (by omega) (fun _ => by omega) hr τ t2 b2 (fun hq st => by
            rw [List.foldl_append, hv rfl, List.foldl_append, t4 hq]
            exact pv_sign hl h5)
          refine ⟨w, ω, ?_, w2, (a2.trans t3).trans w3, w4⟩
          rw [step F v σ p x τ hp h hl t1]; exact w1
      · rw [ptMore_n _ _ _ _ hl] at hr
        obtain rfl := Option.some.inj hr
        exact ⟨v, σ, stop F v σ p true hp h (Or.inr hl), h, wkF.refl σ, hv⟩
