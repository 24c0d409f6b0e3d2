set_option linter.unusedVariables false
/-! THE LAWS: the class's reader -/
def rdS (σ : bzS) (t : Nat → Int32) (e u p : Nat) (ok : Bool) (ms : List Int32) : Prop :=
  σ 72 2 = nI u ∧ σ 72 3 = nI p ∧ σ 72 4 = (if ok = true then 0 else 1) ∧ σ 73 1 = nI e ∧ (∀ i, i < e → σ 74 i = t i) ∧ σ 76 1 = nI ms.length ∧ (∀ i, i < ms.length → σ 77 i = ms.getD i 0)
def rdF (σ τ : bzS) : Prop := ∀ k, k ≠ 72 → k ≠ 76 → k ≠ 77 → τ k = σ k
theorem gd_app1 {l : List Int32} {x : Int32} {i : Nat} (h : i < l.length) : (l ++ [x]).getD i 0 = l.getD i 0 := by
  rw [List.getD_eq_getElem?_getD, List.getD_eq_getElem?_getD, List.getElem?_append_left h]
theorem gd_app2 {l : List Int32} {x : Int32} : (l ++ [x]).getD l.length 0 = x := by
  rw [List.getD_eq_getElem?_getD, List.getElem?_append_right (Nat.le_refl _), Nat.sub_self]; rfl
theorem rdF.trans {σ τ ρ : bzS} (h : rdF σ τ) (h2 : rdF τ ρ) : rdF σ ρ := fun k a b c => by rw [h2 k a b c, h k a b c]
theorem rdF.refl (σ : bzS) : rdF σ σ := fun k _ _ _ => rfl
theorem rd_next {σ : bzS} {t : Nat → Int32} {e u p : Nat} {ok : Bool} {ms : List Int32} (h : rdS σ t e u p ok ms) (he : e ≤ 50) (hp : p ≤ e) : f_X3_next 72 σ = some (ptAt t e p) := by
  obtain ⟨h1, h2, h3, h4, h5, h6, h7⟩ := h
  by_cases c : p < e
  · have r1 : ptAt t e p = t p := if_pos c
    rw [r1]
    simp only [f_X3_next, f_X4_has, f_X4_at, g_0, g_95, g_1, g_2, g_5, g_18, g_24, g_26, g_79, g_80, g_72, l_0_0, l_0_1, l_0_3, l_0_4, l_0_5, l_0_6, l_0_7, l_1_0, l_1_1, l_1_2, l_1_3, l_2_0, l_2_1, l_2_2, l_2_3, l_2_4, l_5_0, l_5_1, l_5_2, l_5_3, l_18_0, l_18_1, l_18_2, l_18_3, l_18_4, l_24_0, l_26_0, l_79_0, l_80_0, l_95_0, l_95_1, l_95_2, l_95_3, l_95_6, l_95_16, l_95_17, l_95_18, l_95_19, l_95_20, l_95_21, l_95_22, bzBd, bzBp, bzLet, bzOp, f_X10_in, f_X9_within, e_f1, e_f2, e_f3, e_f4, e_f5, e_e1, e_e2, e_e3, e_e4, e_e5, l_72_0, l_73_0, g_72, g_73, n_74, h2, h4, ofN, if_neg (nI_n0 (show p < 2 ^ 31 by omega)), if_neg (nI_ge c (by omega)), if_neg (nI_ge (show p < 50 by omega) (by decide)), if_neg one_ne, bzGdT (bzIn_nI (show p < 50 by omega) (by decide)), clN (show p < 2 ^ 31 by omega), h5 p c]
  · have r1 : ptAt t e p = -1 := if_neg c
    have ep : p = e := by omega
    subst ep
    rw [r1]
    simp only [f_X3_next, f_X4_has, g_0, g_95, g_1, g_2, g_5, g_18, g_24, g_26, g_79, g_80, g_72, l_0_0, l_0_1, l_0_3, l_0_4, l_0_5, l_0_6, l_0_7, l_1_0, l_1_1, l_1_2, l_1_3, l_2_0, l_2_1, l_2_2, l_2_3, l_2_4, l_5_0, l_5_1, l_5_2, l_5_3, l_18_0, l_18_1, l_18_2, l_18_3, l_18_4, l_24_0, l_26_0, l_79_0, l_80_0, l_95_0, l_95_1, l_95_2, l_95_3, l_95_6, l_95_16, l_95_17, l_95_18, l_95_19, l_95_20, l_95_21, l_95_22, bzBd, bzBp, bzLet, bzOp, f_X10_in, f_X9_within, e_f1, e_f2, e_f3, e_f4, e_f5, e_e1, e_e2, e_e3, e_e4, e_e5, l_72_0, l_73_0, g_72, g_73, h2, h4, if_neg (nI_n0 (show p < 2 ^ 31 by omega)), if_pos (Int32.le_refl _), if_true]
theorem rd_add {σ : bzS} {t : Nat → Int32} {e u p : Nat} {ok : Bool} {ms : List Int32} (x : Int32) (h : rdS σ t e u p ok ms) (hl : ms.length < 50) : ∃ τ, f_X4_add 76 x σ = some (1, τ) ∧ rdS τ t e u p ok (ms ++ [x]) ∧ rdF σ τ := by
  obtain ⟨h1, h2, h3, h4, h5, h6, h7⟩ := h
  have e0 : bzSt σ 77 ms.length x 76 1 = nI ms.length := by rw [st_o (by decide)]; exact h6
  refine ⟨bzSt (bzSt σ 77 ms.length x) 76 1 (nI (ms.length + 1)), ?_, ⟨?_, ?_, ?_, ?_, ?_, ?_, ?_⟩, fun k a b c => by rw [st_o b, st_o c]⟩
  · simp only [f_X4_add, g_0, g_95, g_1, g_2, g_5, g_18, g_24, g_26, g_79, g_80, g_72, l_0_0, l_0_1, l_0_3, l_0_4, l_0_5, l_0_6, l_0_7, l_1_0, l_1_1, l_1_2, l_1_3, l_2_0, l_2_1, l_2_2, l_2_3, l_2_4, l_5_0, l_5_1, l_5_2, l_5_3, l_18_0, l_18_1, l_18_2, l_18_3, l_18_4, l_24_0, l_26_0, l_79_0, l_80_0, l_95_0, l_95_1, l_95_2, l_95_3, l_95_6, l_95_16, l_95_17, l_95_18, l_95_19, l_95_20, l_95_21, l_95_22, bzBd, bzBp, bzLet, bzOp, f_X10_in, f_X9_within, e_f1, e_f2, e_f3, e_f4, e_f5, e_e1, e_e2, e_e3, e_e4, e_e5, g_76, l_76_0, h6, n_77, ofN, if_pos (nI_lt hl (by decide)), bzGdT (bzIn_nI hl (by decide)), clN (show ms.length < 2 ^ 31 by omega), e0, nI_1]
  · rw [st_o (by decide), st_o (by decide)]; exact h1
  · rw [st_o (by decide), st_o (by decide)]; exact h2
  · rw [st_o (by decide), st_o (by decide)]; exact h3
  · rw [st_o (by decide), st_o (by decide)]; exact h4
  · intro i hi; rw [st_o (by decide), st_o (by decide)]; exact h5 i hi
  · rw [st_s, pk_us, List.length_append, List.length_singleton]
  · intro i hi
    rw [List.length_append, List.length_singleton] at hi
    rw [st_o (by decide), st_s]
    by_cases c : i = ms.length
    · subst c
      rw [pk_us, gd_app2]
    · rw [pk_un c, gd_app1 (by omega)]; exact h7 i (by omega)
theorem rd_at {σ : bzS} {t : Nat → Int32} {e u p : Nat} {ok : Bool} {ms : List Int32} (h : rdS σ t e u p ok ms) : rdS (bzSt σ 72 3 (σ 72 3 + 1)) t e u (p + 1) ok ms ∧ rdF σ (bzSt σ 72 3 (σ 72 3 + 1)) := by
  obtain ⟨h1, h2, h3, h4, h5, h6, h7⟩ := h
  refine ⟨⟨?_, ?_, ?_, ?_, ?_, ?_, ?_⟩, fun k a b c => st_o a⟩
  · rw [st_s, pk_un (by decide)]; exact h1
  · rw [st_s, pk_us, h2, nI_1]
  · rw [st_s, pk_un (by decide)]; exact h3
  · rw [st_o (by decide)]; exact h4
  · intro i hi; rw [st_o (by decide)]; exact h5 i hi
  · rw [st_o (by decide)]; exact h6
  · intro i hi; rw [st_o (by decide)]; exact h7 i hi
theorem rd_bad {σ : bzS} {t : Nat → Int32} {e u p : Nat} {ok : Bool} {ms : List Int32} (h : rdS σ t e u p ok ms) : rdS (bzSt σ 72 4 1) t e u p false ms ∧ rdF σ (bzSt σ 72 4 1) := by
  obtain ⟨h1, h2, h3, h4, h5, h6, h7⟩ := h
  refine ⟨⟨?_, ?_, ?_, ?_, ?_, ?_, ?_⟩, fun k a b c => st_o a⟩
  · rw [st_s, pk_un (by decide)]; exact h1
  · rw [st_s, pk_un (by decide)]; exact h2
  · rw [st_s, pk_us]; rfl
  · rw [st_o (by decide)]; exact h4
  · intro i hi; rw [st_o (by decide)]; exact h5 i hi
  · rw [st_o (by decide)]; exact h6
  · intro i hi; rw [st_o (by decide)]; exact h7 i hi
theorem dg_c (c : Int32) : f_X3_isDigit c = some (if ptDg c = true then 1 else 0) := by
  unfold f_X3_isDigit
  by_cases h1 : c < 48
  · have : ¬ ptDg c = true := fun h => by
      obtain ⟨a, b⟩ := of_decide_eq_true h
      exact absurd h1 (Int32.not_lt.mpr a)
    rw [if_pos h1, if_neg this]
  · by_cases h2 : 57 < c
    · have : ¬ ptDg c = true := fun h => by
        obtain ⟨a, b⟩ := of_decide_eq_true h
        exact absurd h2 (Int32.not_lt.mpr b)
      rw [if_neg h1, if_pos h2, if_neg this]
    · have : ptDg c = true := decide_eq_true ⟨le_of_nlt h1, le_of_nlt h2⟩
      rw [if_neg h1, if_neg h2, if_pos this]
theorem rd_num {t : Nat → Int32} {e u : Nat} (he : e ≤ 50) : ∀ k i, i + k = 4 → ∀ (F v p v2 q : Nat) (σ : bzS) (ms : List Int32), k < F → rdS σ t e u p true ms → p ≤ e → ms.length < 50 → ptNum t e k (nI v) p = (nI v2, q) → ∃ τ, fl_X3_readNumber_4 72 F (nI v) (nI i) σ = some τ ∧ rdS τ t e u q true (ms ++ [nI v2]) ∧ rdF σ τ := by
  intro k
  induction k with
  | zero =>
    intro i hi F v p v2 q σ ms hF h hp hl hn
    obtain ⟨F, rfl⟩ : ∃ x, F = x + 1 := ⟨F - 1, by omega⟩
    have ei : i = 4 := by omega
    subst ei
    obtain ⟨e1, e2⟩ := Prod.mk.inj hn
    obtain ⟨τ, t1, t2, t3⟩ := rd_add (nI v2) h hl
    refine ⟨τ, ?_, e2 ▸ t2, t3⟩
    simp only [fl_X3_readNumber_4, fb_X3_readNumber_4, if_pos (show (4 : Int32) ≤ nI 4 by decide), l_72_1, l_75_0, e1, t1, bzBp]
  | succ k ih =>
    intro i hi F v p v2 q σ ms hF h hp hl hn
    obtain ⟨F, rfl⟩ : ∃ x, F = x + 1 := ⟨F - 1, by omega⟩
    have i4 : ¬ (4 : Int32) ≤ nI i := nI_ge (show i < 4 by omega) (by decide)
    have nx := rd_next h he hp
    by_cases hd : ptDg (ptAt t e p) = true
    · obtain ⟨d, hd9, ed⟩ := dg_of hd
      have hn : (if ptDg (ptAt t e p) = true then ptNum t e k (nI v * 10 + ptAt t e p - 48) (p + 1) else (nI v, p)) = (nI v2, q) := hn
      rw [if_pos hd, ed, dg_v] at hn
      obtain ⟨a1, a2⟩ := rd_at h
      obtain ⟨τ, t1, t2, t3⟩ := ih (i + 1) (by omega) F (v * 10 + d) (p + 1) v2 q _ ms (by omega) a1 (dg_in hd) hl hn
      refine ⟨τ, ?_, t2, a2.trans t3⟩
      simp only [fl_X3_readNumber_4, fb_X3_readNumber_4, if_neg i4, nx, bzBd, dg_c, if_pos hd, if_neg one_ne, bzLet]
      rw [ed, dg_v, nI_1]; exact t1
    · have hn : (if ptDg (ptAt t e p) = true then ptNum t e k (nI v * 10 + ptAt t e p - 48) (p + 1) else (nI v, p)) = (nI v2, q) := hn
      rw [if_neg hd] at hn
      obtain ⟨e1, e2⟩ := Prod.mk.inj hn
      obtain ⟨τ, t1, t2, t3⟩ := rd_add (nI v2) h hl
      refine ⟨τ, ?_, e2 ▸ t2, t3⟩
      simp only [fl_X3_readNumber_4, fb_X3_readNumber_4, if_neg i4, nx, bzBd, dg_c, if_neg hd, if_true, l_72_1, l_75_0, e1, t1, bzBp]
theorem nm_c {σ : bzS} {u : Nat} (hu : u = 0 ∨ u = 1) (h : σ 72 2 = nI u) (c : Int32) : f_X3_nameOf 72 c σ = some ((ptNm u c).getD 0) := by
  by_cases h1 : c = 102
  · subst h1; rcases hu with rfl | rfl <;> (simp only [f_X3_nameOf, g_72, h]; rfl)
  by_cases h2 : c = 104
  · subst h2; rcases hu with rfl | rfl <;> (simp only [f_X3_nameOf, g_72, h]; rfl)
  by_cases h3 : c = 108
  · subst h3; rcases hu with rfl | rfl <;> (simp only [f_X3_nameOf, g_72, h]; rfl)
  by_cases h4 : c = 119
  · subst h4; rcases hu with rfl | rfl <;> (simp only [f_X3_nameOf, g_72, h]; rfl)
  have e1 : ¬ c = (if u = 0 then 108 else 102) := by rcases hu with rfl | rfl <;> assumption
  simp only [f_X3_nameOf, g_72, if_neg h1, if_neg h2, if_neg h3, if_neg h4, ptNm, if_neg e1, Option.getD]
theorem nm_ne {u : Nat} {c k : Int32} (h : ptNm u c = some k) : k = -1 ∨ k = -2 ∨ k = -3 := by
  unfold ptNm at h
  by_cases h1 : c = 119
  · rw [if_pos h1] at h; exact Or.inl (Option.some.inj h).symm
  rw [if_neg h1] at h
  by_cases h2 : c = 104
  · rw [if_pos h2] at h; exact Or.inr (Or.inl (Option.some.inj h).symm)
  rw [if_neg h2] at h
  by_cases h3 : c = (if u = 0 then 108 else 102)
  · rw [if_pos h3] at h; exact Or.inr (Or.inr (Option.some.inj h).symm)
  rw [if_neg h3] at h; exact no_some h
abbrev rdX (t : Nat → Int32) (e u : Nat) (R : bzS → Option bzS) (σ : bzS) (ms : List Int32) (r : List Int32 × Nat × Bool) : Prop := ∃ τ, R σ = some τ ∧ rdS τ t e u r.2.1 r.2.2 (ms ++ r.1) ∧ rdF σ τ
/-- the signs of a level -/
theorem rd_more {t : Nat → Int32} {e u lv op : Nat} {sub : Nat → ptRes} {qL : Nat → Int32 → Int32 → bzS → Option bzS} {qU : Nat → Int32 → bzS → Option bzS} (he : e ≤ 50) (h5 : lv < 5)
    (hb : ∀ p r, p ≤ e → sub p = some r → ptOk e p 0 r)
    (hs : ∀ p r, p ≤ e → sub p = some r → ∀ σ ms, rdS σ t e u p true ms → ms.length ≤ p → rdX t e u (qL 72 (nI (lv + 1)) (nI op)) σ ms r) {M : Nat} (hM : M ≤ 50) :
    ∀ k i, i + k = M → ∀ F m p ok r, k < F → ptMore t e lv sub k m p ok = some r → ∀ σ ms, rdS σ t e u p ok (ms ++ m) → p ≤ e → (ms ++ m).length ≤ p → rdX t e u (fl_X3_readLevel_34 qL qU 72 (nI lv) (nI op) F (nI M) (nI i)) σ ms r := by
  intro k
  induction k with
  | zero =>
    intro i hi F m p ok r hF hr σ ms h hp hl
    obtain ⟨F, rfl⟩ : ∃ x, F = x + 1 := ⟨F - 1, by omega⟩
    have ei : i = M := by omega
    subst ei
    obtain rfl := Option.some.inj hr
    exact ⟨σ, if_pos (Int32.le_refl _), h, rdF.refl σ⟩
  | succ k ih =>
    intro i hi F m p ok r hF hr σ ms h hp hl
    obtain ⟨F, rfl⟩ : ∃ x, F = x + 1 := ⟨F - 1, by omega⟩
    have iM : ¬ nI M ≤ nI i := nI_ge (show i < M by omega) (by omega)
    cases ok with
    | false =>
      rw [ptMore_f] at hr
      obtain rfl := Option.some.inj hr
      refine ⟨σ, ?_, h, rdF.refl σ⟩
      have h4 : σ 72 4 = 1 := h.2.2.1
      simp only [fl_X3_readLevel_34, fb_X3_readLevel_34, if_neg iM, h4, if_neg one_ne]
    | true =>
      have h4 : σ 72 4 = 0 := h.2.2.1
      have nx := rd_next h he hp
      by_cases hlv : ptLv (ptAt t e p) = lv
      · have hp1 : p < e := ptLv_in (t := t) (by omega)
        cases hsb : sub (p + 1) with
        | none => rw [ptMore_z hlv hsb] at hr; exact no_some hr
        | some q =>
          rw [ptMore_s hlv hsb] at hr
          obtain ⟨a1, a2⟩ := rd_at h
          obtain ⟨τ, t1, t2, t3⟩ := hs _ _ hp1 hsb _ _ a1 (by omega)
          obtain ⟨b1, b2, b3, b4⟩ := hb _ _ hp1 hsb
          have hlen : ((ms ++ m) ++ q.1).length < q.2.1 := by
            rw [List.length_append]; omega
          obtain ⟨ρ, r1, r2, r3⟩ := rd_add (-(ptAt t e p)) t2 (by omega)
          have ea : ((ms ++ m) ++ q.1) ++ [-(ptAt t e p)] = ms ++ (m ++ (q.1 ++ [-(ptAt t e p)])) := by simp only [List.append_assoc]
          rw [ea] at r2
          obtain ⟨ω, w1, w2, w3⟩ := ih (i + 1) (by omega) F _ _ _ _ (by omega) hr ρ ms r2 b2 (by rw [← ea, List.length_append, List.length_singleton]; omega)
          refine ⟨ω, ?_, w2, ((a2.trans t3).trans r3).trans w3⟩
          simp only [fl_X3_readLevel_34, fb_X3_readLevel_34, if_neg iM, h4, if_true, nx, bzBd, lv_c, hlv, bzLet, nI_1, t1, l_72_1, l_75_0, r1, bzBp]
          exact w1
      · rw [ptMore_n _ _ _ _ hlv] at hr
        obtain rfl := Option.some.inj hr
        refine ⟨σ, ?_, h, rdF.refl σ⟩
        have hne : ¬ nI (ptLv (ptAt t e p)) = nI lv := fun c => hlv ((nI_eq (by unfold ptLv; split <;> first | decide | (split <;> first | decide | (split <;> first | decide | (split <;> first | decide | (split <;> decide))))) (by omega)).mp c)
        simp only [fl_X3_readLevel_34, fb_X3_readLevel_34, if_neg iM, h4, if_true, nx, bzBd, lv_c, if_neg hne]
theorem rd_close {σ : bzS} {t : Nat → Int32} {e u p : Nat} {ok : Bool} {ms : List Int32} (h : rdS σ t e u p ok ms) (he : e ≤ 50) (hp : p ≤ e) : (ok = true ∧ ptAt t e p = 41 → rdX t e u (f_X3_close 72) σ ms ([], p + 1, true)) ∧ (¬ (ok = true ∧ ptAt t e p = 41) → rdX t e u (f_X3_close 72) σ ms ([], p, false)) := by
  obtain ⟨a1, a2⟩ := rd_at h
  obtain ⟨c1, c2⟩ := rd_bad h
  have nx := rd_next h he hp
  constructor
  · rintro ⟨rfl, h41⟩
    have h4 : σ 72 4 = 0 := h.2.2.1
    refine ⟨_, ?_, by rw [List.append_nil]; exact a1, a2⟩
    simp only [f_X3_close, g_72, h4, if_true, nx, h41, bzBd, bzLet]
  · intro hc
    refine ⟨_, ?_, by rw [List.append_nil]; exact c1, c2⟩
    cases ok with
    | false =>
      have h4 : σ 72 4 = 1 := h.2.2.1
      simp only [f_X3_close, g_72, h4, if_neg one_ne, bzLet]
    | true =>
      have h4 : σ 72 4 = 0 := h.2.2.1
      have h41 : ¬ ptAt t e p = 41 := fun c => hc ⟨rfl, c⟩
      simp only [f_X3_close, g_72, h4, if_true, nx, if_neg h41, bzBd, bzLet]
theorem rd_main {t : Nat → Int32} {e u : Nat} (he : e ≤ 50) (hu : u = 0 ∨ u = 1) : ∀ n lv op p r, lv ≤ 5 → op ≤ 5 → p ≤ e → ptRead t e u n lv op p = some r → ∀ σ ms, rdS σ t e u p true ms → ms.length ≤ p →
    (lv = 5 → ∀ N, 1 + 7 * (5 - op) ≤ N → rdX t e u ((fr_X3_readLevel N).2 72 (nI op)) σ ms r) ∧
    (∀ N, 2 + (5 - lv) + 7 * (5 - op) ≤ N → rdX t e u ((fr_X3_readLevel N).1 72 (nI lv) (nI op)) σ ms r) := by
  intro n
  induction n with
  | zero => intro lv op p r _ _ _ h; exact no_some h
  | succ n ih =>
    intro lv op p r h5 ho hp hr σ ms h hl
    by_cases hlv : lv < 5
    · refine ⟨fun c => by omega, fun N hN => ?_⟩
      obtain ⟨N, rfl⟩ : ∃ x, N = x + 1 := ⟨N - 1, by omega⟩
      rw [ptRead_l hlv] at hr
      cases hs : ptRead t e u n (lv + 1) op p with
      | none => rw [hs] at hr; exact no_some hr
      | some s =>
        rw [hs] at hr
        have hr : ptMore t e lv (fun q => ptRead t e u n (lv + 1) op q) (if lv = 2 then 1 else 50) s.1 s.2.1 s.2.2 = some r := hr
        obtain ⟨τ, t1, t2, t3⟩ := (ih (lv + 1) op p s (by omega) ho hp hs σ ms h hl).2 N (by omega)
        obtain ⟨b1, b2, b3, b4⟩ := ptRead_b _ _ _ _ _ hp hs
        have key : ∀ M, M ≤ 50 → ptMore t e lv (fun q => ptRead t e u n (lv + 1) op q) M s.1 s.2.1 s.2.2 = some r → rdX t e u (fl_X3_readLevel_34 (fr_X3_readLevel N).1 (fr_X3_readLevel N).2 72 (nI lv) (nI op) 2000 (nI M) 0) τ ms r := fun M hM hr => rd_more he hlv (fun p r hp h => ptRead_b _ _ _ _ _ hp h) (fun p r hp h σ ms h1 h2 => (ih (lv + 1) op p r (by omega) ho hp h σ ms h1 h2).2 N (by omega)) hM M 0 (by omega) 2000 _ _ _ _ (by omega) hr τ ms t2 b2 (by rw [List.length_append]; omega)
        have a5 : nI lv < 5 := nI_lt hlv (by decide)
        by_cases h2 : lv = 2
        · rw [if_pos h2] at hr
          obtain ⟨ω, w1, w2, w3⟩ := key 1 (by decide) hr
          refine ⟨ω, ?_, w2, t3.trans w3⟩
          have e2 : nI lv = 2 := by rw [h2]; rfl
          show fm_X3_readLevel (fr_X3_readLevel N).1 (fr_X3_readLevel N).2 72 (nI lv) (nI op) σ = _
          simp only [fm_X3_readLevel, g_72, if_pos a5, nI_1, t1, bzBd, if_pos e2]
          exact w1
        · rw [if_neg h2] at hr
          obtain ⟨ω, w1, w2, w3⟩ := key 50 (by decide) hr
          refine ⟨ω, ?_, w2, t3.trans w3⟩
          have e2 : ¬ nI lv = 2 := fun c => h2 ((nI_eq (b := 2) (by omega) (by decide)).mp c)
          show fm_X3_readLevel (fr_X3_readLevel N).1 (fr_X3_readLevel N).2 72 (nI lv) (nI op) σ = _
          simp only [fm_X3_readLevel, g_72, if_pos a5, nI_1, t1, bzBd, if_neg e2]
          exact w1
    · have e5 : lv = 5 := by omega
      subst e5
      rw [ptRead_5 hlv] at hr
      have unit : ∀ N, 1 + 7 * (5 - op) ≤ N → rdX t e u ((fr_X3_readLevel N).2 72 (nI op)) σ ms r := by
        intro N hN
        obtain ⟨N, rfl⟩ : ∃ x, N = x + 1 := ⟨N - 1, by omega⟩
        have nx := rd_next h he hp
        have nm := nm_c hu h.1 (ptAt t e p)
        obtain ⟨a1, a2⟩ := rd_at h
        show rdX t e u (fm_X3_readUnit (fr_X3_readLevel N).1 (fr_X3_readLevel N).2 72 (nI op)) σ ms r
        rcases ptUn_cs hr with ⟨hd, rfl⟩ | ⟨hd, k, hk, rfl⟩ | ⟨hd, hk, h33, ho5, s, hs, rfl⟩ | ⟨hd, hk, h40, ho5, s, hs, h2⟩ | ⟨hd, hk, h33, h40, rfl⟩
        · obtain ⟨v, q, h1, h2, h3, h4⟩ := ptNum_4 hd
          obtain ⟨τ, t1, t2, t3⟩ := rd_num (u := u) he 4 0 rfl 2000 0 p v q σ ms (by decide) h hp (by omega) h1
          rw [h1]
          refine ⟨τ, ?_, t2, t3⟩
          have u1 : f_X3_readNumber 72 σ = some τ := t1
          simp only [fm_X3_readUnit, g_72, nx, bzBd, dg_c, if_pos hd, if_neg one_ne, u1]
        · have hp1 := ptNm_in hk
          have kn : ¬ k = 0 := by rcases nm_ne hk with rfl | rfl | rfl <;> decide
          have nm2 : f_X3_nameOf 72 (ptAt t e p) (bzSt σ 72 3 (σ 72 3 + 1)) = some ((ptNm u (ptAt t e p)).getD 0) := nm_c hu a1.1 _
          obtain ⟨τ, t1, t2, t3⟩ := rd_add k a1 (by omega)
          refine ⟨τ, ?_, t2, a2.trans t3⟩
          rw [hk] at nm nm2
          have nm : f_X3_nameOf 72 (ptAt t e p) σ = some k := nm
          have nm2 : f_X3_nameOf 72 (ptAt t e p) (bzSt σ 72 3 (σ 72 3 + 1)) = some k := nm2
          simp only [fm_X3_readUnit, g_72, nx, bzBd, dg_c, hd, Bool.false_eq_true, if_false, if_true, nm, if_neg kn, bzLet, nm2, l_72_1, l_75_0, t1, bzBp]
        · have hp1 : p < e := ptAt_lt (by rw [h33]; decide)
          obtain ⟨τ, t1, t2, t3⟩ := (ih 5 (op + 1) (p + 1) s (by omega) (by omega) hp1 hs _ ms a1 (by omega)).1 rfl N (by omega)
          obtain ⟨b1, b2, b3, b4⟩ := ptRead_b _ _ _ _ _ hp1 hs
          obtain ⟨ρ, r1, r2, r3⟩ := rd_add (-33) t2 (by rw [List.length_append]; omega)
          refine ⟨ρ, ?_, ?_, (a2.trans t3).trans r3⟩
          · rw [hk] at nm
            have nm : f_X3_nameOf 72 (ptAt t e p) σ = some 0 := nm
            have o5 : ¬ (5 : Int32) ≤ nI op := nI_ge ho5 (by decide)
            have d33 : ptDg 33 = false := rfl
            rw [h33] at nm nx
            simp only [fm_X3_readUnit, g_72, nx, bzBd, dg_c, d33, Bool.false_eq_true, if_false, if_true, nm, if_neg o5, bzLet, nI_1, t1, l_72_1, l_75_0, r1, bzBp]
          · rw [List.append_assoc] at r2; exact r2
        · have hp1 : p < e := ptAt_lt (by rw [h40]; decide)
          obtain ⟨τ, t1, t2, t3⟩ := (ih 0 (op + 1) (p + 1) s (by omega) (by omega) hp1 hs _ ms a1 (by omega)).2 N (by omega)
          obtain ⟨b1, b2, b3, b4⟩ := ptRead_b _ _ _ _ _ hp1 hs
          obtain ⟨d1, d2⟩ := rd_close t2 he b2
          rw [hk] at nm
          have nm : f_X3_nameOf 72 (ptAt t e p) σ = some 0 := nm
          have o5 : ¬ (5 : Int32) ≤ nI op := nI_ge ho5 (by decide)
          have d40 : ptDg 40 = false := rfl
          rw [h40] at nm nx
          have t1 : (fr_X3_readLevel N).1 72 0 (nI (op + 1)) (bzSt σ 72 3 (σ 72 3 + 1)) = some τ := t1
          have fin : ∀ x : Nat × Bool, rdX t e u (f_X3_close 72) τ (ms ++ s.1) ([], x) → rdX t e u (fm_X3_readUnit (fr_X3_readLevel N).1 (fr_X3_readLevel N).2 72 (nI op)) σ ms (s.1, x) := by
            rintro x ⟨ρ, r1, r2, r3⟩
            refine ⟨ρ, ?_, by rw [List.append_nil] at r2; exact r2, (a2.trans t3).trans r3⟩
            simp only [fm_X3_readUnit, g_72, nx, bzBd, dg_c, d40, Bool.false_eq_true, if_false, if_true, nm, if_neg (show ¬ (40 : Int32) = 33 by decide), fb_X3_readUnit_100, if_neg o5, bzLet, nI_1, t1, r1]
          rcases h2 with ⟨c1, c2, rfl⟩ | ⟨c1, rfl⟩
          · exact fin (s.2.1 + 1, true) (d1 ⟨c1, c2⟩)
          · exact fin (s.2.1, false) (d2 c1)
        · obtain ⟨c1, c2⟩ := rd_bad h
          refine ⟨bzSt σ 72 4 1, ?_, by rw [List.append_nil]; exact c1, c2⟩
          rw [hk] at nm
          have nm : f_X3_nameOf 72 (ptAt t e p) σ = some 0 := nm
          have o5 : ¬ op < 5 → (5 : Int32) ≤ nI op := fun c => nI_le (a := 5) (by omega) (by omega)
          simp only [fm_X3_readUnit, g_72, nx, bzBd, dg_c, hd, Bool.false_eq_true, if_false, if_true, nm, fb_X3_readUnit_100, bzLet]
          by_cases e33 : ptAt t e p = 33
          · have o5 := o5 (fun c => h33 ⟨e33, c⟩)
            rw [if_pos e33, if_pos o5, e33, if_neg (show ¬ (33 : Int32) = 40 by decide)]
          · rw [if_neg e33]
            by_cases e40 : ptAt t e p = 40
            · have o5 := o5 (fun c => h40 ⟨e40, c⟩)
              rw [if_pos e40, if_pos o5]
            · rw [if_neg e40]
      refine ⟨fun _ => unit, fun N hN => ?_⟩
      obtain ⟨N, rfl⟩ : ∃ x, N = x + 1 := ⟨N - 1, by omega⟩
      obtain ⟨τ, t1, t2, t3⟩ := unit N (by omega)
      refine ⟨τ, ?_, t2, t3⟩
      show fm_X3_readLevel (fr_X3_readLevel N).1 (fr_X3_readLevel N).2 72 (nI 5) (nI op) σ = _
      simp only [fm_X3_readLevel, g_72, if_neg (show ¬ nI 5 < 5 by decide), t1, bzBd]
