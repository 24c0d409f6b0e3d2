set_option linter.unusedVariables false
/-- is a cell so as the sheet tells -/
def pTh (f t : Nat → Int32) (z c : Nat) : Bool :=
  decide (z ≤ 3) && (decide (z < 1 ∨ t 0 = pRo f (nI (c / 8)) 8 0 0) && (decide (z < 2 ∨ t 1 = pLn f (nI (c % 8)) 8 0 0) && decide (z < 3 ∨ t 2 = t3 f (t3 f (t3 f (-(pT f (nI (c / 8)) (nI (c % 8)))) (nI (c / 8) - 1) (nI (c % 8) - 1)) (nI (c / 8) - 1 + 1) (nI (c % 8) - 1)) (nI (c / 8) - 1 + 1 + 1) (nI (c % 8) - 1))))
def b01 (b : Bool) : Int32 := if b = true then 1 else 0
theorem it_c {n : Nat} {σ : bzS} {t : Nat → Int32} {R Q z c : Nat} (hI : bzInv n σ) (kR : kd R = 4) (lQ : ly R 0 = Q) (nQ : ln Q = 40) (hR : σ R 1 = nI z) (hQ : ∀ i, i < z → σ Q i = t i) (hz : z ≤ 40) (hc : c < 64) : f_X1_isToldOf 18 (nI c) R σ = some (b01 (pTh (σ 96) t z c)) := by
  have c8 : nI c / 8 = nI (c / 8) := pk_div (d := 8) (by omega) (by decide) (by decide)
  have m8 : nI c - nI c / 8 * 8 = nI (c % 8) := pk_rem (d := 8) (by omega) (by decide) (by decide)
  have hr : c / 8 < 8 := by omega
  have hp : c % 8 < 8 := by omega
  have r1 := ro_c hI hr
  have l1 : f_X1_treesOfLine 18 (nI (c % 8)) σ = some (pLn (σ 96) (nI (c % 8)) 8 0 0) := by
    unfold f_X1_treesOfLine; rw [g_18]; exact ln_c hI.1 _ 8 0 rfl 2000 0 (by decide)
  have n1 := nt_c hI.1 hr hp
  have at_ : ∀ i, i < z → f_X4_at R (nI i) σ = some (t i) := fun i hi => by rw [at_c kR lQ nQ hR hi hz (by decide), hQ i hi]
  unfold f_X1_isToldOf
  rw [g_18, bzGdT kR, hR, bzLetS, bzLetS, m8, c8]
  unfold pTh
  by_cases z3 : z ≤ 3
  · rw [if_pos (show nI z ≤ 3 from nI_le (b := 3) z3 (by decide)), decide_eq_true z3, Bool.true_and]
    have e64 : fb_X1_isToldOf_64 18 (nI c) R σ (nI (c / 8)) (nI (c % 8)) = some (b01 (decide (z < 3 ∨ t 2 = t3 (σ 96) (t3 (σ 96) (t3 (σ 96) (-(pT (σ 96) (nI (c / 8)) (nI (c % 8)))) (nI (c / 8) - 1) (nI (c % 8) - 1)) (nI (c / 8) - 1 + 1) (nI (c % 8) - 1)) (nI (c / 8) - 1 + 1 + 1) (nI (c % 8) - 1)))) := by
      unfold fb_X1_isToldOf_64
      rw [hR]
      by_cases q : z < 3
      · rw [if_pos (show nI z < 3 from nI_lt (b := 3) q (by decide)), decide_eq_true (Or.inl q)]; rfl
      · rw [if_neg (show ¬ nI z < 3 from nI_nlt (b := 3) (by omega) (by omega)), show (2 : Int32) = nI 2 from rfl, at_ 2 (by omega), bzBdS, n1, bzBdS]
        by_cases q2 : t 2 = t3 (σ 96) (t3 (σ 96) (t3 (σ 96) (-(pT (σ 96) (nI (c / 8)) (nI (c % 8)))) (nI (c / 8) - 1) (nI (c % 8) - 1)) (nI (c / 8) - 1 + 1) (nI (c % 8) - 1)) (nI (c / 8) - 1 + 1 + 1) (nI (c % 8) - 1)
        · rw [if_pos q2, decide_eq_true (Or.inr q2)]; rfl
        · rw [if_neg q2, decide_eq_false (fun h => h.elim q q2)]; rfl
    have e36 : (if nI z < 2 then fb_X1_isToldOf_64 18 (nI c) R σ (nI (c / 8)) (nI (c % 8)) else bzBd (f_X4_at R 1 σ) (fun x24 => bzBd (f_X1_treesOfLine 18 (nI (c % 8)) σ) (fun x26 => if x24 = x26 then fb_X1_isToldOf_64 18 (nI c) R σ (nI (c / 8)) (nI (c % 8)) else some 0))) = some (b01 (decide (z < 2 ∨ t 1 = pLn (σ 96) (nI (c % 8)) 8 0 0) && decide (z < 3 ∨ t 2 = t3 (σ 96) (t3 (σ 96) (t3 (σ 96) (-(pT (σ 96) (nI (c / 8)) (nI (c % 8)))) (nI (c / 8) - 1) (nI (c % 8) - 1)) (nI (c / 8) - 1 + 1) (nI (c % 8) - 1)) (nI (c / 8) - 1 + 1 + 1) (nI (c % 8) - 1)))) := by
      by_cases q : z < 2
      · rw [if_pos (show nI z < 2 from nI_lt (b := 2) q (by decide)), decide_eq_true (Or.inl q), Bool.true_and]; exact e64
      · rw [if_neg (show ¬ nI z < 2 from nI_nlt (b := 2) (by omega) (by omega)), show f_X4_at R 1 σ = some (t 1) from at_ 1 (by omega), bzBdS, l1, bzBdS]
        by_cases q2 : t 1 = pLn (σ 96) (nI (c % 8)) 8 0 0
        · rw [if_pos q2, decide_eq_true (Or.inr q2), Bool.true_and]; exact e64
        · rw [if_neg q2, decide_eq_false (fun h => h.elim q q2), Bool.false_and]; rfl
    by_cases q : z < 1
    · rw [if_pos (show nI z < 1 from nI_lt (b := 1) q (by decide)), decide_eq_true (Or.inl q), Bool.true_and]; exact e36
    · rw [if_neg (show ¬ nI z < 1 from nI_nlt (b := 1) (by omega) (by omega)), show f_X4_at R 0 σ = some (t 0) from at_ 0 (by omega), bzBdS, r1, bzBdS]
      by_cases q2 : t 0 = pRo (σ 96) (nI (c / 8)) 8 0 0
      · rw [if_pos q2, decide_eq_true (Or.inr q2), Bool.true_and]; exact e36
      · rw [if_neg q2, decide_eq_false (fun h => h.elim q q2), Bool.false_and]; rfl
  · rw [if_neg (show ¬ nI z ≤ 3 from nI_ge (a := 3) (by omega) (by omega)), decide_eq_false z3, Bool.false_and]; rfl
theorem th_m {σ : bzS} {t : Nat → Int32} {s z c : Nat} (hs : s < 4) (hz : z ≤ 40) (h102 : σ 102 s = nI z) (h103 : ∀ i, i < z → σ 103 (40 * s + i) = t i) (hc : c < 64) : f_X10_isThere 95 (nI s) (nI c) σ = some (b01 (pTh (σ 96) t z c)) := by
  have c8 : nI c / 8 = nI (c / 8) := pk_div (d := 8) (by omega) (by decide) (by decide)
  have m8 : nI c - nI c / 8 * 8 = nI (c % 8) := pk_rem (d := 8) (by omega) (by decide) (by decide)
  have b4 : bzIn (nI s) 4 := bzIn_nI hs (by decide)
  have cs : (nI s).toNatClampNeg = s := clN (by omega)
  have b0 : f_X10_treesBy 95 (nI (c / 8)) (nI (c % 8)) 0 σ = some (pRo (σ 96) (nI (c / 8)) 8 0 0) := by
    unfold f_X10_treesBy; rw [g_95]; exact by0_m _ _ 8 0 rfl 2000 0 (by decide)
  have b1 : f_X10_treesBy 95 (nI (c / 8)) (nI (c % 8)) 1 σ = some (pLn (σ 96) (nI (c % 8)) 8 0 0) := by
    unfold f_X10_treesBy; rw [g_95]; exact by1_m _ _ 8 0 rfl 2000 0 (by decide)
  have b2 := by2_m (σ := σ) (nI (c / 8)) (nI (c % 8))
  rw [← nt_by] at b2
  have stop : ∀ (F : Nat) (x : Int32) (i : Nat), x = 0 ∨ x = 1 → (x = 0 ∨ (z ≤ i ∧ i < 9)) → fl_X10_isThere_19 95 (nI s) (nI c) σ (F + 1) x (nI i) = some x := by
    intro F x i hx h
    show fb_X10_isThere_19 (fl_X10_isThere_19 95 (nI s) (nI c) σ F) 95 (nI s) (nI c) σ x (nI i) = _
    unfold fb_X10_isThere_19
    rw [bzGdT b4, bzGdT hx]
    by_cases q : σ (ly 95 17) (nI s).toNatClampNeg ≤ nI i
    · rw [if_pos q]
    · rw [if_neg q]
      rcases h with h | h
      · rw [if_pos h]
      · rw [l_95_17, cs, h102] at q
        exact absurd (Int32.not_lt.mp (nI_nlt (a := i) (b := z) h.1 (by omega))) q
  have step : ∀ (F : Nat) (i : Nat) (X : Int32), i < z → i < 3 → f_X10_treesBy 95 (nI (c / 8)) (nI (c % 8)) (nI i) σ = some X → fl_X10_isThere_19 95 (nI s) (nI c) σ (F + 1) 1 (nI i) = if t i = X then fl_X10_isThere_19 95 (nI s) (nI c) σ F 1 (nI (i + 1)) else fl_X10_isThere_19 95 (nI s) (nI c) σ F 0 (nI (i + 1)) := by
    intro F i X h1 h2 hX
    have ep : 40 * nI s + nI i = nI (40 * s + i) := by rw [show (40 : Int32) = nI 40 from rfl, pk_mul, nI_add]
    show fb_X10_isThere_19 (fl_X10_isThere_19 95 (nI s) (nI c) σ F) 95 (nI s) (nI c) σ 1 (nI i) = _
    unfold fb_X10_isThere_19
    rw [bzGdT b4, l_95_17, cs, h102, if_neg (nI_ge h1 (by omega)), if_neg one_ne, ep, bzGdT (bzIn_nI (show 40 * s + i < 160 by omega) (by decide)), m8, c8, hX, bzBdS, l_95_18, clN (by omega), h103 i h1, bzLetS, bzLetS, nI_1]
  unfold f_X10_isThere
  rw [g_95, bzGdT b4, l_95_17, cs, h102]
  unfold pTh
  by_cases z3 : z ≤ 3
  · rw [if_neg (show ¬ (3 : Int32) < nI z from nI_nlt (a := 3) z3 (by decide)), decide_eq_true z3, Bool.true_and]
    show fl_X10_isThere_19 95 (nI s) (nI c) σ 2000 1 (nI 0) = _
    by_cases q : z < 1
    · rw [stop 1999 1 0 (Or.inr rfl) (Or.inr ⟨by omega, by decide⟩), decide_eq_true (Or.inl q), decide_eq_true (Or.inl (show z < 2 by omega)), decide_eq_true (Or.inl (show z < 3 by omega))]; rfl
    · rw [step 1999 0 _ (by omega) (by decide) b0]
      by_cases q2 : t 0 = pRo (σ 96) (nI (c / 8)) 8 0 0
      · rw [if_pos q2, decide_eq_true (Or.inr q2), Bool.true_and]
        by_cases w : z < 2
        · rw [stop 1998 1 1 (Or.inr rfl) (Or.inr ⟨by omega, by decide⟩), decide_eq_true (Or.inl w), decide_eq_true (Or.inl (show z < 3 by omega))]; rfl
        · rw [step 1998 1 _ (by omega) (by decide) b1]
          by_cases w2 : t 1 = pLn (σ 96) (nI (c % 8)) 8 0 0
          · rw [if_pos w2, decide_eq_true (Or.inr w2), Bool.true_and]
            by_cases u : z < 3
            · rw [stop 1997 1 2 (Or.inr rfl) (Or.inr ⟨by omega, by decide⟩), decide_eq_true (Or.inl u)]; rfl
            · rw [step 1997 2 _ (by omega) (by decide) b2]
              by_cases u2 : t 2 = t3 (σ 96) (t3 (σ 96) (t3 (σ 96) (-(pT (σ 96) (nI (c / 8)) (nI (c % 8)))) (nI (c / 8) - 1) (nI (c % 8) - 1)) (nI (c / 8) - 1 + 1) (nI (c % 8) - 1)) (nI (c / 8) - 1 + 1 + 1) (nI (c % 8) - 1)
              · rw [if_pos u2, decide_eq_true (Or.inr u2), stop 1996 1 3 (Or.inr rfl) (Or.inr ⟨by omega, by decide⟩)]; rfl
              · rw [if_neg u2, decide_eq_false (fun h => h.elim u u2), stop 1996 0 3 (Or.inl rfl) (Or.inl rfl)]; rfl
          · rw [if_neg w2, decide_eq_false (fun h => h.elim w w2), Bool.false_and, stop 1997 0 2 (Or.inl rfl) (Or.inl rfl)]; rfl
      · rw [if_neg q2, decide_eq_false (fun h => h.elim q q2), Bool.false_and, stop 1998 0 1 (Or.inl rfl) (Or.inl rfl)]; rfl
  · rw [if_pos (show (3 : Int32) < nI z from nI_lt (a := 3) (by omega) (by omega)), decide_eq_false z3, Bool.false_and]
    exact stop 1999 0 0 (Or.inl rfl) (Or.inl rfl)
abbrev hsP (f t : Nat → Int32) (z : Nat) : Nat → Bool := fun c => pTh f t z c
theorem hs_c {n s z : Nat} {σ : bzS} {t : Nat → Int32} {a1 a2 : Int32} (hI : bzInv n σ) (hs : s < 4) (hz : z ≤ 40) (hR : σ (84 + 3 * s) 1 = nI z) (hQ : ∀ i, i < z → σ (85 + 3 * s) i = t i) :
    ∀ m v, v + m = 64 → ∀ (F : Nat), m < F → ∃ G, fl_X9_house_49 0 a1 a2 F (83 + 3 * s) (nI (cntP (hsP (σ 96) t z) v 0)) (beV (fstP (hsP (σ 96) t z) v 0)) (nI v) σ = fl_X9_house_49 0 a1 a2 (G + 1) (83 + 3 * s) (nI (cntP (hsP (σ 96) t z) 64 0)) (beV (fstP (hsP (σ 96) t z) 64 0)) (nI 64) σ := by
  obtain ⟨l1, l2, l3, l4, l5, l6⟩ := sh_l s hs
  intro m
  induction m with
  | zero =>
    intro v hv F hF
    obtain ⟨F, rfl⟩ : ∃ x, F = x + 1 := ⟨F - 1, by omega⟩
    have e : v = 64 := by omega
    subst e
    exact ⟨F, rfl⟩
  | succ m ih =>
    intro v hv F hF
    obtain ⟨F, rfl⟩ : ∃ x, F = x + 1 := ⟨F - 1, by omega⟩
    obtain ⟨G, w1⟩ := ih (v + 1) (by omega) F (by omega)
    refine ⟨G, Eq.trans ?_ w1⟩
    have ic := it_c hI l4 l5 l6 hR hQ hz (show v < 64 by omega)
    have cl := cntP_le (hsP (σ 96) t z) v 0
    show fb_X9_house_49 (fl_X9_house_49 0 a1 a2 F) 0 a1 a2 (83 + 3 * s) _ _ (nI v) σ = _
    unfold fb_X9_house_49
    rw [if_neg (show ¬ (64 : Int32) ≤ nI v from nI_ge (b := 64) (by omega) (by decide)), l_0_0, l_1_1, l3, ic, bzBdS, bzLetS, bzLetS, bzLetS, bzLetS, bzLetS, nI_1, nI_1, cntP_r, fstP_r, Nat.zero_add]
    cases hp : pTh (σ 96) t z v with
    | false =>
      have hp2 : hsP (σ 96) t z v = false := hp
      rw [show b01 false = 0 from rfl, if_pos rfl, hp2, if_neg Bool.false_ne_true, if_neg Bool.false_ne_true, Nat.add_zero]
      cases fstP (hsP (σ 96) t z) v 0 <;> rfl
    | true =>
      have hp2 : hsP (σ 96) t z v = true := hp
      rw [show b01 true = 1 from rfl, if_neg one_ne, hp2, if_pos rfl, if_pos rfl]
      rcases fstP_cs (hsP (σ 96) t z) v 0 with ⟨h1, h2⟩ | ⟨w, h1, -, -, h4⟩
      · rw [h1, h2, if_pos (show nI 0 = 0 from rfl)]; rfl
      · rw [h1, if_neg (nI_ne0 h4 (by omega))]
theorem hs_m {s z : Nat} {σ : bzS} {t : Nat → Int32} {a2 : Int32} (hs : s < 4) (hz : z ≤ 40) (h102 : σ 102 s = nI z) (h103 : ∀ i, i < z → σ 103 (40 * s + i) = t i) :
    ∀ m k, k + m = 64 → ∀ (F : Nat) (L : Int32), m < F → L = nI m - 1 → ∃ G, fl_X10_house_48 95 (nI s) a2 F (nI (cntP (hsP (σ 96) t z) k m)) (beV (fstP (hsP (σ 96) t z) k m)) L σ = fl_X10_house_48 95 (nI s) a2 (G + 1) (nI (cntP (hsP (σ 96) t z) 64 0)) (beV (fstP (hsP (σ 96) t z) 64 0)) (-1) σ := by
  intro m
  induction m with
  | zero =>
    intro k hk0 F L hF hL
    obtain ⟨F, rfl⟩ : ∃ x, F = x + 1 := ⟨F - 1, by omega⟩
    have e : k = 64 := by omega
    subst e
    have eL : L = -1 := hL
    subst eL
    exact ⟨F, rfl⟩
  | succ m ih =>
    intro k hk0 F L hF hL
    obtain ⟨F, rfl⟩ : ∃ x, F = x + 1 := ⟨F - 1, by omega⟩
    have eL : L = nI m := by rw [hL, nI_pred]
    subst eL
    obtain ⟨G, w1⟩ := ih (k + 1) (by omega) F (nI m - 1) (by omega) rfl
    refine ⟨G, Eq.trans ?_ w1⟩
    have e2 : cntP (hsP (σ 96) t z) (k + 1) m = (if hsP (σ 96) t z m = true then 1 else 0) + cntP (hsP (σ 96) t z) k (m + 1) := rfl
    have e3 : fstP (hsP (σ 96) t z) (k + 1) m = if hsP (σ 96) t z m = true then some m else fstP (hsP (σ 96) t z) k (m + 1) := rfl
    have ic := th_m (t := t) hs hz h102 h103 (show m < 64 by omega)
    show fb_X10_house_48 (fl_X10_house_48 95 (nI s) a2 F) 95 (nI s) a2 _ _ (nI m) σ = _
    unfold fb_X10_house_48
    rw [if_neg (nI_n0 (by omega)), ic, bzBdS, e2, e3]
    simp only [bzLet]
    rw [show nI m + -1 = nI m - 1 from (Int32.sub_eq_add_neg _ _).symm]
    cases hp : pTh (σ 96) t z m with
    | false =>
      have hp2 : hsP (σ 96) t z m = false := hp
      rw [show b01 false = 0 from rfl, if_pos rfl, if_pos rfl, hp2, if_neg Bool.false_ne_true, if_neg Bool.false_ne_true, Int32.add_zero, Nat.zero_add]
    | true =>
      have hp2 : hsP (σ 96) t z m = true := hp
      rw [show b01 true = 1 from rfl, if_neg one_ne, if_neg one_ne, hp2, if_pos rfl, if_pos rfl, nI_1, Nat.add_comm]; rfl
theorem st_house : bzSt_house bzInv := by
  intro a1 a2 σ n hn hI
  rcases shOf a1 σ with ⟨h1, h2⟩ | ⟨s, hs, e1, b1, n1, h1, h2⟩
  · refine err1 hI ?_ (fun τ ht => ?_)
    · unfold f_X9_house; rw [g_0, h1, bzBdS, bzOp0]; rfl
    · unfold f_X10_house; rw [g_95, h2, bzBdS, if_pos rfl]; rfl
  obtain ⟨l1, l2, l3, l4, l5, l6⟩ := sh_l s hs
  obtain ⟨⟨q1, q2⟩, z, hz, q3, q4, q5⟩ := hI.2.2.2.2.2.1 s hs
  rcases cutR a2 (n := 1) (lo := 0) (N := 1) rfl (Or.inl rfl) (by decide) with c2 | ⟨c2, c2', w, hw, rfl⟩
  · refine err1 hI ?_ (fun τ ht => ?_)
    · unfold f_X9_house; rw [g_0, h1, bzBdS, bzOp1, bzGdT l2, wi_0 c2, bzBdS, if_pos rfl]; rfl
    · unfold f_X10_house; rw [g_95, h2, bzBdS, if_neg one_ne, in_0 c2, bzBdS, if_pos rfl]; rfl
  by_cases m0 : σ 101 s = 0
  · have mi : f_X5_isMissing (83 + 3 * s) σ = some 1 := by unfold f_X5_isMissing; rw [bzGdT l2, q1, if_pos m0]
    refine err2 hI ?_ (fun τ ht => ?_)
    · unfold f_X9_house; rw [g_0, h1, bzBdS, bzOp1, bzGdT l2, wi_1 c2 c2', bzBdS, if_neg one_ne, mi, bzBdS, if_neg one_ne]; rfl
    · unfold f_X10_house; rw [g_95, h2, bzBdS, if_neg one_ne, in_1 c2 c2', bzBdS, if_neg one_ne, bzGdT b1, l_95_16, n1, ht 101 (by decide), if_pos m0]; rfl
  have mi : f_X5_isMissing (83 + 3 * s) σ = some 0 := by unfold f_X5_isMissing; rw [bzGdT l2, q1, if_neg m0]
  obtain ⟨G, k1⟩ := hs_c (a1 := a1) (a2 := nI w) (t := fun i => σ 103 (40 * s + i)) hI hs hz q3 q5 64 0 rfl 2000 (by decide)
  generalize hC : cntP (hsP (σ 96) (fun i => σ 103 (40 * s + i)) z) 64 0 = C at k1
  generalize hQ : fstP (hsP (σ 96) (fun i => σ 103 (40 * s + i)) z) 64 0 = Q at k1
  have cs := fstP_cs (hsP (σ 96) (fun i => σ 103 (40 * s + i)) z) 64 0
  have cl := cntP_le (hsP (σ 96) (fun i => σ 103 (40 * s + i)) z) 64 0
  rw [hC, hQ] at cs
  rw [hC] at cl
  have hc : f_X9_house 0 a1 (nI w) σ = if nI w = 0 then some (nI C, σ) else (if nI C ≤ 0 then some (-1000000002, bzSt σ 82 2 (σ 82 2 + 1)) else some (beV Q, σ)) := by
    unfold f_X9_house
    rw [g_0, h1, bzBdS, bzOp1, bzGdT l2, wi_1 c2 c2', bzBdS, if_neg one_ne, mi, bzBdS, if_pos rfl]
    refine Eq.trans k1 ?_
    show fb_X9_house_49 (fl_X9_house_49 0 a1 (nI w) G) 0 a1 (nI w) (83 + 3 * s) (nI C) (beV Q) (nI 64) σ = _
    unfold fb_X9_house_49
    rw [if_pos (show (64 : Int32) ≤ nI 64 by decide)]; rfl
  have hm : ∀ μ : bzS, (∀ k, k ≠ 82 → μ k = σ k) → f_X10_house 95 a1 (nI w) μ = (if nI w = 0 then some (nI C, μ) else (if 0 ≤ beV Q then some (beV Q, μ) else some (-1000000002, bzSt μ 100 2 (μ 100 2 + 1)))) := by
    intro μ hμ
    obtain ⟨H, w1⟩ := hs_m (σ := μ) (a2 := nI w) (t := fun i => σ 103 (40 * s + i)) hs hz (by rw [hμ 102 (by decide)]; exact q4) (fun i _ => by rw [hμ 103 (by decide)]) 64 0 rfl 2000 63 (by decide) rfl
    rw [hμ 96 (by decide), hC, hQ] at w1
    unfold f_X10_house
    rw [g_95, h2, bzBdS, if_neg one_ne, in_1 c2 c2', bzBdS, if_neg one_ne, bzGdT b1, l_95_16, n1, hμ 101 (by decide), if_neg m0, e1]
    refine Eq.trans w1 ?_
    show fb_X10_house_48 (fl_X10_house_48 95 (nI s) (nI w) H) 95 (nI s) (nI w) (nI C) (beV Q) (-1) μ = _
    unfold fb_X10_house_48
    rw [if_pos (show (-1 : Int32) < 0 by decide)]; rfl
  by_cases cw : nI w = 0
  · rw [if_pos cw] at hc
    have w1 := hm σ (fun k _ => rfl)
    rw [if_pos cw] at w1
    exact ⟨_, _, _, hc, w1, inv_mono _ _ hI⟩
  · rw [if_neg cw] at hc
    rcases cs with ⟨rfl, rfl⟩ | ⟨v, rfl, -, hv, hpos⟩
    · rw [if_pos (show nI 0 ≤ 0 by decide)] at hc
      refine err2 hI hc (fun τ ht => ?_)
      rw [hm τ ht, if_neg cw, if_neg (show ¬ (0 : Int32) ≤ beV none by decide)]
    · rw [if_neg (nI_nle hpos (by omega))] at hc
      have w1 := hm σ (fun k _ => rfl)
      rw [if_neg cw, if_pos (show (0 : Int32) ≤ beV (some v) from nI_pos' (by omega))] at w1
      exact ⟨_, _, _, hc, w1, inv_mono _ _ hI⟩
