set_option linter.unusedVariables false
theorem inv_now {n : Nat} {σ τ : bzS} (hI : bzInv n σ) (h1 : bzSR τ 1 (τ 96)) (h2 : bzRg (τ 96)) (h3 : bzUp 9999 (τ 96 0)) (hk : ∀ k, (k = 0 ∨ 28 ≤ k) → k < 108 → frB k = false → k ≠ 95 → k ≠ 96 → τ k = σ k) (h95 : ∀ j, j = 4 ∨ j = 5 ∨ j = 7 ∨ j = 23 → τ 95 j = σ 95 j) : bzInv n τ := by
  have hk : ∀ k, (k = 0 ∨ 28 ≤ k) → k < 108 → ¬ (k = 13 ∨ k = 17 ∨ k = 22 ∨ k = 23 ∨ k = 40 ∨ k = 44 ∨ k = 49 ∨ k = 50 ∨ (55 ≤ k ∧ k ≤ 78) ∨ k = 98 ∨ k = 99 ∨ k = 104 ∨ k = 105 ∨ k = 106) → k ≠ 95 → k ≠ 96 → τ k = σ k := fun k h0 h1 h2 h3 => hk k h0 h1 (decide_eq_false h2) h3
  obtain ⟨i1, ⟨i2, i3⟩, i4, i5, i6, i7, i8⟩ := hI
  refine ⟨h1, ⟨h2, h3⟩, ?_, ?_, ?_, ?_, ?_⟩
  · rw [h95 7 (by omega)]; exact i4
  · obtain ⟨k, k1, k2, k3, k4⟩ := i5
    rw [hk 0 (by omega) (by omega) (by omega) (by omega) (by omega), h95 4 (by omega), h95 5 (by omega), hk 97 (by omega) (by omega) (by omega) (by omega) (by omega)]
    refine ⟨k, k1, k2, k3, ?_⟩
    rcases k4 with k4 | ⟨k4, k5, k6, k7⟩
    · exact Or.inl k4
    · exact Or.inr ⟨k4, k5, k6.frame2 (fun k _ _ _ _ _ _ => hk k (by omega) (by omega) (by omega) (by omega) (by omega)), k7⟩
  · intro k h1 h2
    rw [hk 82 (by omega) (by omega) (by omega) (by omega) (by omega), hk 100 (by omega) (by omega) (by omega) (by omega) (by omega)]; exact i6 k h1 h2
  · intro s hs
    rw [hk (83 + 3 * s) (by omega) (by omega) (by omega) (by omega) (by omega), hk (84 + 3 * s) (by omega) (by omega) (by omega) (by omega) (by omega), hk (85 + 3 * s) (by omega) (by omega) (by omega) (by omega) (by omega), hk 101 (by omega) (by omega) (by omega) (by omega) (by omega), hk 102 (by omega) (by omega) (by omega) (by omega) (by omega), hk 103 (by omega) (by omega) (by omega) (by omega) (by omega)]
    exact i7 s hs
  · rw [hk 80 (by omega) (by omega) (by omega) (by omega) (by omega), hk 81 (by omega) (by omega) (by omega) (by omega) (by omega), h95 23 (by omega), hk 107 (by omega) (by omega) (by omega) (by omega) (by omega)]
    exact i8
theorem sizeV {n : Nat} {σ : bzS} (hI : bzInv n σ) : ∃ N : Nat, N ≤ 8 ∧ σ 96 2 = nI N ∧ σ 5 4 = nI N := by
  obtain ⟨N, h1, h2⟩ := hI.2.1.1.1 2 rfl (by decide) (by decide)
  exact ⟨N, h1, h2, (hI.1.1 2 rfl).trans h2⟩
theorem hasV {n : Nat} {σ : bzS} (hI : bzInv n σ) (a : Int32) : (f_X7_has 5 a σ = some 0 ∧ ∀ τ, (∀ q, q ≠ 82 → τ q = σ q) → f_X10_isVisitor 95 a τ = some 0) ∨ (∃ i N : Nat, a = nI i ∧ i < N ∧ N ≤ 8 ∧ σ 96 2 = nI N ∧ σ 5 4 = nI N ∧ bzIn a 8 ∧ a.toNatClampNeg = i ∧ f_X7_has 5 a σ = some 1 ∧ ∀ τ : bzS, τ 96 2 = nI N → f_X10_isVisitor 95 a τ = some 1) := by
  obtain ⟨N, hN, e1, e2⟩ := sizeV hI
  rcases pk_ix a (n := N) (by omega) with c1 | c1 | ⟨i, hi, rfl⟩
  · refine Or.inl ⟨?_, fun τ ht => ?_⟩
    · simp [f_X7_has, g_0, g_95, g_1, g_2, g_5, g_18, g_24, g_26, g_79, g_80, g_72, l_0_0, l_0_1, l_0_3, l_0_4, l_0_5, l_0_6, l_0_7, l_1_0, l_1_1, l_1_2, l_1_3, l_2_0, l_2_1, l_2_2, l_2_3, l_2_4, l_5_0, l_5_1, l_5_2, l_5_3, l_18_0, l_18_1, l_18_2, l_18_3, l_18_4, l_24_0, l_26_0, l_79_0, l_80_0, l_95_0, l_95_1, l_95_2, l_95_3, l_95_6, l_95_16, l_95_17, l_95_18, l_95_19, l_95_20, l_95_21, l_95_22, bzBd, bzBp, bzLet, bzOp, f_X10_in, f_X9_within, e_f1, e_f2, e_f3, e_f4, e_f5, e_e1, e_e2, e_e3, e_e4, e_e5, c1]
    · simp [f_X10_isVisitor, g_0, g_95, g_1, g_2, g_5, g_18, g_24, g_26, g_79, g_80, g_72, l_0_0, l_0_1, l_0_3, l_0_4, l_0_5, l_0_6, l_0_7, l_1_0, l_1_1, l_1_2, l_1_3, l_2_0, l_2_1, l_2_2, l_2_3, l_2_4, l_5_0, l_5_1, l_5_2, l_5_3, l_18_0, l_18_1, l_18_2, l_18_3, l_18_4, l_24_0, l_26_0, l_79_0, l_80_0, l_95_0, l_95_1, l_95_2, l_95_3, l_95_6, l_95_16, l_95_17, l_95_18, l_95_19, l_95_20, l_95_21, l_95_22, bzBd, bzBp, bzLet, bzOp, f_X10_in, f_X9_within, e_f1, e_f2, e_f3, e_f4, e_f5, e_e1, e_e2, e_e3, e_e4, e_e5, c1, bzGd, k10]
  · have c0 : ¬ a < 0 := fun h => by
      rw [Int32.lt_iff_toInt_lt] at h
      rw [Int32.le_iff_toInt_le, nI_toInt (by omega)] at c1
      have : (0 : Int32).toInt = 0 := rfl
      omega
    have c2 : nI N - 1 < a := by
      rw [Int32.lt_iff_toInt_lt, show (nI N - 1).toInt = (N : Int) - 1 from pk_sub_toInt (b := 1) (by omega) (by decide)]
      rw [Int32.le_iff_toInt_le, nI_toInt (by omega)] at c1
      omega
    refine Or.inl ⟨?_, fun τ ht => ?_⟩
    · simp [f_X7_has, g_0, g_95, g_1, g_2, g_5, g_18, g_24, g_26, g_79, g_80, g_72, l_0_0, l_0_1, l_0_3, l_0_4, l_0_5, l_0_6, l_0_7, l_1_0, l_1_1, l_1_2, l_1_3, l_2_0, l_2_1, l_2_2, l_2_3, l_2_4, l_5_0, l_5_1, l_5_2, l_5_3, l_18_0, l_18_1, l_18_2, l_18_3, l_18_4, l_24_0, l_26_0, l_79_0, l_80_0, l_95_0, l_95_1, l_95_2, l_95_3, l_95_6, l_95_16, l_95_17, l_95_18, l_95_19, l_95_20, l_95_21, l_95_22, bzBd, bzBp, bzLet, bzOp, f_X10_in, f_X9_within, e_f1, e_f2, e_f3, e_f4, e_f5, e_e1, e_e2, e_e3, e_e4, e_e5, c0, e2, c1]
    · simp [f_X10_isVisitor, g_0, g_95, g_1, g_2, g_5, g_18, g_24, g_26, g_79, g_80, g_72, l_0_0, l_0_1, l_0_3, l_0_4, l_0_5, l_0_6, l_0_7, l_1_0, l_1_1, l_1_2, l_1_3, l_2_0, l_2_1, l_2_2, l_2_3, l_2_4, l_5_0, l_5_1, l_5_2, l_5_3, l_18_0, l_18_1, l_18_2, l_18_3, l_18_4, l_24_0, l_26_0, l_79_0, l_80_0, l_95_0, l_95_1, l_95_2, l_95_3, l_95_6, l_95_16, l_95_17, l_95_18, l_95_19, l_95_20, l_95_21, l_95_22, bzBd, bzBp, bzLet, bzOp, f_X10_in, f_X9_within, e_f1, e_f2, e_f3, e_f4, e_f5, e_e1, e_e2, e_e3, e_e4, e_e5, c0, ht 96 (by decide), e1, c2, bzGd, k10]
  · refine Or.inr ⟨i, N, rfl, hi, hN, e1, e2, bzIn_nI (by omega) (by decide), nI_clamp (by omega), ?_, fun τ ht => ?_⟩
    · simp [f_X7_has, g_0, g_95, g_1, g_2, g_5, g_18, g_24, g_26, g_79, g_80, g_72, l_0_0, l_0_1, l_0_3, l_0_4, l_0_5, l_0_6, l_0_7, l_1_0, l_1_1, l_1_2, l_1_3, l_2_0, l_2_1, l_2_2, l_2_3, l_2_4, l_5_0, l_5_1, l_5_2, l_5_3, l_18_0, l_18_1, l_18_2, l_18_3, l_18_4, l_24_0, l_26_0, l_79_0, l_80_0, l_95_0, l_95_1, l_95_2, l_95_3, l_95_6, l_95_16, l_95_17, l_95_18, l_95_19, l_95_20, l_95_21, l_95_22, bzBd, bzBp, bzLet, bzOp, f_X10_in, f_X9_within, e_f1, e_f2, e_f3, e_f4, e_f5, e_e1, e_e2, e_e3, e_e4, e_e5, nI_n0 (show i < 2 ^ 31 by omega), e2, nI_ge hi (by omega), show ¬ (8 : Int32) < nI N from nI_nlt (b := N) (a := 8) hN (by decide)]
    · have c2 : ¬ nI N - 1 < nI i := by
        rw [show N = (N - 1) + 1 by omega, nI_pred]
        exact nI_nlt (by omega) (by omega)
      simp [f_X10_isVisitor, g_0, g_95, g_1, g_2, g_5, g_18, g_24, g_26, g_79, g_80, g_72, l_0_0, l_0_1, l_0_3, l_0_4, l_0_5, l_0_6, l_0_7, l_1_0, l_1_1, l_1_2, l_1_3, l_2_0, l_2_1, l_2_2, l_2_3, l_2_4, l_5_0, l_5_1, l_5_2, l_5_3, l_18_0, l_18_1, l_18_2, l_18_3, l_18_4, l_24_0, l_26_0, l_79_0, l_80_0, l_95_0, l_95_1, l_95_2, l_95_3, l_95_6, l_95_16, l_95_17, l_95_18, l_95_19, l_95_20, l_95_21, l_95_22, bzBd, bzBp, bzLet, bzOp, f_X10_in, f_X9_within, e_f1, e_f2, e_f3, e_f4, e_f5, e_e1, e_e2, e_e3, e_e4, e_e5, nI_n0 (show i < 2 ^ 31 by omega), ht, c2, bzGd, k10]
def asU (k q : Nat) : Bool := k == q || q == 0 || (k == 4 && q == 1) || (k == 5 && q == 2) || (k == 6 && q == 3)
theorem as_c (σ : bzS) {k q : Nat} (hk : k ≤ 6) (hq : q ≤ 6) : f_X7_isUnder (nI k) (nI q) σ = some (if asU k q = true then 1 else 0) := by
  rcases (show k = 0 ∨ k = 1 ∨ k = 2 ∨ k = 3 ∨ k = 4 ∨ k = 5 ∨ k = 6 by omega) with rfl | rfl | rfl | rfl | rfl | rfl | rfl <;> rcases (show q = 0 ∨ q = 1 ∨ q = 2 ∨ q = 3 ∨ q = 4 ∨ q = 5 ∨ q = 6 by omega) with rfl | rfl | rfl | rfl | rfl | rfl | rfl <;> rfl
theorem as_m (τ : bzS) (a : Int32) {k q : Nat} (hk : k ≤ 6) (hq : q ≤ 6) : fl_X10_as_32 95 a (nI q) 2000 (nI k) τ = if asU k q = true then bzBd (f_X10_its 95 a 1 τ) (fun x => some (x, τ)) else some (-1000000005, bzSt τ 100 5 (τ 100 5 + 1)) := by
  rcases (show k = 0 ∨ k = 1 ∨ k = 2 ∨ k = 3 ∨ k = 4 ∨ k = 5 ∨ k = 6 by omega) with rfl | rfl | rfl | rfl | rfl | rfl | rfl <;> rcases (show q = 0 ∨ q = 1 ∨ q = 2 ∨ q = 3 ∨ q = 4 ∨ q = 5 ∨ q = 6 by omega) with rfl | rfl | rfl | rfl | rfl | rfl | rfl <;> rfl
theorem vis_p : ∀ i, i < 8 → ∀ w, w < 4 → plB (52 + 4 * i + w) = true ∧ mc (52 + 4 * i + w) = 5 + w ∧ mj (52 + 4 * i + w) = i ∧ mx (52 + 4 * i + w) = (if w = 0 then 6 else if w = 3 then 12 else 9) := by decide +kernel
theorem st_as : bzSt_as bzInv := by
  intro a1 a2 σ n hn hI
  rcases hasV hI a1 with ⟨h1, h2⟩ | ⟨i, N, e1, hi, hN, s1, s2, b1, n1, h1, h2⟩
  · refine err1 hI ?_ (fun τ ht => ?_)
    · simp [f_X9_as, g_0, g_95, g_1, g_2, g_5, g_18, g_24, g_26, g_79, g_80, g_72, l_0_0, l_0_1, l_0_3, l_0_4, l_0_5, l_0_6, l_0_7, l_1_0, l_1_1, l_1_2, l_1_3, l_2_0, l_2_1, l_2_2, l_2_3, l_2_4, l_5_0, l_5_1, l_5_2, l_5_3, l_18_0, l_18_1, l_18_2, l_18_3, l_18_4, l_24_0, l_26_0, l_79_0, l_80_0, l_95_0, l_95_1, l_95_2, l_95_3, l_95_6, l_95_16, l_95_17, l_95_18, l_95_19, l_95_20, l_95_21, l_95_22, bzBd, bzBp, bzLet, bzOp, f_X10_in, f_X9_within, e_f1, e_f2, e_f3, e_f4, e_f5, e_e1, e_e2, e_e3, e_e4, e_e5, h1]
    · simp [f_X10_as, g_0, g_95, g_1, g_2, g_5, g_18, g_24, g_26, g_79, g_80, g_72, l_0_0, l_0_1, l_0_3, l_0_4, l_0_5, l_0_6, l_0_7, l_1_0, l_1_1, l_1_2, l_1_3, l_2_0, l_2_1, l_2_2, l_2_3, l_2_4, l_5_0, l_5_1, l_5_2, l_5_3, l_18_0, l_18_1, l_18_2, l_18_3, l_18_4, l_24_0, l_26_0, l_79_0, l_80_0, l_95_0, l_95_1, l_95_2, l_95_3, l_95_6, l_95_16, l_95_17, l_95_18, l_95_19, l_95_20, l_95_21, l_95_22, bzBd, bzBp, bzLet, bzOp, f_X10_in, f_X9_within, e_f1, e_f2, e_f3, e_f4, e_f5, e_e1, e_e2, e_e3, e_e4, e_e5, h2 τ ht]
  · have hτ : ∀ τ : bzS, (∀ q, q ≠ 82 → τ q = σ q) → τ 96 2 = nI N := fun τ ht => by rw [ht 96 (by decide)]; exact s1
    rcases cut a2 (n := 6) (m := 7) (N := 6) (M := 7) rfl rfl rfl (by decide) with c2 | ⟨c2, c2', -⟩ | ⟨c2, c2', -, q, hq, e2, b2, n2⟩
    · refine err1 hI ?_ (fun τ ht => ?_)
      · simp [f_X9_as, g_0, g_95, g_1, g_2, g_5, g_18, g_24, g_26, g_79, g_80, g_72, l_0_0, l_0_1, l_0_3, l_0_4, l_0_5, l_0_6, l_0_7, l_1_0, l_1_1, l_1_2, l_1_3, l_2_0, l_2_1, l_2_2, l_2_3, l_2_4, l_5_0, l_5_1, l_5_2, l_5_3, l_18_0, l_18_1, l_18_2, l_18_3, l_18_4, l_24_0, l_26_0, l_79_0, l_80_0, l_95_0, l_95_1, l_95_2, l_95_3, l_95_6, l_95_16, l_95_17, l_95_18, l_95_19, l_95_20, l_95_21, l_95_22, bzBd, bzBp, bzLet, bzOp, f_X10_in, f_X9_within, e_f1, e_f2, e_f3, e_f4, e_f5, e_e1, e_e2, e_e3, e_e4, e_e5, h1, c2]
      · simp [f_X10_as, g_0, g_95, g_1, g_2, g_5, g_18, g_24, g_26, g_79, g_80, g_72, l_0_0, l_0_1, l_0_3, l_0_4, l_0_5, l_0_6, l_0_7, l_1_0, l_1_1, l_1_2, l_1_3, l_2_0, l_2_1, l_2_2, l_2_3, l_2_4, l_5_0, l_5_1, l_5_2, l_5_3, l_18_0, l_18_1, l_18_2, l_18_3, l_18_4, l_24_0, l_26_0, l_79_0, l_80_0, l_95_0, l_95_1, l_95_2, l_95_3, l_95_6, l_95_16, l_95_17, l_95_18, l_95_19, l_95_20, l_95_21, l_95_22, bzBd, bzBp, bzLet, bzOp, f_X10_in, f_X9_within, e_f1, e_f2, e_f3, e_f4, e_f5, e_e1, e_e2, e_e3, e_e4, e_e5, h2 τ (hτ τ ht), c2]
    · refine err1 hI ?_ (fun τ ht => ?_)
      · simp [f_X9_as, g_0, g_95, g_1, g_2, g_5, g_18, g_24, g_26, g_79, g_80, g_72, l_0_0, l_0_1, l_0_3, l_0_4, l_0_5, l_0_6, l_0_7, l_1_0, l_1_1, l_1_2, l_1_3, l_2_0, l_2_1, l_2_2, l_2_3, l_2_4, l_5_0, l_5_1, l_5_2, l_5_3, l_18_0, l_18_1, l_18_2, l_18_3, l_18_4, l_24_0, l_26_0, l_79_0, l_80_0, l_95_0, l_95_1, l_95_2, l_95_3, l_95_6, l_95_16, l_95_17, l_95_18, l_95_19, l_95_20, l_95_21, l_95_22, bzBd, bzBp, bzLet, bzOp, f_X10_in, f_X9_within, e_f1, e_f2, e_f3, e_f4, e_f5, e_e1, e_e2, e_e3, e_e4, e_e5, h1, c2, c2']
      · simp [f_X10_as, g_0, g_95, g_1, g_2, g_5, g_18, g_24, g_26, g_79, g_80, g_72, l_0_0, l_0_1, l_0_3, l_0_4, l_0_5, l_0_6, l_0_7, l_1_0, l_1_1, l_1_2, l_1_3, l_2_0, l_2_1, l_2_2, l_2_3, l_2_4, l_5_0, l_5_1, l_5_2, l_5_3, l_18_0, l_18_1, l_18_2, l_18_3, l_18_4, l_24_0, l_26_0, l_79_0, l_80_0, l_95_0, l_95_1, l_95_2, l_95_3, l_95_6, l_95_16, l_95_17, l_95_18, l_95_19, l_95_20, l_95_21, l_95_22, bzBd, bzBp, bzLet, bzOp, f_X10_in, f_X9_within, e_f1, e_f2, e_f3, e_f4, e_f5, e_e1, e_e2, e_e3, e_e4, e_e5, h2 τ (hτ τ ht), c2, c2']
    · obtain ⟨p0, m0, j0, -⟩ := vis_p i (by omega) 0 (by decide)
      obtain ⟨p1, m1, j1, -⟩ := vis_p i (by omega) 1 (by decide)
      have r0 := hI.1.1 _ p0
      have r1 := hI.1.1 _ p1
      rw [m0, j0] at r0
      rw [m1, j1] at r1
      obtain ⟨k, hk, ek⟩ := hI.2.1.1.1 _ p0 (by omega) (by omega)
      rw [(vis_p i (by omega) 0 (by decide)).2.2.2, if_pos rfl] at hk
      have r0' : σ 6 i = nI k := r0.trans ek
      have hb := as_c σ hk hq
      rw [← e2] at hb
      by_cases hu : asU k q = true
      · refine ⟨σ 7 i, σ, σ, ?_, ?_, inv_mono _ _ hI⟩
        · simp [f_X9_as, g_0, g_95, g_1, g_2, g_5, g_18, g_24, g_26, g_79, g_80, g_72, l_0_0, l_0_1, l_0_3, l_0_4, l_0_5, l_0_6, l_0_7, l_1_0, l_1_1, l_1_2, l_1_3, l_2_0, l_2_1, l_2_2, l_2_3, l_2_4, l_5_0, l_5_1, l_5_2, l_5_3, l_18_0, l_18_1, l_18_2, l_18_3, l_18_4, l_24_0, l_26_0, l_79_0, l_80_0, l_95_0, l_95_1, l_95_2, l_95_3, l_95_6, l_95_16, l_95_17, l_95_18, l_95_19, l_95_20, l_95_21, l_95_22, bzBd, bzBp, bzLet, bzOp, f_X10_in, f_X9_within, e_f1, e_f2, e_f3, e_f4, e_f5, e_e1, e_e2, e_e3, e_e4, e_e5, h1, c2, c2', bzGdT b1, n1, r0', hb, hu]
        · rw [if_pos hu] at hb
          have hm := as_m σ a1 hk hq
          rw [if_pos hu, ← e2, ← ek] at hm
          simp only [f_X10_as, g_0, g_95, g_1, g_2, g_5, g_18, g_24, g_26, g_79, g_80, g_72, l_0_0, l_0_1, l_0_3, l_0_4, l_0_5, l_0_6, l_0_7, l_1_0, l_1_1, l_1_2, l_1_3, l_2_0, l_2_1, l_2_2, l_2_3, l_2_4, l_5_0, l_5_1, l_5_2, l_5_3, l_18_0, l_18_1, l_18_2, l_18_3, l_18_4, l_24_0, l_26_0, l_79_0, l_80_0, l_95_0, l_95_1, l_95_2, l_95_3, l_95_6, l_95_16, l_95_17, l_95_18, l_95_19, l_95_20, l_95_21, l_95_22, bzBd, bzBp, bzLet, bzOp, f_X10_in, f_X9_within, e_f1, e_f2, e_f3, e_f4, e_f5, e_e1, e_e2, e_e3, e_e4, e_e5, h2 σ s1, if_neg c2, if_neg c2', if_neg one_ne]
          rw [e1, e_its (k := i) (w := 0) (W := 0) rfl (by omega), ← e1]
          show fl_X10_as_32 95 a1 a2 2000 (σ 96 (52 + 4 * i + 0)) σ = _
          rw [hm, e1, e_its (k := i) (w := 1) (W := 1) rfl (by omega)]
          show some (σ 96 (52 + 4 * i + 1), σ) = _
          rw [← r1]
      · refine err5 hI ?_ (fun τ ht => ?_)
        · simp [f_X9_as, g_0, g_95, g_1, g_2, g_5, g_18, g_24, g_26, g_79, g_80, g_72, l_0_0, l_0_1, l_0_3, l_0_4, l_0_5, l_0_6, l_0_7, l_1_0, l_1_1, l_1_2, l_1_3, l_2_0, l_2_1, l_2_2, l_2_3, l_2_4, l_5_0, l_5_1, l_5_2, l_5_3, l_18_0, l_18_1, l_18_2, l_18_3, l_18_4, l_24_0, l_26_0, l_79_0, l_80_0, l_95_0, l_95_1, l_95_2, l_95_3, l_95_6, l_95_16, l_95_17, l_95_18, l_95_19, l_95_20, l_95_21, l_95_22, bzBd, bzBp, bzLet, bzOp, f_X10_in, f_X9_within, e_f1, e_f2, e_f3, e_f4, e_f5, e_e1, e_e2, e_e3, e_e4, e_e5, h1, c2, c2', bzGdT b1, n1, r0', hb, hu]
        · have hm := as_m τ a1 hk hq
          have ek' : τ 96 (52 + 4 * i + 0) = nI k := by rw [ht 96 (by decide)]; exact ek
          rw [if_neg hu, ← e2, ← ek'] at hm
          simp only [f_X10_as, g_0, g_95, g_1, g_2, g_5, g_18, g_24, g_26, g_79, g_80, g_72, l_0_0, l_0_1, l_0_3, l_0_4, l_0_5, l_0_6, l_0_7, l_1_0, l_1_1, l_1_2, l_1_3, l_2_0, l_2_1, l_2_2, l_2_3, l_2_4, l_5_0, l_5_1, l_5_2, l_5_3, l_18_0, l_18_1, l_18_2, l_18_3, l_18_4, l_24_0, l_26_0, l_79_0, l_80_0, l_95_0, l_95_1, l_95_2, l_95_3, l_95_6, l_95_16, l_95_17, l_95_18, l_95_19, l_95_20, l_95_21, l_95_22, bzBd, bzBp, bzLet, bzOp, f_X10_in, f_X9_within, e_f1, e_f2, e_f3, e_f4, e_f5, e_e1, e_e2, e_e3, e_e4, e_e5, h2 τ (hτ τ ht), if_neg c2, if_neg c2', if_neg one_ne]
          rw [e1, e_its (k := i) (w := 0) (W := 0) rfl (by omega), ← e1]
          exact hm
