set_option linter.unusedVariables false
theorem sh_l (s : Nat) (hs : s < 4) : ly (ly 0 4) s = 83 + 3 * s ∧ kd (83 + 3 * s) = 5 ∧ ly (83 + 3 * s) 0 = 84 + 3 * s ∧ kd (84 + 3 * s) = 4 ∧ ly (84 + 3 * s) 0 = 85 + 3 * s ∧ ln (85 + 3 * s) = 40 := by
  rcases (show s = 0 ∨ s = 1 ∨ s = 2 ∨ s = 3 by omega) with rfl | rfl | rfl | rfl <;> exact ⟨rfl, rfl, rfl, rfl, rfl, rfl⟩
/-- one sheet changes, on both sides -/
theorem inv_sheet {n s : Nat} {σ τ : bzS} (hI : bzInv n σ) (hs : s < 4) (eo : ∀ k, k ≠ 83 + 3 * s → k ≠ 84 + 3 * s → k ≠ 85 + 3 * s → k ≠ 101 → k ≠ 102 → k ≠ 103 → frB k = false → τ k = σ k) (e101 : ∀ j, j ≠ s → τ 101 j = σ 101 j) (e102 : ∀ j, j ≠ s → τ 102 j = σ 102 j) (e103 : ∀ j, (j < 40 * s ∨ 40 * s + 40 ≤ j) → τ 103 j = σ 103 j)
    (hN : (τ (83 + 3 * s) 1 = τ 101 s ∧ (τ 101 s = 0 ∨ τ 101 s = 8 ∨ τ 101 s = 16 ∨ τ 101 s = 32)) ∧ ∃ z : Nat, z ≤ 40 ∧ τ (84 + 3 * s) 1 = nI z ∧ τ 102 s = nI z ∧ ∀ i, i < z → τ (85 + 3 * s) i = τ 103 (40 * s + i)) : bzInv n τ := by
  have eo : ∀ k, k ≠ 83 + 3 * s → k ≠ 84 + 3 * s → k ≠ 85 + 3 * s → k ≠ 101 → k ≠ 102 → k ≠ 103 → ¬ (k = 13 ∨ k = 17 ∨ k = 22 ∨ k = 23 ∨ k = 40 ∨ k = 44 ∨ k = 49 ∨ k = 50 ∨ (55 ≤ k ∧ k ≤ 78) ∨ k = 98 ∨ k = 99 ∨ k = 104 ∨ k = 105 ∨ k = 106) → τ k = σ k := fun k h1 h2 h3 h4 h5 h6 h7 => eo k h1 h2 h3 h4 h5 h6 (decide_eq_false h7)
  obtain ⟨i1, ⟨i2, i3⟩, i4, i5, i6, i7, i8⟩ := hI
  have e96 : τ 96 = σ 96 := eo 96 (by omega) (by omega) (by omega) (by omega) (by omega) (by omega) (by omega)
  have e95 : τ 95 = σ 95 := eo 95 (by omega) (by omega) (by omega) (by omega) (by omega) (by omega) (by omega)
  refine ⟨?_, ⟨?_, ?_⟩, ?_, ?_, ?_, ?_, ?_⟩
  · rw [e96]
    exact i1.frame2 (fun k _ _ _ _ _ _ => eo k (by omega) (by omega) (by omega) (by omega) (by omega) (by omega) (by omega))
  · rw [e96]; exact i2
  · rw [e96]; exact i3
  · rw [e95]; exact i4
  · obtain ⟨k, k1, k2, k3, k4⟩ := i5
    rw [eo 0 (by omega) (by omega) (by omega) (by omega) (by omega) (by omega) (by omega), e95, eo 97 (by omega) (by omega) (by omega) (by omega) (by omega) (by omega) (by omega)]
    refine ⟨k, k1, k2, k3, ?_⟩
    rcases k4 with k4 | ⟨k4, k5, k6, k7⟩
    · exact Or.inl k4
    · exact Or.inr ⟨k4, k5, k6.frame2 (fun k _ _ _ _ _ _ => eo k (by omega) (by omega) (by omega) (by omega) (by omega) (by omega) (by omega)), k7⟩
  · intro k h1 h2
    rw [eo 82 (by omega) (by omega) (by omega) (by omega) (by omega) (by omega) (by omega), eo 100 (by omega) (by omega) (by omega) (by omega) (by omega) (by omega) (by omega)]; exact i6 k h1 h2
  · intro q hq
    by_cases e : q = s
    · subst e; exact hN
    · rw [eo (83 + 3 * q) (by omega) (by omega) (by omega) (by omega) (by omega) (by omega) (by omega), eo (84 + 3 * q) (by omega) (by omega) (by omega) (by omega) (by omega) (by omega) (by omega), eo (85 + 3 * q) (by omega) (by omega) (by omega) (by omega) (by omega) (by omega) (by omega), e101 q e, e102 q e]
      obtain ⟨a, z, hz, z1, z2, z3⟩ := i7 q hq
      exact ⟨a, z, hz, z1, z2, fun i hi => by rw [e103 _ (by omega)]; exact z3 i hi⟩
  · rw [eo 80 (by omega) (by omega) (by omega) (by omega) (by omega) (by omega) (by omega), eo 81 (by omega) (by omega) (by omega) (by omega) (by omega) (by omega) (by omega), e95, eo 107 (by omega) (by omega) (by omega) (by omega) (by omega) (by omega) (by omega)]
    exact i8
/-- a number of a sheet, or none -/
theorem shOf (a : Int32) (σ : bzS) : (f_X9_sheetOf 0 a σ = some none ∧ f_X10_isSheet a = some 0) ∨ ∃ s : Nat, s < 4 ∧ a = nI s ∧ bzIn a 4 ∧ a.toNatClampNeg = s ∧ f_X9_sheetOf 0 a σ = some (some (83 + 3 * s)) ∧ f_X10_isSheet a = some 1 := by
  rcases cut a (n := 3) (m := 4) (N := 3) (M := 4) rfl rfl rfl (by decide) with c | ⟨c, c', c''⟩ | ⟨c, c', c'', s, hs, e, b, l⟩
  · refine Or.inl ⟨?_, ?_⟩
    · simp only [f_X9_sheetOf, g_0, g_95, g_1, g_2, g_5, g_18, g_24, g_26, g_79, g_80, g_72, l_0_0, l_0_1, l_0_3, l_0_4, l_0_5, l_0_6, l_0_7, l_1_0, l_1_1, l_1_2, l_1_3, l_2_0, l_2_1, l_2_2, l_2_3, l_2_4, l_5_0, l_5_1, l_5_2, l_5_3, l_18_0, l_18_1, l_18_2, l_18_3, l_18_4, l_24_0, l_26_0, l_79_0, l_80_0, l_95_0, l_95_1, l_95_2, l_95_3, l_95_6, l_95_16, l_95_17, l_95_18, l_95_19, l_95_20, l_95_21, l_95_22, bzBd, bzBp, bzLet, bzOp, f_X10_in, f_X9_within, e_f1, e_f2, e_f3, e_f4, e_f5, e_e1, e_e2, e_e3, e_e4, e_e5, if_pos c]
    · simp [f_X10_isSheet, g_0, g_95, g_1, g_2, g_5, g_18, g_24, g_26, g_79, g_80, g_72, l_0_0, l_0_1, l_0_3, l_0_4, l_0_5, l_0_6, l_0_7, l_1_0, l_1_1, l_1_2, l_1_3, l_2_0, l_2_1, l_2_2, l_2_3, l_2_4, l_5_0, l_5_1, l_5_2, l_5_3, l_18_0, l_18_1, l_18_2, l_18_3, l_18_4, l_24_0, l_26_0, l_79_0, l_80_0, l_95_0, l_95_1, l_95_2, l_95_3, l_95_6, l_95_16, l_95_17, l_95_18, l_95_19, l_95_20, l_95_21, l_95_22, bzBd, bzBp, bzLet, bzOp, f_X10_in, f_X9_within, e_f1, e_f2, e_f3, e_f4, e_f5, e_e1, e_e2, e_e3, e_e4, e_e5, c, bzGd]
  · refine Or.inl ⟨?_, ?_⟩
    · simp only [f_X9_sheetOf, g_0, g_95, g_1, g_2, g_5, g_18, g_24, g_26, g_79, g_80, g_72, l_0_0, l_0_1, l_0_3, l_0_4, l_0_5, l_0_6, l_0_7, l_1_0, l_1_1, l_1_2, l_1_3, l_2_0, l_2_1, l_2_2, l_2_3, l_2_4, l_5_0, l_5_1, l_5_2, l_5_3, l_18_0, l_18_1, l_18_2, l_18_3, l_18_4, l_24_0, l_26_0, l_79_0, l_80_0, l_95_0, l_95_1, l_95_2, l_95_3, l_95_6, l_95_16, l_95_17, l_95_18, l_95_19, l_95_20, l_95_21, l_95_22, bzBd, bzBp, bzLet, bzOp, f_X10_in, f_X9_within, e_f1, e_f2, e_f3, e_f4, e_f5, e_e1, e_e2, e_e3, e_e4, e_e5, if_neg c, if_pos c'']
    · simp [f_X10_isSheet, g_0, g_95, g_1, g_2, g_5, g_18, g_24, g_26, g_79, g_80, g_72, l_0_0, l_0_1, l_0_3, l_0_4, l_0_5, l_0_6, l_0_7, l_1_0, l_1_1, l_1_2, l_1_3, l_2_0, l_2_1, l_2_2, l_2_3, l_2_4, l_5_0, l_5_1, l_5_2, l_5_3, l_18_0, l_18_1, l_18_2, l_18_3, l_18_4, l_24_0, l_26_0, l_79_0, l_80_0, l_95_0, l_95_1, l_95_2, l_95_3, l_95_6, l_95_16, l_95_17, l_95_18, l_95_19, l_95_20, l_95_21, l_95_22, bzBd, bzBp, bzLet, bzOp, f_X10_in, f_X9_within, e_f1, e_f2, e_f3, e_f4, e_f5, e_e1, e_e2, e_e3, e_e4, e_e5, c, c', bzGd]
  · refine Or.inr ⟨s, by omega, e, b, l, ?_, ?_⟩
    · have k := (sh_l s (by omega)).1
      rw [l_0_4] at k
      simp only [f_X9_sheetOf, g_0, g_95, g_1, g_2, g_5, g_18, g_24, g_26, g_79, g_80, g_72, l_0_0, l_0_1, l_0_3, l_0_4, l_0_5, l_0_6, l_0_7, l_1_0, l_1_1, l_1_2, l_1_3, l_2_0, l_2_1, l_2_2, l_2_3, l_2_4, l_5_0, l_5_1, l_5_2, l_5_3, l_18_0, l_18_1, l_18_2, l_18_3, l_18_4, l_24_0, l_26_0, l_79_0, l_80_0, l_95_0, l_95_1, l_95_2, l_95_3, l_95_6, l_95_16, l_95_17, l_95_18, l_95_19, l_95_20, l_95_21, l_95_22, bzBd, bzBp, bzLet, bzOp, f_X10_in, f_X9_within, e_f1, e_f2, e_f3, e_f4, e_f5, e_e1, e_e2, e_e3, e_e4, e_e5, if_neg c, if_neg c'', bzGdT b, l, k]
    · simp [f_X10_isSheet, g_0, g_95, g_1, g_2, g_5, g_18, g_24, g_26, g_79, g_80, g_72, l_0_0, l_0_1, l_0_3, l_0_4, l_0_5, l_0_6, l_0_7, l_1_0, l_1_1, l_1_2, l_1_3, l_2_0, l_2_1, l_2_2, l_2_3, l_2_4, l_5_0, l_5_1, l_5_2, l_5_3, l_18_0, l_18_1, l_18_2, l_18_3, l_18_4, l_24_0, l_26_0, l_79_0, l_80_0, l_95_0, l_95_1, l_95_2, l_95_3, l_95_6, l_95_16, l_95_17, l_95_18, l_95_19, l_95_20, l_95_21, l_95_22, bzBd, bzBp, bzLet, bzOp, f_X10_in, f_X9_within, e_f1, e_f2, e_f3, e_f4, e_f5, e_e1, e_e2, e_e3, e_e4, e_e5, c, c', bzGd]
def pNar (b v : Int32) : Int32 := if b = 8 then v.toInt8.toInt32 else if b = 16 then v.toInt16.toInt32 else v
theorem nar_m (b v : Int32) : f_X10_narrow b v = some (pNar b v) := by
  unfold f_X10_narrow pNar
  repeat' split
  all_goals rfl
/-- a place of a sheet of z numbers -/
theorem shAt (a : Int32) {z : Nat} (hz : z ≤ 40) : ((a < 0 ∨ ¬ a < 0 ∧ nI z ≤ a) ∧ (∀ τ : bzS, f_X10_in a 0 (nI z - 1) = some 0)) ∨ (¬ a < 0 ∧ ¬ nI z ≤ a ∧ ¬ (40 : Int32) ≤ a ∧ f_X10_in a 0 (nI z - 1) = some 1 ∧ ∃ i : Nat, i < z ∧ a = nI i) := by
  rcases pk_ix a (n := z) (by omega) with c | c | ⟨i, hi, rfl⟩
  · exact Or.inl ⟨Or.inl c, fun _ => in_0 (Or.inl c)⟩
  · have c0 : ¬ a < 0 := fun h => by
      rw [Int32.lt_iff_toInt_lt] at h
      rw [Int32.le_iff_toInt_le, nI_toInt (by omega)] at c
      have : (0 : Int32).toInt = 0 := rfl
      omega
    refine Or.inl ⟨Or.inr ⟨c0, c⟩, fun _ => in_0 (Or.inr ?_)⟩
    rw [Int32.lt_iff_toInt_lt, show (nI z - 1).toInt = (z : Int) - 1 from pk_sub_toInt (b := 1) (by omega) (by decide)]
    rw [Int32.le_iff_toInt_le, nI_toInt (by omega)] at c
    omega
  · refine Or.inr ⟨nI_n0 (by omega), nI_ge hi (by omega), nI_ge (show i < 40 by omega) (by decide), ?_, i, hi, rfl⟩
    refine in_1 (nI_n0 (by omega)) ?_
    rw [show z = (z - 1) + 1 by omega, nI_pred]
    exact nI_nlt (by omega) (by omega)
theorem st_put : bzSt_put bzInv := by
  intro a1 a2 a3 σ n hn hI
  rcases shOf a1 σ with ⟨h1, h2⟩ | ⟨s, hs, e1, b1, n1, h1, h2⟩
  · refine err1 hI ?_ (fun τ ht => ?_)
    · simp only [f_X9_put, g_0, g_95, g_1, g_2, g_5, g_18, g_24, g_26, g_79, g_80, g_72, l_0_0, l_0_1, l_0_3, l_0_4, l_0_5, l_0_6, l_0_7, l_1_0, l_1_1, l_1_2, l_1_3, l_2_0, l_2_1, l_2_2, l_2_3, l_2_4, l_5_0, l_5_1, l_5_2, l_5_3, l_18_0, l_18_1, l_18_2, l_18_3, l_18_4, l_24_0, l_26_0, l_79_0, l_80_0, l_95_0, l_95_1, l_95_2, l_95_3, l_95_6, l_95_16, l_95_17, l_95_18, l_95_19, l_95_20, l_95_21, l_95_22, bzBd, bzBp, bzLet, bzOp, f_X10_in, f_X9_within, e_f1, e_f2, e_f3, e_f4, e_f5, e_e1, e_e2, e_e3, e_e4, e_e5, h1]
    · simp [f_X10_put, g_0, g_95, g_1, g_2, g_5, g_18, g_24, g_26, g_79, g_80, g_72, l_0_0, l_0_1, l_0_3, l_0_4, l_0_5, l_0_6, l_0_7, l_1_0, l_1_1, l_1_2, l_1_3, l_2_0, l_2_1, l_2_2, l_2_3, l_2_4, l_5_0, l_5_1, l_5_2, l_5_3, l_18_0, l_18_1, l_18_2, l_18_3, l_18_4, l_24_0, l_26_0, l_79_0, l_80_0, l_95_0, l_95_1, l_95_2, l_95_3, l_95_6, l_95_16, l_95_17, l_95_18, l_95_19, l_95_20, l_95_21, l_95_22, bzBd, bzBp, bzLet, bzOp, f_X10_in, f_X9_within, e_f1, e_f2, e_f3, e_f4, e_f5, e_e1, e_e2, e_e3, e_e4, e_e5, h2]
  obtain ⟨l1, l2, l3, l4, l5, l6⟩ := sh_l s hs
  obtain ⟨⟨q1, q2⟩, z, hz, q3, q4, q5⟩ := hI.2.2.2.2.2.1 s hs
  by_cases m0 : σ 101 s = 0
  · refine err2 hI ?_ (fun τ ht => ?_)
    · simp [f_X9_put, g_0, g_95, g_1, g_2, g_5, g_18, g_24, g_26, g_79, g_80, g_72, l_0_0, l_0_1, l_0_3, l_0_4, l_0_5, l_0_6, l_0_7, l_1_0, l_1_1, l_1_2, l_1_3, l_2_0, l_2_1, l_2_2, l_2_3, l_2_4, l_5_0, l_5_1, l_5_2, l_5_3, l_18_0, l_18_1, l_18_2, l_18_3, l_18_4, l_24_0, l_26_0, l_79_0, l_80_0, l_95_0, l_95_1, l_95_2, l_95_3, l_95_6, l_95_16, l_95_17, l_95_18, l_95_19, l_95_20, l_95_21, l_95_22, bzBd, bzBp, bzLet, bzOp, f_X10_in, f_X9_within, e_f1, e_f2, e_f3, e_f4, e_f5, e_e1, e_e2, e_e3, e_e4, e_e5, h1, bzGdT l2, f_X5_isMissing, q1, m0]
    · simp [f_X10_put, g_0, g_95, g_1, g_2, g_5, g_18, g_24, g_26, g_79, g_80, g_72, l_0_0, l_0_1, l_0_3, l_0_4, l_0_5, l_0_6, l_0_7, l_1_0, l_1_1, l_1_2, l_1_3, l_2_0, l_2_1, l_2_2, l_2_3, l_2_4, l_5_0, l_5_1, l_5_2, l_5_3, l_18_0, l_18_1, l_18_2, l_18_3, l_18_4, l_24_0, l_26_0, l_79_0, l_80_0, l_95_0, l_95_1, l_95_2, l_95_3, l_95_6, l_95_16, l_95_17, l_95_18, l_95_19, l_95_20, l_95_21, l_95_22, bzBd, bzBp, bzLet, bzOp, f_X10_in, f_X9_within, e_f1, e_f2, e_f3, e_f4, e_f5, e_e1, e_e2, e_e3, e_e4, e_e5, h2, bzGdT b1, n1, ht 101 (by decide), m0]
  rcases shAt a2 hz with ⟨c, c'⟩ | ⟨c1, c2, c3, c4, i, hi, e2⟩
  · have hh : f_X4_has (84 + 3 * s) a2 σ = some 0 := by
      rcases c with c | ⟨c, d⟩
      · simp [f_X4_has, bzGdT l4, c]
      · simp [f_X4_has, bzGdT l4, c, q3, d]
    refine err1 hI ?_ (fun τ ht => ?_)
    · simp [f_X9_put, g_0, g_95, g_1, g_2, g_5, g_18, g_24, g_26, g_79, g_80, g_72, l_0_0, l_0_1, l_0_3, l_0_4, l_0_5, l_0_6, l_0_7, l_1_0, l_1_1, l_1_2, l_1_3, l_2_0, l_2_1, l_2_2, l_2_3, l_2_4, l_5_0, l_5_1, l_5_2, l_5_3, l_18_0, l_18_1, l_18_2, l_18_3, l_18_4, l_24_0, l_26_0, l_79_0, l_80_0, l_95_0, l_95_1, l_95_2, l_95_3, l_95_6, l_95_16, l_95_17, l_95_18, l_95_19, l_95_20, l_95_21, l_95_22, bzBd, bzBp, bzLet, bzOp, f_X10_in, f_X9_within, e_f1, e_f2, e_f3, e_f4, e_f5, e_e1, e_e2, e_e3, e_e4, e_e5, h1, bzGdT l2, f_X5_isMissing, q1, m0, l3, hh]
    · have c' := c' τ
      simp only [f_X10_put, g_0, g_95, g_1, g_2, g_5, g_18, g_24, g_26, g_79, g_80, g_72, l_0_0, l_0_1, l_0_3, l_0_4, l_0_5, l_0_6, l_0_7, l_1_0, l_1_1, l_1_2, l_1_3, l_2_0, l_2_1, l_2_2, l_2_3, l_2_4, l_5_0, l_5_1, l_5_2, l_5_3, l_18_0, l_18_1, l_18_2, l_18_3, l_18_4, l_24_0, l_26_0, l_79_0, l_80_0, l_95_0, l_95_1, l_95_2, l_95_3, l_95_6, l_95_16, l_95_17, l_95_18, l_95_19, l_95_20, l_95_21, l_95_22, bzBd, bzBp, bzLet, bzOp, f_X10_in, f_X9_within, e_f1, e_f2, e_f3, e_f4, e_f5, e_e1, e_e2, e_e3, e_e4, e_e5, h2, if_neg one_ne, bzGdT b1, n1, ht 101 (by decide), if_neg m0, ht 102 (by decide), q4]
      simp only [f_X10_in] at c'
      simp [c']
  · have hh : ∀ v, f_X4_write (84 + 3 * s) a2 v σ = some (bzSt σ (85 + 3 * s) i v) := by
      intro v
      have : bzIn (nI i) 40 := bzIn_nI (by omega) (by decide)
      subst e2
      simp [f_X4_write, f_X4_has, bzGdT l4, c1, q3, c2, l5, l6, ofN, show ¬ nI 40 ≤ nI i from c3, bzBd, bzLet, bzGdT this, clN (show i < 2 ^ 31 by omega)]
    have hw : f_X5_write (83 + 3 * s) a2 a3 σ = some (bzSt σ (85 + 3 * s) i (pNar (σ 101 s) a3)) := by
      simp only [f_X5_write, bzGdT l2, q1, l3, hh, bzBd, pNar]
      repeat' split
      all_goals rfl
    have hh1 : f_X4_has (84 + 3 * s) a2 σ = some 1 := by
      simp [f_X4_has, bzGdT l4, c1, q3, c2, l5, l6, ofN, show ¬ nI 40 ≤ a2 from c3]
    have ep : 40 * a1 + a2 = nI (40 * s + i) := by rw [e1, e2, show (40 : Int32) = nI 40 from rfl, pk_mul, nI_add]
    refine ⟨1, bzSt σ (85 + 3 * s) i (pNar (σ 101 s) a3), bzSt (bzSt σ (85 + 3 * s) i (pNar (σ 101 s) a3)) 103 (40 * s + i) (pNar (σ 101 s) a3), ?_, ?_, ?_⟩
    · simp [f_X9_put, g_0, g_95, g_1, g_2, g_5, g_18, g_24, g_26, g_79, g_80, g_72, l_0_0, l_0_1, l_0_3, l_0_4, l_0_5, l_0_6, l_0_7, l_1_0, l_1_1, l_1_2, l_1_3, l_2_0, l_2_1, l_2_2, l_2_3, l_2_4, l_5_0, l_5_1, l_5_2, l_5_3, l_18_0, l_18_1, l_18_2, l_18_3, l_18_4, l_24_0, l_26_0, l_79_0, l_80_0, l_95_0, l_95_1, l_95_2, l_95_3, l_95_6, l_95_16, l_95_17, l_95_18, l_95_19, l_95_20, l_95_21, l_95_22, bzBd, bzBp, bzLet, bzOp, f_X10_in, f_X9_within, e_f1, e_f2, e_f3, e_f4, e_f5, e_e1, e_e2, e_e3, e_e4, e_e5, h1, bzGdT l2, f_X5_isMissing, q1, m0, l3, hh1, hw]
    · have o101 : bzSt σ (85 + 3 * s) i (pNar (σ 101 s) a3) 101 = σ 101 := st_o (by omega)
      have o102 : bzSt σ (85 + 3 * s) i (pNar (σ 101 s) a3) 102 = σ 102 := st_o (by omega)
      simp only [f_X10_put, g_0, g_95, g_1, g_2, g_5, g_18, g_24, g_26, g_79, g_80, g_72, l_0_0, l_0_1, l_0_3, l_0_4, l_0_5, l_0_6, l_0_7, l_1_0, l_1_1, l_1_2, l_1_3, l_2_0, l_2_1, l_2_2, l_2_3, l_2_4, l_5_0, l_5_1, l_5_2, l_5_3, l_18_0, l_18_1, l_18_2, l_18_3, l_18_4, l_24_0, l_26_0, l_79_0, l_80_0, l_95_0, l_95_1, l_95_2, l_95_3, l_95_6, l_95_16, l_95_17, l_95_18, l_95_19, l_95_20, l_95_21, l_95_22, bzBd, bzBp, bzLet, bzOp, f_X10_in, f_X9_within, e_f1, e_f2, e_f3, e_f4, e_f5, e_e1, e_e2, e_e3, e_e4, e_e5, h2, if_neg one_ne, bzGdT b1, n1, o101, o102, if_neg m0, q4, nar_m, ep, bzGdT (bzIn_nI (show 40 * s + i < 160 by omega) (by decide)), clN (show 40 * s + i < 2 ^ 31 by omega)]
      simp only [f_X10_in] at c4
      simp [c4]
    · refine inv_mono _ _ (inv_sheet (s := s) hI hs ?_ ?_ ?_ ?_ ⟨⟨?_, ?_⟩, z, hz, ?_, ?_, ?_⟩)
      · intro k h1 h2 h3 h4 h5 h6 _
        rw [st_o h6, st_o h3]
      · intro j hj; rw [st_o (by decide), st_o (by omega)]
      · intro j hj; rw [st_o (by decide), st_o (by omega)]
      · intro j hj; rw [st_s, st_o (by omega), pk_un (by omega)]
      · rw [st_o (by omega), st_o (by omega), st_o (by decide), st_o (by omega)]; exact q1
      · rw [st_o (by decide), st_o (by omega)]; exact q2
      · rw [st_o (by omega), st_o (by omega)]; exact q3
      · rw [st_o (by decide), st_o (by omega)]; exact q4
      · intro j hj
        rw [st_o (by omega), st_s, st_s, st_o (by omega)]
        by_cases e : j = i
        · subst e; rw [pk_us, pk_us]
        · rw [pk_un e, pk_un (by omega)]; exact q5 j hj
