set_option linter.unusedVariables false
theorem has_n {N v : Nat} {σ : bzS} (hN : N ≤ 8) (h : σ 5 4 = nI N) (hv : v < 50) : f_X7_has 5 (nI v) σ = some (if v < N then 1 else 0) := by
  by_cases c : v < N
  · rw [if_pos c]
    simp [f_X7_has, g_0, g_95, g_1, g_2, g_5, g_18, g_24, g_26, g_79, g_80, g_72, l_0_0, l_0_1, l_0_3, l_0_4, l_0_5, l_0_6, l_0_7, l_1_0, l_1_1, l_1_2, l_1_3, l_2_0, l_2_1, l_2_2, l_2_3, l_2_4, l_5_0, l_5_1, l_5_2, l_5_3, l_18_0, l_18_1, l_18_2, l_18_3, l_18_4, l_24_0, l_26_0, l_79_0, l_80_0, l_95_0, l_95_1, l_95_2, l_95_3, l_95_6, l_95_16, l_95_17, l_95_18, l_95_19, l_95_20, l_95_21, l_95_22, bzBd, bzBp, bzLet, bzOp, f_X10_in, f_X9_within, e_f1, e_f2, e_f3, e_f4, e_f5, e_e1, e_e2, e_e3, e_e4, e_e5, nI_n0 (show v < 2 ^ 31 by omega), h, nI_ge c (by omega), show ¬ (8 : Int32) < nI N from nI_nlt (b := N) (a := 8) hN (by decide)]
  · rw [if_neg c]
    simp [f_X7_has, g_0, g_95, g_1, g_2, g_5, g_18, g_24, g_26, g_79, g_80, g_72, l_0_0, l_0_1, l_0_3, l_0_4, l_0_5, l_0_6, l_0_7, l_1_0, l_1_1, l_1_2, l_1_3, l_2_0, l_2_1, l_2_2, l_2_3, l_2_4, l_5_0, l_5_1, l_5_2, l_5_3, l_18_0, l_18_1, l_18_2, l_18_3, l_18_4, l_24_0, l_26_0, l_79_0, l_80_0, l_95_0, l_95_1, l_95_2, l_95_3, l_95_6, l_95_16, l_95_17, l_95_18, l_95_19, l_95_20, l_95_21, l_95_22, bzBd, bzBp, bzLet, bzOp, f_X10_in, f_X9_within, e_f1, e_f2, e_f3, e_f4, e_f5, e_e1, e_e2, e_e3, e_e4, e_e5, nI_n0 (show v < 2 ^ 31 by omega), h, show nI N ≤ nI v from Int32.not_lt.mp (nI_nlt (by omega) (by omega))]
theorem tape_n {s z v : Nat} {σ : bzS} (hs : s < 4) (hz : z ≤ 40) (h : σ (84 + 3 * s) 1 = nI z) (hv : v < 50) : f_X4_has (84 + 3 * s) (nI v) σ = some (if v < z then 1 else 0) ∧ (v < z → f_X4_at (84 + 3 * s) (nI v) σ = some (σ (85 + 3 * s) v)) := by
  obtain ⟨l1, l2, l3, l4, l5, l6⟩ := sh_l s hs
  by_cases c : v < z
  · rw [if_pos c]
    have g : ¬ nI 40 ≤ nI v := nI_ge (show v < 40 by omega) (by decide)
    refine ⟨?_, fun _ => ?_⟩
    · simp only [f_X4_has, bzGdT l4, if_neg (nI_n0 (show v < 2 ^ 31 by omega)), h, if_neg (nI_ge c (by omega)), l5, l6, ofN, if_neg g]
    · simp only [f_X4_at, bzGdT l4, if_neg (nI_n0 (show v < 2 ^ 31 by omega)), h, if_neg (nI_ge c (by omega)), l5, l6, ofN, if_neg g, bzGdT (bzIn_nI (show v < 40 by omega) (by decide)), clN (show v < 2 ^ 31 by omega)]
  · rw [if_neg c]
    refine ⟨?_, fun h => absurd h c⟩
    simp only [f_X4_has, bzGdT l4, if_neg (nI_n0 (show v < 2 ^ 31 by omega)), h, if_pos (show nI z ≤ nI v from Int32.not_lt.mp (nI_nlt (by omega) (by omega)))]
theorem jd_78 {s N z v : Nat} {σ : bzS} (a : Int32) (hs : s < 4) (ea : bzIn a 4) (na : a.toNatClampNeg = s) (h1 : σ 96 2 = nI N) (h2 : σ 102 s = nI z) (hN : N ≤ 8) (hz : z ≤ 40) (hv : v ≤ 50) : fb_X10_judge_78 95 a (nI v) σ = some (if v = N ∧ v = z then -1 else nI v, σ) := by
  have e1 : nI v = nI N ↔ v = N := nI_eq (by omega) (by omega)
  have e2 : nI v = nI z ↔ v = z := nI_eq (by omega) (by omega)
  simp only [fb_X10_judge_78, l_95_0, l_95_17, h1, bzGdT ea, na, h2, e1, e2]
  by_cases c1 : v = N
  · by_cases c2 : v = z
    · rw [if_pos c1, if_pos c2, if_pos ⟨c1, c2⟩]
    · rw [if_pos c1, if_neg c2, if_neg (fun h => c2 h.2)]
  · rw [if_neg c1, if_neg (fun h => c1 h.1)]
theorem jd {s N z : Nat} {σ : bzS} (a : Int32) (hs : s < 4) (ea : bzIn a 4) (na : a = nI s) (hN : N ≤ 8) (hz : z ≤ 40) (h1 : σ 96 2 = nI N) (h2 : σ 102 s = nI z) (h3 : σ 5 4 = nI N) (h4 : σ (84 + 3 * s) 1 = nI z) (h5 : ∀ i, i < z → σ (85 + 3 * s) i = σ 103 (40 * s + i)) (h6 : ∀ i, i < N → σ 8 i = σ 96 (52 + 4 * i + 2)) (X : Nat) (hX : X = max N z) : ∀ m v, m + v = min N z → ∀ f g : Nat, m < f → m < g → ∃ r, fl_X7_firstNotSoLoud_14 5 (84 + 3 * s) σ f (nI X) (nI v) = some r ∧ fl_X10_judge_32 95 a g (nI v) σ = some (r, σ) := by
  have nl : a.toNatClampNeg = s := by rw [na]; exact clN (by omega)
  intro m
  induction m with
  | zero =>
    intro v hv f g hf hg
    obtain ⟨f, rfl⟩ : ∃ q, f = q + 1 := ⟨f - 1, by omega⟩
    obtain ⟨g, rfl⟩ : ∃ q, g = q + 1 := ⟨g - 1, by omega⟩
    refine ⟨if v = N ∧ v = z then -1 else nI v, ?_, ?_⟩
    · simp only [fl_X7_firstNotSoLoud_14, fb_X7_firstNotSoLoud_14]
      by_cases c : X ≤ v
      · rw [if_pos (show nI X ≤ nI v from Int32.not_lt.mp (nI_nlt c (by omega))), if_pos (by omega)]
      · rw [if_neg (nI_ge (by omega) (by omega)), if_neg (by omega), has_n hN h3 (by omega), bzBdS]
        by_cases c2 : v < N
        · rw [if_pos c2, if_neg one_ne, (tape_n hs hz h4 (by omega)).1, bzBdS, if_neg (show ¬ v < z by omega), if_pos rfl]
        · rw [if_neg c2, if_pos rfl]
    · have k := jd_78 (v := v) a hs ea nl h1 h2 hN hz (by omega)
      simp only [fl_X10_judge_32, fb_X10_judge_32, l_95_0, h1, l_95_17, bzGdT ea, nl, h2, k]
      by_cases c : N ≤ v
      · rw [if_pos (show nI N ≤ nI v from Int32.not_lt.mp (nI_nlt c (by omega)))]
      · rw [if_neg (nI_ge (by omega) (by omega)), if_pos (show nI z ≤ nI v from Int32.not_lt.mp (nI_nlt (by omega) (by omega)))]
  | succ m ih =>
    intro v hv f g hf hg
    obtain ⟨f, rfl⟩ : ∃ q, f = q + 1 := ⟨f - 1, by omega⟩
    obtain ⟨g, rfl⟩ : ∃ q, g = q + 1 := ⟨g - 1, by omega⟩
    have k := jd_78 (v := v) a hs ea nl h1 h2 hN hz (by omega)
    have ep : 40 * a + nI v = nI (40 * s + v) := by rw [na, show (40 : Int32) = nI 40 from rfl, pk_mul, nI_add]
    have its := its_m (i := v) (w := 2) (W := 2) (τ := σ) rfl (by omega) (by decide)
    have cl : fl_X7_firstNotSoLoud_14 5 (84 + 3 * s) σ (f + 1) (nI X) (nI v) = if σ 96 (52 + 4 * v + 2) = σ 103 (40 * s + v) then fl_X7_firstNotSoLoud_14 5 (84 + 3 * s) σ f (nI X) (nI (v + 1)) else some (nI v) := by
      simp only [fl_X7_firstNotSoLoud_14, fb_X7_firstNotSoLoud_14]
      rw [if_neg (nI_ge (by omega) (by omega)), has_n hN h3 (by omega), bzBdS, if_pos (show v < N by omega), if_neg one_ne, (tape_n hs hz h4 (by omega)).1, bzBdS, if_pos (show v < z by omega), if_neg one_ne, bzGdT (bzIn_nI (show v < 8 by omega) (by decide)), (tape_n hs hz h4 (by omega)).2 (by omega), bzBdS, clN (show v < 2 ^ 31 by omega), l_5_2, h5 v (by omega), h6 v (by omega), bzLetS, nI_1]
    have ml : fl_X10_judge_32 95 a (g + 1) (nI v) σ = if σ 103 (40 * s + v) = σ 96 (52 + 4 * v + 2) then fl_X10_judge_32 95 a g (nI (v + 1)) σ else some (nI v, σ) := by
      simp only [fl_X10_judge_32, fb_X10_judge_32, l_95_0, h1, l_95_17, bzGdT ea, nl, h2, k]
      rw [if_neg (nI_ge (show v < N by omega) (by omega)), if_neg (nI_ge (show v < z by omega) (by omega)), ep, bzGdT (bzIn_nI (show 40 * s + v < 160 by omega) (by decide)), its, bzBdS, clN (show 40 * s + v < 2 ^ 31 by omega), l_95_18, bzLetS, nI_1, if_neg (show ¬ (v = N ∧ v = z) by omega)]
    by_cases e : σ 103 (40 * s + v) = σ 96 (52 + 4 * v + 2)
    · obtain ⟨r, r1, r2⟩ := ih (v + 1) (by omega) f g (by omega) (by omega)
      exact ⟨r, by rw [cl, if_pos e.symm]; exact r1, by rw [ml, if_pos e]; exact r2⟩
    · exact ⟨nI v, by rw [cl, if_neg (fun h => e h.symm)], by rw [ml, if_neg e]⟩
theorem st_judge : bzSt_judge bzInv := by
  intro a1 σ n hn hI
  rcases shOf a1 σ with ⟨h1, h2⟩ | ⟨s, hs, e1, b1, n1, h1, h2⟩
  · refine err1 hI ?_ (fun τ ht => ?_)
    · simp only [f_X9_judge, g_0, g_95, g_1, g_2, g_5, g_18, g_24, g_26, g_79, g_80, g_72, l_0_0, l_0_1, l_0_3, l_0_4, l_0_5, l_0_6, l_0_7, l_1_0, l_1_1, l_1_2, l_1_3, l_2_0, l_2_1, l_2_2, l_2_3, l_2_4, l_5_0, l_5_1, l_5_2, l_5_3, l_18_0, l_18_1, l_18_2, l_18_3, l_18_4, l_24_0, l_26_0, l_79_0, l_80_0, l_95_0, l_95_1, l_95_2, l_95_3, l_95_6, l_95_16, l_95_17, l_95_18, l_95_19, l_95_20, l_95_21, l_95_22, bzBd, bzBp, bzLet, bzOp, f_X10_in, f_X9_within, e_f1, e_f2, e_f3, e_f4, e_f5, e_e1, e_e2, e_e3, e_e4, e_e5, h1]
    · simp [f_X10_judge, g_0, g_95, g_1, g_2, g_5, g_18, g_24, g_26, g_79, g_80, g_72, l_0_0, l_0_1, l_0_3, l_0_4, l_0_5, l_0_6, l_0_7, l_1_0, l_1_1, l_1_2, l_1_3, l_2_0, l_2_1, l_2_2, l_2_3, l_2_4, l_5_0, l_5_1, l_5_2, l_5_3, l_18_0, l_18_1, l_18_2, l_18_3, l_18_4, l_24_0, l_26_0, l_79_0, l_80_0, l_95_0, l_95_1, l_95_2, l_95_3, l_95_6, l_95_16, l_95_17, l_95_18, l_95_19, l_95_20, l_95_21, l_95_22, bzBd, bzBp, bzLet, bzOp, f_X10_in, f_X9_within, e_f1, e_f2, e_f3, e_f4, e_f5, e_e1, e_e2, e_e3, e_e4, e_e5, h2]
  obtain ⟨l1, l2, l3, l4, l5, l6⟩ := sh_l s hs
  obtain ⟨⟨q1, q2⟩, z, hz, q3, q4, q5⟩ := hI.2.2.2.2.2.1 s hs
  by_cases m0 : σ 101 s = 0
  · refine err2 hI ?_ (fun τ ht => ?_)
    · simp [f_X9_judge, g_0, g_95, g_1, g_2, g_5, g_18, g_24, g_26, g_79, g_80, g_72, l_0_0, l_0_1, l_0_3, l_0_4, l_0_5, l_0_6, l_0_7, l_1_0, l_1_1, l_1_2, l_1_3, l_2_0, l_2_1, l_2_2, l_2_3, l_2_4, l_5_0, l_5_1, l_5_2, l_5_3, l_18_0, l_18_1, l_18_2, l_18_3, l_18_4, l_24_0, l_26_0, l_79_0, l_80_0, l_95_0, l_95_1, l_95_2, l_95_3, l_95_6, l_95_16, l_95_17, l_95_18, l_95_19, l_95_20, l_95_21, l_95_22, bzBd, bzBp, bzLet, bzOp, f_X10_in, f_X9_within, e_f1, e_f2, e_f3, e_f4, e_f5, e_e1, e_e2, e_e3, e_e4, e_e5, h1, bzGdT l2, f_X5_isMissing, q1, m0]
    · simp [f_X10_judge, g_0, g_95, g_1, g_2, g_5, g_18, g_24, g_26, g_79, g_80, g_72, l_0_0, l_0_1, l_0_3, l_0_4, l_0_5, l_0_6, l_0_7, l_1_0, l_1_1, l_1_2, l_1_3, l_2_0, l_2_1, l_2_2, l_2_3, l_2_4, l_5_0, l_5_1, l_5_2, l_5_3, l_18_0, l_18_1, l_18_2, l_18_3, l_18_4, l_24_0, l_26_0, l_79_0, l_80_0, l_95_0, l_95_1, l_95_2, l_95_3, l_95_6, l_95_16, l_95_17, l_95_18, l_95_19, l_95_20, l_95_21, l_95_22, bzBd, bzBp, bzLet, bzOp, f_X10_in, f_X9_within, e_f1, e_f2, e_f3, e_f4, e_f5, e_e1, e_e2, e_e3, e_e4, e_e5, h2, bzGdT b1, n1, ht 101 (by decide), m0]
  obtain ⟨N, hN, s1, s2⟩ := sizeV hI
  have hC := cr_of_sr hI.1
  have mx : f_J_max (nI N) (nI z) = some (nI (max N z)) := by
    unfold f_J_max
    by_cases c : N < z
    · rw [if_pos (nI_lt c (by omega)), show max N z = z by omega]
    · rw [if_neg (nI_nlt (by omega) (by omega)), show max N z = N by omega]
  obtain ⟨r, r1, r2⟩ := jd (σ := σ) a1 hs b1 e1 hN hz s1 q4 s2 q3 q5 (fun i hi => vis_c hC (i := i) (w := 2) (by omega) (by decide)) (max N z) rfl (min N z) 0 (by omega) 2000 2000 (by omega) (by omega)
  refine ⟨r, σ, σ, ?_, ?_, inv_mono _ _ hI⟩
  · simp only [f_X9_judge, g_0, g_95, g_1, g_2, g_5, g_18, g_24, g_26, g_79, g_80, g_72, l_0_0, l_0_1, l_0_3, l_0_4, l_0_5, l_0_6, l_0_7, l_1_0, l_1_1, l_1_2, l_1_3, l_2_0, l_2_1, l_2_2, l_2_3, l_2_4, l_5_0, l_5_1, l_5_2, l_5_3, l_18_0, l_18_1, l_18_2, l_18_3, l_18_4, l_24_0, l_26_0, l_79_0, l_80_0, l_95_0, l_95_1, l_95_2, l_95_3, l_95_6, l_95_16, l_95_17, l_95_18, l_95_19, l_95_20, l_95_21, l_95_22, bzBd, bzBp, bzLet, bzOp, f_X10_in, f_X9_within, e_f1, e_f2, e_f3, e_f4, e_f5, e_e1, e_e2, e_e3, e_e4, e_e5, h1, bzGdT l2, f_X5_isMissing, q1, if_neg m0, if_true, f_X7_firstNotSoLoud, l3, bzGdT l4, s2, q3, mx]
    rw [show (0 : Int32) = nI 0 from rfl, r1]
  · simp only [f_X10_judge, g_0, g_95, g_1, g_2, g_5, g_18, g_24, g_26, g_79, g_80, g_72, l_0_0, l_0_1, l_0_3, l_0_4, l_0_5, l_0_6, l_0_7, l_1_0, l_1_1, l_1_2, l_1_3, l_2_0, l_2_1, l_2_2, l_2_3, l_2_4, l_5_0, l_5_1, l_5_2, l_5_3, l_18_0, l_18_1, l_18_2, l_18_3, l_18_4, l_24_0, l_26_0, l_79_0, l_80_0, l_95_0, l_95_1, l_95_2, l_95_3, l_95_6, l_95_16, l_95_17, l_95_18, l_95_19, l_95_20, l_95_21, l_95_22, bzBd, bzBp, bzLet, bzOp, f_X10_in, f_X9_within, e_f1, e_f2, e_f3, e_f4, e_f5, e_e1, e_e2, e_e3, e_e4, e_e5, h2, bzGdT b1, n1, if_neg m0, if_neg one_ne]
    exact r2
