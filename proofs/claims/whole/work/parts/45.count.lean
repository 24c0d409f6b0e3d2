set_option linter.unusedVariables false
theorem ones_bc : ∀ v, v < 256 → f_J_bitCount (nI v) = f_X10_ones (nI v) ∧ (f_X10_ones (nI v)).isSome = true := by decide +kernel
theorem mask_c : ∀ N, N < 9 → ∀ i, i < 8 → ((((1 : Int32) <<< (nI N &&& 31)) - 1) >>> (nI i &&& 31)) &&& 1 = if i < N then 1 else 0 := by decide +kernel
theorem mask_m : ∀ i, i < 8 → ((255 : Int32) >>> (nI i &&& 31)) &&& 1 = 1 := by decide +kernel
/-- the trees of a row -/
def onesOf (x : Int32) : Int32 := (f_X10_ones x).getD 0
theorem row_p : ∀ i, i < 8 → plB (44 + i) = true ∧ mc (44 + i) = 20 ∧ mj (44 + i) = i ∧ mx (44 + i) = 255 := by decide +kernel
theorem trees_r {n : Nat} {σ : bzS} (hI : bzInv n σ) {i : Nat} (hi : i < 8) : f_X1_treesOfRow 18 (nI i) σ = some (onesOf (σ 96 (44 + i))) ∧ f_X10_ones (σ 96 (44 + i)) = some (onesOf (σ 96 (44 + i))) := by
  obtain ⟨p, m, j, x⟩ := row_p i hi
  have e := hI.1.1 _ p
  rw [m, j] at e
  have e : σ 21 i = σ 96 (44 + i) := e
  obtain ⟨v, hv, ev⟩ := hI.2.1.1.1 _ p (by omega) (by omega)
  rw [x] at hv
  obtain ⟨k1, k2⟩ := ones_bc v (by omega)
  have k3 : f_X10_ones (nI v) = some (onesOf (nI v)) := by
    unfold onesOf
    cases h : f_X10_ones (nI v) with
    | none => rw [h] at k2; cases k2
    | some q => rfl
  refine ⟨?_, by rw [ev]; exact k3⟩
  have ip : f_X9_isPlace (nI i) 21 = some 1 := ip_1 (by rw [n_21]; omega) (by decide) (Or.inl rfl)
  simp only [f_X1_treesOfRow, g_0, g_95, g_1, g_2, g_5, g_18, g_24, g_26, g_79, g_80, g_72, l_0_0, l_0_1, l_0_3, l_0_4, l_0_5, l_0_6, l_0_7, l_1_0, l_1_1, l_1_2, l_1_3, l_2_0, l_2_1, l_2_2, l_2_3, l_2_4, l_5_0, l_5_1, l_5_2, l_5_3, l_18_0, l_18_1, l_18_2, l_18_3, l_18_4, l_24_0, l_26_0, l_79_0, l_80_0, l_95_0, l_95_1, l_95_2, l_95_3, l_95_6, l_95_16, l_95_17, l_95_18, l_95_19, l_95_20, l_95_21, l_95_22, bzBd, bzBp, bzLet, bzOp, f_X10_in, f_X9_within, e_f1, e_f2, e_f3, e_f4, e_f5, e_e1, e_e2, e_e3, e_e4, e_e5, ip, if_neg one_ne, bzGdT (bzIn_nI hi (by decide)), clN (show i < 2 ^ 31 by omega), e, ev, k1, k3]
theorem trees_a {n : Nat} {σ : bzS} (hI : bzInv n σ) : ∀ m v, m + v = 8 → ∀ (f g : Nat) (a : Int32), m < f → m < g → ∃ r, fl_X1_treesOfAll_4 18 σ f a (nI v) = some r ∧ fl_X10_sumOfTrees_4 95 σ g a (nI v) = some r := by
  intro m
  induction m with
  | zero =>
    intro v hv f g a hf hg
    obtain ⟨f, rfl⟩ : ∃ q, f = q + 1 := ⟨f - 1, by omega⟩
    obtain ⟨g, rfl⟩ : ∃ q, g = q + 1 := ⟨g - 1, by omega⟩
    have e : v = 8 := by omega
    subst e
    exact ⟨a, by simp only [fl_X1_treesOfAll_4, fb_X1_treesOfAll_4, if_pos (show (8 : Int32) ≤ nI 8 by decide)], by simp only [fl_X10_sumOfTrees_4, fb_X10_sumOfTrees_4, if_pos (show (8 : Int32) ≤ nI 8 by decide)]⟩
  | succ m ih =>
    intro v hv f g a hf hg
    obtain ⟨f, rfl⟩ : ∃ q, f = q + 1 := ⟨f - 1, by omega⟩
    obtain ⟨g, rfl⟩ : ∃ q, g = q + 1 := ⟨g - 1, by omega⟩
    obtain ⟨t1, t2⟩ := trees_r hI (show v < 8 by omega)
    obtain ⟨r, r1, r2⟩ := ih (v + 1) (by omega) f g (a + onesOf (σ 96 (44 + v))) (by omega) (by omega)
    have g8 : ¬ (8 : Int32) ≤ nI v := nI_ge (show v < 8 by omega) (by decide)
    have ep : 44 + nI v = nI (44 + v) := by rw [show (44 : Int32) = nI 44 from rfl, nI_add]
    refine ⟨r, ?_, ?_⟩
    · simp only [fl_X1_treesOfAll_4, fb_X1_treesOfAll_4, if_neg g8, t1, bzBd, bzLet, nI_1]; exact r1
    · simp only [fl_X10_sumOfTrees_4, fb_X10_sumOfTrees_4, if_neg g8, ep, bzGdT (bzIn_nI (show 44 + v < 254 by omega) (by decide)), l_95_0, clN (show 44 + v < 2 ^ 31 by omega), t2, bzBd, bzLet, nI_1]; exact r2
theorem loud_c {σ : bzS} {N : Nat} (hN : N ≤ 8) : ∀ m v, m + v = 8 → N ≤ v → ∀ (f : Nat) (a : Int32), m < f → fl_X7_loudOf_4 5 (((1 : Int32) <<< (nI N &&& 31)) - 1) σ f a (nI v) = some a := by
  intro m
  induction m with
  | zero =>
    intro v hv hNv f a hf
    obtain ⟨f, rfl⟩ : ∃ q, f = q + 1 := ⟨f - 1, by omega⟩
    have e : v = 8 := by omega
    subst e
    simp only [fl_X7_loudOf_4, fb_X7_loudOf_4, if_pos (show (8 : Int32) ≤ nI 8 by decide)]
  | succ m ih =>
    intro v hv hNv f a hf
    obtain ⟨f, rfl⟩ : ∃ q, f = q + 1 := ⟨f - 1, by omega⟩
    have g8 : ¬ (8 : Int32) ≤ nI v := nI_ge (show v < 8 by omega) (by decide)
    have k := mask_c N (by omega) v (by omega)
    rw [if_neg (by omega)] at k
    simp only [fl_X7_loudOf_4, fb_X7_loudOf_4, if_neg g8, bzGdT (bzIn_nI (show v < 8 by omega) (by decide)), k, Int32.zero_mul, Int32.add_zero, bzLet, nI_1]
    exact ih (v + 1) (by omega) (by omega) f a (by omega)
theorem loud_a {σ : bzS} {N : Nat} (hN : N ≤ 8) (h2 : σ 96 2 = nI N) (h6 : ∀ i, i < N → σ 8 i = σ 96 (52 + 4 * i + 2)) : ∀ m v, m + v = N → ∀ (f g : Nat) (a : Int32), m + 9 < f → m < g → ∃ r, fl_X7_loudOf_4 5 (((1 : Int32) <<< (nI N &&& 31)) - 1) σ f a (nI v) = some r ∧ fl_X10_loudOf_4 95 255 σ g a (nI v) = some r := by
  intro m
  induction m with
  | zero =>
    intro v hv f g a hf hg
    obtain ⟨g, rfl⟩ : ∃ q, g = q + 1 := ⟨g - 1, by omega⟩
    refine ⟨a, loud_c hN (8 - v) v (by omega) (by omega) f a (by omega), ?_⟩
    simp only [fl_X10_loudOf_4, fb_X10_loudOf_4, l_95_0, h2, if_pos (show nI N ≤ nI v from Int32.not_lt.mp (nI_nlt (by omega) (by omega)))]
  | succ m ih =>
    intro v hv f g a hf hg
    obtain ⟨f, rfl⟩ : ∃ q, f = q + 1 := ⟨f - 1, by omega⟩
    obtain ⟨g, rfl⟩ : ∃ q, g = q + 1 := ⟨g - 1, by omega⟩
    have g8 : ¬ (8 : Int32) ≤ nI v := nI_ge (show v < 8 by omega) (by decide)
    have k := mask_c N (by omega) v (by omega)
    rw [if_pos (by omega)] at k
    have km := mask_m v (by omega)
    have its := its_m (i := v) (w := 2) (W := 2) (τ := σ) rfl (by omega) (by decide)
    obtain ⟨r, r1, r2⟩ := ih (v + 1) (by omega) f g (a + σ 96 (52 + 4 * v + 2)) (by omega) (by omega)
    refine ⟨r, ?_, ?_⟩
    · simp only [fl_X7_loudOf_4, fb_X7_loudOf_4, if_neg g8, bzGdT (bzIn_nI (show v < 8 by omega) (by decide)), k, Int32.one_mul, bzLet, nI_1, l_5_2, clN (show v < 2 ^ 31 by omega), h6 v (by omega)]
      exact r1
    · simp only [fl_X10_loudOf_4, fb_X10_loudOf_4, l_95_0, h2, if_neg (nI_ge (show v < N by omega) (by omega)), km, if_true, its, bzBd, bzLet, nI_1]
      exact r2
theorem st_count : bzSt_count bzInv := by
  intro a1 σ n hn hI
  obtain ⟨N, hN, s1, s2⟩ := sizeV hI
  have hC := cr_of_sr hI.1
  obtain ⟨z, hz, z1, z2, -⟩ := hI.2.2.2.2.2.2
  obtain ⟨r5, a5, b5⟩ := loud_a hN s1 (fun i hi => vis_c hC (i := i) (w := 2) (by omega) (by decide)) N 0 rfl 2000 2000 0 (by omega) (by omega)
  obtain ⟨r6, a6, b6⟩ := trees_a hI 8 0 rfl 2000 2000 0 (by omega) (by omega)
  have c5 : f_X7_loudOfAll 5 σ = some r5 := by
    simp only [f_X7_loudOfAll, f_X7_loudOf, g_0, g_95, g_1, g_2, g_5, g_18, g_24, g_26, g_79, g_80, g_72, l_0_0, l_0_1, l_0_3, l_0_4, l_0_5, l_0_6, l_0_7, l_1_0, l_1_1, l_1_2, l_1_3, l_2_0, l_2_1, l_2_2, l_2_3, l_2_4, l_5_0, l_5_1, l_5_2, l_5_3, l_18_0, l_18_1, l_18_2, l_18_3, l_18_4, l_24_0, l_26_0, l_79_0, l_80_0, l_95_0, l_95_1, l_95_2, l_95_3, l_95_6, l_95_16, l_95_17, l_95_18, l_95_19, l_95_20, l_95_21, l_95_22, bzBd, bzBp, bzLet, bzOp, f_X10_in, f_X9_within, e_f1, e_f2, e_f3, e_f4, e_f5, e_e1, e_e2, e_e3, e_e4, e_e5, s2]
    rw [show fl_X7_loudOf_4 5 (1 <<< (nI N &&& 31) - 1) σ 2000 0 0 = some r5 from a5]
  have d5 : f_X10_loudOf 95 255 σ = some r5 := by
    simp only [f_X10_loudOf, g_0, g_95, g_1, g_2, g_5, g_18, g_24, g_26, g_79, g_80, g_72, l_0_0, l_0_1, l_0_3, l_0_4, l_0_5, l_0_6, l_0_7, l_1_0, l_1_1, l_1_2, l_1_3, l_2_0, l_2_1, l_2_2, l_2_3, l_2_4, l_5_0, l_5_1, l_5_2, l_5_3, l_18_0, l_18_1, l_18_2, l_18_3, l_18_4, l_24_0, l_26_0, l_79_0, l_80_0, l_95_0, l_95_1, l_95_2, l_95_3, l_95_6, l_95_16, l_95_17, l_95_18, l_95_19, l_95_20, l_95_21, l_95_22, bzBd, bzBp, bzLet, bzOp, f_X10_in, f_X9_within, e_f1, e_f2, e_f3, e_f4, e_f5, e_e1, e_e2, e_e3, e_e4, e_e5]; exact b5
  have c6 : f_X1_treesOfAll 18 σ = some r6 := by
    simp only [f_X1_treesOfAll, g_0, g_95, g_1, g_2, g_5, g_18, g_24, g_26, g_79, g_80, g_72, l_0_0, l_0_1, l_0_3, l_0_4, l_0_5, l_0_6, l_0_7, l_1_0, l_1_1, l_1_2, l_1_3, l_2_0, l_2_1, l_2_2, l_2_3, l_2_4, l_5_0, l_5_1, l_5_2, l_5_3, l_18_0, l_18_1, l_18_2, l_18_3, l_18_4, l_24_0, l_26_0, l_79_0, l_80_0, l_95_0, l_95_1, l_95_2, l_95_3, l_95_6, l_95_16, l_95_17, l_95_18, l_95_19, l_95_20, l_95_21, l_95_22, bzBd, bzBp, bzLet, bzOp, f_X10_in, f_X9_within, e_f1, e_f2, e_f3, e_f4, e_f5, e_e1, e_e2, e_e3, e_e4, e_e5]; exact a6
  have d6 : f_X10_sumOfTrees 95 σ = some r6 := by
    simp only [f_X10_sumOfTrees, g_0, g_95, g_1, g_2, g_5, g_18, g_24, g_26, g_79, g_80, g_72, l_0_0, l_0_1, l_0_3, l_0_4, l_0_5, l_0_6, l_0_7, l_1_0, l_1_1, l_1_2, l_1_3, l_2_0, l_2_1, l_2_2, l_2_3, l_2_4, l_5_0, l_5_1, l_5_2, l_5_3, l_18_0, l_18_1, l_18_2, l_18_3, l_18_4, l_24_0, l_26_0, l_79_0, l_80_0, l_95_0, l_95_1, l_95_2, l_95_3, l_95_6, l_95_16, l_95_17, l_95_18, l_95_19, l_95_20, l_95_21, l_95_22, bzBd, bzBp, bzLet, bzOp, f_X10_in, f_X9_within, e_f1, e_f2, e_f3, e_f4, e_f5, e_e1, e_e2, e_e3, e_e4, e_e5]; exact b6
  have p0 : σ 5 4 = σ 96 2 := hI.1.1 2 rfl
  have p1 : σ 2 8 = σ 96 0 := hI.1.1 0 rfl
  have p2 : σ 2 5 = σ 96 3 := hI.1.1 3 rfl
  have p3 : σ 2 6 = σ 96 4 := hI.1.1 4 rfl
  have p4 : σ 2 7 = σ 96 5 := hI.1.1 5 rfl
  have p7 : σ 24 1 = σ 96 8 := hI.1.1 8 rfl
  have p8 : σ 26 1 = σ 96 9 := hI.1.1 9 rfl
  have p9 : σ 80 1 = σ 95 23 := z1.trans z2.symm
  have p10 : σ 1 4 = σ 96 1 := hI.1.1 1 rfl
  by_cases h : a1 = 0 ∨ a1 = 1 ∨ a1 = 2 ∨ a1 = 3 ∨ a1 = 4 ∨ a1 = 5 ∨ a1 = 6 ∨ a1 = 7 ∨ a1 = 8 ∨ a1 = 9 ∨ a1 = 10
  · have key : ∀ r, f_X9_count 0 a1 σ = some (r, σ) → f_X10_count 95 a1 σ = some (r, σ) → ∃ (r : Int32) (σ1 : bzS) (σ2 : bzS), f_X9_count 0 a1 σ = some (r, σ1) ∧ f_X10_count 95 a1 σ1 = some (r, σ2) ∧ bzInv (n + 1) σ2 := fun r h1 h2 => ⟨r, σ, σ, h1, h2, inv_mono _ _ hI⟩
    rcases h with rfl | rfl | rfl | rfl | rfl | rfl | rfl | rfl | rfl | rfl | rfl
    · exact key (σ 96 2) (congrArg (fun x => some (x, σ)) p0) rfl
    · exact key (σ 96 0) (congrArg (fun x => some (x, σ)) p1) rfl
    · exact key (σ 96 3) (congrArg (fun x => some (x, σ)) p2) rfl
    · exact key (σ 96 4) (congrArg (fun x => some (x, σ)) p3) rfl
    · exact key (σ 96 5) (congrArg (fun x => some (x, σ)) p4) rfl
    · refine key r5 ?_ ?_
      · have e : f_X9_count 0 5 σ = bzBd (f_X7_loudOfAll 5 σ) (fun x => some (x, σ)) := rfl
        rw [e, c5]; rfl
      · show bzBd (f_X10_loudOf 95 255 σ) _ = _
        rw [d5]; rfl
    · refine key r6 ?_ ?_
      · have e : f_X9_count 0 6 σ = bzBd (f_X1_treesOfAll 18 σ) (fun x => some (x, σ)) := rfl
        rw [e, c6]; rfl
      · show bzBd (f_X10_sumOfTrees 95 σ) _ = _
        rw [d6]; rfl
    · exact key (σ 96 8) (congrArg (fun x => some (x, σ)) p7) rfl
    · exact key (σ 96 9) (congrArg (fun x => some (x, σ)) p8) rfl
    · exact key (σ 95 23) (congrArg (fun x => some (x, σ)) p9) rfl
    · exact key (σ 96 1) (congrArg (fun x => some (x, σ)) p10) rfl
  · simp only [not_or] at h
    obtain ⟨h0, h1, h2, h3, h4, h5, h6, h7, h8, h9, h10⟩ := h
    refine err1 hI ?_ (fun τ ht => ?_)
    · simp [f_X9_count, g_0, g_95, g_1, g_2, g_5, g_18, g_24, g_26, g_79, g_80, g_72, l_0_0, l_0_1, l_0_3, l_0_4, l_0_5, l_0_6, l_0_7, l_1_0, l_1_1, l_1_2, l_1_3, l_2_0, l_2_1, l_2_2, l_2_3, l_2_4, l_5_0, l_5_1, l_5_2, l_5_3, l_18_0, l_18_1, l_18_2, l_18_3, l_18_4, l_24_0, l_26_0, l_79_0, l_80_0, l_95_0, l_95_1, l_95_2, l_95_3, l_95_6, l_95_16, l_95_17, l_95_18, l_95_19, l_95_20, l_95_21, l_95_22, bzBd, bzBp, bzLet, bzOp, f_X10_in, f_X9_within, e_f1, e_f2, e_f3, e_f4, e_f5, e_e1, e_e2, e_e3, e_e4, e_e5, h0, h1, h2, h3, h4, h5, h6, h7, h8, h9, h10]
    · simp [f_X10_count, g_0, g_95, g_1, g_2, g_5, g_18, g_24, g_26, g_79, g_80, g_72, l_0_0, l_0_1, l_0_3, l_0_4, l_0_5, l_0_6, l_0_7, l_1_0, l_1_1, l_1_2, l_1_3, l_2_0, l_2_1, l_2_2, l_2_3, l_2_4, l_5_0, l_5_1, l_5_2, l_5_3, l_18_0, l_18_1, l_18_2, l_18_3, l_18_4, l_24_0, l_26_0, l_79_0, l_80_0, l_95_0, l_95_1, l_95_2, l_95_3, l_95_6, l_95_16, l_95_17, l_95_18, l_95_19, l_95_20, l_95_21, l_95_22, bzBd, bzBp, bzLet, bzOp, f_X10_in, f_X9_within, e_f1, e_f2, e_f3, e_f4, e_f5, e_e1, e_e2, e_e3, e_e4, e_e5, h0, h1, h2, h3, h4, h5, h6, h7, h8, h9, h10]
