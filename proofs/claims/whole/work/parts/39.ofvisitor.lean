set_option linter.unusedVariables false
theorem cr_of_sr {σ : bzS} {b : Nat} {f : Nat → Int32} (h : bzSR σ b f) : bzCR σ b f := ⟨fun p hp => h.1 p (cpB_pl p (cpB_lt hp) hp), h.2.1⟩
/-- the row of a standing visitor, in the class -/
theorem vis_c {σ : bzS} {b : Nat} {f : Nat → Int32} (h : bzCR σ b f) {i w : Nat} (hi : i < 8) (hw : w < 4) : σ (b + 4 + w + 1) i = f (52 + 4 * i + w) := by
  obtain ⟨p0, m0, j0, x0⟩ := vis_p i hi w hw
  have q := h.1 (52 + 4 * i + w) (by unfold cpB; exact decide_eq_true (by omega))
  rw [m0, j0] at q
  rw [show b + 4 + w + 1 = b + (5 + w) by omega]; exact q
theorem yearN {n : Nat} {σ : bzS} (hI : bzInv n σ) : ∃ y : Nat, y ≤ 9999 ∧ σ 96 0 = nI y := hI.2.1.2
theorem st_ofVisitor : bzSt_ofVisitor bzInv := by
  intro a1 a2 σ n hn hI
  rcases hasV hI a1 with ⟨h1, h2⟩ | ⟨i, N, e1, hi, hN, s1, s2, b1, n1, h1, h2⟩
  · refine err1 hI ?_ (fun τ ht => ?_)
    · simp [f_X9_ofVisitor, g_0, g_95, g_1, g_2, g_5, g_18, g_24, g_26, g_79, g_80, g_72, l_0_0, l_0_1, l_0_3, l_0_4, l_0_5, l_0_6, l_0_7, l_1_0, l_1_1, l_1_2, l_1_3, l_2_0, l_2_1, l_2_2, l_2_3, l_2_4, l_5_0, l_5_1, l_5_2, l_5_3, l_18_0, l_18_1, l_18_2, l_18_3, l_18_4, l_24_0, l_26_0, l_79_0, l_80_0, l_95_0, l_95_1, l_95_2, l_95_3, l_95_6, l_95_16, l_95_17, l_95_18, l_95_19, l_95_20, l_95_21, l_95_22, bzBd, bzBp, bzLet, bzOp, f_X10_in, f_X9_within, e_f1, e_f2, e_f3, e_f4, e_f5, e_e1, e_e2, e_e3, e_e4, e_e5, h1]
    · simp [f_X10_ofVisitor, g_0, g_95, g_1, g_2, g_5, g_18, g_24, g_26, g_79, g_80, g_72, l_0_0, l_0_1, l_0_3, l_0_4, l_0_5, l_0_6, l_0_7, l_1_0, l_1_1, l_1_2, l_1_3, l_2_0, l_2_1, l_2_2, l_2_3, l_2_4, l_5_0, l_5_1, l_5_2, l_5_3, l_18_0, l_18_1, l_18_2, l_18_3, l_18_4, l_24_0, l_26_0, l_79_0, l_80_0, l_95_0, l_95_1, l_95_2, l_95_3, l_95_6, l_95_16, l_95_17, l_95_18, l_95_19, l_95_20, l_95_21, l_95_22, bzBd, bzBp, bzLet, bzOp, f_X10_in, f_X9_within, e_f1, e_f2, e_f3, e_f4, e_f5, e_e1, e_e2, e_e3, e_e4, e_e5, h2 τ ht]
  have hv := h2 σ s1
  rcases cut a2 (n := 5) (m := 6) (N := 5) (M := 6) rfl rfl rfl (by decide) with c2 | ⟨c2, c2', -⟩ | ⟨c2, c2', -, w, hw, e2, b2, n2⟩
  · refine err1 hI ?_ (fun τ ht => ?_)
    · simp [f_X9_ofVisitor, g_0, g_95, g_1, g_2, g_5, g_18, g_24, g_26, g_79, g_80, g_72, l_0_0, l_0_1, l_0_3, l_0_4, l_0_5, l_0_6, l_0_7, l_1_0, l_1_1, l_1_2, l_1_3, l_2_0, l_2_1, l_2_2, l_2_3, l_2_4, l_5_0, l_5_1, l_5_2, l_5_3, l_18_0, l_18_1, l_18_2, l_18_3, l_18_4, l_24_0, l_26_0, l_79_0, l_80_0, l_95_0, l_95_1, l_95_2, l_95_3, l_95_6, l_95_16, l_95_17, l_95_18, l_95_19, l_95_20, l_95_21, l_95_22, bzBd, bzBp, bzLet, bzOp, f_X10_in, f_X9_within, e_f1, e_f2, e_f3, e_f4, e_f5, e_e1, e_e2, e_e3, e_e4, e_e5, h1, c2]
    · have hv : f_X10_isVisitor 95 a1 τ = some 1 := h2 τ (by rw [ht 96 (by decide)]; exact s1)
      simp [f_X10_ofVisitor, g_0, g_95, g_1, g_2, g_5, g_18, g_24, g_26, g_79, g_80, g_72, l_0_0, l_0_1, l_0_3, l_0_4, l_0_5, l_0_6, l_0_7, l_1_0, l_1_1, l_1_2, l_1_3, l_2_0, l_2_1, l_2_2, l_2_3, l_2_4, l_5_0, l_5_1, l_5_2, l_5_3, l_18_0, l_18_1, l_18_2, l_18_3, l_18_4, l_24_0, l_26_0, l_79_0, l_80_0, l_95_0, l_95_1, l_95_2, l_95_3, l_95_6, l_95_16, l_95_17, l_95_18, l_95_19, l_95_20, l_95_21, l_95_22, bzBd, bzBp, bzLet, bzOp, f_X10_in, f_X9_within, e_f1, e_f2, e_f3, e_f4, e_f5, e_e1, e_e2, e_e3, e_e4, e_e5, hv, c2]
  · refine err1 hI ?_ (fun τ ht => ?_)
    · simp [f_X9_ofVisitor, g_0, g_95, g_1, g_2, g_5, g_18, g_24, g_26, g_79, g_80, g_72, l_0_0, l_0_1, l_0_3, l_0_4, l_0_5, l_0_6, l_0_7, l_1_0, l_1_1, l_1_2, l_1_3, l_2_0, l_2_1, l_2_2, l_2_3, l_2_4, l_5_0, l_5_1, l_5_2, l_5_3, l_18_0, l_18_1, l_18_2, l_18_3, l_18_4, l_24_0, l_26_0, l_79_0, l_80_0, l_95_0, l_95_1, l_95_2, l_95_3, l_95_6, l_95_16, l_95_17, l_95_18, l_95_19, l_95_20, l_95_21, l_95_22, bzBd, bzBp, bzLet, bzOp, f_X10_in, f_X9_within, e_f1, e_f2, e_f3, e_f4, e_f5, e_e1, e_e2, e_e3, e_e4, e_e5, h1, c2, c2']
    · have hv : f_X10_isVisitor 95 a1 τ = some 1 := h2 τ (by rw [ht 96 (by decide)]; exact s1)
      simp [f_X10_ofVisitor, g_0, g_95, g_1, g_2, g_5, g_18, g_24, g_26, g_79, g_80, g_72, l_0_0, l_0_1, l_0_3, l_0_4, l_0_5, l_0_6, l_0_7, l_1_0, l_1_1, l_1_2, l_1_3, l_2_0, l_2_1, l_2_2, l_2_3, l_2_4, l_5_0, l_5_1, l_5_2, l_5_3, l_18_0, l_18_1, l_18_2, l_18_3, l_18_4, l_24_0, l_26_0, l_79_0, l_80_0, l_95_0, l_95_1, l_95_2, l_95_3, l_95_6, l_95_16, l_95_17, l_95_18, l_95_19, l_95_20, l_95_21, l_95_22, bzBd, bzBp, bzLet, bzOp, f_X10_in, f_X9_within, e_f1, e_f2, e_f3, e_f4, e_f5, e_e1, e_e2, e_e3, e_e4, e_e5, hv, c2, c2']
  have hC := cr_of_sr hI.1
  obtain ⟨y, hy, ey⟩ := yearN hI
  subst e1
  have v0 : σ 6 i = σ 96 (52 + 4 * i + 0) := vis_c hC (i := i) (w := 0) (by omega) (by decide)
  have v1 : σ 7 i = σ 96 (52 + 4 * i + 1) := vis_c hC (i := i) (w := 1) (by omega) (by decide)
  have v2 : σ 8 i = σ 96 (52 + 4 * i + 2) := vis_c hC (i := i) (w := 2) (by omega) (by decide)
  have v3 : σ 9 i = σ 96 (52 + 4 * i + 3) := vis_c hC (i := i) (w := 3) (by omega) (by decide)
  have r0 := its_m (i := i) (w := 0) (W := 0) (τ := σ) rfl (by omega) (by decide)
  have r1 := its_m (i := i) (w := 1) (W := 1) (τ := σ) rfl (by omega) (by decide)
  have r2 := its_m (i := i) (w := 2) (W := 2) (τ := σ) rfl (by omega) (by decide)
  have r3 := its_m (i := i) (w := 3) (W := 3) (τ := σ) rfl (by omega) (by decide)
  have eN : ¬ σ 96 (52 + 4 * i + 3) = 0 := by
    have := hI.2.1.1.2 i (by omega) (by rw [s1]; exact nI_lt hi (by omega))
    rw [show 52 + 4 * i + 3 = 55 + 4 * i by omega]; exact this
  have eP : ¬ σ 9 i ≤ 0 := by
    obtain ⟨p0, m0, j0, x0⟩ := vis_p i (by omega) 3 (by decide)
    obtain ⟨k, hk, ek⟩ := hI.2.1.1.1 (52 + 4 * i + 3) p0 (by omega) (by omega)
    rw [v3, ek]
    rw [ek] at eN
    intro h
    rw [x0] at hk
    have hk : k ≤ 12 := hk
    rw [Int32.le_iff_toInt_le, nI_toInt (by omega)] at h
    have : (0 : Int32).toInt = 0 := rfl
    exact eN (by rw [show k = 0 by omega]; rfl)
  have a5 : ¬ nI i = σ 5 5 := by
    rw [hI.1.2.2.2.2]
    intro h
    have := congrArg Int32.toInt h
    rw [nI_toInt (by omega)] at this
    have e : (-1 : Int32).toInt = -1 := rfl
    omega
  have y8 : σ 2 8 = nI y := (hC.1 0 rfl).trans ey
  have w5 : σ 2 5 = σ 96 3 := hC.1 3 rfl
  have cc := comes_c (σ := σ) (V := 5) (i := i) (y := nI y) (r := pRain (σ 96) y) (Or.inl rfl) hi hN s2 a5 eP
  have kc := keeps_c (σ := σ) (V := 5) (i := i) (w := σ 96 3) (h := pHeat (σ 96) y) (Or.inl rfl) hi hN s2
  have cm := comes_m (σ := σ) (i := i) (y := y) (by omega) ey (by omega) eN
  have km := keeps_m (σ := σ) (i := i) (y := y) (by omega) ey (by omega)
  have hc : f_X0_heatNow 2 σ = _ := heat_c (b := 1) (Or.inl rfl) hC ey (by omega)
  have rc : f_X0_rainNow 2 σ = _ := rain_c (b := 1) (Or.inl rfl) hC ey (by omega)
  rw [show σ (5 + 1) i = σ 6 i from rfl, show σ (5 + 2) i = σ 7 i from rfl, show σ (5 + 4) i = σ 9 i from rfl, v0, v1, v3] at cc
  rw [show σ (5 + 1) i = σ 6 i from rfl, show σ (5 + 2) i = σ 7 i from rfl, show σ (5 + 3) i = σ 8 i from rfl, v0, v1, v2] at kc
  refine ⟨if w = 0 then σ 96 (52 + 4 * i + 0) else if w = 1 then σ 96 (52 + 4 * i + 1) else if w = 2 then σ 96 (52 + 4 * i + 2) else if w = 3 then σ 96 (52 + 4 * i + 3) else if w = 4 then pComes (σ 96 (52 + 4 * i + 0)) (σ 96 (52 + 4 * i + 1)) (σ 96 (52 + 4 * i + 3)) (nI y) (pRain (σ 96) y) else pKeeps (σ 96 (52 + 4 * i + 0)) (σ 96 (52 + 4 * i + 1)) (σ 96 (52 + 4 * i + 2)) (σ 96 3) (pHeat (σ 96) y), σ, σ, ?_, ?_, inv_mono _ _ hI⟩
  · simp only [f_X9_ofVisitor, g_0, g_95, g_1, g_2, g_5, g_18, g_24, g_26, g_79, g_80, g_72, l_0_0, l_0_1, l_0_3, l_0_4, l_0_5, l_0_6, l_0_7, l_1_0, l_1_1, l_1_2, l_1_3, l_2_0, l_2_1, l_2_2, l_2_3, l_2_4, l_5_0, l_5_1, l_5_2, l_5_3, l_18_0, l_18_1, l_18_2, l_18_3, l_18_4, l_24_0, l_26_0, l_79_0, l_80_0, l_95_0, l_95_1, l_95_2, l_95_3, l_95_6, l_95_16, l_95_17, l_95_18, l_95_19, l_95_20, l_95_21, l_95_22, bzBd, bzBp, bzLet, bzOp, f_X10_in, f_X9_within, e_f1, e_f2, e_f3, e_f4, e_f5, e_e1, e_e2, e_e3, e_e4, e_e5, h1, if_neg one_ne, if_neg c2, if_neg c2', bzGdT b1, clN (show i < 2 ^ 31 by omega), v0, v1, v2, v3, rc, hc, y8, cc, kc, w5]
    subst e2
    rcases (show w = 0 ∨ w = 1 ∨ w = 2 ∨ w = 3 ∨ w = 4 ∨ w = 5 by omega) with rfl | rfl | rfl | rfl | rfl | rfl
    all_goals first | rfl | skip
    rcases pComes_01 (σ 96 (52 + 4 * i + 0)) (σ 96 (52 + 4 * i + 1)) (σ 96 (52 + 4 * i + 3)) (nI y) (pRain (σ 96) y) with e | e <;> rw [e] <;> rfl
  · simp only [f_X10_ofVisitor, g_0, g_95, g_1, g_2, g_5, g_18, g_24, g_26, g_79, g_80, g_72, l_0_0, l_0_1, l_0_3, l_0_4, l_0_5, l_0_6, l_0_7, l_1_0, l_1_1, l_1_2, l_1_3, l_2_0, l_2_1, l_2_2, l_2_3, l_2_4, l_5_0, l_5_1, l_5_2, l_5_3, l_18_0, l_18_1, l_18_2, l_18_3, l_18_4, l_24_0, l_26_0, l_79_0, l_80_0, l_95_0, l_95_1, l_95_2, l_95_3, l_95_6, l_95_16, l_95_17, l_95_18, l_95_19, l_95_20, l_95_21, l_95_22, bzBd, bzBp, bzLet, bzOp, f_X10_in, f_X9_within, e_f1, e_f2, e_f3, e_f4, e_f5, e_e1, e_e2, e_e3, e_e4, e_e5, hv, if_neg one_ne, if_neg c2, if_neg c2', cm, km]
    subst e2
    rcases (show w = 0 ∨ w = 1 ∨ w = 2 ∨ w = 3 ∨ w = 4 ∨ w = 5 by omega) with rfl | rfl | rfl | rfl | rfl | rfl
    · rw [show nI 0 = 0 from rfl, r0]; rfl
    · rw [show nI 1 = 1 from rfl, r1]; rfl
    · rw [show nI 2 = 2 from rfl, r2]; rfl
    · rw [show nI 3 = 3 from rfl, r3]; rfl
    · rcases pComes_01 (σ 96 (52 + 4 * i + 0)) (σ 96 (52 + 4 * i + 1)) (σ 96 (52 + 4 * i + 3)) (nI y) (pRain (σ 96) y) with e | e <;> rw [e] <;> rfl
    · rfl
