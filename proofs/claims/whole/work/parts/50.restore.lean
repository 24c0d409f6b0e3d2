set_option linter.unusedVariables false
theorem st_restore : bzSt_restore bzInv := by
  intro σ n hn hI
  obtain ⟨k, hk, k1, k2, k3⟩ := id hI.2.2.2.1
  rcases k3 with ⟨k0, k4⟩ | ⟨k0, k4, kS, kR, kY⟩
  · subst k0
    have k1 : σ 0 2 = 0 := k1
    refine err2 hI ?_ (fun τ ht => ?_)
    · simp [f_X9_restore, g_0, g_95, g_1, g_2, g_5, g_18, g_24, g_26, g_79, g_80, g_72, l_0_0, l_0_1, l_0_3, l_0_4, l_0_5, l_0_6, l_0_7, l_1_0, l_1_1, l_1_2, l_1_3, l_2_0, l_2_1, l_2_2, l_2_3, l_2_4, l_5_0, l_5_1, l_5_2, l_5_3, l_18_0, l_18_1, l_18_2, l_18_3, l_18_4, l_24_0, l_26_0, l_79_0, l_80_0, l_95_0, l_95_1, l_95_2, l_95_3, l_95_6, l_95_16, l_95_17, l_95_18, l_95_19, l_95_20, l_95_21, l_95_22, bzBd, bzBp, bzLet, bzOp, f_X10_in, f_X9_within, e_f1, e_f2, e_f3, e_f4, e_f5, e_e1, e_e2, e_e3, e_e4, e_e5, k1]
    · have : τ 95 4 = 0 := by rw [ht 95 (by decide)]; exact k4
      simp [f_X10_restore, g_0, g_95, g_1, g_2, g_5, g_18, g_24, g_26, g_79, g_80, g_72, l_0_0, l_0_1, l_0_3, l_0_4, l_0_5, l_0_6, l_0_7, l_1_0, l_1_1, l_1_2, l_1_3, l_2_0, l_2_1, l_2_2, l_2_3, l_2_4, l_5_0, l_5_1, l_5_2, l_5_3, l_18_0, l_18_1, l_18_2, l_18_3, l_18_4, l_24_0, l_26_0, l_79_0, l_80_0, l_95_0, l_95_1, l_95_2, l_95_3, l_95_6, l_95_16, l_95_17, l_95_18, l_95_19, l_95_20, l_95_21, l_95_22, bzBd, bzBp, bzLet, bzOp, f_X10_in, f_X9_within, e_f1, e_f2, e_f3, e_f4, e_f5, e_e1, e_e2, e_e3, e_e4, e_e5, this]
  obtain ⟨i1, ⟨i2, i3⟩, i4, i5, i6, i7, i8⟩ := hI
  obtain ⟨τ, t1, t2, t3⟩ := cps_1 kS kR
  have n0 : ¬ nI k = 0 := fun h => absurd ((nI_eq (a := k) (b := 0) (by omega) (by decide)).mp h) (by omega)
  have y8 : τ 2 8 = σ 97 0 := t3.1 0 rfl
  have c1 : f_X9_restore 0 σ = some (σ 97 0, τ) := by
    have u : f_X9_restore 0 σ = (if σ 0 2 = 0 then (bzBp (f_X9_fails 0 ((-1000000002)) σ) (fun x5 σ6 => some (x5, σ6))) else bzBd (f_X6_copyFrom 1 28 σ) (fun s => some (s 2 8, s))) := rfl
    rw [u, k1, if_neg n0, t1, bzBdS, y8]
  obtain ⟨ρ, r1, r2, r3⟩ := mvAll (a := 97) (b := 96) rfl rfl rfl rfl (by decide) 254 0 rfl 2000 τ (by decide) (fun j hj => absurd hj (Nat.not_lt_zero _))
  have t97 : τ 97 = σ 97 := t2 97 (by decide)
  have m1 : f_X10_restore 95 τ = some (σ 97 0, ρ) := by
    have u : f_X10_restore 95 τ = (if τ 95 4 = 0 then (bzBp (f_X10_errs 95 ((-1000000002)) τ) (fun x5 σ6 => some (x5, σ6))) else bzBd (fl_X10_moveAll_2 95 97 96 2000 0 τ) (fun s => some (s 96 0, s))) := rfl
    rw [u, t2 95 (by decide), k4, if_neg one_ne, show (0 : Int32) = nI 0 from rfl, r1, bzBdS, r3 0 (by decide), t97]
  refine ⟨_, _, _, c1, m1, inv_mono _ _ ?_⟩
  have eo : ∀ q, q ≠ 96 → (q < 1 ∨ 27 < q) → ρ q = σ q := fun q h1 h2 => by rw [r2 q h1, t2 q (by omega)]
  have e96 : ∀ j, j < 254 → ρ 96 j = σ 97 j := fun j hj => by rw [r3 j hj, t97]
  have e95 : ρ 95 = σ 95 := eo 95 (by decide) (by decide)
  have e97 : ρ 97 = σ 97 := eo 97 (by decide) (by decide)
  refine ⟨?_, ⟨kR.ext3 e96, by rw [e96 0 (by decide)]; exact kY⟩, by rw [e95]; exact i4, ⟨k, hk, by rw [eo 0 (by decide) (by decide)]; exact k1, by rw [e95]; exact k2, Or.inr ⟨k0, by rw [e95]; exact k4, ?_, by rw [e97]; exact kR, by rw [e97]; exact kY⟩⟩, ?_, ?_, ?_⟩
  · exact (t3.frame (fun q h1 h2 => r2 q (by omega))).ext3 e96
  · rw [e97]
    exact kS.frame (fun q h1 h2 => eo q (by omega) (by omega))
  · intro q h1 h2
    rw [eo 82 (by decide) (by decide), eo 100 (by decide) (by decide)]; exact i6 q h1 h2
  · intro s hs
    rw [eo (83 + 3 * s) (by omega) (by omega), eo (84 + 3 * s) (by omega) (by omega), eo (85 + 3 * s) (by omega) (by omega), eo 101 (by decide) (by decide), eo 102 (by decide) (by decide), eo 103 (by decide) (by decide)]
    exact i7 s hs
  · rw [eo 80 (by decide) (by decide), eo 81 (by decide) (by decide), e95, eo 107 (by decide) (by decide)]
    exact i8
