set_option linter.unusedVariables false
theorem upd_com {f : Nat → Int32} {a b : Nat} {x y : Int32} (h : a ≠ b) : upd (upd f a x) b y = upd (upd f b y) a x := by
  funext k
  by_cases h1 : k = a
  · subst h1; rw [pk_un h, pk_us, pk_us]
  · by_cases h2 : k = b
    · subst h2; rw [pk_us, pk_un h1, pk_us]
    · rw [pk_un h2, pk_un h1, pk_un h1, pk_un h2]
theorem mc_25 : ∀ p, p < 84 → mc p = 25 → p = 9 := by decide +kernel
/-- two places of a visitor are set, on both sides -/
theorem st_become : bzSt_become bzInv := by
  intro a1 a2 σ n hn hI
  rcases hasV hI a1 with ⟨h1, h2⟩ | ⟨i, N, e1, hi, hN, s1, s2, b1, n1, h1, h2⟩
  · refine err1 hI ?_ (fun τ ht => ?_)
    · simp [f_X9_become, g_0, g_95, g_1, g_2, g_5, g_18, g_24, g_26, g_79, g_80, g_72, l_0_0, l_0_1, l_0_3, l_0_4, l_0_5, l_0_6, l_0_7, l_1_0, l_1_1, l_1_2, l_1_3, l_2_0, l_2_1, l_2_2, l_2_3, l_2_4, l_5_0, l_5_1, l_5_2, l_5_3, l_18_0, l_18_1, l_18_2, l_18_3, l_18_4, l_24_0, l_26_0, l_79_0, l_80_0, l_95_0, l_95_1, l_95_2, l_95_3, l_95_6, l_95_16, l_95_17, l_95_18, l_95_19, l_95_20, l_95_21, l_95_22, bzBd, bzBp, bzLet, bzOp, f_X10_in, f_X9_within, e_f1, e_f2, e_f3, e_f4, e_f5, e_e1, e_e2, e_e3, e_e4, e_e5, h1]
    · simp [f_X10_become, g_0, g_95, g_1, g_2, g_5, g_18, g_24, g_26, g_79, g_80, g_72, l_0_0, l_0_1, l_0_3, l_0_4, l_0_5, l_0_6, l_0_7, l_1_0, l_1_1, l_1_2, l_1_3, l_2_0, l_2_1, l_2_2, l_2_3, l_2_4, l_5_0, l_5_1, l_5_2, l_5_3, l_18_0, l_18_1, l_18_2, l_18_3, l_18_4, l_24_0, l_26_0, l_79_0, l_80_0, l_95_0, l_95_1, l_95_2, l_95_3, l_95_6, l_95_16, l_95_17, l_95_18, l_95_19, l_95_20, l_95_21, l_95_22, bzBd, bzBp, bzLet, bzOp, f_X10_in, f_X9_within, e_f1, e_f2, e_f3, e_f4, e_f5, e_e1, e_e2, e_e3, e_e4, e_e5, h2 τ ht]
  · have hτ : ∀ τ : bzS, (∀ q, q ≠ 82 → τ q = σ q) → τ 96 2 = nI N := fun τ ht => by rw [ht 96 (by decide)]; exact s1
    rcases cut a2 (n := 69) (m := 70) (N := 69) (M := 70) rfl rfl rfl (by decide) with c2 | ⟨c2, c2', -⟩ | ⟨c2, c2', -, v, hv, e2, b2, n2⟩
    · refine err1 hI ?_ (fun τ ht => ?_)
      · simp [f_X9_become, g_0, g_95, g_1, g_2, g_5, g_18, g_24, g_26, g_79, g_80, g_72, l_0_0, l_0_1, l_0_3, l_0_4, l_0_5, l_0_6, l_0_7, l_1_0, l_1_1, l_1_2, l_1_3, l_2_0, l_2_1, l_2_2, l_2_3, l_2_4, l_5_0, l_5_1, l_5_2, l_5_3, l_18_0, l_18_1, l_18_2, l_18_3, l_18_4, l_24_0, l_26_0, l_79_0, l_80_0, l_95_0, l_95_1, l_95_2, l_95_3, l_95_6, l_95_16, l_95_17, l_95_18, l_95_19, l_95_20, l_95_21, l_95_22, bzBd, bzBp, bzLet, bzOp, f_X10_in, f_X9_within, e_f1, e_f2, e_f3, e_f4, e_f5, e_e1, e_e2, e_e3, e_e4, e_e5, h1, c2]
      · simp [f_X10_become, g_0, g_95, g_1, g_2, g_5, g_18, g_24, g_26, g_79, g_80, g_72, l_0_0, l_0_1, l_0_3, l_0_4, l_0_5, l_0_6, l_0_7, l_1_0, l_1_1, l_1_2, l_1_3, l_2_0, l_2_1, l_2_2, l_2_3, l_2_4, l_5_0, l_5_1, l_5_2, l_5_3, l_18_0, l_18_1, l_18_2, l_18_3, l_18_4, l_24_0, l_26_0, l_79_0, l_80_0, l_95_0, l_95_1, l_95_2, l_95_3, l_95_6, l_95_16, l_95_17, l_95_18, l_95_19, l_95_20, l_95_21, l_95_22, bzBd, bzBp, bzLet, bzOp, f_X10_in, f_X9_within, e_f1, e_f2, e_f3, e_f4, e_f5, e_e1, e_e2, e_e3, e_e4, e_e5, h2 τ (hτ τ ht), c2]
    · refine err1 hI ?_ (fun τ ht => ?_)
      · simp [f_X9_become, g_0, g_95, g_1, g_2, g_5, g_18, g_24, g_26, g_79, g_80, g_72, l_0_0, l_0_1, l_0_3, l_0_4, l_0_5, l_0_6, l_0_7, l_1_0, l_1_1, l_1_2, l_1_3, l_2_0, l_2_1, l_2_2, l_2_3, l_2_4, l_5_0, l_5_1, l_5_2, l_5_3, l_18_0, l_18_1, l_18_2, l_18_3, l_18_4, l_24_0, l_26_0, l_79_0, l_80_0, l_95_0, l_95_1, l_95_2, l_95_3, l_95_6, l_95_16, l_95_17, l_95_18, l_95_19, l_95_20, l_95_21, l_95_22, bzBd, bzBp, bzLet, bzOp, f_X10_in, f_X9_within, e_f1, e_f2, e_f3, e_f4, e_f5, e_e1, e_e2, e_e3, e_e4, e_e5, h1, c2, c2']
      · simp [f_X10_become, g_0, g_95, g_1, g_2, g_5, g_18, g_24, g_26, g_79, g_80, g_72, l_0_0, l_0_1, l_0_3, l_0_4, l_0_5, l_0_6, l_0_7, l_1_0, l_1_1, l_1_2, l_1_3, l_2_0, l_2_1, l_2_2, l_2_3, l_2_4, l_5_0, l_5_1, l_5_2, l_5_3, l_18_0, l_18_1, l_18_2, l_18_3, l_18_4, l_24_0, l_26_0, l_79_0, l_80_0, l_95_0, l_95_1, l_95_2, l_95_3, l_95_6, l_95_16, l_95_17, l_95_18, l_95_19, l_95_20, l_95_21, l_95_22, bzBd, bzBp, bzLet, bzOp, f_X10_in, f_X9_within, e_f1, e_f2, e_f3, e_f4, e_f5, e_e1, e_e2, e_e3, e_e4, e_e5, h2 τ (hτ τ ht), c2, c2']
    · have ed : a2 / 10 = nI (v / 10) := by rw [e2]; exact pk_div (d := 10) (by omega) (by decide) (by decide)
      have er : a2 - a2 / 10 * 10 = nI (v % 10) := by rw [e2]; exact pk_rem (d := 10) (by omega) (by decide) (by decide)
      obtain ⟨p0, m0, j0, x0⟩ := vis_p i (by omega) 0 (by decide)
      obtain ⟨p1, m1, j1, x1⟩ := vis_p i (by omega) 1 (by decide)
      have q1 := inv_set (p := 52 + 4 * i + 0) (v := nI (v / 10)) hI p0 (by omega) (by omega) (by omega) (fun _ => by rw [x0, if_pos rfl]; exact ⟨v / 10, by omega, rfl⟩) (fun q hq e => absurd e (by omega))
      rw [m0, j0] at q1
      have q2 := inv_mono _ _ (inv_set (p := 52 + 4 * i + 1) (v := nI (v % 10)) q1 p1 (by omega) (by omega) (by omega) (fun _ => by rw [x1, if_neg (by decide), if_neg (by decide)]; exact ⟨v % 10, by omega, rfl⟩) (fun q hq e => absurd e (by omega)))
      rw [m1, j1] at q2
      have hcx : f_X9_become 0 a1 a2 σ = some (σ 6 i, bzSt (bzSt σ 6 i (nI (v / 10))) 7 i (nI (v % 10))) := by
        simp [f_X9_become, g_0, g_95, g_1, g_2, g_5, g_18, g_24, g_26, g_79, g_80, g_72, l_0_0, l_0_1, l_0_3, l_0_4, l_0_5, l_0_6, l_0_7, l_1_0, l_1_1, l_1_2, l_1_3, l_2_0, l_2_1, l_2_2, l_2_3, l_2_4, l_5_0, l_5_1, l_5_2, l_5_3, l_18_0, l_18_1, l_18_2, l_18_3, l_18_4, l_24_0, l_26_0, l_79_0, l_80_0, l_95_0, l_95_1, l_95_2, l_95_3, l_95_6, l_95_16, l_95_17, l_95_18, l_95_19, l_95_20, l_95_21, l_95_22, bzBd, bzBp, bzLet, bzOp, f_X10_in, f_X9_within, e_f1, e_f2, e_f3, e_f4, e_f5, e_e1, e_e2, e_e3, e_e4, e_e5, h1, c2, c2', bzGdT b1, n1]
        rw [er, ed]
      refine ⟨σ 6 i, _, bzSt (bzSt (bzSt (bzSt σ 6 i (nI (v / 10))) 7 i (nI (v % 10))) 96 (52 + 4 * i + 1) (nI (v % 10))) 96 (52 + 4 * i + 0) (nI (v / 10)), hcx, ?_, ?_⟩
      · have hv2 := h2 (bzSt (bzSt σ 6 i (nI (v / 10))) 7 i (nI (v % 10))) (by rw [st_o (by decide), st_o (by decide)]; exact s1)
        have ea : 52 + 4 * nI i = nI (52 + 4 * i + 0) := by rw [show (52 : Int32) = nI 52 from rfl, show (4 : Int32) = nI 4 from rfl, pk_mul, nI_add]; rfl
        have r0 := hI.1.1 _ p0
        rw [m0, j0] at r0
        simp only [f_X10_become, g_0, g_95, g_1, g_2, g_5, g_18, g_24, g_26, g_79, g_80, g_72, l_0_0, l_0_1, l_0_3, l_0_4, l_0_5, l_0_6, l_0_7, l_1_0, l_1_1, l_1_2, l_1_3, l_2_0, l_2_1, l_2_2, l_2_3, l_2_4, l_5_0, l_5_1, l_5_2, l_5_3, l_18_0, l_18_1, l_18_2, l_18_3, l_18_4, l_24_0, l_26_0, l_79_0, l_80_0, l_95_0, l_95_1, l_95_2, l_95_3, l_95_6, l_95_16, l_95_17, l_95_18, l_95_19, l_95_20, l_95_21, l_95_22, bzBd, bzBp, bzLet, bzOp, f_X10_in, f_X9_within, e_f1, e_f2, e_f3, e_f4, e_f5, e_e1, e_e2, e_e3, e_e4, e_e5, hv2, if_neg one_ne, if_neg c2, if_neg c2']
        rw [er, ed, e1, e_puts (k := i) (w := 1) (W := 1) rfl (by omega)]
        have eb := e_becomes (p := 52 + 4 * i + 0) (v := nI (v / 10)) (τ := bzSt (bzSt (bzSt σ 6 i (nI (v / 10))) 7 i (nI (v % 10))) 96 (52 + 4 * i + 1) (nI (v % 10))) (by omega)
        simp only [ea, eb]
        rw [st_s, pk_un (by omega), st_o (by decide), st_o (by decide), ← r0]
      · have e : bzSt (bzSt (bzSt (bzSt σ 6 i (nI (v / 10))) 7 i (nI (v % 10))) 96 (52 + 4 * i + 1) (nI (v % 10))) 96 (52 + 4 * i + 0) (nI (v / 10)) = bzSt (bzSt (bzSt (bzSt σ (1 + (5 + 0)) i (nI (v / 10))) 96 (52 + 4 * i + 0) (nI (v / 10))) (1 + (5 + 1)) i (nI (v % 10))) 96 (52 + 4 * i + 1) (nI (v % 10)) := by
          funext k
          by_cases k96 : k = 96
          · subst k96
            rw [st_s, st_s, st_s, st_o (by decide), st_o (by decide), st_o (by decide), st_s, st_o (by decide), upd_com (by omega)]
          · rw [st_o k96, st_o k96, st_o k96]
            by_cases k7 : k = 7
            · subst k7
              rw [st_s, st_o (by decide)]
              show _ = bzSt _ 7 _ _ 7
              rw [st_s, st_o (by decide), st_o (by decide)]
            · rw [st_o k7]
              show _ = bzSt _ 7 _ _ k
              rw [st_o k7, st_o k96]
        rw [e]
        exact q2
/-- one more number waits -/
theorem st_tell : bzSt_tell bzInv := by
  intro a1 σ n hn hI
  obtain ⟨z, hz, ez⟩ := hI.2.1.1.1 9 rfl (by decide) (by decide)
  have hz : z ≤ 20 := hz
  have e26 : σ 26 1 = nI z := (hI.1.1 9 rfl).trans ez
  by_cases h20 : z = 20
  · subst h20
    refine err4 hI ?_ (fun τ ht => ?_)
    · simp [f_X9_tell, g_0, g_95, g_1, g_2, g_5, g_18, g_24, g_26, g_79, g_80, g_72, l_0_0, l_0_1, l_0_3, l_0_4, l_0_5, l_0_6, l_0_7, l_1_0, l_1_1, l_1_2, l_1_3, l_2_0, l_2_1, l_2_2, l_2_3, l_2_4, l_5_0, l_5_1, l_5_2, l_5_3, l_18_0, l_18_1, l_18_2, l_18_3, l_18_4, l_24_0, l_26_0, l_79_0, l_80_0, l_95_0, l_95_1, l_95_2, l_95_3, l_95_6, l_95_16, l_95_17, l_95_18, l_95_19, l_95_20, l_95_21, l_95_22, bzBd, bzBp, bzLet, bzOp, f_X10_in, f_X9_within, e_f1, e_f2, e_f3, e_f4, e_f5, e_e1, e_e2, e_e3, e_e4, e_e5, f_X4_add, e26, show ¬ nI 20 < Int32.ofNat (ln 27) by decide]
    · have : nI 20 = 20 := rfl
      simp [f_X10_tell, g_0, g_95, g_1, g_2, g_5, g_18, g_24, g_26, g_79, g_80, g_72, l_0_0, l_0_1, l_0_3, l_0_4, l_0_5, l_0_6, l_0_7, l_1_0, l_1_1, l_1_2, l_1_3, l_2_0, l_2_1, l_2_2, l_2_3, l_2_4, l_5_0, l_5_1, l_5_2, l_5_3, l_18_0, l_18_1, l_18_2, l_18_3, l_18_4, l_24_0, l_26_0, l_79_0, l_80_0, l_95_0, l_95_1, l_95_2, l_95_3, l_95_6, l_95_16, l_95_17, l_95_18, l_95_19, l_95_20, l_95_21, l_95_22, bzBd, bzBp, bzLet, bzOp, f_X10_in, f_X9_within, e_f1, e_f2, e_f3, e_f4, e_f5, e_e1, e_e2, e_e3, e_e4, e_e5, ht 96 (by decide), ez, this]
  · have l1 : nI z < Int32.ofNat (ln 27) := nI_lt (b := 20) (by omega) (by decide)
    have l2 : ¬ nI z = 20 := fun h => h20 ((nI_eq (a := z) (b := 20) (by omega) (by decide)).mp h)
    have ea : 134 + nI z = nI (134 + z) := by rw [show (134 : Int32) = nI 134 from rfl, nI_add]
    refine ⟨nI (z + 1), bzSt (bzSt σ 27 z a1) 26 1 (nI (z + 1)), bzSt (bzSt (bzSt (bzSt σ 27 z a1) 26 1 (nI (z + 1))) 96 (134 + z) a1) 96 9 (nI (z + 1)), ?_, ?_, ?_⟩
    · have e0 : bzSt σ 27 z a1 26 1 = nI z := by rw [st_o (by decide)]; exact e26
      simp [f_X9_tell, g_0, g_95, g_1, g_2, g_5, g_18, g_24, g_26, g_79, g_80, g_72, l_0_0, l_0_1, l_0_3, l_0_4, l_0_5, l_0_6, l_0_7, l_1_0, l_1_1, l_1_2, l_1_3, l_2_0, l_2_1, l_2_2, l_2_3, l_2_4, l_5_0, l_5_1, l_5_2, l_5_3, l_18_0, l_18_1, l_18_2, l_18_3, l_18_4, l_24_0, l_26_0, l_79_0, l_80_0, l_95_0, l_95_1, l_95_2, l_95_3, l_95_6, l_95_16, l_95_17, l_95_18, l_95_19, l_95_20, l_95_21, l_95_22, bzBd, bzBp, bzLet, bzOp, f_X10_in, f_X9_within, e_f1, e_f2, e_f3, e_f4, e_f5, e_e1, e_e2, e_e3, e_e4, e_e5, f_X4_add, e26, l1, bzGdT (show bzIn (nI z) (ln 27) from bzIn_nI (n := 20) (by omega) (by decide)), clN (show z < 2 ^ 31 by omega), e0, nI_1, st_s, pk_us]
    · have e0 : bzSt (bzSt σ 27 z a1) 26 1 (nI (z + 1)) 96 9 = nI z := by rw [st_o (by decide), st_o (by decide)]; exact ez
      have e1 : bzSt (bzSt (bzSt σ 27 z a1) 26 1 (nI (z + 1))) 96 (134 + z) a1 96 9 = nI z := by rw [st_s, pk_un (by omega)]; exact e0
      simp [f_X10_tell, g_0, g_95, g_1, g_2, g_5, g_18, g_24, g_26, g_79, g_80, g_72, l_0_0, l_0_1, l_0_3, l_0_4, l_0_5, l_0_6, l_0_7, l_1_0, l_1_1, l_1_2, l_1_3, l_2_0, l_2_1, l_2_2, l_2_3, l_2_4, l_5_0, l_5_1, l_5_2, l_5_3, l_18_0, l_18_1, l_18_2, l_18_3, l_18_4, l_24_0, l_26_0, l_79_0, l_80_0, l_95_0, l_95_1, l_95_2, l_95_3, l_95_6, l_95_16, l_95_17, l_95_18, l_95_19, l_95_20, l_95_21, l_95_22, bzBd, bzBp, bzLet, bzOp, f_X10_in, f_X9_within, e_f1, e_f2, e_f3, e_f4, e_f5, e_e1, e_e2, e_e3, e_e4, e_e5, e0, l2, ea, bzGdT (bzIn_nI (show 134 + z < 254 by omega) (by decide)), clN (show 134 + z < 2 ^ 31 by omega), e1, nI_1, st_s, pk_us]
    · have eo : ∀ k, k ≠ 26 → k ≠ 27 → k ≠ 96 → bzSt (bzSt (bzSt (bzSt σ 27 z a1) 26 1 (nI (z + 1))) 96 (134 + z) a1) 96 9 (nI (z + 1)) k = σ k := fun k h1 h2 h3 => by rw [st_o h3, st_o h3, st_o h1, st_o h2]
      have e96 : bzSt (bzSt (bzSt (bzSt σ 27 z a1) 26 1 (nI (z + 1))) 96 (134 + z) a1) 96 9 (nI (z + 1)) 96 = upd (upd (σ 96) (134 + z) a1) 9 (nI (z + 1)) := by rw [st_s, st_s, st_o (by decide), st_o (by decide)]
      have e26' : bzSt (bzSt (bzSt (bzSt σ 27 z a1) 26 1 (nI (z + 1))) 96 (134 + z) a1) 96 9 (nI (z + 1)) 26 = upd (σ 26) 1 (nI (z + 1)) := by rw [st_o (by decide), st_o (by decide), st_s, st_o (by decide)]
      have e27 : bzSt (bzSt (bzSt (bzSt σ 27 z a1) 26 1 (nI (z + 1))) 96 (134 + z) a1) 96 9 (nI (z + 1)) 27 = upd (σ 27) z a1 := by rw [st_o (by decide), st_o (by decide), st_o (by decide), st_s]
      generalize bzSt (bzSt (bzSt (bzSt σ 27 z a1) 26 1 (nI (z + 1))) 96 (134 + z) a1) 96 9 (nI (z + 1)) = τ at eo e96 e26' e27
      obtain ⟨⟨i1, ⟨ia, ib⟩, i2, i3, i4⟩, ⟨⟨j1, j2⟩, j3⟩, -⟩ := id hI
      have fr : ∀ p, p ≠ 9 → p < 134 → τ 96 p = σ 96 p := fun p h1 h2 => by rw [e96, pk_un h1, pk_un (by omega)]
      refine inv_mono _ _ (inv_now hI ⟨?_, ⟨ia.ext ?_ ?_ ?_ ?_ ?_, ib.ext ?_ ?_ ?_ ?_ ?_⟩, ?_, ?_, ?_⟩ ⟨?_, ?_⟩ ?_ (fun k h0 h1 h2 h3 h4 => eo k (by omega) (by omega) h4) (fun j hj => by rw [eo 95 (by decide) (by decide) (by decide)]))
      · intro p hp
        have hpl := plB_lt hp
        have hm := mc_in p hpl.1 hp
        by_cases p9 : p = 9
        · subst p9
          show τ 26 1 = τ 96 9
          rw [e26', e96, pk_us, pk_us]
        · rw [fr p p9 (by omega), eo _ (fun e => p9 (mc_25 p hpl.1 (by omega))) (by omega) (by omega)]
          exact i1 p hp
      · rw [eo _ (by decide) (by decide) (by decide)]
      · rw [eo _ (by decide) (by decide) (by decide)]
      · rw [eo _ (by decide) (by decide) (by decide)]
      · exact fr 10 (by decide) (by decide)
      · funext j; rw [e96, pk_un (by omega), pk_un (by omega)]
      · rw [eo _ (by decide) (by decide) (by decide)]
      · rw [eo _ (by decide) (by decide) (by decide)]
      · rw [eo _ (by decide) (by decide) (by decide)]
      · exact fr 11 (by decide) (by decide)
      · funext j; rw [e96, pk_un (by omega), pk_un (by omega)]
      · intro i hi hf
        rw [fr 8 (by decide) (by decide)] at hf
        rw [eo _ (by decide) (by decide) (by decide), e96, pk_un (by omega), pk_un (by omega)]
        exact i2 i hi hf
      · intro i hi hf
        show τ 27 i = τ 96 (134 + i)
        rw [e96, pk_us] at hf
        rw [e96, pk_un (show 134 + i ≠ 9 by omega), e27]
        by_cases hiz : i = z
        · subst hiz; rw [pk_us, pk_us]
        · rw [pk_un hiz, pk_un (by omega)]
          refine i3 i hi ?_
          rw [ez]
          have := (nI_ltI (a := i) (b := z + 1) (by omega) (by omega)).mp hf
          exact nI_lt (by omega) (by omega)
      · rw [eo _ (by decide) (by decide) (by decide)]; exact i4
      · intro p hp h0 h1
        by_cases p9 : p = 9
        · subst p9
          rw [e96, pk_us]
          exact ⟨z + 1, by show z + 1 ≤ 20; omega, rfl⟩
        · rw [fr p p9 (by have := plB_lt hp; omega)]
          exact j1 p hp h0 h1
      · intro i hi hf
        rw [fr 2 (by decide) (by decide)] at hf
        rw [fr _ (by omega) (by omega)]
        exact j2 i hi hf
      · rw [fr 0 (by decide) (by decide)]; exact j3
