set_option linter.unusedVariables false
theorem fill_c {s z : Nat} (hs : s < 4) (hz : z ≤ 40) : ∀ m v, m + v = z → ∀ (f : Nat) (a : Int32) (σ : bzS), m < f → σ (84 + 3 * s) 1 = nI z → (∀ j, j < v → σ (85 + 3 * s) j = 0) → ∃ τ, fl_X4_fillWithZeros_19 (84 + 3 * s) a f (nI v) σ = some τ ∧ (∀ k, k ≠ 85 + 3 * s → τ k = σ k) ∧ ∀ j, j < z → τ (85 + 3 * s) j = 0 := by
  obtain ⟨l1, l2, l3, l4, l5, l6⟩ := sh_l s hs
  intro m
  induction m with
  | zero =>
    intro v hv f a σ hf h1 h2
    obtain ⟨f, rfl⟩ : ∃ g, f = g + 1 := ⟨f - 1, by omega⟩
    refine ⟨σ, ?_, fun k _ => rfl, fun j hj => h2 j (by omega)⟩
    have e : v = z := by omega
    subst e
    simp only [fl_X4_fillWithZeros_19, fb_X4_fillWithZeros_19, h1, if_pos (Int32.le_refl _)]
  | succ m ih =>
    intro v hv f a σ hf h1 h2
    obtain ⟨f, rfl⟩ : ∃ g, f = g + 1 := ⟨f - 1, by omega⟩
    have b : bzIn (nI v) 40 := bzIn_nI (by omega) (by decide)
    obtain ⟨τ, t1, t2, t3⟩ := ih (v + 1) (by omega) f a (bzSt σ (85 + 3 * s) v 0) (by omega) (by rw [st_o (by omega)]; exact h1) (fun j hj => by
      rw [st_s]
      by_cases e : j = v
      · subst e; exact pk_us
      · rw [pk_un e]; exact h2 j (by omega))
    refine ⟨τ, ?_, fun k hk => by rw [t2 k hk, st_o hk], t3⟩
    simp only [fl_X4_fillWithZeros_19, fb_X4_fillWithZeros_19, h1, if_neg (nI_ge (show v < z by omega) (by omega)), l5, l6, bzGdT b, bzLet, clN (show v < 2 ^ 31 by omega), nI_1]
    exact t1
theorem fill_m {s : Nat} (hs : s < 4) (a b c : Int32) (ea : a = nI s) : ∀ m v, m + v = 40 → ∀ (f : Nat) (σ : bzS), m < f → (∀ j, j < v → σ 103 (40 * s + j) = 0) → ∃ τ, fl_X10_sheet_93 95 a b c f (nI v) σ = some (1, τ) ∧ (∀ k, k ≠ 103 → τ k = σ k) ∧ (∀ j, (j < 40 * s ∨ 40 * s + 40 ≤ j) → τ 103 j = σ 103 j) ∧ ∀ j, j < 40 → τ 103 (40 * s + j) = 0 := by
  intro m
  induction m with
  | zero =>
    intro v hv f σ hf h2
    obtain ⟨f, rfl⟩ : ∃ g, f = g + 1 := ⟨f - 1, by omega⟩
    have e : v = 40 := by omega
    subst e
    refine ⟨σ, ?_, fun k _ => rfl, fun j _ => rfl, fun j hj => h2 j hj⟩
    simp only [fl_X10_sheet_93, fb_X10_sheet_93, if_pos (show (40 : Int32) ≤ nI 40 by decide)]
  | succ m ih =>
    intro v hv f σ hf h2
    obtain ⟨f, rfl⟩ : ∃ g, f = g + 1 := ⟨f - 1, by omega⟩
    have b : bzIn (nI (40 * s + v)) 160 := bzIn_nI (by omega) (by decide)
    have ep : 40 * a + nI v = nI (40 * s + v) := by rw [ea, show (40 : Int32) = nI 40 from rfl, pk_mul, nI_add]
    obtain ⟨τ, t1, t2, t3, t4⟩ := ih (v + 1) (by omega) f (bzSt σ 103 (40 * s + v) 0) (by omega) (fun j hj => by
      rw [st_s]
      by_cases e : j = v
      · subst e; exact pk_us
      · rw [pk_un (by omega)]; exact h2 j (by omega))
    refine ⟨τ, ?_, fun k hk => by rw [t2 k hk, st_o hk], fun j hj => by rw [t3 j hj, st_s, pk_un (by omega)], t4⟩
    simp only [fl_X10_sheet_93, fb_X10_sheet_93, if_neg (show ¬ (40 : Int32) ≤ nI v from nI_ge (show v < 40 by omega) (by decide)), ep, bzGdT b, l_95_18, bzLet, clN (show 40 * s + v < 2 ^ 31 by omega), nI_1]
    exact t1
theorem make_c {s z : Nat} (hs : s < 4) (hz : z ≤ 40) (w : Int32) (σ : bzS) : ∃ τ, f_X5_make (83 + 3 * s) w (nI z) σ = some τ ∧ (∀ k, k ≠ 83 + 3 * s → k ≠ 84 + 3 * s → k ≠ 85 + 3 * s → τ k = σ k) ∧ τ (83 + 3 * s) 1 = w ∧ τ (84 + 3 * s) 1 = nI z ∧ ∀ j, j < z → τ (85 + 3 * s) j = 0 := by
  obtain ⟨l1, l2, l3, l4, l5, l6⟩ := sh_l s hs
  obtain ⟨τ, t1, t2, t3⟩ := fill_c (z := z) hs hz z 0 rfl 2000 (nI z) (bzSt (bzSt σ (83 + 3 * s) 1 w) (84 + 3 * s) 1 (nI z)) (by omega) (by rw [st_s, pk_us]) (fun j hj => absurd hj (Nat.not_lt_zero _))
  refine ⟨τ, ?_, fun k h1 h2 h3 => by rw [t2 k h3, st_o h2, st_o h1], by rw [t2 _ (by omega), st_o (by omega), st_s, pk_us], by rw [t2 _ (by omega), st_s, pk_us], t3⟩
  have mn : f_J_min (nI z) (nI 40) = some (nI z) := by unfold f_J_min; rw [if_neg (nI_nlt (a := 40) (b := z) hz (by decide))]
  have mx : f_J_max 0 (nI z) = some (nI z) := by
    unfold f_J_max
    split
    · rfl
    · rename_i h
      rcases Nat.eq_zero_or_pos z with h0 | h0
      · subst h0; rfl
      · exact absurd (nI_lt (a := 0) (b := z) h0 (by omega)) h
  simp only [f_X5_make, bzGdT l2, bzLet, l3, f_X4_fillWithZeros, bzGdT l4, l5, l6, ofN, mn, mx, bzBd]
  rw [show (0 : Int32) = nI 0 from rfl, t1]
theorem st_sheet : bzSt_sheet bzInv := by
  intro a1 a2 a3 σ n hn hI
  rcases shOf a1 σ with ⟨h1, h2⟩ | ⟨s, hs, e1, b1, n1, h1, h2⟩
  · refine err1 hI ?_ (fun τ ht => ?_)
    · simp only [f_X9_sheet, g_0, g_95, g_1, g_2, g_5, g_18, g_24, g_26, g_79, g_80, g_72, l_0_0, l_0_1, l_0_3, l_0_4, l_0_5, l_0_6, l_0_7, l_1_0, l_1_1, l_1_2, l_1_3, l_2_0, l_2_1, l_2_2, l_2_3, l_2_4, l_5_0, l_5_1, l_5_2, l_5_3, l_18_0, l_18_1, l_18_2, l_18_3, l_18_4, l_24_0, l_26_0, l_79_0, l_80_0, l_95_0, l_95_1, l_95_2, l_95_3, l_95_6, l_95_16, l_95_17, l_95_18, l_95_19, l_95_20, l_95_21, l_95_22, bzBd, bzBp, bzLet, bzOp, f_X10_in, f_X9_within, e_f1, e_f2, e_f3, e_f4, e_f5, e_e1, e_e2, e_e3, e_e4, e_e5, h1]
    · simp [f_X10_sheet, g_0, g_95, g_1, g_2, g_5, g_18, g_24, g_26, g_79, g_80, g_72, l_0_0, l_0_1, l_0_3, l_0_4, l_0_5, l_0_6, l_0_7, l_1_0, l_1_1, l_1_2, l_1_3, l_2_0, l_2_1, l_2_2, l_2_3, l_2_4, l_5_0, l_5_1, l_5_2, l_5_3, l_18_0, l_18_1, l_18_2, l_18_3, l_18_4, l_24_0, l_26_0, l_79_0, l_80_0, l_95_0, l_95_1, l_95_2, l_95_3, l_95_6, l_95_16, l_95_17, l_95_18, l_95_19, l_95_20, l_95_21, l_95_22, bzBd, bzBp, bzLet, bzOp, f_X10_in, f_X9_within, e_f1, e_f2, e_f3, e_f4, e_f5, e_e1, e_e2, e_e3, e_e4, e_e5, h2]
  obtain ⟨l1, l2, l3, l4, l5, l6⟩ := sh_l s hs
  by_cases hw : a2 = 0 ∨ a2 = 8 ∨ a2 = 16 ∨ a2 = 32
  · have ab : f_X5_areBits a2 = some 1 := by rcases hw with rfl | rfl | rfl | rfl <;> rfl
    have key : ∀ z : Nat, z ≤ 40 → (a2 = 0 → z = 0) → f_X9_sheet 0 a1 a2 a3 σ = bzBd (f_X5_make (83 + 3 * s) a2 (nI z) σ) (fun σ => some (1, σ)) → (∀ τ, f_X10_sheet 95 a1 a2 a3 τ = fl_X10_sheet_93 95 a1 a2 a3 2000 0 (bzSt (bzSt τ 101 s a2) 102 s (nI z))) → ∃ (r : Int32) (σ1 : bzS) (σ2 : bzS), f_X9_sheet 0 a1 a2 a3 σ = some (r, σ1) ∧ f_X10_sheet 95 a1 a2 a3 σ1 = some (r, σ2) ∧ bzInv (n + 1) σ2 := by
      intro z hz hz0 hc hm
      obtain ⟨τ, t1, t2, t3, t4, t5⟩ := make_c hs hz a2 σ
      obtain ⟨ρ, r1, r2, r3, r4⟩ := fill_m hs a1 a2 a3 e1 40 0 rfl 2000 (bzSt (bzSt τ 101 s a2) 102 s (nI z)) (by omega) (fun j hj => absurd hj (Nat.not_lt_zero _))
      refine ⟨1, τ, ρ, by rw [hc, t1]; rfl, by rw [hm τ]; exact r1, ?_⟩
      refine inv_mono _ _ (inv_sheet (s := s) hI hs ?_ ?_ ?_ ?_ ⟨⟨?_, ?_⟩, z, hz, ?_, ?_, ?_⟩)
      · intro k h1 h2 h3 h4 h5 h6 _
        rw [r2 k h6, st_o h5, st_o h4, t2 k h1 h2 h3]
      · intro j hj; rw [r2 101 (by decide), st_o (by decide), st_s, pk_un hj, t2 101 (by omega) (by omega) (by omega)]
      · intro j hj; rw [r2 102 (by decide), st_s, pk_un hj, st_o (by decide), t2 102 (by omega) (by omega) (by omega)]
      · intro j hj; rw [r3 j hj, st_o (by decide), st_o (by decide), t2 103 (by omega) (by omega) (by omega)]
      · rw [r2 _ (by omega), st_o (by omega), st_o (by omega), t3, r2 101 (by decide), st_o (by decide), st_s, pk_us]
      · rw [r2 101 (by decide), st_o (by decide), st_s, pk_us]; exact hw
      · rw [r2 _ (by omega), st_o (by omega), st_o (by omega), t4]
      · rw [r2 102 (by decide), st_s, pk_us]
      · intro j hj
        rw [r2 _ (by omega), st_o (by omega), st_o (by omega), t5 j hj, r4 j (by omega)]
    by_cases w0 : a2 = 0
    · subst w0
      refine key 0 (by decide) (fun _ => rfl) ?_ (fun τ => ?_)
      · simp only [f_X9_sheet, fb_X9_sheet_41, g_0, g_95, g_1, g_2, g_5, g_18, g_24, g_26, g_79, g_80, g_72, l_0_0, l_0_1, l_0_3, l_0_4, l_0_5, l_0_6, l_0_7, l_1_0, l_1_1, l_1_2, l_1_3, l_2_0, l_2_1, l_2_2, l_2_3, l_2_4, l_5_0, l_5_1, l_5_2, l_5_3, l_18_0, l_18_1, l_18_2, l_18_3, l_18_4, l_24_0, l_26_0, l_79_0, l_80_0, l_95_0, l_95_1, l_95_2, l_95_3, l_95_6, l_95_16, l_95_17, l_95_18, l_95_19, l_95_20, l_95_21, l_95_22, bzBd, bzBp, bzLet, bzOp, f_X10_in, f_X9_within, e_f1, e_f2, e_f3, e_f4, e_f5, e_e1, e_e2, e_e3, e_e4, e_e5, h1, bzGdT l2, ab, if_neg one_ne, if_pos]; rfl
      · simp only [f_X10_sheet, fb_X10_sheet_36, fb_X10_sheet_68, g_0, g_95, g_1, g_2, g_5, g_18, g_24, g_26, g_79, g_80, g_72, l_0_0, l_0_1, l_0_3, l_0_4, l_0_5, l_0_6, l_0_7, l_1_0, l_1_1, l_1_2, l_1_3, l_2_0, l_2_1, l_2_2, l_2_3, l_2_4, l_5_0, l_5_1, l_5_2, l_5_3, l_18_0, l_18_1, l_18_2, l_18_3, l_18_4, l_24_0, l_26_0, l_79_0, l_80_0, l_95_0, l_95_1, l_95_2, l_95_3, l_95_6, l_95_16, l_95_17, l_95_18, l_95_19, l_95_20, l_95_21, l_95_22, bzBd, bzBp, bzLet, bzOp, f_X10_in, f_X9_within, e_f1, e_f2, e_f3, e_f4, e_f5, e_e1, e_e2, e_e3, e_e4, e_e5, h2, bzGdT b1, n1, if_neg one_ne, if_pos]; rfl
    · have hm8 : ∀ τ, f_X10_sheet 95 a1 a2 a3 τ = fb_X10_sheet_36 95 a1 a2 a3 τ := by
        intro τ
        simp only [f_X10_sheet, g_0, g_95, g_1, g_2, g_5, g_18, g_24, g_26, g_79, g_80, g_72, l_0_0, l_0_1, l_0_3, l_0_4, l_0_5, l_0_6, l_0_7, l_1_0, l_1_1, l_1_2, l_1_3, l_2_0, l_2_1, l_2_2, l_2_3, l_2_4, l_5_0, l_5_1, l_5_2, l_5_3, l_18_0, l_18_1, l_18_2, l_18_3, l_18_4, l_24_0, l_26_0, l_79_0, l_80_0, l_95_0, l_95_1, l_95_2, l_95_3, l_95_6, l_95_16, l_95_17, l_95_18, l_95_19, l_95_20, l_95_21, l_95_22, bzBd, bzBp, bzLet, bzOp, f_X10_in, f_X9_within, e_f1, e_f2, e_f3, e_f4, e_f5, e_e1, e_e2, e_e3, e_e4, e_e5, h2, if_neg one_ne, if_neg w0]
        rcases hw with h | h | h | h
        · exact absurd h w0
        all_goals (subst h; rfl)
      rcases cut a3 (n := 40) (m := 41) (N := 40) (M := 41) rfl rfl rfl (by decide) with c | ⟨c, c', -⟩ | ⟨c, c', -, z, hz, ez, -⟩
      · have c0 : ¬ 0 ≤ a3 := Int32.not_le.mpr c
        refine err3 hI ?_ (fun τ ht => ?_)
        · simp only [f_X9_sheet, fb_X9_sheet_41, g_0, g_95, g_1, g_2, g_5, g_18, g_24, g_26, g_79, g_80, g_72, l_0_0, l_0_1, l_0_3, l_0_4, l_0_5, l_0_6, l_0_7, l_1_0, l_1_1, l_1_2, l_1_3, l_2_0, l_2_1, l_2_2, l_2_3, l_2_4, l_5_0, l_5_1, l_5_2, l_5_3, l_18_0, l_18_1, l_18_2, l_18_3, l_18_4, l_24_0, l_26_0, l_79_0, l_80_0, l_95_0, l_95_1, l_95_2, l_95_3, l_95_6, l_95_16, l_95_17, l_95_18, l_95_19, l_95_20, l_95_21, l_95_22, bzBd, bzBp, bzLet, bzOp, f_X10_in, f_X9_within, e_f1, e_f2, e_f3, e_f4, e_f5, e_e1, e_e2, e_e3, e_e4, e_e5, h1, bzGdT l2, ab, if_neg one_ne, if_neg w0, if_neg c0]
        · rw [hm8]
          simp only [fb_X10_sheet_36, g_0, g_95, g_1, g_2, g_5, g_18, g_24, g_26, g_79, g_80, g_72, l_0_0, l_0_1, l_0_3, l_0_4, l_0_5, l_0_6, l_0_7, l_1_0, l_1_1, l_1_2, l_1_3, l_2_0, l_2_1, l_2_2, l_2_3, l_2_4, l_5_0, l_5_1, l_5_2, l_5_3, l_18_0, l_18_1, l_18_2, l_18_3, l_18_4, l_24_0, l_26_0, l_79_0, l_80_0, l_95_0, l_95_1, l_95_2, l_95_3, l_95_6, l_95_16, l_95_17, l_95_18, l_95_19, l_95_20, l_95_21, l_95_22, bzBd, bzBp, bzLet, bzOp, f_X10_in, f_X9_within, e_f1, e_f2, e_f3, e_f4, e_f5, e_e1, e_e2, e_e3, e_e4, e_e5, if_neg w0, if_neg c0]
      · have c0 : 0 ≤ a3 := Int32.not_lt.mp c
        have c1 : ¬ a3 ≤ 40 := Int32.not_le.mpr c'
        refine err1 hI ?_ (fun τ ht => ?_)
        · simp only [f_X9_sheet, fb_X9_sheet_41, g_0, g_95, g_1, g_2, g_5, g_18, g_24, g_26, g_79, g_80, g_72, l_0_0, l_0_1, l_0_3, l_0_4, l_0_5, l_0_6, l_0_7, l_1_0, l_1_1, l_1_2, l_1_3, l_2_0, l_2_1, l_2_2, l_2_3, l_2_4, l_5_0, l_5_1, l_5_2, l_5_3, l_18_0, l_18_1, l_18_2, l_18_3, l_18_4, l_24_0, l_26_0, l_79_0, l_80_0, l_95_0, l_95_1, l_95_2, l_95_3, l_95_6, l_95_16, l_95_17, l_95_18, l_95_19, l_95_20, l_95_21, l_95_22, bzBd, bzBp, bzLet, bzOp, f_X10_in, f_X9_within, e_f1, e_f2, e_f3, e_f4, e_f5, e_e1, e_e2, e_e3, e_e4, e_e5, h1, bzGdT l2, ab, if_neg one_ne, if_neg w0, if_pos c0, if_neg c1]
        · rw [hm8]
          simp only [fb_X10_sheet_36, g_0, g_95, g_1, g_2, g_5, g_18, g_24, g_26, g_79, g_80, g_72, l_0_0, l_0_1, l_0_3, l_0_4, l_0_5, l_0_6, l_0_7, l_1_0, l_1_1, l_1_2, l_1_3, l_2_0, l_2_1, l_2_2, l_2_3, l_2_4, l_5_0, l_5_1, l_5_2, l_5_3, l_18_0, l_18_1, l_18_2, l_18_3, l_18_4, l_24_0, l_26_0, l_79_0, l_80_0, l_95_0, l_95_1, l_95_2, l_95_3, l_95_6, l_95_16, l_95_17, l_95_18, l_95_19, l_95_20, l_95_21, l_95_22, bzBd, bzBp, bzLet, bzOp, f_X10_in, f_X9_within, e_f1, e_f2, e_f3, e_f4, e_f5, e_e1, e_e2, e_e3, e_e4, e_e5, if_neg w0, if_pos c0, if_neg c1]
      · have c0 : 0 ≤ a3 := Int32.not_lt.mp c
        have c1 : a3 ≤ 40 := Int32.not_lt.mp c'
        refine key z hz (fun h => absurd h w0) ?_ (fun τ => ?_)
        · simp only [f_X9_sheet, fb_X9_sheet_41, g_0, g_95, g_1, g_2, g_5, g_18, g_24, g_26, g_79, g_80, g_72, l_0_0, l_0_1, l_0_3, l_0_4, l_0_5, l_0_6, l_0_7, l_1_0, l_1_1, l_1_2, l_1_3, l_2_0, l_2_1, l_2_2, l_2_3, l_2_4, l_5_0, l_5_1, l_5_2, l_5_3, l_18_0, l_18_1, l_18_2, l_18_3, l_18_4, l_24_0, l_26_0, l_79_0, l_80_0, l_95_0, l_95_1, l_95_2, l_95_3, l_95_6, l_95_16, l_95_17, l_95_18, l_95_19, l_95_20, l_95_21, l_95_22, bzBd, bzBp, bzLet, bzOp, f_X10_in, f_X9_within, e_f1, e_f2, e_f3, e_f4, e_f5, e_e1, e_e2, e_e3, e_e4, e_e5, h1, bzGdT l2, ab, if_neg one_ne, if_neg w0, if_pos c0, if_pos c1]
          rw [ez]
        · rw [hm8]
          simp only [fb_X10_sheet_36, fb_X10_sheet_68, g_0, g_95, g_1, g_2, g_5, g_18, g_24, g_26, g_79, g_80, g_72, l_0_0, l_0_1, l_0_3, l_0_4, l_0_5, l_0_6, l_0_7, l_1_0, l_1_1, l_1_2, l_1_3, l_2_0, l_2_1, l_2_2, l_2_3, l_2_4, l_5_0, l_5_1, l_5_2, l_5_3, l_18_0, l_18_1, l_18_2, l_18_3, l_18_4, l_24_0, l_26_0, l_79_0, l_80_0, l_95_0, l_95_1, l_95_2, l_95_3, l_95_6, l_95_16, l_95_17, l_95_18, l_95_19, l_95_20, l_95_21, l_95_22, bzBd, bzBp, bzLet, bzOp, f_X10_in, f_X9_within, e_f1, e_f2, e_f3, e_f4, e_f5, e_e1, e_e2, e_e3, e_e4, e_e5, if_neg w0, if_pos c0, if_pos c1, bzGdT b1, n1]
          rw [← ez]
  · have ab : f_X5_areBits a2 = some 0 := by
      unfold f_X5_areBits
      rw [if_neg (fun h => hw (Or.inl h)), if_neg (fun h => hw (Or.inr (Or.inl h))), if_neg (fun h => hw (Or.inr (Or.inr (Or.inl h)))), if_neg (fun h => hw (Or.inr (Or.inr (Or.inr h))))]
    refine err1 hI ?_ (fun τ ht => ?_)
    · simp [f_X9_sheet, g_0, g_95, g_1, g_2, g_5, g_18, g_24, g_26, g_79, g_80, g_72, l_0_0, l_0_1, l_0_3, l_0_4, l_0_5, l_0_6, l_0_7, l_1_0, l_1_1, l_1_2, l_1_3, l_2_0, l_2_1, l_2_2, l_2_3, l_2_4, l_5_0, l_5_1, l_5_2, l_5_3, l_18_0, l_18_1, l_18_2, l_18_3, l_18_4, l_24_0, l_26_0, l_79_0, l_80_0, l_95_0, l_95_1, l_95_2, l_95_3, l_95_6, l_95_16, l_95_17, l_95_18, l_95_19, l_95_20, l_95_21, l_95_22, bzBd, bzBp, bzLet, bzOp, f_X10_in, f_X9_within, e_f1, e_f2, e_f3, e_f4, e_f5, e_e1, e_e2, e_e3, e_e4, e_e5, h1, bzGdT l2, ab]
    · simp only [f_X10_sheet, g_0, g_95, g_1, g_2, g_5, g_18, g_24, g_26, g_79, g_80, g_72, l_0_0, l_0_1, l_0_3, l_0_4, l_0_5, l_0_6, l_0_7, l_1_0, l_1_1, l_1_2, l_1_3, l_2_0, l_2_1, l_2_2, l_2_3, l_2_4, l_5_0, l_5_1, l_5_2, l_5_3, l_18_0, l_18_1, l_18_2, l_18_3, l_18_4, l_24_0, l_26_0, l_79_0, l_80_0, l_95_0, l_95_1, l_95_2, l_95_3, l_95_6, l_95_16, l_95_17, l_95_18, l_95_19, l_95_20, l_95_21, l_95_22, bzBd, bzBp, bzLet, bzOp, f_X10_in, f_X9_within, e_f1, e_f2, e_f3, e_f4, e_f5, e_e1, e_e2, e_e3, e_e4, e_e5, h2, if_neg one_ne]
      rw [if_neg (fun h => hw (Or.inl h)), if_neg (fun h => hw (Or.inr (Or.inl h))), if_neg (fun h => hw (Or.inr (Or.inr (Or.inl h)))), if_neg (fun h => hw (Or.inr (Or.inr (Or.inr h))))]
