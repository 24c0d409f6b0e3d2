set_option linter.unusedVariables false
theorem fig_c (w p c j N : Nat) (hw : w ≤ 4) (h : (w, p, c, j, N) ∈ [(0, 3, 2, 5, 99), (1, 4, 2, 6, 99), (2, 5, 2, 7, 99), (3, 6, 18, 5, 60), (4, 7, 18, 6, 15)]) (a2 : Int32) (σ : bzS) : f_X9_figure 0 (nI w) a2 σ = bzBd (f_X9_within a2 0 (nI N)) (fun x => if x = 0 then some (-1000000001, bzSt σ 82 1 (σ 82 1 + 1)) else some (σ c j, bzSt σ c j a2)) ∧ f_X10_figure 95 (nI w) a2 σ = bzBd (f_X10_in a2 0 (nI N)) (fun x => if x = 0 then some (-1000000001, bzSt σ 100 1 (σ 100 1 + 1)) else some (σ 96 p, bzSt σ 96 p a2)) ∧ plB p = true ∧ p ≠ 8 ∧ p ≠ 9 ∧ p ≠ 2 ∧ p < 52 ∧ mx p = N ∧ 1 + mc p = c ∧ mj p = j ∧ N ≤ 99 := by
  simp only [List.mem_cons, List.not_mem_nil, or_false, Prod.mk.injEq] at h
  rcases h with ⟨rfl, rfl, rfl, rfl, rfl⟩ | ⟨rfl, rfl, rfl, rfl, rfl⟩ | ⟨rfl, rfl, rfl, rfl, rfl⟩ | ⟨rfl, rfl, rfl, rfl, rfl⟩ | ⟨rfl, rfl, rfl, rfl, rfl⟩ <;> exact ⟨rfl, rfl, rfl, by decide, by decide, by decide, by decide, rfl, rfl, rfl, by decide⟩
theorem fig_e : ∀ w, w ≤ 4 → ∃ p c j N, (w, p, c, j, N) ∈ [(0, 3, 2, 5, 99), (1, 4, 2, 6, 99), (2, 5, 2, 7, 99), (3, 6, 18, 5, 60), (4, 7, 18, 6, 15)] := by
  intro w hw
  rcases (show w = 0 ∨ w = 1 ∨ w = 2 ∨ w = 3 ∨ w = 4 by omega) with rfl | rfl | rfl | rfl | rfl
  · exact ⟨3, 2, 5, 99, by decide⟩
  · exact ⟨4, 2, 6, 99, by decide⟩
  · exact ⟨5, 2, 7, 99, by decide⟩
  · exact ⟨6, 18, 5, 60, by decide⟩
  · exact ⟨7, 18, 6, 15, by decide⟩
theorem st_figure : bzSt_figure bzInv := by
  intro a1 a2 σ n hn hI
  rcases cut a1 (n := 4) (m := 5) (N := 4) (M := 5) rfl rfl rfl (by decide) with c1 | ⟨c1, c1', c1''⟩ | ⟨c1, c1', c1'', w, hw, e1, b1, n1⟩
  · refine err1 hI ?_ (fun τ _ => ?_)
    · simp [f_X9_figure, g_0, g_95, g_1, g_2, g_5, g_18, g_24, g_26, g_79, g_80, g_72, l_0_0, l_0_1, l_0_3, l_0_4, l_0_5, l_0_6, l_0_7, l_1_0, l_1_1, l_1_2, l_1_3, l_2_0, l_2_1, l_2_2, l_2_3, l_2_4, l_5_0, l_5_1, l_5_2, l_5_3, l_18_0, l_18_1, l_18_2, l_18_3, l_18_4, l_24_0, l_26_0, l_79_0, l_80_0, l_95_0, l_95_1, l_95_2, l_95_3, l_95_6, l_95_16, l_95_17, l_95_18, l_95_19, l_95_20, l_95_21, l_95_22, bzBd, bzBp, bzLet, bzOp, f_X10_in, f_X9_within, e_f1, e_f2, e_f3, e_f4, e_f5, e_e1, e_e2, e_e3, e_e4, e_e5, ip_0 (a := a1) (k := 108) (Or.inl c1) (Or.inr rfl)]
    · simp [f_X10_figure, g_0, g_95, g_1, g_2, g_5, g_18, g_24, g_26, g_79, g_80, g_72, l_0_0, l_0_1, l_0_3, l_0_4, l_0_5, l_0_6, l_0_7, l_1_0, l_1_1, l_1_2, l_1_3, l_2_0, l_2_1, l_2_2, l_2_3, l_2_4, l_5_0, l_5_1, l_5_2, l_5_3, l_18_0, l_18_1, l_18_2, l_18_3, l_18_4, l_24_0, l_26_0, l_79_0, l_80_0, l_95_0, l_95_1, l_95_2, l_95_3, l_95_6, l_95_16, l_95_17, l_95_18, l_95_19, l_95_20, l_95_21, l_95_22, bzBd, bzBp, bzLet, bzOp, f_X10_in, f_X9_within, e_f1, e_f2, e_f3, e_f4, e_f5, e_e1, e_e2, e_e3, e_e4, e_e5, c1]
  · refine err1 hI ?_ (fun τ _ => ?_)
    · simp [f_X9_figure, g_0, g_95, g_1, g_2, g_5, g_18, g_24, g_26, g_79, g_80, g_72, l_0_0, l_0_1, l_0_3, l_0_4, l_0_5, l_0_6, l_0_7, l_1_0, l_1_1, l_1_2, l_1_3, l_2_0, l_2_1, l_2_2, l_2_3, l_2_4, l_5_0, l_5_1, l_5_2, l_5_3, l_18_0, l_18_1, l_18_2, l_18_3, l_18_4, l_24_0, l_26_0, l_79_0, l_80_0, l_95_0, l_95_1, l_95_2, l_95_3, l_95_6, l_95_16, l_95_17, l_95_18, l_95_19, l_95_20, l_95_21, l_95_22, bzBd, bzBp, bzLet, bzOp, f_X10_in, f_X9_within, e_f1, e_f2, e_f3, e_f4, e_f5, e_e1, e_e2, e_e3, e_e4, e_e5, ip_0 (a := a1) (k := 108) (Or.inr c1'') (Or.inr rfl)]
    · simp [f_X10_figure, g_0, g_95, g_1, g_2, g_5, g_18, g_24, g_26, g_79, g_80, g_72, l_0_0, l_0_1, l_0_3, l_0_4, l_0_5, l_0_6, l_0_7, l_1_0, l_1_1, l_1_2, l_1_3, l_2_0, l_2_1, l_2_2, l_2_3, l_2_4, l_5_0, l_5_1, l_5_2, l_5_3, l_18_0, l_18_1, l_18_2, l_18_3, l_18_4, l_24_0, l_26_0, l_79_0, l_80_0, l_95_0, l_95_1, l_95_2, l_95_3, l_95_6, l_95_16, l_95_17, l_95_18, l_95_19, l_95_20, l_95_21, l_95_22, bzBd, bzBp, bzLet, bzOp, f_X10_in, f_X9_within, e_f1, e_f2, e_f3, e_f4, e_f5, e_e1, e_e2, e_e3, e_e4, e_e5, c1, c1']
  · subst e1
    obtain ⟨p, c, j, N, hmem⟩ := fig_e w hw
    have hX := (fig_c w p c j N hw hmem a2 σ).1
    obtain ⟨-, -, f1, f2, f3, f4, f5, f6, f7, f8, f9⟩ := fig_c w p c j N hw hmem a2 σ
    have hY := fun τ => (fig_c w p c j N hw hmem a2 τ).2.1
    rcases rng a2 (n := N) (by omega) with ⟨v, hv, rfl⟩ | h3
    · refine ok_set (p := p) (v := nI v) (c := c) (j := j) hI f1 f2 f3 f4 (fun _ => by rw [f6]; exact ⟨v, hv, rfl⟩) (fun q hq e => absurd e (by omega)) f7 f8 ?_ (fun τ => ?_)
      · rw [hX, wi_1 (nI_n0 (by omega)) (nI_nlt hv (by omega)), bzBdS, if_neg one_ne]
      · rw [hY, in_1 (nI_n0 (by omega)) (nI_nlt hv (by omega)), bzBdS, if_neg one_ne]
    · refine err1 hI ?_ (fun τ _ => ?_)
      · rw [hX, wi_0 h3, bzBdS, if_pos rfl]
      · rw [hY, in_0 h3, bzBdS, if_pos rfl]
theorem st_change : bzSt_change bzInv := by
  intro a1 a2 a3 σ n hn hI
  have bad : ∀ s0, s0 = 0 → fb_X9_change_46 0 a1 a2 a3 s0 σ = some (-1000000001, bzSt σ 82 1 (σ 82 1 + 1)) := by
    rintro s0 rfl
    rcases hasV hI a1 with ⟨h1, h2⟩ | ⟨i, N, e1, hi, hN, s1, s2, b1, n1, h1, h2⟩ <;> simp [fb_X9_change_46, g_0, g_95, g_1, g_2, g_5, g_18, g_24, g_26, g_79, g_80, g_72, l_0_0, l_0_1, l_0_3, l_0_4, l_0_5, l_0_6, l_0_7, l_1_0, l_1_1, l_1_2, l_1_3, l_2_0, l_2_1, l_2_2, l_2_3, l_2_4, l_5_0, l_5_1, l_5_2, l_5_3, l_18_0, l_18_1, l_18_2, l_18_3, l_18_4, l_24_0, l_26_0, l_79_0, l_80_0, l_95_0, l_95_1, l_95_2, l_95_3, l_95_6, l_95_16, l_95_17, l_95_18, l_95_19, l_95_20, l_95_21, l_95_22, bzBd, bzBp, bzLet, bzOp, f_X10_in, f_X9_within, e_f1, e_f2, e_f3, e_f4, e_f5, e_e1, e_e2, e_e3, e_e4, e_e5, h1]
  have bad2 : ∀ s0 τ, s0 = 0 → (∀ q, q ≠ 82 → τ q = σ q) → fb_X10_change_34 95 a1 a2 a3 s0 τ = some (-1000000001, bzSt τ 100 1 (τ 100 1 + 1)) := by
    rintro s0 τ rfl ht
    rcases hasV hI a1 with ⟨h1, h2⟩ | ⟨i, N, e1, hi, hN, s1, s2, b1, n1, h1, h2⟩
    · simp [fb_X10_change_34, g_0, g_95, g_1, g_2, g_5, g_18, g_24, g_26, g_79, g_80, g_72, l_0_0, l_0_1, l_0_3, l_0_4, l_0_5, l_0_6, l_0_7, l_1_0, l_1_1, l_1_2, l_1_3, l_2_0, l_2_1, l_2_2, l_2_3, l_2_4, l_5_0, l_5_1, l_5_2, l_5_3, l_18_0, l_18_1, l_18_2, l_18_3, l_18_4, l_24_0, l_26_0, l_79_0, l_80_0, l_95_0, l_95_1, l_95_2, l_95_3, l_95_6, l_95_16, l_95_17, l_95_18, l_95_19, l_95_20, l_95_21, l_95_22, bzBd, bzBp, bzLet, bzOp, f_X10_in, f_X9_within, e_f1, e_f2, e_f3, e_f4, e_f5, e_e1, e_e2, e_e3, e_e4, e_e5, h2 τ ht]
    · simp [fb_X10_change_34, g_0, g_95, g_1, g_2, g_5, g_18, g_24, g_26, g_79, g_80, g_72, l_0_0, l_0_1, l_0_3, l_0_4, l_0_5, l_0_6, l_0_7, l_1_0, l_1_1, l_1_2, l_1_3, l_2_0, l_2_1, l_2_2, l_2_3, l_2_4, l_5_0, l_5_1, l_5_2, l_5_3, l_18_0, l_18_1, l_18_2, l_18_3, l_18_4, l_24_0, l_26_0, l_79_0, l_80_0, l_95_0, l_95_1, l_95_2, l_95_3, l_95_6, l_95_16, l_95_17, l_95_18, l_95_19, l_95_20, l_95_21, l_95_22, bzBd, bzBp, bzLet, bzOp, f_X10_in, f_X9_within, e_f1, e_f2, e_f3, e_f4, e_f5, e_e1, e_e2, e_e3, e_e4, e_e5, h2 τ (by rw [ht 96 (by decide)]; exact s1)]
  rcases hasV hI a1 with ⟨h1, h2⟩ | ⟨i, N, e1, hi, hN, s1, s2, b1, n1, h1, h2⟩
  · have x1 : ∀ s0, fb_X9_change_46 0 a1 a2 a3 s0 σ = some (-1000000001, bzSt σ 82 1 (σ 82 1 + 1)) := fun s0 => by simp [fb_X9_change_46, g_0, g_95, g_1, g_2, g_5, g_18, g_24, g_26, g_79, g_80, g_72, l_0_0, l_0_1, l_0_3, l_0_4, l_0_5, l_0_6, l_0_7, l_1_0, l_1_1, l_1_2, l_1_3, l_2_0, l_2_1, l_2_2, l_2_3, l_2_4, l_5_0, l_5_1, l_5_2, l_5_3, l_18_0, l_18_1, l_18_2, l_18_3, l_18_4, l_24_0, l_26_0, l_79_0, l_80_0, l_95_0, l_95_1, l_95_2, l_95_3, l_95_6, l_95_16, l_95_17, l_95_18, l_95_19, l_95_20, l_95_21, l_95_22, bzBd, bzBp, bzLet, bzOp, f_X10_in, f_X9_within, e_f1, e_f2, e_f3, e_f4, e_f5, e_e1, e_e2, e_e3, e_e4, e_e5, h1]
    have x2 : ∀ s0 τ, (∀ q, q ≠ 82 → τ q = σ q) → fb_X10_change_34 95 a1 a2 a3 s0 τ = some (-1000000001, bzSt τ 100 1 (τ 100 1 + 1)) := fun s0 τ ht => by simp [fb_X10_change_34, g_0, g_95, g_1, g_2, g_5, g_18, g_24, g_26, g_79, g_80, g_72, l_0_0, l_0_1, l_0_3, l_0_4, l_0_5, l_0_6, l_0_7, l_1_0, l_1_1, l_1_2, l_1_3, l_2_0, l_2_1, l_2_2, l_2_3, l_2_4, l_5_0, l_5_1, l_5_2, l_5_3, l_18_0, l_18_1, l_18_2, l_18_3, l_18_4, l_24_0, l_26_0, l_79_0, l_80_0, l_95_0, l_95_1, l_95_2, l_95_3, l_95_6, l_95_16, l_95_17, l_95_18, l_95_19, l_95_20, l_95_21, l_95_22, bzBd, bzBp, bzLet, bzOp, f_X10_in, f_X9_within, e_f1, e_f2, e_f3, e_f4, e_f5, e_e1, e_e2, e_e3, e_e4, e_e5, h2 τ ht]
    refine err1 hI ?_ (fun τ ht => ?_)
    · unfold f_X9_change
      rw [g_0]
      by_cases q0 : a2 = 0
      · rw [if_pos q0]
        by_cases r1 : a3 < 0 ∨ 9 < a3
        · rw [wi_0 r1, bzBdS, if_pos rfl, if_neg (by rw [q0]; decide)]; exact x1 _
        · rw [wi_1 (fun h => r1 (Or.inl h)) (fun h => r1 (Or.inr h)), bzBdS, if_neg one_ne]; exact x1 _
      · rw [if_neg q0]
        by_cases q1 : a2 = 1
        · rw [if_pos q1]
          by_cases r1 : a3 < 1 ∨ 12 < a3
          · rw [wi_0 r1, bzBdS, if_pos rfl]; exact x1 _
          · rw [wi_1 (fun h => r1 (Or.inl h)) (fun h => r1 (Or.inr h)), bzBdS, if_neg one_ne]; exact x1 _
        · rw [if_neg q1]; exact x1 _
    · unfold f_X10_change
      rw [g_95]
      by_cases q0 : a2 = 0
      · rw [if_pos q0]
        by_cases r1 : a3 < 0 ∨ 9 < a3
        · rw [in_0 r1, bzBdS]; exact x2 _ _ ht
        · rw [in_1 (fun h => r1 (Or.inl h)) (fun h => r1 (Or.inr h)), bzBdS]; exact x2 _ _ ht
      · rw [if_neg q0]
        by_cases q1 : a2 = 1
        · rw [if_pos q1]
          by_cases r1 : a3 < 1 ∨ 12 < a3
          · rw [in_0 r1, bzBdS, if_pos rfl]; exact x2 _ _ ht
          · rw [in_1 (fun h => r1 (Or.inl h)) (fun h => r1 (Or.inr h)), bzBdS, if_neg one_ne]; exact x2 _ _ ht
        · rw [if_neg q1]; exact x2 _ _ ht
  · by_cases q0 : a2 = 0
    · by_cases r1 : a3 < 0 ∨ 9 < a3
      · refine err1 hI ?_ (fun τ ht => ?_)
        · unfold f_X9_change
          rw [g_0, if_pos q0, wi_0 r1, bzBdS, if_pos rfl, if_neg (by rw [q0]; decide)]; exact bad _ rfl
        · unfold f_X10_change
          rw [g_95, if_pos q0, in_0 r1, bzBdS]; exact bad2 _ _ rfl ht
      · obtain ⟨p0, m0, j0, x0⟩ := vis_p i (by omega) 2 (by decide)
        rcases cut a3 (n := 9) (m := 10) (N := 9) (M := 10) rfl rfl rfl (by decide) with c3 | ⟨c3, c3', -⟩ | ⟨c3, c3', -, v, hv, e3, b3, n3⟩
        · exact absurd (Or.inl c3) r1
        · exact absurd (Or.inr c3') r1
        · have hY : ∀ τ : bzS, τ 96 2 = nI N → f_X10_change 95 a1 a2 a3 τ = some (τ 96 (52 + 4 * i + 2), bzSt τ 96 (52 + 4 * i + 2) a3) := by
            intro τ hτ
            have ea : 52 + 4 * a1 + 2 + a2 = nI (52 + 4 * i + 2) := by
              rw [e1, q0, show (52 : Int32) = nI 52 from rfl, show (4 : Int32) = nI 4 from rfl, show (2 : Int32) = nI 2 from rfl, show (0 : Int32) = nI 0 from rfl, pk_mul, nI_add, nI_add, nI_add]
            unfold f_X10_change
            rw [g_95, if_pos q0, in_1 c3 c3', bzBdS]
            unfold fb_X10_change_34
            rw [h2 τ hτ, bzBdS, if_neg one_ne, if_neg one_ne, ea, e_becomes (by omega), bzBpS]
          refine ⟨σ 8 i, bzSt σ 8 i a3, bzSt (bzSt σ 8 i a3) 96 (52 + 4 * i + 2) a3, ?_, ?_, ?_⟩
          · unfold f_X9_change
            rw [g_0, if_pos q0, wi_1 c3 c3', bzBdS, if_neg one_ne]
            simp [fb_X9_change_46, g_0, g_95, g_1, g_2, g_5, g_18, g_24, g_26, g_79, g_80, g_72, l_0_0, l_0_1, l_0_3, l_0_4, l_0_5, l_0_6, l_0_7, l_1_0, l_1_1, l_1_2, l_1_3, l_2_0, l_2_1, l_2_2, l_2_3, l_2_4, l_5_0, l_5_1, l_5_2, l_5_3, l_18_0, l_18_1, l_18_2, l_18_3, l_18_4, l_24_0, l_26_0, l_79_0, l_80_0, l_95_0, l_95_1, l_95_2, l_95_3, l_95_6, l_95_16, l_95_17, l_95_18, l_95_19, l_95_20, l_95_21, l_95_22, bzBd, bzBp, bzLet, bzOp, f_X10_in, f_X9_within, e_f1, e_f2, e_f3, e_f4, e_f5, e_e1, e_e2, e_e3, e_e4, e_e5, h1, q0, bzGdT b1, n1]
          · rw [hY _ (by rw [st_o (by decide)]; exact s1), st_o (by decide), ← hI.1.1 _ p0, m0, j0]
          · have q := inv_mono _ _ (inv_set (p := 52 + 4 * i + 2) (v := a3) hI p0 (by omega) (by omega) (by omega) (fun _ => by rw [x0]; exact ⟨v, hv, e3⟩) (fun q hq e => absurd e (by omega)))
            rw [m0, j0] at q
            exact q
    · by_cases q1 : a2 = 1
      · by_cases r1 : a3 < 1 ∨ 12 < a3
        · refine err1 hI ?_ (fun τ ht => ?_)
          · unfold f_X9_change
            rw [g_0, if_neg q0, if_pos q1, wi_0 r1, bzBdS, if_pos rfl]; exact bad _ rfl
          · unfold f_X10_change
            rw [g_95, if_neg q0, if_pos q1, in_0 r1, bzBdS, if_pos rfl]; exact bad2 _ _ rfl ht
        · obtain ⟨p0, m0, j0, x0⟩ := vis_p i (by omega) 3 (by decide)
          rcases cut a3 (n := 12) (m := 13) (N := 12) (M := 13) rfl rfl rfl (by decide) with c3 | ⟨c3, c3', -⟩ | ⟨c3, c3', -, v, hv, e3, b3, n3⟩
          · exact absurd (Or.inl (Int32.lt_trans c3 (by decide))) r1
          · exact absurd (Or.inr c3') r1
          · have hv0 : a3 ≠ 0 := by rintro rfl; exact r1 (Or.inl (by decide))
            have hY : ∀ τ : bzS, τ 96 2 = nI N → f_X10_change 95 a1 a2 a3 τ = some (τ 96 (52 + 4 * i + 3), bzSt τ 96 (52 + 4 * i + 3) a3) := by
              intro τ hτ
              have ea : 52 + 4 * a1 + 2 + a2 = nI (52 + 4 * i + 3) := by
                rw [e1, q1, show (52 : Int32) = nI 52 from rfl, show (4 : Int32) = nI 4 from rfl, show (2 : Int32) = nI 2 from rfl, show (1 : Int32) = nI 1 from rfl, pk_mul, nI_add, nI_add, nI_add]
              unfold f_X10_change
              rw [g_95, if_neg q0, if_pos q1, in_1 (fun h => r1 (Or.inl h)) c3', bzBdS, if_neg one_ne]
              unfold fb_X10_change_34
              rw [h2 τ hτ, bzBdS, if_neg one_ne, if_neg one_ne, ea, e_becomes (by omega), bzBpS]
            refine ⟨σ 9 i, bzSt σ 9 i a3, bzSt (bzSt σ 9 i a3) 96 (52 + 4 * i + 3) a3, ?_, ?_, ?_⟩
            · unfold f_X9_change
              rw [g_0, if_neg q0, if_pos q1, wi_1 (fun h => r1 (Or.inl h)) c3', bzBdS, if_neg one_ne]
              simp [fb_X9_change_46, g_0, g_95, g_1, g_2, g_5, g_18, g_24, g_26, g_79, g_80, g_72, l_0_0, l_0_1, l_0_3, l_0_4, l_0_5, l_0_6, l_0_7, l_1_0, l_1_1, l_1_2, l_1_3, l_2_0, l_2_1, l_2_2, l_2_3, l_2_4, l_5_0, l_5_1, l_5_2, l_5_3, l_18_0, l_18_1, l_18_2, l_18_3, l_18_4, l_24_0, l_26_0, l_79_0, l_80_0, l_95_0, l_95_1, l_95_2, l_95_3, l_95_6, l_95_16, l_95_17, l_95_18, l_95_19, l_95_20, l_95_21, l_95_22, bzBd, bzBp, bzLet, bzOp, f_X10_in, f_X9_within, e_f1, e_f2, e_f3, e_f4, e_f5, e_e1, e_e2, e_e3, e_e4, e_e5, h1, q1, bzGdT b1, n1]
            · rw [hY _ (by rw [st_o (by decide)]; exact s1), st_o (by decide), ← hI.1.1 _ p0, m0, j0]
            · have q := inv_mono _ _ (inv_set (p := 52 + 4 * i + 3) (v := a3) hI p0 (by omega) (by omega) (by omega) (fun _ => by rw [x0]; exact ⟨v, hv, e3⟩) (fun q hq e => hv0))
              rw [m0, j0] at q
              exact q
      · refine err1 hI ?_ (fun τ ht => ?_)
        · unfold f_X9_change
          rw [g_0, if_neg q0, if_neg q1]; exact bad _ rfl
        · unfold f_X10_change
          rw [g_95, if_neg q0, if_neg q1]; exact bad2 _ _ rfl ht
theorem row_1 (o : Nat) {a : Int32} {σ : bzS} (h : kd o = 1) {w : Nat} (hw : w ≤ 1) (e : a = nI w) : f_X1_rowOfSteps o a σ = some (some (ly o w)) := by
  subst e
  rcases (show w = 0 ∨ w = 1 by omega) with rfl | rfl
  · unfold f_X1_rowOfSteps; rw [bzGdT h, if_pos (show nI 0 = 0 from rfl)]
  · unfold f_X1_rowOfSteps; rw [bzGdT h, if_neg (show ¬ nI 1 = 0 by decide), if_pos (show nI 1 = 1 from rfl)]
theorem step_p : ∀ i, i ≤ 9 → ∀ w, w ≤ 1 → plB (24 + 2 * i + w) = true ∧ mc (24 + 2 * i + w) = 18 + w ∧ mj (24 + 2 * i + w) = i := by decide +kernel
theorem st_ofStep : bzSt_ofStep bzInv := by
  intro a1 a2 σ n hn hI
  rcases cut a1 (n := 9) (m := 10) (N := 9) (M := 10) rfl rfl rfl (by decide) with c1 | ⟨c1, c1', c1''⟩ | ⟨c1, c1', c1'', i, hi, e1, b1, n1⟩
  · have hb : fb_X9_ofStep_45 0 a1 a2 σ = some (-1000000001, bzSt σ 82 1 (σ 82 1 + 1)) := by
      by_cases q0 : a2 = 0
      · simp [fb_X9_ofStep_45, g_0, g_95, g_1, g_2, g_5, g_18, g_24, g_26, g_79, g_80, g_72, l_0_0, l_0_1, l_0_3, l_0_4, l_0_5, l_0_6, l_0_7, l_1_0, l_1_1, l_1_2, l_1_3, l_2_0, l_2_1, l_2_2, l_2_3, l_2_4, l_5_0, l_5_1, l_5_2, l_5_3, l_18_0, l_18_1, l_18_2, l_18_3, l_18_4, l_24_0, l_26_0, l_79_0, l_80_0, l_95_0, l_95_1, l_95_2, l_95_3, l_95_6, l_95_16, l_95_17, l_95_18, l_95_19, l_95_20, l_95_21, l_95_22, bzBd, bzBp, bzLet, bzOp, f_X10_in, f_X9_within, e_f1, e_f2, e_f3, e_f4, e_f5, e_e1, e_e2, e_e3, e_e4, e_e5, row_1 18 (w := 0) rfl (by decide) q0, ip_0 (a := a1) (k := 19) (Or.inl c1) (Or.inl rfl), bzGdT (show kd 19 = 11 from rfl)]
      · by_cases q1 : a2 = 1
        · simp [fb_X9_ofStep_45, g_0, g_95, g_1, g_2, g_5, g_18, g_24, g_26, g_79, g_80, g_72, l_0_0, l_0_1, l_0_3, l_0_4, l_0_5, l_0_6, l_0_7, l_1_0, l_1_1, l_1_2, l_1_3, l_2_0, l_2_1, l_2_2, l_2_3, l_2_4, l_5_0, l_5_1, l_5_2, l_5_3, l_18_0, l_18_1, l_18_2, l_18_3, l_18_4, l_24_0, l_26_0, l_79_0, l_80_0, l_95_0, l_95_1, l_95_2, l_95_3, l_95_6, l_95_16, l_95_17, l_95_18, l_95_19, l_95_20, l_95_21, l_95_22, bzBd, bzBp, bzLet, bzOp, f_X10_in, f_X9_within, e_f1, e_f2, e_f3, e_f4, e_f5, e_e1, e_e2, e_e3, e_e4, e_e5, row_1 18 (w := 1) rfl (by decide) q1, ip_0 (a := a1) (k := 20) (Or.inl c1) (Or.inl rfl), bzGdT (show kd 20 = 11 from rfl)]
        · simp [fb_X9_ofStep_45, g_0, g_95, g_1, g_2, g_5, g_18, g_24, g_26, g_79, g_80, g_72, l_0_0, l_0_1, l_0_3, l_0_4, l_0_5, l_0_6, l_0_7, l_1_0, l_1_1, l_1_2, l_1_3, l_2_0, l_2_1, l_2_2, l_2_3, l_2_4, l_5_0, l_5_1, l_5_2, l_5_3, l_18_0, l_18_1, l_18_2, l_18_3, l_18_4, l_24_0, l_26_0, l_79_0, l_80_0, l_95_0, l_95_1, l_95_2, l_95_3, l_95_6, l_95_16, l_95_17, l_95_18, l_95_19, l_95_20, l_95_21, l_95_22, bzBd, bzBp, bzLet, bzOp, f_X10_in, f_X9_within, e_f1, e_f2, e_f3, e_f4, e_f5, e_e1, e_e2, e_e3, e_e4, e_e5, row_none1 18 rfl q0 q1]
    refine err1 hI ?_ (fun τ _ => ?_)
    · by_cases q2 : a2 = 2 <;> simp [f_X9_ofStep, g_0, g_95, g_1, g_2, g_5, g_18, g_24, g_26, g_79, g_80, g_72, l_0_0, l_0_1, l_0_3, l_0_4, l_0_5, l_0_6, l_0_7, l_1_0, l_1_1, l_1_2, l_1_3, l_2_0, l_2_1, l_2_2, l_2_3, l_2_4, l_5_0, l_5_1, l_5_2, l_5_3, l_18_0, l_18_1, l_18_2, l_18_3, l_18_4, l_24_0, l_26_0, l_79_0, l_80_0, l_95_0, l_95_1, l_95_2, l_95_3, l_95_6, l_95_16, l_95_17, l_95_18, l_95_19, l_95_20, l_95_21, l_95_22, bzBd, bzBp, bzLet, bzOp, f_X10_in, f_X9_within, e_f1, e_f2, e_f3, e_f4, e_f5, e_e1, e_e2, e_e3, e_e4, e_e5, q2, c1] <;> (first | exact hb | (rw [← q2]; exact hb))
    · simp [f_X10_ofStep, g_0, g_95, g_1, g_2, g_5, g_18, g_24, g_26, g_79, g_80, g_72, l_0_0, l_0_1, l_0_3, l_0_4, l_0_5, l_0_6, l_0_7, l_1_0, l_1_1, l_1_2, l_1_3, l_2_0, l_2_1, l_2_2, l_2_3, l_2_4, l_5_0, l_5_1, l_5_2, l_5_3, l_18_0, l_18_1, l_18_2, l_18_3, l_18_4, l_24_0, l_26_0, l_79_0, l_80_0, l_95_0, l_95_1, l_95_2, l_95_3, l_95_6, l_95_16, l_95_17, l_95_18, l_95_19, l_95_20, l_95_21, l_95_22, bzBd, bzBp, bzLet, bzOp, f_X10_in, f_X9_within, e_f1, e_f2, e_f3, e_f4, e_f5, e_e1, e_e2, e_e3, e_e4, e_e5, c1]
  · have hb : fb_X9_ofStep_45 0 a1 a2 σ = some (-1000000001, bzSt σ 82 1 (σ 82 1 + 1)) := by
      by_cases q0 : a2 = 0
      · simp [fb_X9_ofStep_45, g_0, g_95, g_1, g_2, g_5, g_18, g_24, g_26, g_79, g_80, g_72, l_0_0, l_0_1, l_0_3, l_0_4, l_0_5, l_0_6, l_0_7, l_1_0, l_1_1, l_1_2, l_1_3, l_2_0, l_2_1, l_2_2, l_2_3, l_2_4, l_5_0, l_5_1, l_5_2, l_5_3, l_18_0, l_18_1, l_18_2, l_18_3, l_18_4, l_24_0, l_26_0, l_79_0, l_80_0, l_95_0, l_95_1, l_95_2, l_95_3, l_95_6, l_95_16, l_95_17, l_95_18, l_95_19, l_95_20, l_95_21, l_95_22, bzBd, bzBp, bzLet, bzOp, f_X10_in, f_X9_within, e_f1, e_f2, e_f3, e_f4, e_f5, e_e1, e_e2, e_e3, e_e4, e_e5, row_1 18 (w := 0) rfl (by decide) q0, ip_0 (a := a1) (k := 19) (Or.inr c1'') (Or.inl rfl), bzGdT (show kd 19 = 11 from rfl)]
      · by_cases q1 : a2 = 1
        · simp [fb_X9_ofStep_45, g_0, g_95, g_1, g_2, g_5, g_18, g_24, g_26, g_79, g_80, g_72, l_0_0, l_0_1, l_0_3, l_0_4, l_0_5, l_0_6, l_0_7, l_1_0, l_1_1, l_1_2, l_1_3, l_2_0, l_2_1, l_2_2, l_2_3, l_2_4, l_5_0, l_5_1, l_5_2, l_5_3, l_18_0, l_18_1, l_18_2, l_18_3, l_18_4, l_24_0, l_26_0, l_79_0, l_80_0, l_95_0, l_95_1, l_95_2, l_95_3, l_95_6, l_95_16, l_95_17, l_95_18, l_95_19, l_95_20, l_95_21, l_95_22, bzBd, bzBp, bzLet, bzOp, f_X10_in, f_X9_within, e_f1, e_f2, e_f3, e_f4, e_f5, e_e1, e_e2, e_e3, e_e4, e_e5, row_1 18 (w := 1) rfl (by decide) q1, ip_0 (a := a1) (k := 20) (Or.inr c1'') (Or.inl rfl), bzGdT (show kd 20 = 11 from rfl)]
        · simp [fb_X9_ofStep_45, g_0, g_95, g_1, g_2, g_5, g_18, g_24, g_26, g_79, g_80, g_72, l_0_0, l_0_1, l_0_3, l_0_4, l_0_5, l_0_6, l_0_7, l_1_0, l_1_1, l_1_2, l_1_3, l_2_0, l_2_1, l_2_2, l_2_3, l_2_4, l_5_0, l_5_1, l_5_2, l_5_3, l_18_0, l_18_1, l_18_2, l_18_3, l_18_4, l_24_0, l_26_0, l_79_0, l_80_0, l_95_0, l_95_1, l_95_2, l_95_3, l_95_6, l_95_16, l_95_17, l_95_18, l_95_19, l_95_20, l_95_21, l_95_22, bzBd, bzBp, bzLet, bzOp, f_X10_in, f_X9_within, e_f1, e_f2, e_f3, e_f4, e_f5, e_e1, e_e2, e_e3, e_e4, e_e5, row_none1 18 rfl q0 q1]
    refine err1 hI ?_ (fun τ _ => ?_)
    · by_cases q2 : a2 = 2 <;> simp [f_X9_ofStep, g_0, g_95, g_1, g_2, g_5, g_18, g_24, g_26, g_79, g_80, g_72, l_0_0, l_0_1, l_0_3, l_0_4, l_0_5, l_0_6, l_0_7, l_1_0, l_1_1, l_1_2, l_1_3, l_2_0, l_2_1, l_2_2, l_2_3, l_2_4, l_5_0, l_5_1, l_5_2, l_5_3, l_18_0, l_18_1, l_18_2, l_18_3, l_18_4, l_24_0, l_26_0, l_79_0, l_80_0, l_95_0, l_95_1, l_95_2, l_95_3, l_95_6, l_95_16, l_95_17, l_95_18, l_95_19, l_95_20, l_95_21, l_95_22, bzBd, bzBp, bzLet, bzOp, f_X10_in, f_X9_within, e_f1, e_f2, e_f3, e_f4, e_f5, e_e1, e_e2, e_e3, e_e4, e_e5, q2, c1, c1'] <;> (first | exact hb | (rw [← q2]; exact hb))
    · simp [f_X10_ofStep, g_0, g_95, g_1, g_2, g_5, g_18, g_24, g_26, g_79, g_80, g_72, l_0_0, l_0_1, l_0_3, l_0_4, l_0_5, l_0_6, l_0_7, l_1_0, l_1_1, l_1_2, l_1_3, l_2_0, l_2_1, l_2_2, l_2_3, l_2_4, l_5_0, l_5_1, l_5_2, l_5_3, l_18_0, l_18_1, l_18_2, l_18_3, l_18_4, l_24_0, l_26_0, l_79_0, l_80_0, l_95_0, l_95_1, l_95_2, l_95_3, l_95_6, l_95_16, l_95_17, l_95_18, l_95_19, l_95_20, l_95_21, l_95_22, bzBd, bzBp, bzLet, bzOp, f_X10_in, f_X9_within, e_f1, e_f2, e_f3, e_f4, e_f5, e_e1, e_e2, e_e3, e_e4, e_e5, c1, c1']
  · rcases cut a2 (n := 2) (m := 3) (N := 2) (M := 3) rfl rfl rfl (by decide) with c2 | ⟨c2, c2', -⟩ | ⟨c2, c2', -, w, hw, e2, b2, n2⟩
    · have q0 := out_lit (x := a2) (N := 2) (n := 2) (k := 0) (K := 0) rfl rfl (by decide) (by decide) (Or.inl c2)
      have q1 := out_lit (x := a2) (N := 2) (n := 2) (k := 1) (K := 1) rfl rfl (by decide) (by decide) (Or.inl c2)
      have q2 := out_lit (x := a2) (N := 2) (n := 2) (k := 2) (K := 2) rfl rfl (by decide) (by decide) (Or.inl c2)
      refine err1 hI ?_ (fun τ _ => ?_)
      · simp [f_X9_ofStep, g_0, g_95, g_1, g_2, g_5, g_18, g_24, g_26, g_79, g_80, g_72, l_0_0, l_0_1, l_0_3, l_0_4, l_0_5, l_0_6, l_0_7, l_1_0, l_1_1, l_1_2, l_1_3, l_2_0, l_2_1, l_2_2, l_2_3, l_2_4, l_5_0, l_5_1, l_5_2, l_5_3, l_18_0, l_18_1, l_18_2, l_18_3, l_18_4, l_24_0, l_26_0, l_79_0, l_80_0, l_95_0, l_95_1, l_95_2, l_95_3, l_95_6, l_95_16, l_95_17, l_95_18, l_95_19, l_95_20, l_95_21, l_95_22, bzBd, bzBp, bzLet, bzOp, f_X10_in, f_X9_within, e_f1, e_f2, e_f3, e_f4, e_f5, e_e1, e_e2, e_e3, e_e4, e_e5, q2, fb_X9_ofStep_45, row_none1 18 rfl q0 q1]
      · simp [f_X10_ofStep, g_0, g_95, g_1, g_2, g_5, g_18, g_24, g_26, g_79, g_80, g_72, l_0_0, l_0_1, l_0_3, l_0_4, l_0_5, l_0_6, l_0_7, l_1_0, l_1_1, l_1_2, l_1_3, l_2_0, l_2_1, l_2_2, l_2_3, l_2_4, l_5_0, l_5_1, l_5_2, l_5_3, l_18_0, l_18_1, l_18_2, l_18_3, l_18_4, l_24_0, l_26_0, l_79_0, l_80_0, l_95_0, l_95_1, l_95_2, l_95_3, l_95_6, l_95_16, l_95_17, l_95_18, l_95_19, l_95_20, l_95_21, l_95_22, bzBd, bzBp, bzLet, bzOp, f_X10_in, f_X9_within, e_f1, e_f2, e_f3, e_f4, e_f5, e_e1, e_e2, e_e3, e_e4, e_e5, c1, c1', c2]
    · have q0 := out_lit (x := a2) (N := 2) (n := 2) (k := 0) (K := 0) rfl rfl (by decide) (by decide) (Or.inr c2')
      have q1 := out_lit (x := a2) (N := 2) (n := 2) (k := 1) (K := 1) rfl rfl (by decide) (by decide) (Or.inr c2')
      have q2 := out_lit (x := a2) (N := 2) (n := 2) (k := 2) (K := 2) rfl rfl (by decide) (by decide) (Or.inr c2')
      refine err1 hI ?_ (fun τ _ => ?_)
      · simp [f_X9_ofStep, g_0, g_95, g_1, g_2, g_5, g_18, g_24, g_26, g_79, g_80, g_72, l_0_0, l_0_1, l_0_3, l_0_4, l_0_5, l_0_6, l_0_7, l_1_0, l_1_1, l_1_2, l_1_3, l_2_0, l_2_1, l_2_2, l_2_3, l_2_4, l_5_0, l_5_1, l_5_2, l_5_3, l_18_0, l_18_1, l_18_2, l_18_3, l_18_4, l_24_0, l_26_0, l_79_0, l_80_0, l_95_0, l_95_1, l_95_2, l_95_3, l_95_6, l_95_16, l_95_17, l_95_18, l_95_19, l_95_20, l_95_21, l_95_22, bzBd, bzBp, bzLet, bzOp, f_X10_in, f_X9_within, e_f1, e_f2, e_f3, e_f4, e_f5, e_e1, e_e2, e_e3, e_e4, e_e5, q2, fb_X9_ofStep_45, row_none1 18 rfl q0 q1]
      · simp [f_X10_ofStep, g_0, g_95, g_1, g_2, g_5, g_18, g_24, g_26, g_79, g_80, g_72, l_0_0, l_0_1, l_0_3, l_0_4, l_0_5, l_0_6, l_0_7, l_1_0, l_1_1, l_1_2, l_1_3, l_2_0, l_2_1, l_2_2, l_2_3, l_2_4, l_5_0, l_5_1, l_5_2, l_5_3, l_18_0, l_18_1, l_18_2, l_18_3, l_18_4, l_24_0, l_26_0, l_79_0, l_80_0, l_95_0, l_95_1, l_95_2, l_95_3, l_95_6, l_95_16, l_95_17, l_95_18, l_95_19, l_95_20, l_95_21, l_95_22, bzBd, bzBp, bzLet, bzOp, f_X10_in, f_X9_within, e_f1, e_f2, e_f3, e_f4, e_f5, e_e1, e_e2, e_e3, e_e4, e_e5, c1, c1', c2, c2']
    · rcases (show w = 2 ∨ w ≤ 1 by omega) with rfl | hw1
      · have e2' : a2 = 2 := e2
        subst e2'
        have r5 : σ 2 7 = σ 96 5 := hI.1.1 5 rfl
        obtain ⟨p1, m1, j1⟩ := step_p i hi 1 (by decide)
        have r1 := hI.1.1 _ p1
        rw [m1, j1] at r1
        have r1 : σ 20 i = σ 96 (24 + 2 * i + 1) := r1
        have hip : f_X9_isPlace a1 20 = some 1 := by rw [e1]; exact ip_1 (by rw [n_20]; omega) (by decide) (Or.inl rfl)
        have ea : 24 + 2 * a1 + 1 = nI (24 + 2 * i + 1) := by
          rw [e1, show (24 : Int32) = nI 24 from rfl, show (2 : Int32) = nI 2 from rfl, show (1 : Int32) = nI 1 from rfl, pk_mul, nI_add, nI_add]
        by_cases hg : σ 96 (24 + 2 * i + 1) < 40 + σ 96 5 / 4
        · refine ⟨0, σ, σ, ?_, ?_, inv_mono _ _ hI⟩
          · simp [f_X9_ofStep, g_0, g_95, g_1, g_2, g_5, g_18, g_24, g_26, g_79, g_80, g_72, l_0_0, l_0_1, l_0_3, l_0_4, l_0_5, l_0_6, l_0_7, l_1_0, l_1_1, l_1_2, l_1_3, l_2_0, l_2_1, l_2_2, l_2_3, l_2_4, l_5_0, l_5_1, l_5_2, l_5_3, l_18_0, l_18_1, l_18_2, l_18_3, l_18_4, l_24_0, l_26_0, l_79_0, l_80_0, l_95_0, l_95_1, l_95_2, l_95_3, l_95_6, l_95_16, l_95_17, l_95_18, l_95_19, l_95_20, l_95_21, l_95_22, bzBd, bzBp, bzLet, bzOp, f_X10_in, f_X9_within, e_f1, e_f2, e_f3, e_f4, e_f5, e_e1, e_e2, e_e3, e_e4, e_e5, c1, c1', f_X0_weight, f_X1_isGood, hip, bzGdT b1, n1, r1, r5, hg]
          · simp [f_X10_ofStep, g_0, g_95, g_1, g_2, g_5, g_18, g_24, g_26, g_79, g_80, g_72, l_0_0, l_0_1, l_0_3, l_0_4, l_0_5, l_0_6, l_0_7, l_1_0, l_1_1, l_1_2, l_1_3, l_2_0, l_2_1, l_2_2, l_2_3, l_2_4, l_5_0, l_5_1, l_5_2, l_5_3, l_18_0, l_18_1, l_18_2, l_18_3, l_18_4, l_24_0, l_26_0, l_79_0, l_80_0, l_95_0, l_95_1, l_95_2, l_95_3, l_95_6, l_95_16, l_95_17, l_95_18, l_95_19, l_95_20, l_95_21, l_95_22, bzBd, bzBp, bzLet, bzOp, f_X10_in, f_X9_within, e_f1, e_f2, e_f3, e_f4, e_f5, e_e1, e_e2, e_e3, e_e4, e_e5, c1, c1', show ¬ (2 : Int32) < 0 by decide, show ¬ (2 : Int32) < 2 by decide, f_X10_isGood, f_X10_weight, ea, bzGdT (bzIn_nI (show 24 + 2 * i + 1 < 254 by omega) (by decide)), clN (show 24 + 2 * i + 1 < 2 ^ 31 by omega), hg]
        · refine ⟨1, σ, σ, ?_, ?_, inv_mono _ _ hI⟩
          · simp [f_X9_ofStep, g_0, g_95, g_1, g_2, g_5, g_18, g_24, g_26, g_79, g_80, g_72, l_0_0, l_0_1, l_0_3, l_0_4, l_0_5, l_0_6, l_0_7, l_1_0, l_1_1, l_1_2, l_1_3, l_2_0, l_2_1, l_2_2, l_2_3, l_2_4, l_5_0, l_5_1, l_5_2, l_5_3, l_18_0, l_18_1, l_18_2, l_18_3, l_18_4, l_24_0, l_26_0, l_79_0, l_80_0, l_95_0, l_95_1, l_95_2, l_95_3, l_95_6, l_95_16, l_95_17, l_95_18, l_95_19, l_95_20, l_95_21, l_95_22, bzBd, bzBp, bzLet, bzOp, f_X10_in, f_X9_within, e_f1, e_f2, e_f3, e_f4, e_f5, e_e1, e_e2, e_e3, e_e4, e_e5, c1, c1', f_X0_weight, f_X1_isGood, hip, bzGdT b1, n1, r1, r5, hg]
          · simp [f_X10_ofStep, g_0, g_95, g_1, g_2, g_5, g_18, g_24, g_26, g_79, g_80, g_72, l_0_0, l_0_1, l_0_3, l_0_4, l_0_5, l_0_6, l_0_7, l_1_0, l_1_1, l_1_2, l_1_3, l_2_0, l_2_1, l_2_2, l_2_3, l_2_4, l_5_0, l_5_1, l_5_2, l_5_3, l_18_0, l_18_1, l_18_2, l_18_3, l_18_4, l_24_0, l_26_0, l_79_0, l_80_0, l_95_0, l_95_1, l_95_2, l_95_3, l_95_6, l_95_16, l_95_17, l_95_18, l_95_19, l_95_20, l_95_21, l_95_22, bzBd, bzBp, bzLet, bzOp, f_X10_in, f_X9_within, e_f1, e_f2, e_f3, e_f4, e_f5, e_e1, e_e2, e_e3, e_e4, e_e5, c1, c1', show ¬ (2 : Int32) < 0 by decide, show ¬ (2 : Int32) < 2 by decide, f_X10_isGood, f_X10_weight, ea, bzGdT (bzIn_nI (show 24 + 2 * i + 1 < 254 by omega) (by decide)), clN (show 24 + 2 * i + 1 < 2 ^ 31 by omega), hg]
      · obtain ⟨p1, m1, j1⟩ := step_p i hi w hw1
        have q2 : ¬ a2 = 2 := by rw [e2]; exact fun h => absurd ((nI_eq (a := w) (b := 2) (by omega) (by decide)).mp h) (by omega)
        have q2' : ¬ (2 : Int32) ≤ a2 := by rw [e2]; exact nI_ge (a := w) (b := 2) (by omega) (by decide)
        have ea : 24 + 2 * a1 + a2 = nI (24 + 2 * i + w) := by
          rw [e1, e2, show (24 : Int32) = nI 24 from rfl, show (2 : Int32) = nI 2 from rfl, pk_mul, nI_add, nI_add]
        obtain ⟨k, hk1, hk2, hk3, hk4⟩ : ∃ k, f_X1_rowOfSteps 18 a2 σ = some (some k) ∧ kd k = 11 ∧ ln k = 10 ∧ k = 1 + (18 + w) := by
          rcases (show w = 0 ∨ w = 1 by omega) with rfl | rfl
          · exact ⟨19, row_1 18 rfl (by decide) e2, rfl, rfl, rfl⟩
          · exact ⟨20, row_1 18 rfl (by decide) e2, rfl, rfl, rfl⟩
        refine ok_get (p := 24 + 2 * i + w) (c := k) (j := i) hI p1 (by rw [m1, hk4]) j1 ?_ (fun τ => ?_)
        · have hip : f_X9_isPlace a1 k = some 1 := by rw [e1]; exact ip_1 (by omega) (by omega) (Or.inl hk2)
          simp [f_X9_ofStep, g_0, g_95, g_1, g_2, g_5, g_18, g_24, g_26, g_79, g_80, g_72, l_0_0, l_0_1, l_0_3, l_0_4, l_0_5, l_0_6, l_0_7, l_1_0, l_1_1, l_1_2, l_1_3, l_2_0, l_2_1, l_2_2, l_2_3, l_2_4, l_5_0, l_5_1, l_5_2, l_5_3, l_18_0, l_18_1, l_18_2, l_18_3, l_18_4, l_24_0, l_26_0, l_79_0, l_80_0, l_95_0, l_95_1, l_95_2, l_95_3, l_95_6, l_95_16, l_95_17, l_95_18, l_95_19, l_95_20, l_95_21, l_95_22, bzBd, bzBp, bzLet, bzOp, f_X10_in, f_X9_within, e_f1, e_f2, e_f3, e_f4, e_f5, e_e1, e_e2, e_e3, e_e4, e_e5, q2, fb_X9_ofStep_45, hk1, bzGdT hk2, hip, hk3, bzGdT b1, n1]
        · simp [f_X10_ofStep, g_0, g_95, g_1, g_2, g_5, g_18, g_24, g_26, g_79, g_80, g_72, l_0_0, l_0_1, l_0_3, l_0_4, l_0_5, l_0_6, l_0_7, l_1_0, l_1_1, l_1_2, l_1_3, l_2_0, l_2_1, l_2_2, l_2_3, l_2_4, l_5_0, l_5_1, l_5_2, l_5_3, l_18_0, l_18_1, l_18_2, l_18_3, l_18_4, l_24_0, l_26_0, l_79_0, l_80_0, l_95_0, l_95_1, l_95_2, l_95_3, l_95_6, l_95_16, l_95_17, l_95_18, l_95_19, l_95_20, l_95_21, l_95_22, bzBd, bzBp, bzLet, bzOp, f_X10_in, f_X9_within, e_f1, e_f2, e_f3, e_f4, e_f5, e_e1, e_e2, e_e3, e_e4, e_e5, c1, c1', c2, c2', q2', ea, bzGdT (bzIn_nI (show 24 + 2 * i + w < 254 by omega) (by decide)), clN (show 24 + 2 * i + w < 2 ^ 31 by omega)]
