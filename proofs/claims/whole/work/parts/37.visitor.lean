set_option linter.unusedVariables false
theorem mc_4 : ∀ p, p < 84 → mc p = 4 → p = 2 := by decide +kernel
/-- one more visitor stands: its numbers are there already -/
theorem inv_set2 {n N : Nat} {σ : bzS} (hI : bzInv n σ) (hN : N < 8) (e2 : σ 96 2 = nI N) (h0 : σ 96 (55 + 4 * N) ≠ 0) : bzInv n (bzSt (bzSt σ 5 4 (nI (N + 1))) 96 2 (nI (N + 1))) := by
  have eo : ∀ k, k ≠ 5 → k ≠ 96 → bzSt (bzSt σ 5 4 (nI (N + 1))) 96 2 (nI (N + 1)) k = σ k := fun k h1 h2 => by rw [st_o h2, st_o h1]
  have e96 : bzSt (bzSt σ 5 4 (nI (N + 1))) 96 2 (nI (N + 1)) 96 = upd (σ 96) 2 (nI (N + 1)) := by rw [st_s, st_o (by decide)]
  have e5 : bzSt (bzSt σ 5 4 (nI (N + 1))) 96 2 (nI (N + 1)) 5 = upd (σ 5) 4 (nI (N + 1)) := by rw [st_o (by decide), st_s]
  generalize bzSt (bzSt σ 5 4 (nI (N + 1))) 96 2 (nI (N + 1)) = τ at eo e96 e5
  obtain ⟨⟨i1, ⟨ia, ib⟩, i2, i3, i4⟩, ⟨⟨j1, j2⟩, j3⟩, -⟩ := id hI
  have fr : ∀ p, p ≠ 2 → τ 96 p = σ 96 p := fun p h1 => by rw [e96, pk_un h1]
  refine inv_now hI ⟨?_, ⟨ia.ext ?_ ?_ ?_ ?_ ?_, ib.ext ?_ ?_ ?_ ?_ ?_⟩, ?_, ?_, ?_⟩ ⟨?_, ?_⟩ ?_ (fun k h0 h1 h2 h3 h4 => eo k (by omega) h4) (fun j hj => by rw [eo 95 (by decide) (by decide)])
  · intro p hp
    have hpl := plB_lt hp
    by_cases p2 : p = 2
    · subst p2
      show τ 5 4 = τ 96 2
      rw [e5, e96, pk_us, pk_us]
    · have hm := mc_in p hpl.1 hp
      rw [fr p p2, eo _ (fun e => p2 (mc_4 p hpl.1 (by omega))) (by omega)]
      exact i1 p hp
  · rw [eo _ (by decide) (by decide)]
  · rw [eo _ (by decide) (by decide)]
  · rw [eo _ (by decide) (by decide)]
  · exact fr 10 (by decide)
  · funext j; exact fr _ (by omega)
  · rw [eo _ (by decide) (by decide)]
  · rw [eo _ (by decide) (by decide)]
  · rw [eo _ (by decide) (by decide)]
  · exact fr 11 (by decide)
  · funext j; exact fr _ (by omega)
  · intro i hi hf
    rw [fr 8 (by decide)] at hf
    rw [eo _ (by decide) (by decide), fr _ (by omega)]
    exact i2 i hi hf
  · intro i hi hf
    rw [fr 9 (by decide)] at hf
    rw [eo _ (by decide) (by decide), fr _ (by omega)]
    exact i3 i hi hf
  · show τ 5 5 = -1
    rw [e5, pk_un (by decide)]; exact i4
  · intro p hp h0 h1
    by_cases p2 : p = 2
    · subst p2
      rw [e96, pk_us]
      exact ⟨N + 1, by show N + 1 ≤ 8; omega, rfl⟩
    · rw [fr p p2]; exact j1 p hp h0 h1
  · intro i hi hf
    rw [e96, pk_us] at hf
    rw [fr _ (by omega)]
    by_cases hiN : i = N
    · subst hiN; exact h0
    · refine j2 i hi ?_
      rw [e2]
      have := (nI_ltI (a := i) (b := N + 1) (by omega) (by omega)).mp hf
      exact nI_lt (by omega) (by omega)
  · rw [fr 0 (by decide)]; exact j3
theorem st_visitor : bzSt_visitor bzInv := by
  intro a1 a2 a3 σ n hn hI
  obtain ⟨N, hN, s1, s2⟩ := sizeV hI
  rcases cut a1 (n := 69) (m := 70) (N := 69) (M := 70) rfl rfl rfl (by decide) with c1 | ⟨c1, c1', -⟩ | ⟨c1, c1', -, v, hv, ev, b1, n1⟩
  · refine err1 hI ?_ (fun τ ht => ?_)
    · simp [f_X9_visitor, g_0, g_95, g_1, g_2, g_5, g_18, g_24, g_26, g_79, g_80, g_72, l_0_0, l_0_1, l_0_3, l_0_4, l_0_5, l_0_6, l_0_7, l_1_0, l_1_1, l_1_2, l_1_3, l_2_0, l_2_1, l_2_2, l_2_3, l_2_4, l_5_0, l_5_1, l_5_2, l_5_3, l_18_0, l_18_1, l_18_2, l_18_3, l_18_4, l_24_0, l_26_0, l_79_0, l_80_0, l_95_0, l_95_1, l_95_2, l_95_3, l_95_6, l_95_16, l_95_17, l_95_18, l_95_19, l_95_20, l_95_21, l_95_22, bzBd, bzBp, bzLet, bzOp, f_X10_in, f_X9_within, e_f1, e_f2, e_f3, e_f4, e_f5, e_e1, e_e2, e_e3, e_e4, e_e5, c1]
    · simp [f_X10_visitor, g_0, g_95, g_1, g_2, g_5, g_18, g_24, g_26, g_79, g_80, g_72, l_0_0, l_0_1, l_0_3, l_0_4, l_0_5, l_0_6, l_0_7, l_1_0, l_1_1, l_1_2, l_1_3, l_2_0, l_2_1, l_2_2, l_2_3, l_2_4, l_5_0, l_5_1, l_5_2, l_5_3, l_18_0, l_18_1, l_18_2, l_18_3, l_18_4, l_24_0, l_26_0, l_79_0, l_80_0, l_95_0, l_95_1, l_95_2, l_95_3, l_95_6, l_95_16, l_95_17, l_95_18, l_95_19, l_95_20, l_95_21, l_95_22, bzBd, bzBp, bzLet, bzOp, f_X10_in, f_X9_within, e_f1, e_f2, e_f3, e_f4, e_f5, e_e1, e_e2, e_e3, e_e4, e_e5, c1]
  · refine err1 hI ?_ (fun τ ht => ?_)
    · simp [f_X9_visitor, g_0, g_95, g_1, g_2, g_5, g_18, g_24, g_26, g_79, g_80, g_72, l_0_0, l_0_1, l_0_3, l_0_4, l_0_5, l_0_6, l_0_7, l_1_0, l_1_1, l_1_2, l_1_3, l_2_0, l_2_1, l_2_2, l_2_3, l_2_4, l_5_0, l_5_1, l_5_2, l_5_3, l_18_0, l_18_1, l_18_2, l_18_3, l_18_4, l_24_0, l_26_0, l_79_0, l_80_0, l_95_0, l_95_1, l_95_2, l_95_3, l_95_6, l_95_16, l_95_17, l_95_18, l_95_19, l_95_20, l_95_21, l_95_22, bzBd, bzBp, bzLet, bzOp, f_X10_in, f_X9_within, e_f1, e_f2, e_f3, e_f4, e_f5, e_e1, e_e2, e_e3, e_e4, e_e5, c1, c1']
    · simp [f_X10_visitor, g_0, g_95, g_1, g_2, g_5, g_18, g_24, g_26, g_79, g_80, g_72, l_0_0, l_0_1, l_0_3, l_0_4, l_0_5, l_0_6, l_0_7, l_1_0, l_1_1, l_1_2, l_1_3, l_2_0, l_2_1, l_2_2, l_2_3, l_2_4, l_5_0, l_5_1, l_5_2, l_5_3, l_18_0, l_18_1, l_18_2, l_18_3, l_18_4, l_24_0, l_26_0, l_79_0, l_80_0, l_95_0, l_95_1, l_95_2, l_95_3, l_95_6, l_95_16, l_95_17, l_95_18, l_95_19, l_95_20, l_95_21, l_95_22, bzBd, bzBp, bzLet, bzOp, f_X10_in, f_X9_within, e_f1, e_f2, e_f3, e_f4, e_f5, e_e1, e_e2, e_e3, e_e4, e_e5, c1, c1']
  rcases cut a2 (n := 9) (m := 10) (N := 9) (M := 10) rfl rfl rfl (by decide) with c2 | ⟨c2, c2', -⟩ | ⟨c2, c2', -, u, hu, eu, b2, n2⟩
  · refine err1 hI ?_ (fun τ ht => ?_)
    · simp [f_X9_visitor, g_0, g_95, g_1, g_2, g_5, g_18, g_24, g_26, g_79, g_80, g_72, l_0_0, l_0_1, l_0_3, l_0_4, l_0_5, l_0_6, l_0_7, l_1_0, l_1_1, l_1_2, l_1_3, l_2_0, l_2_1, l_2_2, l_2_3, l_2_4, l_5_0, l_5_1, l_5_2, l_5_3, l_18_0, l_18_1, l_18_2, l_18_3, l_18_4, l_24_0, l_26_0, l_79_0, l_80_0, l_95_0, l_95_1, l_95_2, l_95_3, l_95_6, l_95_16, l_95_17, l_95_18, l_95_19, l_95_20, l_95_21, l_95_22, bzBd, bzBp, bzLet, bzOp, f_X10_in, f_X9_within, e_f1, e_f2, e_f3, e_f4, e_f5, e_e1, e_e2, e_e3, e_e4, e_e5, c1, c1', c2]
    · simp [f_X10_visitor, g_0, g_95, g_1, g_2, g_5, g_18, g_24, g_26, g_79, g_80, g_72, l_0_0, l_0_1, l_0_3, l_0_4, l_0_5, l_0_6, l_0_7, l_1_0, l_1_1, l_1_2, l_1_3, l_2_0, l_2_1, l_2_2, l_2_3, l_2_4, l_5_0, l_5_1, l_5_2, l_5_3, l_18_0, l_18_1, l_18_2, l_18_3, l_18_4, l_24_0, l_26_0, l_79_0, l_80_0, l_95_0, l_95_1, l_95_2, l_95_3, l_95_6, l_95_16, l_95_17, l_95_18, l_95_19, l_95_20, l_95_21, l_95_22, bzBd, bzBp, bzLet, bzOp, f_X10_in, f_X9_within, e_f1, e_f2, e_f3, e_f4, e_f5, e_e1, e_e2, e_e3, e_e4, e_e5, c1, c1', c2]
  · refine err1 hI ?_ (fun τ ht => ?_)
    · simp [f_X9_visitor, g_0, g_95, g_1, g_2, g_5, g_18, g_24, g_26, g_79, g_80, g_72, l_0_0, l_0_1, l_0_3, l_0_4, l_0_5, l_0_6, l_0_7, l_1_0, l_1_1, l_1_2, l_1_3, l_2_0, l_2_1, l_2_2, l_2_3, l_2_4, l_5_0, l_5_1, l_5_2, l_5_3, l_18_0, l_18_1, l_18_2, l_18_3, l_18_4, l_24_0, l_26_0, l_79_0, l_80_0, l_95_0, l_95_1, l_95_2, l_95_3, l_95_6, l_95_16, l_95_17, l_95_18, l_95_19, l_95_20, l_95_21, l_95_22, bzBd, bzBp, bzLet, bzOp, f_X10_in, f_X9_within, e_f1, e_f2, e_f3, e_f4, e_f5, e_e1, e_e2, e_e3, e_e4, e_e5, c1, c1', c2, c2']
    · simp [f_X10_visitor, g_0, g_95, g_1, g_2, g_5, g_18, g_24, g_26, g_79, g_80, g_72, l_0_0, l_0_1, l_0_3, l_0_4, l_0_5, l_0_6, l_0_7, l_1_0, l_1_1, l_1_2, l_1_3, l_2_0, l_2_1, l_2_2, l_2_3, l_2_4, l_5_0, l_5_1, l_5_2, l_5_3, l_18_0, l_18_1, l_18_2, l_18_3, l_18_4, l_24_0, l_26_0, l_79_0, l_80_0, l_95_0, l_95_1, l_95_2, l_95_3, l_95_6, l_95_16, l_95_17, l_95_18, l_95_19, l_95_20, l_95_21, l_95_22, bzBd, bzBp, bzLet, bzOp, f_X10_in, f_X9_within, e_f1, e_f2, e_f3, e_f4, e_f5, e_e1, e_e2, e_e3, e_e4, e_e5, c1, c1', c2, c2']
  by_cases c3 : a3 < 1
  · refine err1 hI ?_ (fun τ ht => ?_)
    · simp [f_X9_visitor, g_0, g_95, g_1, g_2, g_5, g_18, g_24, g_26, g_79, g_80, g_72, l_0_0, l_0_1, l_0_3, l_0_4, l_0_5, l_0_6, l_0_7, l_1_0, l_1_1, l_1_2, l_1_3, l_2_0, l_2_1, l_2_2, l_2_3, l_2_4, l_5_0, l_5_1, l_5_2, l_5_3, l_18_0, l_18_1, l_18_2, l_18_3, l_18_4, l_24_0, l_26_0, l_79_0, l_80_0, l_95_0, l_95_1, l_95_2, l_95_3, l_95_6, l_95_16, l_95_17, l_95_18, l_95_19, l_95_20, l_95_21, l_95_22, bzBd, bzBp, bzLet, bzOp, f_X10_in, f_X9_within, e_f1, e_f2, e_f3, e_f4, e_f5, e_e1, e_e2, e_e3, e_e4, e_e5, c1, c1', c2, c2', c3]
    · simp [f_X10_visitor, g_0, g_95, g_1, g_2, g_5, g_18, g_24, g_26, g_79, g_80, g_72, l_0_0, l_0_1, l_0_3, l_0_4, l_0_5, l_0_6, l_0_7, l_1_0, l_1_1, l_1_2, l_1_3, l_2_0, l_2_1, l_2_2, l_2_3, l_2_4, l_5_0, l_5_1, l_5_2, l_5_3, l_18_0, l_18_1, l_18_2, l_18_3, l_18_4, l_24_0, l_26_0, l_79_0, l_80_0, l_95_0, l_95_1, l_95_2, l_95_3, l_95_6, l_95_16, l_95_17, l_95_18, l_95_19, l_95_20, l_95_21, l_95_22, bzBd, bzBp, bzLet, bzOp, f_X10_in, f_X9_within, e_f1, e_f2, e_f3, e_f4, e_f5, e_e1, e_e2, e_e3, e_e4, e_e5, c1, c1', c2, c2', c3]
  by_cases c3' : 12 < a3
  · refine err1 hI ?_ (fun τ ht => ?_)
    · simp [f_X9_visitor, g_0, g_95, g_1, g_2, g_5, g_18, g_24, g_26, g_79, g_80, g_72, l_0_0, l_0_1, l_0_3, l_0_4, l_0_5, l_0_6, l_0_7, l_1_0, l_1_1, l_1_2, l_1_3, l_2_0, l_2_1, l_2_2, l_2_3, l_2_4, l_5_0, l_5_1, l_5_2, l_5_3, l_18_0, l_18_1, l_18_2, l_18_3, l_18_4, l_24_0, l_26_0, l_79_0, l_80_0, l_95_0, l_95_1, l_95_2, l_95_3, l_95_6, l_95_16, l_95_17, l_95_18, l_95_19, l_95_20, l_95_21, l_95_22, bzBd, bzBp, bzLet, bzOp, f_X10_in, f_X9_within, e_f1, e_f2, e_f3, e_f4, e_f5, e_e1, e_e2, e_e3, e_e4, e_e5, c1, c1', c2, c2', c3, c3']
    · simp [f_X10_visitor, g_0, g_95, g_1, g_2, g_5, g_18, g_24, g_26, g_79, g_80, g_72, l_0_0, l_0_1, l_0_3, l_0_4, l_0_5, l_0_6, l_0_7, l_1_0, l_1_1, l_1_2, l_1_3, l_2_0, l_2_1, l_2_2, l_2_3, l_2_4, l_5_0, l_5_1, l_5_2, l_5_3, l_18_0, l_18_1, l_18_2, l_18_3, l_18_4, l_24_0, l_26_0, l_79_0, l_80_0, l_95_0, l_95_1, l_95_2, l_95_3, l_95_6, l_95_16, l_95_17, l_95_18, l_95_19, l_95_20, l_95_21, l_95_22, bzBd, bzBp, bzLet, bzOp, f_X10_in, f_X9_within, e_f1, e_f2, e_f3, e_f4, e_f5, e_e1, e_e2, e_e3, e_e4, e_e5, c1, c1', c2, c2', c3, c3']
  by_cases h8 : N = 8
  · subst h8
    refine err4 hI ?_ (fun τ ht => ?_)
    · simp [f_X9_visitor, g_0, g_95, g_1, g_2, g_5, g_18, g_24, g_26, g_79, g_80, g_72, l_0_0, l_0_1, l_0_3, l_0_4, l_0_5, l_0_6, l_0_7, l_1_0, l_1_1, l_1_2, l_1_3, l_2_0, l_2_1, l_2_2, l_2_3, l_2_4, l_5_0, l_5_1, l_5_2, l_5_3, l_18_0, l_18_1, l_18_2, l_18_3, l_18_4, l_24_0, l_26_0, l_79_0, l_80_0, l_95_0, l_95_1, l_95_2, l_95_3, l_95_6, l_95_16, l_95_17, l_95_18, l_95_19, l_95_20, l_95_21, l_95_22, bzBd, bzBp, bzLet, bzOp, f_X10_in, f_X9_within, e_f1, e_f2, e_f3, e_f4, e_f5, e_e1, e_e2, e_e3, e_e4, e_e5, c1, c1', c2, c2', c3, c3', f_X7_add, s2, show ¬ nI 8 < (8 : Int32) by decide]
    · have : nI 8 = 8 := rfl
      simp [f_X10_visitor, g_0, g_95, g_1, g_2, g_5, g_18, g_24, g_26, g_79, g_80, g_72, l_0_0, l_0_1, l_0_3, l_0_4, l_0_5, l_0_6, l_0_7, l_1_0, l_1_1, l_1_2, l_1_3, l_2_0, l_2_1, l_2_2, l_2_3, l_2_4, l_5_0, l_5_1, l_5_2, l_5_3, l_18_0, l_18_1, l_18_2, l_18_3, l_18_4, l_24_0, l_26_0, l_79_0, l_80_0, l_95_0, l_95_1, l_95_2, l_95_3, l_95_6, l_95_16, l_95_17, l_95_18, l_95_19, l_95_20, l_95_21, l_95_22, bzBd, bzBp, bzLet, bzOp, f_X10_in, f_X9_within, e_f1, e_f2, e_f3, e_f4, e_f5, e_e1, e_e2, e_e3, e_e4, e_e5, c1, c1', c2, c2', c3, c3', ht 96 (by decide), s1, this]
  have hN8 : N < 8 := by omega
  obtain ⟨w, hw1, hw2, ew⟩ : ∃ w : Nat, 1 ≤ w ∧ w ≤ 12 ∧ a3 = nI w := by
    rcases rng a3 (n := 12) (by decide) with ⟨k, k1, k2⟩ | h | h
    · refine ⟨k, ?_, k1, k2⟩
      rcases Nat.eq_zero_or_pos k with h0 | h0
      · subst h0; subst k2; exact absurd (by decide) c3
      · exact h0
    · exact absurd (Int32.lt_trans h (by decide)) c3
    · exact absurd h c3'
  have ed : a1 / 10 = nI (v / 10) := by rw [ev]; exact pk_div (d := 10) (by omega) (by decide) (by decide)
  have er : a1 - a1 / 10 * 10 = nI (v % 10) := by rw [ev]; exact pk_rem (d := 10) (by omega) (by decide) (by decide)
  obtain ⟨p0, m0, j0, x0⟩ := vis_p N hN8 0 (by decide)
  obtain ⟨p1, m1, j1, x1⟩ := vis_p N hN8 1 (by decide)
  obtain ⟨p2, m2, j2, x2⟩ := vis_p N hN8 2 (by decide)
  obtain ⟨p3, m3, j3, x3⟩ := vis_p N hN8 3 (by decide)
  have q1 := inv_set (p := 52 + 4 * N + 0) (v := nI (v / 10)) hI p0 (by omega) (by omega) (by omega) (fun _ => by rw [x0, if_pos rfl]; exact ⟨v / 10, by omega, rfl⟩) (fun q hq e => absurd e (by omega))
  rw [m0, j0] at q1
  have q2 := inv_set (p := 52 + 4 * N + 1) (v := nI (v % 10)) q1 p1 (by omega) (by omega) (by omega) (fun _ => by rw [x1, if_neg (by decide), if_neg (by decide)]; exact ⟨v % 10, by omega, rfl⟩) (fun q hq e => absurd e (by omega))
  rw [m1, j1] at q2
  have q3 := inv_set (p := 52 + 4 * N + 2) (v := nI u) q2 p2 (by omega) (by omega) (by omega) (fun _ => by rw [x2, if_neg (by decide), if_neg (by decide)]; exact ⟨u, by omega, rfl⟩) (fun q hq e => absurd e (by omega))
  rw [m2, j2] at q3
  have w0 : nI w ≠ 0 := fun h => absurd ((nI_eq (a := w) (b := 0) (by omega) (by decide)).mp h) (by omega)
  have q4 := inv_set (p := 52 + 4 * N + 3) (v := nI w) q3 p3 (by omega) (by omega) (by omega) (fun _ => by rw [x3, if_neg (by decide), if_pos rfl]; exact ⟨w, by omega, rfl⟩) (fun q hq e => w0)
  rw [m3, j3] at q4
  have q5 := inv_mono _ _ (inv_set2 (N := N) q4 hN8 (by rw [st_s, pk_un (by omega), st_o (by decide), st_s, pk_un (by omega), st_o (by decide), st_s, pk_un (by omega), st_o (by decide), st_s, pk_un (by omega), st_o (by decide)]; exact s1) (by rw [show 55 + 4 * N = 52 + 4 * N + 3 by omega, st_s, pk_us]; exact w0))
  have er' : a1 - nI (v / 10) * 10 = nI (v % 10) := by rw [← ed]; exact er
  have l8 : nI N < 8 := nI_lt (b := 8) (by omega) (by decide)
  have nl8 : ¬ nI N = 8 := fun h => h8 ((nI_eq (a := N) (b := 8) (by omega) (by decide)).mp h)
  have in8 : bzIn (nI N) 8 := bzIn_nI hN8 (by decide)
  have cl := clN (i := N) (by omega)
  have sub1 : nI (N + 1) - 1 = nI N := by rw [show (1 : Int32) = nI 1 from rfl, pk_sub (by omega)]; rfl
  subst eu; subst ew
  refine ⟨nI N, bzSt (bzSt (bzSt (bzSt (bzSt σ 6 N (nI (v / 10))) 7 N (nI (v % 10))) 8 N (nI u)) 9 N (nI w)) 5 4 (nI (N + 1)), bzSt (bzSt (bzSt (bzSt (bzSt (bzSt (bzSt (bzSt (bzSt (bzSt σ 6 N (nI (v / 10))) 7 N (nI (v % 10))) 8 N (nI u)) 9 N (nI w)) 5 4 (nI (N + 1))) 96 (52 + 4 * N + 0) (nI (v / 10))) 96 (52 + 4 * N + 1) (nI (v % 10))) 96 (52 + 4 * N + 2) (nI u)) 96 (52 + 4 * N + 3) (nI w)) 96 2 (nI (N + 1)), ?_, ?_, ?_⟩
  · have t1 : ∀ c x, c ≠ 5 → bzSt σ c N x 5 4 = nI N := fun c x h => by rw [st_o (Ne.symm h)]; exact s2
    have t4 : bzSt (bzSt (bzSt (bzSt σ 6 N (nI (v / 10))) 7 N (nI (v % 10))) 8 N (nI u)) 9 N (nI w) 5 4 = nI N := by rw [st_o (by decide), st_o (by decide), st_o (by decide), st_o (by decide)]; exact s2
    have t3 : bzSt (bzSt (bzSt σ 6 N (nI (v / 10))) 7 N (nI (v % 10))) 8 N (nI u) 5 4 = nI N := by rw [st_o (by decide), st_o (by decide), st_o (by decide)]; exact s2
    have t2 : bzSt (bzSt σ 6 N (nI (v / 10))) 7 N (nI (v % 10)) 5 4 = nI N := by rw [st_o (by decide), st_o (by decide)]; exact s2
    have t0 : bzSt σ 6 N (nI (v / 10)) 5 4 = nI N := by rw [st_o (by decide)]; exact s2
    simp only [f_X9_visitor, g_0, g_95, g_1, g_2, g_5, g_18, g_24, g_26, g_79, g_80, g_72, l_0_0, l_0_1, l_0_3, l_0_4, l_0_5, l_0_6, l_0_7, l_1_0, l_1_1, l_1_2, l_1_3, l_2_0, l_2_1, l_2_2, l_2_3, l_2_4, l_5_0, l_5_1, l_5_2, l_5_3, l_18_0, l_18_1, l_18_2, l_18_3, l_18_4, l_24_0, l_26_0, l_79_0, l_80_0, l_95_0, l_95_1, l_95_2, l_95_3, l_95_6, l_95_16, l_95_17, l_95_18, l_95_19, l_95_20, l_95_21, l_95_22, bzBd, bzBp, bzLet, bzOp, f_X10_in, f_X9_within, e_f1, e_f2, e_f3, e_f4, e_f5, e_e1, e_e2, e_e3, e_e4, e_e5, if_neg c1, if_neg c1', if_neg c2, if_neg c2', if_neg c3, if_neg c3', if_neg one_ne, f_X7_add, s2, if_pos l8, bzGdT in8, cl, er', ed, t0, t2, t3, t4, nI_1, st_s, pk_us, sub1, if_neg (nI_n0 (k := N) (by omega))]
  · have t2 : (bzSt (bzSt (bzSt (bzSt (bzSt σ 6 N (nI (v / 10))) 7 N (nI (v % 10))) 8 N (nI u)) 9 N (nI w)) 5 4 (nI (N + 1))) 96 = σ 96 := by rw [st_o (by decide), st_o (by decide), st_o (by decide), st_o (by decide), st_o (by decide)]
    generalize (bzSt (bzSt (bzSt (bzSt (bzSt σ 6 N (nI (v / 10))) 7 N (nI (v % 10))) 8 N (nI u)) 9 N (nI w)) 5 4 (nI (N + 1))) = ρ at t2
    have t3 : ρ 96 2 = nI N := by rw [t2]; exact s1
    simp only [f_X10_visitor, g_0, g_95, g_1, g_2, g_5, g_18, g_24, g_26, g_79, g_80, g_72, l_0_0, l_0_1, l_0_3, l_0_4, l_0_5, l_0_6, l_0_7, l_1_0, l_1_1, l_1_2, l_1_3, l_2_0, l_2_1, l_2_2, l_2_3, l_2_4, l_5_0, l_5_1, l_5_2, l_5_3, l_18_0, l_18_1, l_18_2, l_18_3, l_18_4, l_24_0, l_26_0, l_79_0, l_80_0, l_95_0, l_95_1, l_95_2, l_95_3, l_95_6, l_95_16, l_95_17, l_95_18, l_95_19, l_95_20, l_95_21, l_95_22, bzBd, bzBp, bzLet, bzOp, f_X10_in, f_X9_within, e_f1, e_f2, e_f3, e_f4, e_f5, e_e1, e_e2, e_e3, e_e4, e_e5, if_neg c1, if_neg c1', if_neg c2, if_neg c2', if_neg c3, if_neg c3', if_neg one_ne, t3, if_neg nl8, er', ed, e_puts (k := N) (w := 0) (W := 0) rfl (by omega), e_puts (k := N) (w := 1) (W := 1) rfl (by omega), e_puts (k := N) (w := 2) (W := 2) rfl (by omega), e_puts (k := N) (w := 3) (W := 3) rfl (by omega)]
    rw [st_s, st_s, st_s, st_s, pk_un (by omega), pk_un (by omega), pk_un (by omega), pk_un (by omega), t3, nI_1]
  · have e : (bzSt (bzSt (bzSt (bzSt (bzSt (bzSt (bzSt (bzSt (bzSt (bzSt σ 6 N (nI (v / 10))) 7 N (nI (v % 10))) 8 N (nI u)) 9 N (nI w)) 5 4 (nI (N + 1))) 96 (52 + 4 * N + 0) (nI (v / 10))) 96 (52 + 4 * N + 1) (nI (v % 10))) 96 (52 + 4 * N + 2) (nI u)) 96 (52 + 4 * N + 3) (nI w)) 96 2 (nI (N + 1))) = bzSt (bzSt (bzSt (bzSt (bzSt (bzSt (bzSt (bzSt (bzSt (bzSt σ 6 N (nI (v / 10))) 96 (52 + 4 * N + 0) (nI (v / 10))) 7 N (nI (v % 10))) 96 (52 + 4 * N + 1) (nI (v % 10))) 8 N (nI u)) 96 (52 + 4 * N + 2) (nI u)) 9 N (nI w)) 96 (52 + 4 * N + 3) (nI w)) 5 4 (nI (N + 1))) 96 2 (nI (N + 1)) := by
      funext k
      by_cases k96 : k = 96
      · subst k96; simp only [bzSt, if_pos, if_neg (show ¬ (96 = 5) by decide), if_neg (show ¬ (96 = 6) by decide), if_neg (show ¬ (96 = 7) by decide), if_neg (show ¬ (96 = 8) by decide), if_neg (show ¬ (96 = 9) by decide)]
      by_cases k5 : k = 5
      · subst k5; simp only [bzSt, if_pos, if_neg (show ¬ (5 = 96) by decide), if_neg (show ¬ (5 = 6) by decide), if_neg (show ¬ (5 = 7) by decide), if_neg (show ¬ (5 = 8) by decide), if_neg (show ¬ (5 = 9) by decide)]
      simp only [st_o k96, st_o k5]
      by_cases k9 : k = 9
      · subst k9; simp only [bzSt, if_pos, if_neg (show ¬ (9 = 96) by decide), if_neg (show ¬ (9 = 6) by decide), if_neg (show ¬ (9 = 7) by decide), if_neg (show ¬ (9 = 8) by decide), if_neg (show ¬ (9 = 5) by decide)]
      simp only [st_o k9]
      by_cases k8 : k = 8
      · subst k8; simp only [bzSt, if_pos, if_neg (show ¬ (8 = 96) by decide), if_neg (show ¬ (8 = 6) by decide), if_neg (show ¬ (8 = 7) by decide), if_neg (show ¬ (8 = 9) by decide), if_neg (show ¬ (8 = 5) by decide)]
      simp only [st_o k8]
      by_cases k7 : k = 7
      · subst k7; simp only [bzSt, if_pos, if_neg (show ¬ (7 = 96) by decide), if_neg (show ¬ (7 = 6) by decide), if_neg (show ¬ (7 = 8) by decide), if_neg (show ¬ (7 = 9) by decide), if_neg (show ¬ (7 = 5) by decide)]
      simp only [st_o k7]
      by_cases k6 : k = 6
      · subst k6; simp only [bzSt, if_pos, if_neg (show ¬ (6 = 96) by decide), if_neg (show ¬ (6 = 7) by decide), if_neg (show ¬ (6 = 8) by decide), if_neg (show ¬ (6 = 9) by decide), if_neg (show ¬ (6 = 5) by decide)]
      simp only [st_o k96, st_o k5, st_o k9, st_o k8, st_o k7, st_o k6]
    rw [e]
    exact q5
