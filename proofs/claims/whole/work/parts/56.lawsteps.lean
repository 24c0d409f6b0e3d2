set_option linter.unusedVariables false
/-! THE LAWS: the steps law, ofFigure, text -/
theorem fr_ne {k q : Nat} (h : frB k = false) (hq : frB q = true) : k ≠ q := fun e => by rw [e, hq] at h; exact Bool.noConfusion h
theorem lawsR {n : Nat} {σ : bzS} (hI : bzInv n σ) : bzLw (σ 96) := lw_of_cr (cr_of_sr hI.1)
theorem yn_c {σ : bzS} {b : Nat} {f : Nat → Int32} {y : Nat} (hb : b = 1 ∨ b = 54) (h : bzCR σ b f) (hy : f 0 = nI y) (h31 : y < 2 ^ 31) : ∃ τ, f_X0_yearning (b + 1) σ = some (pLaw f 0 (f 3) (pHeat f y) (f 4), τ) ∧ ∀ k, k ≠ b + 12 → k ≠ b + 16 → τ k = σ k := by
  obtain ⟨τ, t1, t2⟩ := gv_c hb h (u := 0) (Or.inl rfl) (f 3) (pHeat f y) (f 4)
  refine ⟨τ, ?_, t2⟩
  have k0 : kd (b + 1) = 0 := by rcases hb with rfl | rfl <;> rfl
  have e5 : σ (b + 1) 5 = f 3 := h.1 3 rfl
  have e6 : σ (b + 1) 6 = f 4 := h.1 4 rfl
  have t1 : f_X0_given (b + 1) 0 (f 3) (pHeat f y) (f 4) σ = _ := t1
  unfold f_X0_yearning
  rw [bzGdT k0, heat_c hb h hy h31, bzBdS, e5, e6, t1, bzBpS]
theorem sh_c {σ : bzS} {b : Nat} {f : Nat → Int32} {y : Nat} (hb : b = 1 ∨ b = 54) (h : bzCR σ b f) (hy : f 0 = nI y) (h31 : y < 2 ^ 31) : ∃ τ, f_X0_shifting (b + 1) σ = some (pLaw f 1 (f 3) (pHeat f y) (f 5), τ) ∧ ∀ k, k ≠ b + 12 → k ≠ b + 16 → τ k = σ k := by
  obtain ⟨τ, t1, t2⟩ := gv_c hb h (u := 1) (Or.inr rfl) (f 3) (pHeat f y) (f 5)
  refine ⟨τ, ?_, t2⟩
  have k0 : kd (b + 1) = 0 := by rcases hb with rfl | rfl <;> rfl
  have e5 : σ (b + 1) 5 = f 3 := h.1 3 rfl
  have e7 : σ (b + 1) 7 = f 5 := h.1 5 rfl
  have t1 : f_X0_given (b + 1) 1 (f 3) (pHeat f y) (f 5) σ = _ := t1
  unfold f_X0_shifting
  rw [bzGdT k0, heat_c hb h hy h31, bzBdS, e5, e7, t1, bzBpS]
theorem yn_m {σ : bzS} {y : Nat} (hl : bzLw (σ 96)) (hy : σ 96 0 = nI y) (h31 : y < 2 ^ 31) : ∃ τ, f_X10_yearns 95 σ = some (pLaw (σ 96) 0 (σ 96 3) (pHeat (σ 96) y) (σ 96 4), τ) ∧ wkF σ τ := by
  obtain ⟨τ, t1, t2⟩ := lw_m hl (u := 0) (Or.inl rfl) (σ 96 3) (pHeat (σ 96) y) (σ 96 4)
  refine ⟨τ, ?_, t2⟩
  have t1 : f_X10_lawOf 95 0 (σ 96 3) (pHeat (σ 96) y) (σ 96 4) σ = _ := t1
  unfold f_X10_yearns
  rw [g_95, heat_m hy h31, bzBdS, l_95_0, t1, bzBpS]
theorem sh_m {σ : bzS} {y : Nat} (hl : bzLw (σ 96)) (hy : σ 96 0 = nI y) (h31 : y < 2 ^ 31) : ∃ τ, f_X10_shifts 95 σ = some (pLaw (σ 96) 1 (σ 96 3) (pHeat (σ 96) y) (σ 96 5), τ) ∧ wkF σ τ := by
  obtain ⟨τ, t1, t2⟩ := lw_m hl (u := 1) (Or.inr rfl) (σ 96 3) (pHeat (σ 96) y) (σ 96 5)
  refine ⟨τ, ?_, t2⟩
  have t1 : f_X10_lawOf 95 1 (σ 96 3) (pHeat (σ 96) y) (σ 96 5) σ = _ := t1
  unfold f_X10_shifts
  rw [g_95, heat_m hy h31, bzBdS, l_95_0, t1, bzBpS]
/-- both sides leave only junk -/
theorem inv_junk {n : Nat} {σ τ ρ : bzS} (hI : bzInv n σ) (h1 : ∀ k, k ≠ 13 → k ≠ 17 → τ k = σ k) (h2 : wkF τ ρ) : bzInv n ρ := by
  refine inv_frame hI (fun k hk hf h95 => ?_) (fun j hj => ?_)
  · rw [h2.1 k h95, h1 k (fr_ne hf rfl) (fr_ne hf rfl)]
  · rw [h2.2 j (by omega), h1 95 (by decide) (by decide)]
theorem st_law : bzSt_law bzInv := by
  intro a1 a2 a3 a4 σ n hn hI
  rcases cut a1 (n := 1) (m := 2) (N := 1) (M := 2) rfl rfl rfl (by decide) with c1 | ⟨c1, c1', -⟩ | ⟨c1, c1', -, w, hw, e1, b1, n1⟩
  · refine err1 hI ?_ (fun τ _ => ?_)
    · simp [f_X9_law, g_0, g_95, g_1, g_2, g_5, g_18, g_24, g_26, g_79, g_80, g_72, l_0_0, l_0_1, l_0_3, l_0_4, l_0_5, l_0_6, l_0_7, l_1_0, l_1_1, l_1_2, l_1_3, l_2_0, l_2_1, l_2_2, l_2_3, l_2_4, l_5_0, l_5_1, l_5_2, l_5_3, l_18_0, l_18_1, l_18_2, l_18_3, l_18_4, l_24_0, l_26_0, l_79_0, l_80_0, l_95_0, l_95_1, l_95_2, l_95_3, l_95_6, l_95_16, l_95_17, l_95_18, l_95_19, l_95_20, l_95_21, l_95_22, bzBd, bzBp, bzLet, bzOp, f_X10_in, f_X9_within, e_f1, e_f2, e_f3, e_f4, e_f5, e_e1, e_e2, e_e3, e_e4, e_e5, c1]
    · simp [f_X10_law, g_0, g_95, g_1, g_2, g_5, g_18, g_24, g_26, g_79, g_80, g_72, l_0_0, l_0_1, l_0_3, l_0_4, l_0_5, l_0_6, l_0_7, l_1_0, l_1_1, l_1_2, l_1_3, l_2_0, l_2_1, l_2_2, l_2_3, l_2_4, l_5_0, l_5_1, l_5_2, l_5_3, l_18_0, l_18_1, l_18_2, l_18_3, l_18_4, l_24_0, l_26_0, l_79_0, l_80_0, l_95_0, l_95_1, l_95_2, l_95_3, l_95_6, l_95_16, l_95_17, l_95_18, l_95_19, l_95_20, l_95_21, l_95_22, bzBd, bzBp, bzLet, bzOp, f_X10_in, f_X9_within, e_f1, e_f2, e_f3, e_f4, e_f5, e_e1, e_e2, e_e3, e_e4, e_e5, c1]
  · refine err1 hI ?_ (fun τ _ => ?_)
    · simp [f_X9_law, g_0, g_95, g_1, g_2, g_5, g_18, g_24, g_26, g_79, g_80, g_72, l_0_0, l_0_1, l_0_3, l_0_4, l_0_5, l_0_6, l_0_7, l_1_0, l_1_1, l_1_2, l_1_3, l_2_0, l_2_1, l_2_2, l_2_3, l_2_4, l_5_0, l_5_1, l_5_2, l_5_3, l_18_0, l_18_1, l_18_2, l_18_3, l_18_4, l_24_0, l_26_0, l_79_0, l_80_0, l_95_0, l_95_1, l_95_2, l_95_3, l_95_6, l_95_16, l_95_17, l_95_18, l_95_19, l_95_20, l_95_21, l_95_22, bzBd, bzBp, bzLet, bzOp, f_X10_in, f_X9_within, e_f1, e_f2, e_f3, e_f4, e_f5, e_e1, e_e2, e_e3, e_e4, e_e5, c1, c1']
    · simp [f_X10_law, g_0, g_95, g_1, g_2, g_5, g_18, g_24, g_26, g_79, g_80, g_72, l_0_0, l_0_1, l_0_3, l_0_4, l_0_5, l_0_6, l_0_7, l_1_0, l_1_1, l_1_2, l_1_3, l_2_0, l_2_1, l_2_2, l_2_3, l_2_4, l_5_0, l_5_1, l_5_2, l_5_3, l_18_0, l_18_1, l_18_2, l_18_3, l_18_4, l_24_0, l_26_0, l_79_0, l_80_0, l_95_0, l_95_1, l_95_2, l_95_3, l_95_6, l_95_16, l_95_17, l_95_18, l_95_19, l_95_20, l_95_21, l_95_22, bzBd, bzBp, bzLet, bzOp, f_X10_in, f_X9_within, e_f1, e_f2, e_f3, e_f4, e_f5, e_e1, e_e2, e_e3, e_e4, e_e5, c1, c1']
  · subst e1
    have hu : w = 0 ∨ w = 1 := by omega
    obtain ⟨τ, t1, t2⟩ := gv_c (b := 1) (Or.inl rfl) (cr_of_sr hI.1) hu a2 a3 a4
    have e96 : τ 96 = σ 96 := t2 96 (by decide) (by decide)
    obtain ⟨ρ, r1, r2⟩ := lw_m (σ := τ) (by rw [e96]; exact lawsR hI) hu a2 a3 a4
    rw [e96] at r1
    refine ⟨pLaw (σ 96) w a2 a3 a4, τ, ρ, ?_, ?_, inv_mono _ _ (inv_junk hI t2 r2)⟩
    · unfold f_X9_law
      rw [g_0, wi_1 c1 c1', bzBdS, if_neg one_ne, l_0_0, l_1_0, t1, bzBpS]
    · unfold f_X10_law
      rw [g_95, in_1 c1 c1', bzBdS, if_neg one_ne, r1, bzBpS]
theorem st_ofFigure : bzSt_ofFigure bzInv := by
  intro a1 σ n hn hI
  obtain ⟨y, hy, ey⟩ := yearN hI
  by_cases a5 : a1 = 5
  · have e7 : σ 2 7 = σ 96 5 := hI.1.1 5 rfl
    subst a5
    refine ⟨40 + σ 96 5 / 4, σ, σ, ?_, rfl, inv_mono _ _ hI⟩
    rw [← e7]; rfl
  by_cases a6 : a1 = 6
  · subst a6
    obtain ⟨τ, t1, t2⟩ := yn_c (b := 1) (Or.inl rfl) (cr_of_sr hI.1) ey (by omega)
    have e96 : τ 96 = σ 96 := t2 96 (by decide) (by decide)
    obtain ⟨ρ, r1, r2⟩ := yn_m (σ := τ) (y := y) (by rw [e96]; exact lawsR hI) (by rw [e96]; exact ey) (by omega)
    rw [e96] at r1
    refine ⟨pLaw (σ 96) 0 (σ 96 3) (pHeat (σ 96) y) (σ 96 4), τ, ρ, ?_, ?_, inv_mono _ _ (inv_junk hI t2 r2)⟩
    · unfold f_X9_ofFigure
      rw [g_0, if_neg a5, if_pos rfl, l_0_0, l_1_0, t1, bzBpS]
    · unfold f_X10_ofFigure
      rw [g_95, if_neg a5, if_pos rfl, r1, bzBpS]
  by_cases a7 : a1 = 7
  · subst a7
    obtain ⟨τ, t1, t2⟩ := sh_c (b := 1) (Or.inl rfl) (cr_of_sr hI.1) ey (by omega)
    have e96 : τ 96 = σ 96 := t2 96 (by decide) (by decide)
    obtain ⟨ρ, r1, r2⟩ := sh_m (σ := τ) (y := y) (by rw [e96]; exact lawsR hI) (by rw [e96]; exact ey) (by omega)
    rw [e96] at r1
    refine ⟨pLaw (σ 96) 1 (σ 96 3) (pHeat (σ 96) y) (σ 96 5), τ, ρ, ?_, ?_, inv_mono _ _ (inv_junk hI t2 r2)⟩
    · unfold f_X9_ofFigure
      rw [g_0, if_neg a5, if_neg a6, if_pos rfl, l_0_0, l_1_0, t1, bzBpS]
    · unfold f_X10_ofFigure
      rw [g_95, if_neg a5, if_neg a6, if_pos rfl, r1, bzBpS]
  rcases cut a1 (n := 4) (m := 5) (N := 4) (M := 5) rfl rfl rfl (by decide) with c1 | ⟨c1, c1', c1''⟩ | ⟨c1, c1', c1'', w, hw, e1, b1, n1⟩
  · refine err1 hI ?_ (fun τ _ => ?_)
    · unfold f_X9_ofFigure
      rw [g_0, if_neg a5, if_neg a6, if_neg a7, ip_0 (a := a1) (k := 108) (Or.inl c1) (Or.inr rfl), bzBdS, if_pos rfl]; rfl
    · unfold f_X10_ofFigure
      rw [g_95, if_neg a5, if_neg a6, if_neg a7, in_0 (Or.inl c1), bzBdS, if_pos rfl]; rfl
  · refine err1 hI ?_ (fun τ _ => ?_)
    · unfold f_X9_ofFigure
      rw [g_0, if_neg a5, if_neg a6, if_neg a7, ip_0 (a := a1) (k := 108) (Or.inr c1'') (Or.inr rfl), bzBdS, if_pos rfl]; rfl
    · unfold f_X10_ofFigure
      rw [g_95, if_neg a5, if_neg a6, if_neg a7, in_0 (Or.inr c1'), bzBdS, if_pos rfl]; rfl
  · subst e1
    have i3 : (3 : Int32) + nI w = nI (3 + w) := by rw [show (3 : Int32) = nI 3 from rfl, nI_add]
    refine ⟨σ 96 (3 + w), σ, σ, ?_, ?_, inv_mono _ _ hI⟩
    · unfold f_X9_ofFigure
      rw [g_0, if_neg a5, if_neg a6, if_neg a7, ip_1 (i := w) (k := 108) (show w < 5 by omega) (by decide) (Or.inr rfl), bzBdS, if_neg one_ne, l_0_0]
      have : f_X6_partOfFigure 1 (nI w) σ = some (σ 96 (3 + w)) := by
        rcases (show w = 0 ∨ w = 1 ∨ w = 2 ∨ w = 3 ∨ w = 4 by omega) with rfl | rfl | rfl | rfl | rfl
        · exact congrArg some (show σ 2 5 = σ 96 3 from hI.1.1 3 rfl)
        · exact congrArg some (show σ 2 6 = σ 96 4 from hI.1.1 4 rfl)
        · exact congrArg some (show σ 2 7 = σ 96 5 from hI.1.1 5 rfl)
        · exact congrArg some (show σ 18 5 = σ 96 6 from hI.1.1 6 rfl)
        · exact congrArg some (show σ 18 6 = σ 96 7 from hI.1.1 7 rfl)
      rw [this, bzBdS]
    · unfold f_X10_ofFigure
      rw [g_95, if_neg a5, if_neg a6, if_neg a7, in_1 c1 c1', bzBdS, if_neg one_ne, i3, bzGdT (bzIn_nI (show 3 + w < 254 by omega) (by decide)), clN (by omega), l_95_0]
/-- the reference copies THE TAPE to a text -/
theorem tc_m {w : Nat} (hu : w = 0 ∨ w = 1) : ∀ m v, m + v = 50 → ∀ (F : Nat) (σ : bzS), m < F → ∃ (ρ : bzS) (G : Nat), fl_X10_text_30 95 (nI w) F (nI v) σ = fl_X10_text_30 95 (nI w) (G + 1) (nI 50) ρ ∧ (∀ k, k ≠ 96 → ρ k = σ k) ∧ (∀ j, v ≤ j → j < 50 → ρ 96 (154 + 50 * w + j) = σ 96 (84 + j)) ∧ ∀ j, (j < 154 + 50 * w + v ∨ 154 + 50 * w + 50 ≤ j) → ρ 96 j = σ 96 j := by
  intro m
  induction m with
  | zero =>
    intro v hv F σ hF
    obtain ⟨F, rfl⟩ : ∃ x, F = x + 1 := ⟨F - 1, by omega⟩
    have e : v = 50 := by omega
    subst e
    exact ⟨σ, F, rfl, fun k _ => rfl, fun j h1 h2 => by omega, fun j _ => rfl⟩
  | succ m ih =>
    intro v hv F σ hF
    obtain ⟨F, rfl⟩ : ∃ x, F = x + 1 := ⟨F - 1, by omega⟩
    obtain ⟨ρ, G, r1, r2, r3, r4⟩ := ih (v + 1) (by omega) F (bzSt σ 96 (154 + 50 * w + v) (σ 96 (84 + v))) (by omega)
    refine ⟨ρ, G, ?_, fun k hk => by rw [r2 k hk, st_o hk], fun j h1 h2 => ?_, fun j hj => by rw [r4 j (by omega), st_s, pk_un (by omega)]⟩
    · have e1 : (84 : Int32) + nI v = nI (84 + v) := by rw [show (84 : Int32) = nI 84 from rfl, nI_add]
      have e2 : (154 : Int32) + 50 * nI w + nI v = nI (154 + 50 * w + v) := by rw [show (154 : Int32) = nI 154 from rfl, show (50 : Int32) = nI 50 from rfl, pk_mul, nI_add, nI_add]
      show fb_X10_text_30 (fl_X10_text_30 95 (nI w) F) 95 (nI w) (nI v) σ = _
      unfold fb_X10_text_30
      rw [if_neg (show ¬ 50 ≤ nI v from nI_ge (b := 50) (show v < 50 by omega) (by decide)), e1, e2, bzGdT (bzIn_nI (show 84 + v < 254 by omega) (by decide)), bzGdT (bzIn_nI (show 154 + 50 * w + v < 254 by omega) (by decide)), l_95_0, clN (show 84 + v < 2 ^ 31 by omega), clN (show 154 + 50 * w + v < 2 ^ 31 by omega), bzLetS, bzLetS, nI_1]
      exact r1
    · by_cases c : j = v
      · subst c
        rw [r4 _ (by omega), st_s, pk_us]
      · rw [r3 j (by omega) h2, st_s, pk_un (by omega)]
theorem tx_m {σ : bzS} {w e : Nat} {r : List Int32 × Nat × Bool} (hu : w = 0 ∨ w = 1) (he : e ≤ 50) (ez : σ 96 8 = nI e) (hr : ptRead (fun i => σ 96 (84 + i)) e w ptFuel 0 0 0 = some r) :
    ∃ τ, f_X10_text 95 (nI w) σ = some (if r.2.2 = true ∧ r.2.1 = e then 1 else -10 - nI r.2.1, τ) ∧ (∀ k, k ≠ 95 → k ≠ 96 → k ≠ 99 → τ k = σ k) ∧ (∀ j, j < 8 ∨ 15 < j → τ 95 j = σ 95 j) ∧ τ 96 8 = 0 ∧ (¬ (r.2.2 = true ∧ r.2.1 = e) → ∀ j, j < 254 → j ≠ 8 → τ 96 j = σ 96 j) ∧ ((r.2.2 = true ∧ r.2.1 = e) → τ 96 (10 + w) = nI e ∧ (∀ j, j < 50 → τ 96 (154 + 50 * w + j) = σ 96 (84 + j)) ∧ ∀ j, j ≠ 8 → j ≠ 10 + w → (j < 154 + 50 * w ∨ 154 + 50 * w + 50 ≤ j) → τ 96 j = σ 96 j) := by
  obtain ⟨σ1, q1, q2, q3⟩ := mvAll (a := 96) (b := 99) rfl rfl rfl rfl (by decide) 254 0 rfl 2000 σ (by decide) (fun j hj => absurd hj (Nat.not_lt_zero _))
  obtain ⟨ρ, G, p1, p2, p3, p4⟩ := tc_m hu 50 0 rfl 2000 σ1 (by decide)
  have e96 : σ1 96 = σ 96 := q2 96 (by decide)
  have r8 : ρ 96 8 = nI e := by rw [p4 8 (by omega), e96]; exact ez
  have i10 : (10 : Int32) + nI w = nI (10 + w) := by rw [show (10 : Int32) = nI 10 from rfl, nI_add]
  have h10 : bzSt ρ 96 (10 + w) (nI e) 96 (10 + w) = nI e := by rw [st_s, pk_us]
  have ht : ∀ i, i < e → bzSt ρ 96 (10 + w) (nI e) 96 (154 + 50 * w + i) = σ 96 (84 + i) := fun i hi => by rw [st_s, pk_un (by omega), p3 i (by omega) (by omega), e96]
  obtain ⟨v, κ, k1, k2, k3, k4, k5⟩ := walks_m (a := 1) (b := 1) (c := 1) hu he h10 ht hr
  have s1 : f_X10_text 95 (nI w) σ = fl_X10_text_30 95 (nI w) 2000 0 σ1 := by
    unfold f_X10_text
    rw [g_95, in_1 (a := nI w) (lo := 0) (hi := 1) (nI_n0 (by omega)) (nI_nL (n := 1) rfl (by omega) (by decide)), bzBdS, if_neg one_ne, l_95_0, l_95_3]
    show bzBd (fl_X10_moveAll_2 95 96 99 2000 0 σ) _ = _
    rw [show (0 : Int32) = nI 0 from rfl, q1, bzBdS]
  have s2 : fl_X10_text_30 95 (nI w) (G + 1) (nI 50) ρ = (if κ 95 15 = 0 then (fb_X10_text_108 95 (nI w) 0 κ) else (fb_X10_text_108 95 (nI w) 1 κ)) := by
    show fb_X10_text_30 (fl_X10_text_30 95 (nI w) G) 95 (nI w) (nI 50) ρ = _
    unfold fb_X10_text_30
    rw [if_pos (show (50 : Int32) ≤ nI 50 by decide), i10, bzGdT (bzIn_nI (show 10 + w < 254 by omega) (by decide)), l_95_0, clN (show 10 + w < 2 ^ 31 by omega), bzLetS, r8, k1, bzBpS, if_pos (rfl : v = v)]
  have w96 : ∀ j, j ≠ 10 + w → (j < 154 + 50 * w ∨ 154 + 50 * w + 50 ≤ j) → κ 96 j = σ 96 j := fun j h1 h2 => by rw [k2.1 96 (by decide), st_s, pk_un h1, p4 j (by omega), e96]
  have w99 : κ 99 = σ1 99 := by rw [k2.1 99 (by decide), st_o (by decide), p2 99 (by decide)]
  have wk : ∀ k, k ≠ 95 → k ≠ 96 → k ≠ 99 → κ k = σ k := fun k h1 h2 h3 => by rw [k2.1 k h1, st_o h2, p2 k h2, q2 k h3]
  have w95 : ∀ j, j < 8 ∨ 15 < j → κ 95 j = σ 95 j := fun j hj => by rw [k2.2 j hj, st_o (by decide), p2 95 (by decide), q2 95 (by decide)]
  have p1 : fl_X10_text_30 95 (nI w) 2000 0 σ1 = fl_X10_text_30 95 (nI w) (G + 1) (nI 50) ρ := p1
  rw [s1, p1, s2, k4]
  by_cases hg : r.2.2 = true ∧ r.2.1 = e
  · rw [if_pos hg, if_neg one_ne, if_pos hg]
    refine ⟨bzSt κ 96 8 0, rfl, fun k h1 h2 h3 => by rw [st_o h2, wk k h1 h2 h3], fun j hj => by rw [st_o (by decide)]; exact w95 j hj, by rw [st_s, pk_us], fun h => absurd hg h, fun _ => ⟨?_, fun j hj => ?_, fun j h1 h2 h3 => ?_⟩⟩
    · rw [st_s, pk_un (by omega), k2.1 96 (by decide)]; exact h10
    · rw [st_s, pk_un (by omega), k2.1 96 (by decide), st_s, pk_un (by omega), p3 j (by omega) hj, e96]
    · rw [st_s, pk_un h1]; exact w96 j h2 h3
  · rw [if_neg hg, if_pos rfl, if_neg hg]
    obtain ⟨μ, m1, m2, m3⟩ := mvAll (a := 99) (b := 96) rfl rfl rfl rfl (by decide) 254 0 rfl 2000 κ (by decide) (fun j hj => absurd hj (Nat.not_lt_zero _))
    have mv : f_X10_moveAll 95 99 96 κ = some μ := m1
    refine ⟨bzSt μ 96 8 0, ?_, fun k h1 h2 h3 => by rw [st_o h2, m2 k h2, wk k h1 h2 h3], fun j hj => by rw [st_o (by decide), m2 95 (by decide)]; exact w95 j hj, by rw [st_s, pk_us], fun _ j h1 h2 => ?_, fun h => absurd h hg⟩
    · unfold fb_X10_text_108
      rw [bzLetS, if_pos rfl, l_95_3, l_95_0, mv, bzBdS, bzLetS, if_pos rfl, k3]
    · rw [st_s, pk_un h2, m3 j h1, w99, q3 j h1]
/-- the class reads THE TAPE -/
theorem rdr_c {σ : bzS} {w e : Nat} {r : List Int32 × Nat × Bool} (hu : w = 0 ∨ w = 1) (he : e ≤ 50) (z24 : σ 24 1 = nI e) (hr : ptRead (σ 25) e w ptFuel 0 0 0 = some r) :
    ∃ ρ, f_X3_read 72 24 (nI w) σ = some (if r.2.2 = true ∧ r.2.1 = e then -1 else nI r.2.1, ρ) ∧ (∀ k, k < 72 ∨ 77 < k → ρ k = σ k) ∧ ρ 75 2 = 1 ∧ ρ 76 1 = nI r.1.length ∧ ∀ i, i < r.1.length → ρ 77 i = r.1.getD i 0 := by
  obtain ⟨τ, t1, t2, t3, t4⟩ := cp4 (o := 73) (s := 24) (qo := 74) (qs := 25) (L := 50) σ rfl rfl rfl rfl rfl rfl (by decide) (by decide) (by decide) (by decide)
  obtain ⟨t5, t6⟩ := t4 e z24 he
  let ω := bzSt (bzSt (bzSt (bzSt (bzSt τ 72 2 (nI w)) 72 3 0) 72 4 0) 75 2 1) 76 1 0
  have hω : rdS ω (σ 25) e w 0 true [] := ⟨rfl, rfl, rfl, (show ω 73 1 = τ 73 1 from rfl).trans t5, fun i hi => (show ω 74 i = τ 74 i from rfl).trans (t6 i hi), rfl, fun i hi => absurd hi (Nat.not_lt_zero _)⟩
  obtain ⟨ρ, r1, r2, r3⟩ := (rd_main he hu 60 0 0 0 r (by decide) (by decide) (Nat.zero_le _) hr ω [] hω (Nat.zero_le _)).2 60 (by decide)
  have r1 : f_X3_readLevel 72 0 0 ω = some ρ := r1
  obtain ⟨b1, b2, b3, b4⟩ := ptRead_b _ _ _ _ _ (Nat.zero_le _) hr
  rw [List.nil_append] at r2
  obtain ⟨d1, d2, d3, d4, d5, d6, d7⟩ := r2
  have e75 : ρ 75 2 = 1 := by rw [r3 75 (by decide) (by decide) (by decide)]; rfl
  have frm : ∀ k, k < 72 ∨ 77 < k → ρ k = σ k := fun k hk => by
    rw [r3 k (by omega) (by omega) (by omega)]
    show bzSt (bzSt (bzSt (bzSt (bzSt τ 72 2 (nI w)) 72 3 0) 72 4 0) 75 2 1) 76 1 0 k = _
    rw [st_o (by omega), st_o (by omega), st_o (by omega), st_o (by omega), st_o (by omega), t2 k (by omega) (by omega)]
  have rest : ∀ v : Int32, (∀ k, k < 72 ∨ 77 < k → bzSt ρ 72 4 v k = σ k) ∧ bzSt ρ 72 4 v 75 2 = 1 ∧ bzSt ρ 72 4 v 76 1 = nI r.1.length ∧ ∀ i, i < r.1.length → bzSt ρ 72 4 v 77 i = r.1.getD i 0 := fun v => ⟨fun k hk => by rw [st_o (by omega)]; exact frm k hk, by rw [st_o (by decide)]; exact e75, by rw [st_o (by decide)]; exact d6, fun i hi => by rw [st_o (by decide)]; exact d7 i hi⟩
  have u : f_X3_read 72 24 (nI w) σ = bzBd (f_X4_copyFrom 73 24 σ) (fun s => bzBd (f_X3_readLevel 72 0 0 (bzSt (bzSt (bzSt (bzSt (bzSt s 72 2 (nI w)) 72 3 0) 72 4 0) 75 2 1) 76 1 0)) (fun σ10 => if (σ10 72 4) = 0 then (if (σ10 73 1) ≤ (σ10 72 3) then some (-1, bzSt σ10 72 4 0) else some (bzSt σ10 72 4 1 72 3, bzSt σ10 72 4 1)) else some (bzSt σ10 72 4 1 72 3, bzSt σ10 72 4 1))) := rfl
  rw [u, t1, bzBdS, r1, bzBdS, d3, d4, d2]
  have p3 : bzSt ρ 72 4 1 72 3 = nI r.2.1 := by rw [st_s, pk_un (by decide)]; exact d2
  rw [p3]
  by_cases c1 : r.2.2 = true
  · rw [if_pos c1, if_pos rfl]
    by_cases c2 : r.2.1 = e
    · rw [if_pos (by rw [c2]; exact Int32.le_refl _), if_pos ⟨c1, c2⟩]
      exact ⟨_, rfl, rest 0⟩
    · rw [if_neg (nI_ge (show r.2.1 < e by omega) (by omega)), if_neg (fun q => c2 q.2)]
      exact ⟨_, rfl, rest 1⟩
  · rw [if_neg c1, if_neg one_ne, if_neg (fun q => c1 q.1)]
    exact ⟨_, rfl, rest 1⟩
/-- and keeps the law, or not -/
theorem tx_c {σ : bzS} {w e : Nat} {r : List Int32 × Nat × Bool} (hu : w = 0 ∨ w = 1) (he : e ≤ 50) (z24 : σ 24 1 = nI e) (hr : ptRead (σ 25) e w ptFuel 0 0 0 = some r) :
    ∃ ρ, f_X9_text 0 (nI w) σ = some (if r.2.2 = true ∧ r.2.1 = e then 1 else -10 - nI r.2.1, ρ) ∧ ρ 24 1 = 0 ∧ (¬ (r.2.2 = true ∧ r.2.1 = e) → ∀ k, k ≠ 24 → (k < 72 ∨ 77 < k) → ρ k = σ k) ∧ ((r.2.2 = true ∧ r.2.1 = e) → (∀ k, k ≠ 24 → (k < 10 + 4 * w ∨ 12 + 4 * w < k) → (k < 72 ∨ 77 < k) → ρ k = σ k) ∧ ρ (10 + 4 * w) 2 = 1 ∧ ρ (11 + 4 * w) 1 = nI r.1.length ∧ ∀ i, i < r.1.length → ρ (12 + 4 * w) i = r.1.getD i 0) := by
  obtain ⟨ρ, r1, r2, r3, r4, r5⟩ := rdr_c hu he z24 hr
  obtain ⟨b1, b2, b3, b4⟩ := ptRead_b _ _ _ _ _ (Nat.zero_le _) hr
  have u : f_X9_text 0 (nI w) σ = bzBd (f_X9_within (nI w) 0 1) (fun x2 => if x2 = 0 then (bzBp (f_X9_fails 0 ((-1000000001)) σ) (fun x16 σ17 => some (x16, σ17))) else (bzBp (f_X3_read 72 24 (nI w) σ) (fun x5 σ6 => if x5 < 0 then (bzBd (f_X0_lawOf 2 (nI w) (bzSt σ6 24 1 0)) (fun x11 => bzOp x11 (none) (fun k12 => bzGd (kd k12 = 2) (bzBd (f_X2_copyFrom k12 75 (bzSt σ6 24 1 0)) (fun σ14 => some (1, σ14)))))) else (some (((-10) - x5), bzSt σ6 24 1 0))))) := rfl
  rw [u, wi_1 (a := nI w) (lo := 0) (hi := 1) (nI_n0 (by omega)) (nI_nL (n := 1) rfl (by omega) (by decide)), bzBdS, if_neg one_ne, r1, bzBpS]
  by_cases hg : r.2.2 = true ∧ r.2.1 = e
  · rw [if_pos hg, if_pos (show (-1 : Int32) < 0 by decide), if_pos hg]
    obtain ⟨o, o1, o2, o3, o4, o5, o6, o7⟩ : ∃ o, f_X0_lawOf 2 (nI w) (bzSt ρ 24 1 0) = some (some o) ∧ kd o = 2 ∧ ly o 0 = o + 1 ∧ kd (o + 1) = 4 ∧ ly (o + 1) 0 = o + 2 ∧ ln (o + 2) = 50 ∧ o = 10 + 4 * w := by
      rcases hu with rfl | rfl
      · exact ⟨10, rfl, rfl, rfl, rfl, rfl, rfl, rfl⟩
      · exact ⟨14, rfl, rfl, rfl, rfl, rfl, rfl, rfl⟩
    obtain ⟨κ, k1, k2, k3, k4⟩ := cp4 (o := o + 1) (s := 76) (qo := o + 2) (qs := 77) (L := 50) (bzSt ρ 24 1 0) o4 rfl o5 rfl o6 rfl (by decide) (by omega) (by omega) (by omega)
    obtain ⟨k5, k6⟩ := k4 r.1.length (by rw [st_o (by decide)]; exact r4) (by omega)
    have e75 : κ 75 2 = 1 := by rw [k2 75 (by omega) (by omega), st_o (by decide)]; exact r3
    have cp : f_X2_copyFrom o 75 (bzSt ρ 24 1 0) = some (bzSt κ o 2 1) := by
      unfold f_X2_copyFrom
      rw [bzGdT o2, g_75, o3, l_75_0, k1, bzBdS, e75, bzGdT (Or.inr rfl)]; rfl
    rw [o1, bzBdS, bzOp1, bzGdT o2, cp, bzBdS]
    refine ⟨_, rfl, ?_, fun h => absurd hg h, fun _ => ⟨fun k h1 h2 h3 => ?_, ?_, ?_, fun i hi => ?_⟩⟩
    · rw [st_o (by omega), k2 24 (by omega) (by omega), st_s, pk_us]
    · rw [st_o (by omega), k2 k (by omega) (by omega), st_o h1, r2 k h3]
    · rw [← o7, st_s, pk_us]
    · rw [show 11 + 4 * w = o + 1 by omega, st_o (by omega)]; exact k5
    · rw [show 12 + 4 * w = o + 2 by omega, st_o (by omega), k6 i hi, st_o (by decide), r5 i hi]
  · rw [if_neg hg, if_neg (nI_n0 (show r.2.1 < 2 ^ 31 by omega)), if_neg hg]
    exact ⟨_, rfl, by rw [st_s, pk_us], fun _ k h1 h2 => by rw [st_o h1, r2 k h2], fun h => absurd h hg⟩
theorem st_text : bzSt_text bzInv := by
  intro a1 σ n hn hI
  rcases cut a1 (n := 1) (m := 2) (N := 1) (M := 2) rfl rfl rfl (by decide) with c1 | ⟨c1, c1', -⟩ | ⟨c1, c1', -, w, hw, e1, b1, n1⟩
  · refine err1 hI ?_ (fun τ _ => ?_)
    · simp [f_X9_text, g_0, g_95, g_1, g_2, g_5, g_18, g_24, g_26, g_79, g_80, g_72, l_0_0, l_0_1, l_0_3, l_0_4, l_0_5, l_0_6, l_0_7, l_1_0, l_1_1, l_1_2, l_1_3, l_2_0, l_2_1, l_2_2, l_2_3, l_2_4, l_5_0, l_5_1, l_5_2, l_5_3, l_18_0, l_18_1, l_18_2, l_18_3, l_18_4, l_24_0, l_26_0, l_79_0, l_80_0, l_95_0, l_95_1, l_95_2, l_95_3, l_95_6, l_95_16, l_95_17, l_95_18, l_95_19, l_95_20, l_95_21, l_95_22, bzBd, bzBp, bzLet, bzOp, f_X10_in, f_X9_within, e_f1, e_f2, e_f3, e_f4, e_f5, e_e1, e_e2, e_e3, e_e4, e_e5, c1]
    · simp [f_X10_text, g_0, g_95, g_1, g_2, g_5, g_18, g_24, g_26, g_79, g_80, g_72, l_0_0, l_0_1, l_0_3, l_0_4, l_0_5, l_0_6, l_0_7, l_1_0, l_1_1, l_1_2, l_1_3, l_2_0, l_2_1, l_2_2, l_2_3, l_2_4, l_5_0, l_5_1, l_5_2, l_5_3, l_18_0, l_18_1, l_18_2, l_18_3, l_18_4, l_24_0, l_26_0, l_79_0, l_80_0, l_95_0, l_95_1, l_95_2, l_95_3, l_95_6, l_95_16, l_95_17, l_95_18, l_95_19, l_95_20, l_95_21, l_95_22, bzBd, bzBp, bzLet, bzOp, f_X10_in, f_X9_within, e_f1, e_f2, e_f3, e_f4, e_f5, e_e1, e_e2, e_e3, e_e4, e_e5, c1]
  · refine err1 hI ?_ (fun τ _ => ?_)
    · simp [f_X9_text, g_0, g_95, g_1, g_2, g_5, g_18, g_24, g_26, g_79, g_80, g_72, l_0_0, l_0_1, l_0_3, l_0_4, l_0_5, l_0_6, l_0_7, l_1_0, l_1_1, l_1_2, l_1_3, l_2_0, l_2_1, l_2_2, l_2_3, l_2_4, l_5_0, l_5_1, l_5_2, l_5_3, l_18_0, l_18_1, l_18_2, l_18_3, l_18_4, l_24_0, l_26_0, l_79_0, l_80_0, l_95_0, l_95_1, l_95_2, l_95_3, l_95_6, l_95_16, l_95_17, l_95_18, l_95_19, l_95_20, l_95_21, l_95_22, bzBd, bzBp, bzLet, bzOp, f_X10_in, f_X9_within, e_f1, e_f2, e_f3, e_f4, e_f5, e_e1, e_e2, e_e3, e_e4, e_e5, c1, c1']
    · simp [f_X10_text, g_0, g_95, g_1, g_2, g_5, g_18, g_24, g_26, g_79, g_80, g_72, l_0_0, l_0_1, l_0_3, l_0_4, l_0_5, l_0_6, l_0_7, l_1_0, l_1_1, l_1_2, l_1_3, l_2_0, l_2_1, l_2_2, l_2_3, l_2_4, l_5_0, l_5_1, l_5_2, l_5_3, l_18_0, l_18_1, l_18_2, l_18_3, l_18_4, l_24_0, l_26_0, l_79_0, l_80_0, l_95_0, l_95_1, l_95_2, l_95_3, l_95_6, l_95_16, l_95_17, l_95_18, l_95_19, l_95_20, l_95_21, l_95_22, bzBd, bzBp, bzLet, bzOp, f_X10_in, f_X9_within, e_f1, e_f2, e_f3, e_f4, e_f5, e_e1, e_e2, e_e3, e_e4, e_e5, c1, c1']
  subst e1
  have hu : w = 0 ∨ w = 1 := by omega
  obtain ⟨e, he, ez⟩ := hI.2.1.1.1 8 rfl (by decide) (by decide)
  have he : e ≤ 50 := he
  have z24 : σ 24 1 = nI e := (hI.1.1 8 rfl).trans ez
  have tp : ptAt (σ 25) e = ptAt (fun i => σ 96 (84 + i)) e := by
    funext p
    unfold ptAt
    by_cases c : p < e
    · rw [if_pos c, if_pos c]
      exact hI.1.2.2.1 p (by omega) (by rw [ez]; exact nI_lt c (by omega))
    · rw [if_neg c, if_neg c]
  obtain ⟨r, hr⟩ := ptRead_t (t := σ 25) (e := e) (u := w) ptFuel 0 0 0 (by decide) (by decide)
  have hr2 : ptRead (fun i => σ 96 (84 + i)) e w ptFuel 0 0 0 = some r := by rw [← ptRead_c tp]; exact hr
  obtain ⟨b1, b2, b3, b4⟩ := ptRead_b _ _ _ _ _ (Nat.zero_le _) hr
  obtain ⟨ρ, r1, r2, r3, r4⟩ := tx_c hu he z24 hr
  have e96 : ρ 96 = σ 96 := by
    by_cases hg : r.2.2 = true ∧ r.2.1 = e
    · exact (r4 hg).1 96 (by decide) (by omega) (by omega)
    · exact r3 hg 96 (by decide) (by omega)
  obtain ⟨τ, t1, t2, t3, t4, t5, t6⟩ := tx_m (σ := ρ) hu he (by rw [e96]; exact ez) (by rw [e96]; exact hr2)
  refine ⟨_, ρ, τ, r1, t1, inv_mono _ _ ?_⟩
  rw [e96] at t5 t6
  have x24 : τ 24 1 = 0 := by rw [t2 24 (by decide) (by decide) (by decide)]; exact r2
  -- cells that stand
  have fr : ∀ k, k ≠ 24 → (k < 10 ∨ 17 ≤ k) → (k < 72 ∨ 77 < k) → k ≠ 95 → k ≠ 96 → k ≠ 99 → τ k = σ k := by
    intro k h1 h2 h3 h4 h5 h6
    rw [t2 k h4 h5 h6]
    by_cases hg : r.2.2 = true ∧ r.2.1 = e
    · exact (r4 hg).1 k h1 (by omega) h3
    · exact r3 hg k h1 h3
  have row : ∀ j, j < 254 → j ≠ 8 → j ≠ 10 → j ≠ 11 → j < 154 → τ 96 j = σ 96 j := by
    intro j h0 h1 h2 h3 h4
    by_cases hg : r.2.2 = true ∧ r.2.1 = e
    · exact (t6 hg).2.2 j h1 (by omega) (by omega)
    · exact t5 hg j h0 h1
  have old : ∀ u, u = 0 ∨ u = 1 → bzLR (σ (10 + 4 * u) 2) (σ (11 + 4 * u) 1) (σ (12 + 4 * u)) (σ 96 (10 + u)) (fun j => σ 96 (154 + 50 * u + j)) u := by
    rintro u (rfl | rfl)
    · exact hI.1.2.1.1
    · exact hI.1.2.1.2
  have new : ∀ u, u = 0 ∨ u = 1 → bzLR (τ (10 + 4 * u) 2) (τ (11 + 4 * u) 1) (τ (12 + 4 * u)) (τ 96 (10 + u)) (fun j => τ 96 (154 + 50 * u + j)) u := by
    intro u hu2
    have tk : ∀ k, k < 20 → τ k = ρ k := fun k hk => t2 k (by omega) (by omega) (by omega)
    rw [tk (10 + 4 * u) (by omega), tk (11 + 4 * u) (by omega), tk (12 + 4 * u) (by omega)]
    by_cases hg : r.2.2 = true ∧ r.2.1 = e
    · obtain ⟨g1, g2, g3, g4⟩ := r4 hg
      obtain ⟨h1, h2, h3⟩ := t6 hg
      by_cases huw : u = w
      · subst huw
        refine Or.inr ⟨g2, e, r.1.length, he, h1, by omega, g3, r.1, ?_, rfl, g4⟩
        have hp : ptAt (fun j => τ 96 (154 + 50 * u + j)) e = ptAt (fun i => σ 96 (84 + i)) e := by
          funext p
          unfold ptAt
          by_cases c : p < e
          · rw [if_pos c, if_pos c]; exact h2 p (by omega)
          · rw [if_neg c, if_neg c]
        rw [ptRead_c hp, hr2, ← hg.1, ← hg.2]
      · rw [g1 (10 + 4 * u) (by omega) (by omega) (by omega), g1 (11 + 4 * u) (by omega) (by omega) (by omega), g1 (12 + 4 * u) (by omega) (by omega) (by omega)]
        exact (old u hu2).ext3 (h3 (10 + u) (by omega) (by omega) (by omega)) (fun j hj => h3 _ (by omega) (by omega) (by omega))
    · have g := r3 hg
      rw [g (10 + 4 * u) (by omega) (by omega), g (11 + 4 * u) (by omega) (by omega), g (12 + 4 * u) (by omega) (by omega)]
      exact (old u hu2).ext3 (t5 hg (10 + u) (by omega) (by omega)) (fun j hj => t5 hg _ (by omega) (by omega))
  obtain ⟨⟨i1, -, i2, i3, i4⟩, ⟨⟨j1, j2⟩, j3⟩, -⟩ := id hI
  refine inv_now hI ⟨fun p hp => ?_, ⟨new 0 (Or.inl rfl), new 1 (Or.inr rfl)⟩, fun i hi hf => ?_, fun i hi hf => ?_, ?_⟩ ⟨fun p hp h0 h1 => ?_, fun i hi hf => ?_⟩ ?_ (fun k h0 h1 h2 h3 h4 => ?_) (fun j hj => ?_)
  · have hpl := plB_lt hp
    have hm := mc_in p hpl.1 hp
    by_cases p8 : p = 8
    · subst p8; rw [t4]; exact x24
    · rw [row p (by omega) p8 hpl.2.1 hpl.2.2 (by omega), fr _ (fun q => p8 (mc_23 p hpl.1 (by omega))) (by omega) (by omega) (by omega) (by omega) (by omega)]
      exact i1 p hp
  · rw [t4] at hf
    exact absurd hf (nI_n0 (by omega))
  · rw [row 9 (by decide) (by decide) (by decide) (by decide) (by decide)] at hf
    rw [row _ (by omega) (by omega) (by omega) (by omega) (by omega), fr _ (by decide) (by decide) (by decide) (by decide) (by decide) (by decide)]
    exact i3 i hi hf
  · rw [fr _ (by decide) (by decide) (by decide) (by decide) (by decide) (by decide)]; exact i4
  · have hpl := plB_lt hp
    by_cases p8 : p = 8
    · subst p8; rw [t4]; exact ⟨0, Nat.zero_le _, rfl⟩
    · rw [row p (by omega) p8 hpl.2.1 hpl.2.2 (by omega)]
      exact j1 p hp h0 h1
  · rw [row 2 (by decide) (by decide) (by decide) (by decide) (by decide)] at hf
    rw [row _ (by omega) (by omega) (by omega) (by omega) (by omega)]
    exact j2 i hi hf
  · rw [row 0 (by decide) (by decide) (by decide) (by decide) (by decide)]; exact j3
  · exact fr k (by omega) (by omega) (by have a := fr_ne h2 (q := 72) rfl; have b := fr_ne h2 (q := 73) rfl; have c := fr_ne h2 (q := 74) rfl; have d := fr_ne h2 (q := 75) rfl; have e := fr_ne h2 (q := 76) rfl; have f := fr_ne h2 (q := 77) rfl; omega) h3 h4 (fr_ne h2 rfl)
  · rw [t3 j (by omega)]
    by_cases hg : r.2.2 = true ∧ r.2.1 = e
    · rw [(r4 hg).1 95 (by decide) (by omega) (by omega)]
    · rw [r3 hg 95 (by decide) (by omega)]
