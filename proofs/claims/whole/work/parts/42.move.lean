set_option linter.unusedVariables false
/-- a run of l numbers from a on, of z -/
theorem runOf (a l : Int32) {z : Nat} (hz : z ≤ 40) : (∃ p c : Nat, a = nI p ∧ l = nI c ∧ p + c ≤ z) ∨ (l < 0) ∨ (¬ l < 0 ∧ a < 0) ∨ (¬ l < 0 ∧ ¬ a < 0 ∧ nI z - l < a) := by
  by_cases l0 : l < 0
  · exact Or.inr (Or.inl l0)
  by_cases a0 : a < 0
  · exact Or.inr (Or.inr (Or.inl ⟨l0, a0⟩))
  have l0' := l0
  have a0' := a0
  rw [Int32.lt_iff_toInt_lt] at l0' a0'
  have z0 : (0 : Int32).toInt = 0 := rfl
  have lm : l.toInt < 2147483648 := l.toInt_lt
  have am : a.toInt < 2147483648 := a.toInt_lt
  have ds : (nI z - l).toInt = (z : Int) - l.toInt := by
    rw [Int32.toInt_sub, nI_toInt (by omega)]
    exact Int.bmod_eq_of_le (by omega) (by omega)
  by_cases h : nI z - l < a
  · exact Or.inr (Or.inr (Or.inr ⟨l0, a0, h⟩))
  · left
    rw [Int32.lt_iff_toInt_lt, ds] at h
    refine ⟨a.toInt.toNat, l.toInt.toNat, ?_, ?_, by omega⟩
    · apply Int32.toInt_inj.mp
      rw [nI_toInt (by omega)]; omega
    · apply Int32.toInt_inj.mp
      rw [nI_toInt (by omega)]; omega
theorem run_1 {s z p c : Nat} {σ : bzS} (hs : s < 4) (hz : z ≤ 40) (h : σ (84 + 3 * s) 1 = nI z) (hp : p + c ≤ z) : f_X4_hasRun (84 + 3 * s) (nI p) (nI c) σ = some 1 := by
  obtain ⟨l1, l2, l3, l4, l5, l6⟩ := sh_l s hs
  simp only [f_X4_hasRun, bzGdT l4, h, if_neg (nI_n0 (k := p) (by omega)), if_neg (nI_n0 (k := c) (by omega)), if_neg (nI_nlt (a := z) (b := p) (by omega) (by omega)), pk_sub (show p ≤ z by omega), if_neg (nI_nlt (a := z - p) (b := c) (by omega) (by omega))]
theorem run_0 {s z : Nat} {a l : Int32} {σ : bzS} (hs : s < 4) (hz : z ≤ 40) (h : σ (84 + 3 * s) 1 = nI z) (hr : (l < 0) ∨ (¬ l < 0 ∧ a < 0) ∨ (¬ l < 0 ∧ ¬ a < 0 ∧ nI z - l < a)) : f_X4_hasRun (84 + 3 * s) a l σ = some 0 := by
  obtain ⟨l1, l2, l3, l4, l5, l6⟩ := sh_l s hs
  simp only [f_X4_hasRun, bzGdT l4, h]
  by_cases a0 : a < 0
  · rw [if_pos a0]
  rw [if_neg a0]
  by_cases l0 : l < 0
  · rw [if_pos l0]
  rw [if_neg l0]
  have hr : nI z - l < a := by
    rcases hr with h | h | h
    · exact absurd h l0
    · exact absurd h.2 a0
    · exact h.2.2
  by_cases c : nI z < a
  · rw [if_pos c]
  rw [if_neg c]
  refine if_pos ?_
  have z0 : (0 : Int32).toInt = 0 := rfl
  rw [Int32.lt_iff_toInt_lt] at l0 a0 c hr ⊢
  have lm : l.toInt < 2147483648 := l.toInt_lt
  have am : a.toInt < 2147483648 := a.toInt_lt
  rw [nI_toInt (by omega)] at c
  have ds : (nI z - l).toInt = (z : Int) - l.toInt := by
    rw [Int32.toInt_sub, nI_toInt (by omega)]
    exact Int.bmod_eq_of_le (by omega) (by omega)
  have da : (nI z - a).toInt = (z : Int) - a.toInt := by
    rw [Int32.toInt_sub, nI_toInt (by omega)]
    exact Int.bmod_eq_of_le (by omega) (by omega)
  rw [ds] at hr
  rw [da]
  omega
theorem mv_2 {t q c : Nat} (a1 a2 a3 a4 : Int32) (ht : t < 4) (hq : q + c ≤ 40) (e3 : a3 = nI t) (e4 : a4 = nI q) : ∀ m v, m + v = c → ∀ (f : Nat) (σ : bzS), m < f → ∃ τ, fl_X10_move_156 95 a1 a2 a3 a4 (nI c) f (nI v) σ = some (nI c, τ) ∧ (∀ k, k ≠ 103 → τ k = σ k) ∧ (∀ j, (j < 40 * t + q + v ∨ 40 * t + q + c ≤ j) → τ 103 j = σ 103 j) ∧ ∀ j, v ≤ j → j < c → τ 103 (40 * t + q + j) = σ 104 j := by
  intro m
  induction m with
  | zero =>
    intro v hv f σ hf
    obtain ⟨f, rfl⟩ : ∃ g, f = g + 1 := ⟨f - 1, by omega⟩
    have e : v = c := by omega
    subst e
    refine ⟨σ, ?_, fun k _ => rfl, fun j _ => rfl, fun j h1 h2 => absurd h2 (by omega)⟩
    simp only [fl_X10_move_156, fb_X10_move_156, if_pos (Int32.le_refl _)]
  | succ m ih =>
    intro v hv f σ hf
    obtain ⟨f, rfl⟩ : ∃ g, f = g + 1 := ⟨f - 1, by omega⟩
    have b : bzIn (nI (40 * t + q + v)) 160 := bzIn_nI (by omega) (by decide)
    have b2 : bzIn (nI v) 40 := bzIn_nI (by omega) (by decide)
    have ep : 40 * a3 + a4 + nI v = nI (40 * t + q + v) := by rw [e3, e4, show (40 : Int32) = nI 40 from rfl, pk_mul, nI_add, nI_add]
    obtain ⟨τ, t1, t2, t3, t4⟩ := ih (v + 1) (by omega) f (bzSt σ 103 (40 * t + q + v) (σ 104 v)) (by omega)
    refine ⟨τ, ?_, fun k hk => by rw [t2 k hk, st_o hk], fun j hj => by rw [t3 j (by omega), st_s, pk_un (by omega)], fun j h1 h2 => ?_⟩
    · simp only [fl_X10_move_156, fb_X10_move_156, if_neg (nI_ge (show v < c by omega) (by omega)), ep, bzGdT b, bzGdT b2, l_95_18, l_95_19, bzLet, clN (show 40 * t + q + v < 2 ^ 31 by omega), clN (show v < 2 ^ 31 by omega), nI_1]
      exact t1
    · by_cases e : j = v
      · subst e
        rw [t3 _ (by omega), st_s, pk_us]
      · rw [t4 j (by omega) h2, st_o (by decide)]
theorem mv_1 {s t p q c : Nat} (a1 a2 a3 a4 : Int32) (hs : s < 4) (ht : t < 4) (hp : p + c ≤ 40) (hq : q + c ≤ 40) (e1 : a1 = nI s) (e2 : a2 = nI p) (e3 : a3 = nI t) (e4 : a4 = nI q) : ∀ m v, m + v = c → ∀ (f : Nat) (σ : bzS), m < f → (∀ j, j < v → σ 104 j = σ 103 (40 * s + p + j)) → ∃ τ, fl_X10_move_119 95 a1 a2 a3 a4 (nI c) f (nI v) σ = some (nI c, τ) ∧ (∀ k, k ≠ 103 → k ≠ 104 → τ k = σ k) ∧ (∀ j, (j < 40 * t + q ∨ 40 * t + q + c ≤ j) → τ 103 j = σ 103 j) ∧ ∀ j, j < c → τ 103 (40 * t + q + j) = σ 103 (40 * s + p + j) := by
  intro m
  induction m with
  | zero =>
    intro v hv f σ hf h2
    obtain ⟨f, rfl⟩ : ∃ g, f = g + 1 := ⟨f - 1, by omega⟩
    have e : v = c := by omega
    subst e
    obtain ⟨τ, t1, t2, t3, t4⟩ := mv_2 (c := v) a1 a2 a3 a4 ht hq e3 e4 v 0 rfl 2000 σ (by omega)
    refine ⟨τ, ?_, fun k hk _ => t2 k hk, fun j hj => t3 j (by omega), fun j hj => by rw [t4 j (by omega) hj, h2 j hj]⟩
    simp only [fl_X10_move_119, fb_X10_move_119, if_pos (Int32.le_refl _)]
    exact t1
  | succ m ih =>
    intro v hv f σ hf h2
    obtain ⟨f, rfl⟩ : ∃ g, f = g + 1 := ⟨f - 1, by omega⟩
    have b : bzIn (nI (40 * s + p + v)) 160 := bzIn_nI (by omega) (by decide)
    have b2 : bzIn (nI v) 40 := bzIn_nI (by omega) (by decide)
    have ep : 40 * a1 + a2 + nI v = nI (40 * s + p + v) := by rw [e1, e2, show (40 : Int32) = nI 40 from rfl, pk_mul, nI_add, nI_add]
    obtain ⟨τ, t1, t2, t3, t4⟩ := ih (v + 1) (by omega) f (bzSt σ 104 v (σ 103 (40 * s + p + v))) (by omega) (fun j hj => by
      rw [st_s, st_o (by decide)]
      by_cases e : j = v
      · subst e; exact pk_us
      · rw [pk_un e]; exact h2 j (by omega))
    refine ⟨τ, ?_, fun k hk hk2 => by rw [t2 k hk hk2, st_o hk2], fun j hj => by rw [t3 j hj, st_o (by decide)], fun j hj => by rw [t4 j hj, st_o (by decide)]⟩
    simp only [fl_X10_move_119, fb_X10_move_119, if_neg (nI_ge (show v < c by omega) (by omega)), ep, bzGdT b, bzGdT b2, l_95_18, l_95_19, bzLet, clN (show 40 * s + p + v < 2 ^ 31 by omega), clN (show v < 2 ^ 31 by omega), nI_1]
    exact t1
theorem st_move : bzSt_move bzInv := by
  intro a1 a2 a3 a4 a5 σ n hn hI
  rcases shOf a1 σ with ⟨h1, h2⟩ | ⟨s, hs, e1, b1, n1, h1, h2⟩
  · refine err1 hI ?_ (fun τ ht => ?_)
    · rcases shOf a3 σ with ⟨h3, h4⟩ | ⟨t, ht, e3, b3, n3, h3, h4⟩
      · simp only [f_X9_move, g_0, g_95, g_1, g_2, g_5, g_18, g_24, g_26, g_79, g_80, g_72, l_0_0, l_0_1, l_0_3, l_0_4, l_0_5, l_0_6, l_0_7, l_1_0, l_1_1, l_1_2, l_1_3, l_2_0, l_2_1, l_2_2, l_2_3, l_2_4, l_5_0, l_5_1, l_5_2, l_5_3, l_18_0, l_18_1, l_18_2, l_18_3, l_18_4, l_24_0, l_26_0, l_79_0, l_80_0, l_95_0, l_95_1, l_95_2, l_95_3, l_95_6, l_95_16, l_95_17, l_95_18, l_95_19, l_95_20, l_95_21, l_95_22, bzBd, bzBp, bzLet, bzOp, f_X10_in, f_X9_within, e_f1, e_f2, e_f3, e_f4, e_f5, e_e1, e_e2, e_e3, e_e4, e_e5, h1, h3]
      · simp only [f_X9_move, g_0, g_95, g_1, g_2, g_5, g_18, g_24, g_26, g_79, g_80, g_72, l_0_0, l_0_1, l_0_3, l_0_4, l_0_5, l_0_6, l_0_7, l_1_0, l_1_1, l_1_2, l_1_3, l_2_0, l_2_1, l_2_2, l_2_3, l_2_4, l_5_0, l_5_1, l_5_2, l_5_3, l_18_0, l_18_1, l_18_2, l_18_3, l_18_4, l_24_0, l_26_0, l_79_0, l_80_0, l_95_0, l_95_1, l_95_2, l_95_3, l_95_6, l_95_16, l_95_17, l_95_18, l_95_19, l_95_20, l_95_21, l_95_22, bzBd, bzBp, bzLet, bzOp, f_X10_in, f_X9_within, e_f1, e_f2, e_f3, e_f4, e_f5, e_e1, e_e2, e_e3, e_e4, e_e5, h1, h3, bzGdT (sh_l t ht).2.1]
    · simp [f_X10_move, g_0, g_95, g_1, g_2, g_5, g_18, g_24, g_26, g_79, g_80, g_72, l_0_0, l_0_1, l_0_3, l_0_4, l_0_5, l_0_6, l_0_7, l_1_0, l_1_1, l_1_2, l_1_3, l_2_0, l_2_1, l_2_2, l_2_3, l_2_4, l_5_0, l_5_1, l_5_2, l_5_3, l_18_0, l_18_1, l_18_2, l_18_3, l_18_4, l_24_0, l_26_0, l_79_0, l_80_0, l_95_0, l_95_1, l_95_2, l_95_3, l_95_6, l_95_16, l_95_17, l_95_18, l_95_19, l_95_20, l_95_21, l_95_22, bzBd, bzBp, bzLet, bzOp, f_X10_in, f_X9_within, e_f1, e_f2, e_f3, e_f4, e_f5, e_e1, e_e2, e_e3, e_e4, e_e5, h2]
  rcases shOf a3 σ with ⟨h3, h4⟩ | ⟨t, ht, e3, b3, n3, h3, h4⟩
  · refine err1 hI ?_ (fun τ ht => ?_)
    · simp only [f_X9_move, g_0, g_95, g_1, g_2, g_5, g_18, g_24, g_26, g_79, g_80, g_72, l_0_0, l_0_1, l_0_3, l_0_4, l_0_5, l_0_6, l_0_7, l_1_0, l_1_1, l_1_2, l_1_3, l_2_0, l_2_1, l_2_2, l_2_3, l_2_4, l_5_0, l_5_1, l_5_2, l_5_3, l_18_0, l_18_1, l_18_2, l_18_3, l_18_4, l_24_0, l_26_0, l_79_0, l_80_0, l_95_0, l_95_1, l_95_2, l_95_3, l_95_6, l_95_16, l_95_17, l_95_18, l_95_19, l_95_20, l_95_21, l_95_22, bzBd, bzBp, bzLet, bzOp, f_X10_in, f_X9_within, e_f1, e_f2, e_f3, e_f4, e_f5, e_e1, e_e2, e_e3, e_e4, e_e5, h1, h3, bzGdT (sh_l s hs).2.1]
    · simp [f_X10_move, g_0, g_95, g_1, g_2, g_5, g_18, g_24, g_26, g_79, g_80, g_72, l_0_0, l_0_1, l_0_3, l_0_4, l_0_5, l_0_6, l_0_7, l_1_0, l_1_1, l_1_2, l_1_3, l_2_0, l_2_1, l_2_2, l_2_3, l_2_4, l_5_0, l_5_1, l_5_2, l_5_3, l_18_0, l_18_1, l_18_2, l_18_3, l_18_4, l_24_0, l_26_0, l_79_0, l_80_0, l_95_0, l_95_1, l_95_2, l_95_3, l_95_6, l_95_16, l_95_17, l_95_18, l_95_19, l_95_20, l_95_21, l_95_22, bzBd, bzBp, bzLet, bzOp, f_X10_in, f_X9_within, e_f1, e_f2, e_f3, e_f4, e_f5, e_e1, e_e2, e_e3, e_e4, e_e5, h2, h4]
  obtain ⟨l1, l2, l3, l4, l5, l6⟩ := sh_l s hs
  obtain ⟨k1, k2, k3, k4, k5, k6⟩ := sh_l t ht
  obtain ⟨⟨q1, q2⟩, z, hz, q3, q4, q5⟩ := hI.2.2.2.2.2.1 s hs
  obtain ⟨⟨r1, r2⟩, w, hw, r3, r4, r5⟩ := hI.2.2.2.2.2.1 t ht
  by_cases m0 : σ 101 s = 0
  · refine err2 hI ?_ (fun τ ht => ?_)
    · simp [f_X9_move, g_0, g_95, g_1, g_2, g_5, g_18, g_24, g_26, g_79, g_80, g_72, l_0_0, l_0_1, l_0_3, l_0_4, l_0_5, l_0_6, l_0_7, l_1_0, l_1_1, l_1_2, l_1_3, l_2_0, l_2_1, l_2_2, l_2_3, l_2_4, l_5_0, l_5_1, l_5_2, l_5_3, l_18_0, l_18_1, l_18_2, l_18_3, l_18_4, l_24_0, l_26_0, l_79_0, l_80_0, l_95_0, l_95_1, l_95_2, l_95_3, l_95_6, l_95_16, l_95_17, l_95_18, l_95_19, l_95_20, l_95_21, l_95_22, bzBd, bzBp, bzLet, bzOp, f_X10_in, f_X9_within, e_f1, e_f2, e_f3, e_f4, e_f5, e_e1, e_e2, e_e3, e_e4, e_e5, h1, h3, bzGdT l2, bzGdT k2, f_X5_isMissing, q1, m0]
    · simp [f_X10_move, g_0, g_95, g_1, g_2, g_5, g_18, g_24, g_26, g_79, g_80, g_72, l_0_0, l_0_1, l_0_3, l_0_4, l_0_5, l_0_6, l_0_7, l_1_0, l_1_1, l_1_2, l_1_3, l_2_0, l_2_1, l_2_2, l_2_3, l_2_4, l_5_0, l_5_1, l_5_2, l_5_3, l_18_0, l_18_1, l_18_2, l_18_3, l_18_4, l_24_0, l_26_0, l_79_0, l_80_0, l_95_0, l_95_1, l_95_2, l_95_3, l_95_6, l_95_16, l_95_17, l_95_18, l_95_19, l_95_20, l_95_21, l_95_22, bzBd, bzBp, bzLet, bzOp, f_X10_in, f_X9_within, e_f1, e_f2, e_f3, e_f4, e_f5, e_e1, e_e2, e_e3, e_e4, e_e5, h2, h4, bzGdT b1, n1, ht 101 (by decide), m0]
  by_cases m1 : σ 101 t = 0
  · refine err2 hI ?_ (fun τ ht => ?_)
    · simp [f_X9_move, g_0, g_95, g_1, g_2, g_5, g_18, g_24, g_26, g_79, g_80, g_72, l_0_0, l_0_1, l_0_3, l_0_4, l_0_5, l_0_6, l_0_7, l_1_0, l_1_1, l_1_2, l_1_3, l_2_0, l_2_1, l_2_2, l_2_3, l_2_4, l_5_0, l_5_1, l_5_2, l_5_3, l_18_0, l_18_1, l_18_2, l_18_3, l_18_4, l_24_0, l_26_0, l_79_0, l_80_0, l_95_0, l_95_1, l_95_2, l_95_3, l_95_6, l_95_16, l_95_17, l_95_18, l_95_19, l_95_20, l_95_21, l_95_22, bzBd, bzBp, bzLet, bzOp, f_X10_in, f_X9_within, e_f1, e_f2, e_f3, e_f4, e_f5, e_e1, e_e2, e_e3, e_e4, e_e5, h1, h3, bzGdT l2, bzGdT k2, f_X5_isMissing, q1, m0, r1, m1]
    · simp [f_X10_move, g_0, g_95, g_1, g_2, g_5, g_18, g_24, g_26, g_79, g_80, g_72, l_0_0, l_0_1, l_0_3, l_0_4, l_0_5, l_0_6, l_0_7, l_1_0, l_1_1, l_1_2, l_1_3, l_2_0, l_2_1, l_2_2, l_2_3, l_2_4, l_5_0, l_5_1, l_5_2, l_5_3, l_18_0, l_18_1, l_18_2, l_18_3, l_18_4, l_24_0, l_26_0, l_79_0, l_80_0, l_95_0, l_95_1, l_95_2, l_95_3, l_95_6, l_95_16, l_95_17, l_95_18, l_95_19, l_95_20, l_95_21, l_95_22, bzBd, bzBp, bzLet, bzOp, f_X10_in, f_X9_within, e_f1, e_f2, e_f3, e_f4, e_f5, e_e1, e_e2, e_e3, e_e4, e_e5, h2, h4, bzGdT b1, bzGdT b3, n1, n3, ht 101 (by decide), m0, m1]
  by_cases mb : σ 101 s = σ 101 t
  rotate_left
  · refine err5 hI ?_ (fun τ ht => ?_)
    · simp [f_X9_move, g_0, g_95, g_1, g_2, g_5, g_18, g_24, g_26, g_79, g_80, g_72, l_0_0, l_0_1, l_0_3, l_0_4, l_0_5, l_0_6, l_0_7, l_1_0, l_1_1, l_1_2, l_1_3, l_2_0, l_2_1, l_2_2, l_2_3, l_2_4, l_5_0, l_5_1, l_5_2, l_5_3, l_18_0, l_18_1, l_18_2, l_18_3, l_18_4, l_24_0, l_26_0, l_79_0, l_80_0, l_95_0, l_95_1, l_95_2, l_95_3, l_95_6, l_95_16, l_95_17, l_95_18, l_95_19, l_95_20, l_95_21, l_95_22, bzBd, bzBp, bzLet, bzOp, f_X10_in, f_X9_within, e_f1, e_f2, e_f3, e_f4, e_f5, e_e1, e_e2, e_e3, e_e4, e_e5, h1, h3, bzGdT l2, bzGdT k2, f_X5_isMissing, q1, m0, r1, m1, mb]
    · simp [f_X10_move, g_0, g_95, g_1, g_2, g_5, g_18, g_24, g_26, g_79, g_80, g_72, l_0_0, l_0_1, l_0_3, l_0_4, l_0_5, l_0_6, l_0_7, l_1_0, l_1_1, l_1_2, l_1_3, l_2_0, l_2_1, l_2_2, l_2_3, l_2_4, l_5_0, l_5_1, l_5_2, l_5_3, l_18_0, l_18_1, l_18_2, l_18_3, l_18_4, l_24_0, l_26_0, l_79_0, l_80_0, l_95_0, l_95_1, l_95_2, l_95_3, l_95_6, l_95_16, l_95_17, l_95_18, l_95_19, l_95_20, l_95_21, l_95_22, bzBd, bzBp, bzLet, bzOp, f_X10_in, f_X9_within, e_f1, e_f2, e_f3, e_f4, e_f5, e_e1, e_e2, e_e3, e_e4, e_e5, h2, h4, bzGdT b1, bzGdT b3, n1, n3, ht 101 (by decide), m0, m1, mb]
  have bad : (f_X4_hasRun (84 + 3 * s) a2 a5 σ = some 0 ∨ (f_X4_hasRun (84 + 3 * s) a2 a5 σ = some 1 ∧ f_X4_hasRun (84 + 3 * t) a4 a5 σ = some 0)) → (a5 < 0 ∨ a2 < 0 ∨ a4 < 0 ∨ nI z - a5 < a2 ∨ ¬ a4 ≤ nI w - a5) → ∃ (r : Int32) (σ1 : bzS) (σ2 : bzS), f_X9_move 0 a1 a2 a3 a4 a5 σ = some (r, σ1) ∧ f_X10_move 95 a1 a2 a3 a4 a5 σ1 = some (r, σ2) ∧ bzInv (n + 1) σ2 := by
    intro hc hm
    refine err1 hI ?_ (fun τ ht => ?_)
    · rcases hc with hc | ⟨hc, hd⟩
      · simp [f_X9_move, g_0, g_95, g_1, g_2, g_5, g_18, g_24, g_26, g_79, g_80, g_72, l_0_0, l_0_1, l_0_3, l_0_4, l_0_5, l_0_6, l_0_7, l_1_0, l_1_1, l_1_2, l_1_3, l_2_0, l_2_1, l_2_2, l_2_3, l_2_4, l_5_0, l_5_1, l_5_2, l_5_3, l_18_0, l_18_1, l_18_2, l_18_3, l_18_4, l_24_0, l_26_0, l_79_0, l_80_0, l_95_0, l_95_1, l_95_2, l_95_3, l_95_6, l_95_16, l_95_17, l_95_18, l_95_19, l_95_20, l_95_21, l_95_22, bzBd, bzBp, bzLet, bzOp, f_X10_in, f_X9_within, e_f1, e_f2, e_f3, e_f4, e_f5, e_e1, e_e2, e_e3, e_e4, e_e5, h1, h3, bzGdT l2, bzGdT k2, f_X5_isMissing, q1, m0, r1, m1, ← mb, l3, hc]
      · simp [f_X9_move, g_0, g_95, g_1, g_2, g_5, g_18, g_24, g_26, g_79, g_80, g_72, l_0_0, l_0_1, l_0_3, l_0_4, l_0_5, l_0_6, l_0_7, l_1_0, l_1_1, l_1_2, l_1_3, l_2_0, l_2_1, l_2_2, l_2_3, l_2_4, l_5_0, l_5_1, l_5_2, l_5_3, l_18_0, l_18_1, l_18_2, l_18_3, l_18_4, l_24_0, l_26_0, l_79_0, l_80_0, l_95_0, l_95_1, l_95_2, l_95_3, l_95_6, l_95_16, l_95_17, l_95_18, l_95_19, l_95_20, l_95_21, l_95_22, bzBd, bzBp, bzLet, bzOp, f_X10_in, f_X9_within, e_f1, e_f2, e_f3, e_f4, e_f5, e_e1, e_e2, e_e3, e_e4, e_e5, h1, h3, bzGdT l2, bzGdT k2, f_X5_isMissing, q1, m0, r1, m1, ← mb, l3, k3, hc, hd]
    · simp only [f_X10_move, g_0, g_95, g_1, g_2, g_5, g_18, g_24, g_26, g_79, g_80, g_72, l_0_0, l_0_1, l_0_3, l_0_4, l_0_5, l_0_6, l_0_7, l_1_0, l_1_1, l_1_2, l_1_3, l_2_0, l_2_1, l_2_2, l_2_3, l_2_4, l_5_0, l_5_1, l_5_2, l_5_3, l_18_0, l_18_1, l_18_2, l_18_3, l_18_4, l_24_0, l_26_0, l_79_0, l_80_0, l_95_0, l_95_1, l_95_2, l_95_3, l_95_6, l_95_16, l_95_17, l_95_18, l_95_19, l_95_20, l_95_21, l_95_22, bzBd, bzBp, bzLet, bzOp, f_X10_in, f_X9_within, e_f1, e_f2, e_f3, e_f4, e_f5, e_e1, e_e2, e_e3, e_e4, e_e5, h2, h4, if_neg one_ne, bzGdT b1, bzGdT b3, n1, n3, ht 101 (by decide), ht 102 (by decide), if_neg m0, if_neg m1, if_pos mb, q4, r4]
      by_cases g1 : a5 < 0
      · simp only [if_pos g1]
      by_cases g2 : a2 < 0
      · simp only [if_neg g1, if_pos g2]
      by_cases g3 : a4 < 0
      · simp only [if_neg g1, if_neg g2, if_pos g3]
      by_cases g4 : nI z - a5 < a2
      · simp only [if_neg g1, if_neg g2, if_neg g3, if_pos g4]
      by_cases g5 : a4 ≤ nI w - a5
      · rcases hm with h | h | h | h | h
        · exact absurd h g1
        · exact absurd h g2
        · exact absurd h g3
        · exact absurd h g4
        · exact absurd g5 h
      · simp only [if_neg g1, if_neg g2, if_neg g3, if_neg g4, if_neg g5]
  rcases runOf a2 a5 hz with ⟨p, c, e2, e5, hp⟩ | hr
  rotate_left
  · exact bad (Or.inl (run_0 hs hz q3 hr)) (by rcases hr with h | h | h; exact Or.inl h; exact Or.inr (Or.inl h.2); exact Or.inr (Or.inr (Or.inr (Or.inl h.2.2))))
  rcases runOf a4 a5 hw with ⟨q, c', e4, e5', hq⟩ | hr
  rotate_left
  · exact bad (Or.inr ⟨by rw [e2, e5]; exact run_1 hs hz q3 hp, run_0 ht hw r3 hr⟩) (by rcases hr with h | h | h; exact Or.inl h; exact Or.inr (Or.inr (Or.inl h.2)); exact Or.inr (Or.inr (Or.inr (Or.inr (Int32.not_le.mpr h.2.2)))))
  have ec : c' = c := by
    have : nI c' = nI c := e5'.symm.trans e5
    exact (nI_eq (by omega) (by omega)).mp this
  subst ec
  have c1 := run_1 (c := c') hs hz q3 hp
  have c2 := run_1 (c := c') ht hw r3 hq
  have cp : bzCp (nI p) (nI q) (nI c') 40 40 := by
    unfold bzCp
    rw [nI_toInt (by omega), nI_toInt (by omega), nI_toInt (by omega)]
    omega
  have tk : f_X4_takeRun (84 + 3 * t) (84 + 3 * s) (nI p) (nI q) (nI c') σ = some (bzSa σ (85 + 3 * t) (va_cpy (σ (85 + 3 * s)) (σ (85 + 3 * t)) p q c')) := by
    simp only [f_X4_takeRun, bzGdT l4, bzGdT k4, c1, c2, bzBd, if_neg one_ne, l5, k5, l6, k6, bzGdT cp, bzLet, clN (show p < 2 ^ 31 by omega), clN (show q < 2 ^ 31 by omega), clN (show c' < 2 ^ 31 by omega)]
  obtain ⟨τ, t1, t2, t3, t4⟩ := mv_1 (c := c') a1 a2 a3 a4 hs ht (show p + c' ≤ 40 by omega) (show q + c' ≤ 40 by omega) e1 e2 e3 e4 c' 0 rfl 2000 (bzSa σ (85 + 3 * t) (va_cpy (σ (85 + 3 * s)) (σ (85 + 3 * t)) p q c')) (by omega) (fun j hj => absurd hj (Nat.not_lt_zero _))
  refine ⟨nI c', bzSa σ (85 + 3 * t) (va_cpy (σ (85 + 3 * s)) (σ (85 + 3 * t)) p q c'), τ, ?_, ?_, ?_⟩
  · simp only [f_X9_move, g_0, g_95, g_1, g_2, g_5, g_18, g_24, g_26, g_79, g_80, g_72, l_0_0, l_0_1, l_0_3, l_0_4, l_0_5, l_0_6, l_0_7, l_1_0, l_1_1, l_1_2, l_1_3, l_2_0, l_2_1, l_2_2, l_2_3, l_2_4, l_5_0, l_5_1, l_5_2, l_5_3, l_18_0, l_18_1, l_18_2, l_18_3, l_18_4, l_24_0, l_26_0, l_79_0, l_80_0, l_95_0, l_95_1, l_95_2, l_95_3, l_95_6, l_95_16, l_95_17, l_95_18, l_95_19, l_95_20, l_95_21, l_95_22, bzBd, bzBp, bzLet, bzOp, f_X10_in, f_X9_within, e_f1, e_f2, e_f3, e_f4, e_f5, e_e1, e_e2, e_e3, e_e4, e_e5, h1, h3, bzGdT l2, bzGdT k2, f_X5_isMissing, q1, if_neg m0, r1, if_neg m1, if_pos mb, if_true, l3, k3, e2, e4, e5, c1, c2, if_neg one_ne, tk]
  · have g1 : ¬ nI c' < 0 := nI_n0 (by omega)
    have g4 : ¬ nI z - nI c' < nI p := by rw [pk_sub (by omega)]; exact nI_nlt (by omega) (by omega)
    have g5 : nI q ≤ nI w - nI c' := by rw [pk_sub (by omega)]; exact Int32.not_lt.mp (nI_nlt (by omega) (by omega))
    have o1 : bzSa σ (85 + 3 * t) (va_cpy (σ (85 + 3 * s)) (σ (85 + 3 * t)) p q c') 101 = σ 101 := sa_o (by omega)
    have o2 : bzSa σ (85 + 3 * t) (va_cpy (σ (85 + 3 * s)) (σ (85 + 3 * t)) p q c') 102 = σ 102 := sa_o (by omega)
    simp only [f_X10_move, g_0, g_95, g_1, g_2, g_5, g_18, g_24, g_26, g_79, g_80, g_72, l_0_0, l_0_1, l_0_3, l_0_4, l_0_5, l_0_6, l_0_7, l_1_0, l_1_1, l_1_2, l_1_3, l_2_0, l_2_1, l_2_2, l_2_3, l_2_4, l_5_0, l_5_1, l_5_2, l_5_3, l_18_0, l_18_1, l_18_2, l_18_3, l_18_4, l_24_0, l_26_0, l_79_0, l_80_0, l_95_0, l_95_1, l_95_2, l_95_3, l_95_6, l_95_16, l_95_17, l_95_18, l_95_19, l_95_20, l_95_21, l_95_22, bzBd, bzBp, bzLet, bzOp, f_X10_in, f_X9_within, e_f1, e_f2, e_f3, e_f4, e_f5, e_e1, e_e2, e_e3, e_e4, e_e5, h2, h4, if_neg one_ne, bzGdT b1, bzGdT b3, n1, n3, o1, o2, if_neg m0, if_neg m1, if_pos mb, q4, r4, e5]
    rw [e2, e4, if_neg g1, if_neg (nI_n0 (k := p) (by omega)), if_neg (nI_n0 (k := q) (by omega)), if_neg g4, if_pos g5, ← e2, ← e4]
    exact t1
  · refine inv_mono _ _ (inv_sheet (s := t) hI ht ?_ ?_ ?_ ?_ ⟨⟨?_, ?_⟩, w, hw, ?_, ?_, ?_⟩)
    · intro k h1 h2 h3 h4 h5 h6 h7
      have h7 : ¬ _ := of_decide_eq_false h7
      rw [t2 k h6 (by omega), sa_o h3]
    · intro j hj; rw [t2 101 (by decide) (by decide), sa_o (by omega)]
    · intro j hj; rw [t2 102 (by decide) (by decide), sa_o (by omega)]
    · intro j hj; rw [t3 j (by omega), sa_o (by omega)]
    · rw [t2 _ (by omega) (by omega), t2 101 (by decide) (by decide), sa_o (by omega), sa_o (by omega)]; exact r1
    · rw [t2 101 (by decide) (by decide), sa_o (by omega)]; exact r2
    · rw [t2 _ (by omega) (by omega), sa_o (by omega)]; exact r3
    · rw [t2 102 (by decide) (by decide), sa_o (by omega)]; exact r4
    · intro j hj
      rw [t2 _ (by omega) (by omega), sa_s]
      by_cases e : q ≤ j ∧ j < q + c'
      · rw [pk_cpy_in e.1 e.2, q5 _ (by omega), show 40 * t + j = 40 * t + q + (j - q) by omega, t4 _ (by omega), sa_o (by omega), show 40 * s + (p + (j - q)) = 40 * s + p + (j - q) by omega]
      · rw [pk_cpy_out (by omega), t3 _ (by omega), sa_o (by omega)]; exact r5 j hj
