set_option linter.unusedVariables false
/-- 0 .. 9 -/
def oB (x : Int32) : Bool := decide (¬ x < 0 ∧ ¬ (9 : Int32) < x)
/-- how many numbers of t are taken from v on: at most m more -/
def tlN (t : Nat → Int32) : Nat → Nat → Nat
  | 0, v => v
  | m + 1, v => if oB (t v) = true then tlN t m (v + 1) else v
theorem tlN_le (t : Nat → Int32) : ∀ m v, v ≤ tlN t m v ∧ tlN t m v ≤ v + m ∧ ∀ j, v ≤ j → j < tlN t m v → oB (t j) = true := by
  intro m
  induction m with
  | zero => intro v; exact ⟨Nat.le_refl _, Nat.le_refl _, fun j h1 h2 => absurd h2 (by simp only [tlN]; omega)⟩
  | succ m ih =>
    intro v
    simp only [tlN]
    by_cases h : oB (t v) = true
    · rw [if_pos h]
      obtain ⟨a, b, c⟩ := ih (v + 1)
      refine ⟨by omega, by omega, fun j h1 h2 => ?_⟩
      by_cases e : j = v
      · subst e; exact h
      · exact c j (by omega) h2
    · rw [if_neg h]
      exact ⟨Nat.le_refl _, by omega, fun j h1 h2 => absurd h2 (by omega)⟩
theorem tlN_1 {t : Nat → Int32} {m v : Nat} (h : oB (t v) = true) : tlN t (m + 1) v = tlN t m (v + 1) := if_pos h
theorem tlN_2 {t : Nat → Int32} {m v : Nat} (h : ¬ oB (t v) = true) : tlN t (m + 1) v = v := if_neg h
theorem wi_o (x : Int32) : f_X9_within x 0 9 = some (if oB x = true then 1 else 0) ∧ f_X10_in x 0 9 = some (if oB x = true then 1 else 0) := by
  by_cases h : oB x = true
  · have k := of_decide_eq_true h
    rw [if_pos h]
    exact ⟨wi_1 k.1 k.2, in_1 k.1 k.2⟩
  · have k : ¬ _ := of_decide_eq_false (Bool.eq_false_iff.mpr h)
    rw [if_neg h]
    have k : x < 0 ∨ 9 < x := by
      by_cases a : x < 0
      · exact Or.inl a
      · by_cases b : 9 < x
        · exact Or.inr b
        · exact absurd ⟨a, b⟩ k
    exact ⟨wi_0 k, in_0 k⟩
theorem tl_c {s z c : Nat} (t : Nat → Int32) (hs : s < 4) (hz : z ≤ 40) (hc : c = min z 10) : ∀ m v, m + v = c → ∀ (f : Nat) (σ : bzS), m < f → σ (84 + 3 * s) 1 = nI z → (∀ j, j < z → σ (85 + 3 * s) j = t j) → ∃ τ, fl_X1_takeTalls_12 18 (84 + 3 * s) f (nI c) (nI v) σ = some (nI (tlN t m v), τ) ∧ (∀ k, k ≠ 19 → τ k = σ k) ∧ (∀ j, τ 19 j = if v ≤ j ∧ j < tlN t m v then t j else σ 19 j) := by
  intro m
  induction m with
  | zero =>
    intro v hv f σ hf h1 h2
    obtain ⟨f, rfl⟩ : ∃ q, f = q + 1 := ⟨f - 1, by omega⟩
    have e : v = c := by omega
    subst e
    refine ⟨σ, ?_, fun k _ => rfl, fun j => by rw [show tlN t 0 v = v from rfl, if_neg (show ¬ (v ≤ j ∧ j < v) by omega)]⟩
    simp only [fl_X1_takeTalls_12, fb_X1_takeTalls_12, if_pos (Int32.le_refl _), tlN]
  | succ m ih =>
    intro v hv f σ hf h1 h2
    obtain ⟨f, rfl⟩ : ∃ q, f = q + 1 := ⟨f - 1, by omega⟩
    have at_ := (tape_n (σ := σ) (v := v) hs hz h1 (by omega)).2 (by omega)
    rw [h2 v (by omega)] at at_
    by_cases o : oB (t v) = true
    · obtain ⟨τ, t1, t2, t3⟩ := ih (v + 1) (by omega) f (bzSt σ 19 v (t v)) (by omega) (by rw [st_o (by omega)]; exact h1) (fun j hj => by rw [st_o (by omega)]; exact h2 j hj)
      have le := tlN_le t m (v + 1)
      refine ⟨τ, ?_, fun k hk => by rw [t2 k hk, st_o hk], fun j => ?_⟩
      · simp only [fl_X1_takeTalls_12, fb_X1_takeTalls_12]
        rw [if_neg (nI_ge (show v < c by omega) (by omega)), at_, bzBdS, (wi_o (t v)).1, if_pos o, bzBdS, if_neg one_ne, bzBdS, bzGdT (bzIn_nI (show v < 10 by omega) (by decide)), l_18_0, clN (show v < 2 ^ 31 by omega), bzLetS, bzLetS, nI_1, t1]
        rw [tlN_1 o]
      · rw [tlN_1 o, t3 j, st_s]
        by_cases e : j = v
        · subst e
          rw [if_neg (by omega), pk_us, if_pos (by omega)]
        · rw [pk_un e]
          by_cases q : v + 1 ≤ j ∧ j < tlN t m (v + 1)
          · rw [if_pos q, if_pos (by omega)]
          · rw [if_neg q, if_neg (by omega)]
    · refine ⟨σ, ?_, fun k _ => rfl, fun j => by rw [tlN_2 o, if_neg (show ¬ (v ≤ j ∧ j < v) by omega)]⟩
      simp only [fl_X1_takeTalls_12, fb_X1_takeTalls_12]
      rw [if_neg (nI_ge (show v < c by omega) (by omega)), at_, bzBdS, (wi_o (t v)).1, if_neg o, bzBdS, if_pos rfl]
      rw [tlN_2 o]
theorem tl_m {s z c : Nat} (t : Nat → Int32) (a : Int32) (hs : s < 4) (ea : a = nI s) (b1 : bzIn a 4) (hz : z ≤ 40) (hc : c = min z 10) : ∀ m v, m + v = c → ∀ (f : Nat) (σ : bzS), m < f → σ 102 s = nI z → (∀ j, j < z → σ 103 (40 * s + j) = t j) → ∃ τ, fl_X10_talls_32 95 a f (nI v) σ = some (nI (tlN t m v), τ) ∧ (∀ k, k ≠ 96 → τ k = σ k) ∧ (∀ j, v ≤ j → j < tlN t m v → τ 96 (24 + 2 * j) = t j) ∧ (∀ p, (∀ j, v ≤ j → j < tlN t m v → p ≠ 24 + 2 * j) → τ 96 p = σ 96 p) := by
  have nl : a.toNatClampNeg = s := by rw [ea]; exact clN (by omega)
  intro m
  induction m with
  | zero =>
    intro v hv f σ hf h1 h2
    obtain ⟨f, rfl⟩ : ∃ q, f = q + 1 := ⟨f - 1, by omega⟩
    have e : v = c := by omega
    subst e
    refine ⟨σ, ?_, fun k _ => rfl, fun j p1 p2 => absurd p2 (by simp only [tlN]; omega), fun p _ => rfl⟩
    simp only [fl_X10_talls_32, fb_X10_talls_32, bzGdT b1, l_95_17, nl, h1, tlN]
    by_cases q : z ≤ v
    · rw [if_pos (show nI z ≤ nI v from Int32.not_lt.mp (nI_nlt q (by omega)))]
    · rw [if_neg (nI_ge (by omega) (by omega)), if_pos (show (10 : Int32) ≤ nI v from Int32.not_lt.mp (nI_nlt (b := 10) (by omega) (by omega)))]
  | succ m ih =>
    intro v hv f σ hf h1 h2
    obtain ⟨f, rfl⟩ : ∃ q, f = q + 1 := ⟨f - 1, by omega⟩
    have ep : 40 * a + nI v = nI (40 * s + v) := by rw [ea, show (40 : Int32) = nI 40 from rfl, pk_mul, nI_add]
    have eq : 24 + 2 * nI v = nI (24 + 2 * v) := by rw [show (2 : Int32) = nI 2 from rfl, pk_mul, show (24 : Int32) = nI 24 from rfl, nI_add]
    have st : fl_X10_talls_32 95 a (f + 1) (nI v) σ = if oB (t v) = true then fl_X10_talls_32 95 a f (nI (v + 1)) (bzSt σ 96 (24 + 2 * v) (t v)) else some (nI v, σ) := by
      simp only [fl_X10_talls_32, fb_X10_talls_32, bzGdT b1, l_95_17, nl, h1, l_95_0, l_95_18]
      rw [if_neg (nI_ge (show v < z by omega) (by omega)), if_neg (show ¬ (10 : Int32) ≤ nI v from nI_ge (show v < 10 by omega) (by decide)), ep, bzGdT (bzIn_nI (show 40 * s + v < 160 by omega) (by decide)), clN (show 40 * s + v < 2 ^ 31 by omega), h2 v (by omega), (wi_o (t v)).2, bzBdS]
      by_cases o : oB (t v) = true
      · rw [if_pos o, if_pos o, if_neg one_ne, bzGdT (bzIn_nI (show 40 * s + v < 160 by omega) (by decide)), eq, bzGdT (bzIn_nI (show 24 + 2 * v < 254 by omega) (by decide)), clN (show 24 + 2 * v < 2 ^ 31 by omega), bzLetS, bzLetS, nI_1]
      · rw [if_neg o, if_neg o, if_pos rfl]
    rw [st]
    by_cases o : oB (t v) = true
    · obtain ⟨τ, t1, t2, t3, t4⟩ := ih (v + 1) (by omega) f (bzSt σ 96 (24 + 2 * v) (t v)) (by omega) (by rw [st_o (by decide)]; exact h1) (fun j hj => by rw [st_o (by decide)]; exact h2 j hj)
      have le := tlN_le t m (v + 1)
      rw [tlN_1 o, if_pos o]
      refine ⟨τ, t1, fun k hk => by rw [t2 k hk, st_o hk], fun j p1 p2 => ?_, fun p hp => ?_⟩
      · by_cases e : j = v
        · subst e
          rw [t4 _ (fun i i1 i2 => by omega), st_s, pk_us]
        · exact t3 j (by omega) p2
      · rw [t4 p (fun j j1 j2 => hp j (by omega) j2), st_s, pk_un (hp v (Nat.le_refl _) (by omega))]
    · rw [if_neg o]
      rw [tlN_2 o]
      exact ⟨σ, rfl, fun k _ => rfl, fun j p1 p2 => absurd p2 (by omega), fun p _ => rfl⟩
theorem inv_talls {n : Nat} (t : Nat → Int32) {σ : bzS} (hI : bzInv n σ) : ∀ r, r ≤ 10 → (∀ j, j < r → oB (t j) = true) → ∃ ρ, bzInv n ρ ∧ (∀ k, k ≠ 19 → k ≠ 96 → ρ k = σ k) ∧ (∀ j, ρ 19 j = if j < r then t j else σ 19 j) ∧ (∀ j, j < r → ρ 96 (24 + 2 * j) = t j) ∧ (∀ p, (∀ j, j < r → p ≠ 24 + 2 * j) → ρ 96 p = σ 96 p) := by
  intro r
  induction r with
  | zero => exact fun _ _ => ⟨σ, hI, fun k _ _ => rfl, fun j => by rw [if_neg (by omega)], fun j hj => absurd hj (Nat.not_lt_zero _), fun p _ => rfl⟩
  | succ r ih =>
    intro hr ho
    obtain ⟨ρ, q1, q2, q3, q4, q5⟩ := ih (by omega) (fun j hj => ho j (by omega))
    obtain ⟨p1, p2, p3⟩ := step_p r (by omega) 0 (by decide)
    have hx : mx (24 + 2 * r) = 9 := by
      have key : ∀ r, r ≤ 9 → mx (24 + 2 * r) = 9 := by decide +kernel
      exact key r (by omega)
    have o := of_decide_eq_true (ho r (by omega))
    have up : bzUp 9 (t r) := by
      rcases rng (t r) (n := 9) (by decide) with h | h | h
      · exact h
      · exact absurd h o.1
      · exact absurd h o.2
    have q6 := inv_set (p := 24 + 2 * r + 0) (v := t r) q1 p1 (by omega) (by omega) (by omega) (fun _ => by rw [Nat.add_zero, hx]; exact up) (fun i hi e => absurd e (by omega))
    rw [p2, p3] at q6
    refine ⟨_, q6, fun k h1 h2 => by rw [st_o h2, st_o h1, q2 k h1 h2], fun j => ?_, fun j hj => ?_, fun p hp => ?_⟩
    · show bzSt (bzSt ρ 19 r (t r)) 96 (24 + 2 * r + 0) (t r) 19 j = _
      rw [st_o (by decide), st_s]
      by_cases e : j = r
      · subst e; rw [pk_us, if_pos (by omega)]
      · rw [pk_un e, q3 j]
        by_cases c : j < r
        · rw [if_pos c, if_pos (by omega)]
        · rw [if_neg c, if_neg (by omega)]
    · show bzSt (bzSt ρ 19 r (t r)) 96 (24 + 2 * r + 0) (t r) 96 _ = _
      rw [st_s, st_o (by decide)]
      by_cases e : j = r
      · subst e; exact pk_us
      · rw [pk_un (by omega), q4 j (by omega)]
    · show bzSt (bzSt ρ 19 r (t r)) 96 (24 + 2 * r + 0) (t r) 96 _ = _
      rw [Nat.add_zero, st_s, st_o (by decide), pk_un (hp r (by omega)), q5 p (fun j hj => hp j (by omega))]
theorem st_talls : bzSt_talls bzInv := by
  intro a1 σ n hn hI
  rcases shOf a1 σ with ⟨h1, h2⟩ | ⟨s, hs, e1, b1, n1, h1, h2⟩
  · refine err1 hI ?_ (fun τ ht => ?_)
    · simp only [f_X9_talls, g_0, g_95, g_1, g_2, g_5, g_18, g_24, g_26, g_79, g_80, g_72, l_0_0, l_0_1, l_0_3, l_0_4, l_0_5, l_0_6, l_0_7, l_1_0, l_1_1, l_1_2, l_1_3, l_2_0, l_2_1, l_2_2, l_2_3, l_2_4, l_5_0, l_5_1, l_5_2, l_5_3, l_18_0, l_18_1, l_18_2, l_18_3, l_18_4, l_24_0, l_26_0, l_79_0, l_80_0, l_95_0, l_95_1, l_95_2, l_95_3, l_95_6, l_95_16, l_95_17, l_95_18, l_95_19, l_95_20, l_95_21, l_95_22, bzBd, bzBp, bzLet, bzOp, f_X10_in, f_X9_within, e_f1, e_f2, e_f3, e_f4, e_f5, e_e1, e_e2, e_e3, e_e4, e_e5, h1]
    · simp [f_X10_talls, g_0, g_95, g_1, g_2, g_5, g_18, g_24, g_26, g_79, g_80, g_72, l_0_0, l_0_1, l_0_3, l_0_4, l_0_5, l_0_6, l_0_7, l_1_0, l_1_1, l_1_2, l_1_3, l_2_0, l_2_1, l_2_2, l_2_3, l_2_4, l_5_0, l_5_1, l_5_2, l_5_3, l_18_0, l_18_1, l_18_2, l_18_3, l_18_4, l_24_0, l_26_0, l_79_0, l_80_0, l_95_0, l_95_1, l_95_2, l_95_3, l_95_6, l_95_16, l_95_17, l_95_18, l_95_19, l_95_20, l_95_21, l_95_22, bzBd, bzBp, bzLet, bzOp, f_X10_in, f_X9_within, e_f1, e_f2, e_f3, e_f4, e_f5, e_e1, e_e2, e_e3, e_e4, e_e5, h2]
  obtain ⟨l1, l2, l3, l4, l5, l6⟩ := sh_l s hs
  obtain ⟨⟨q1, q2⟩, z, hz, q3, q4, q5⟩ := hI.2.2.2.2.2.1 s hs
  by_cases m0 : σ 101 s = 0
  · refine err2 hI ?_ (fun τ ht => ?_)
    · simp [f_X9_talls, g_0, g_95, g_1, g_2, g_5, g_18, g_24, g_26, g_79, g_80, g_72, l_0_0, l_0_1, l_0_3, l_0_4, l_0_5, l_0_6, l_0_7, l_1_0, l_1_1, l_1_2, l_1_3, l_2_0, l_2_1, l_2_2, l_2_3, l_2_4, l_5_0, l_5_1, l_5_2, l_5_3, l_18_0, l_18_1, l_18_2, l_18_3, l_18_4, l_24_0, l_26_0, l_79_0, l_80_0, l_95_0, l_95_1, l_95_2, l_95_3, l_95_6, l_95_16, l_95_17, l_95_18, l_95_19, l_95_20, l_95_21, l_95_22, bzBd, bzBp, bzLet, bzOp, f_X10_in, f_X9_within, e_f1, e_f2, e_f3, e_f4, e_f5, e_e1, e_e2, e_e3, e_e4, e_e5, h1, bzGdT l2, f_X5_isMissing, q1, m0]
    · simp [f_X10_talls, g_0, g_95, g_1, g_2, g_5, g_18, g_24, g_26, g_79, g_80, g_72, l_0_0, l_0_1, l_0_3, l_0_4, l_0_5, l_0_6, l_0_7, l_1_0, l_1_1, l_1_2, l_1_3, l_2_0, l_2_1, l_2_2, l_2_3, l_2_4, l_5_0, l_5_1, l_5_2, l_5_3, l_18_0, l_18_1, l_18_2, l_18_3, l_18_4, l_24_0, l_26_0, l_79_0, l_80_0, l_95_0, l_95_1, l_95_2, l_95_3, l_95_6, l_95_16, l_95_17, l_95_18, l_95_19, l_95_20, l_95_21, l_95_22, bzBd, bzBp, bzLet, bzOp, f_X10_in, f_X9_within, e_f1, e_f2, e_f3, e_f4, e_f5, e_e1, e_e2, e_e3, e_e4, e_e5, h2, bzGdT b1, n1, ht 101 (by decide), m0]
  have mn : f_J_min (nI z) 10 = some (nI (min z 10)) := by
    unfold f_J_min
    by_cases c : 10 < z
    · rw [if_pos (show (10 : Int32) < nI z from nI_lt (a := 10) c (by omega)), show min z 10 = 10 by omega]; rfl
    · rw [if_neg (show ¬ (10 : Int32) < nI z from nI_nlt (a := 10) (by omega) (by decide)), show min z 10 = z by omega]
  let t : Nat → Int32 := fun j => σ 103 (40 * s + j)
  obtain ⟨τ, t1, t2, t3⟩ := tl_c (c := min z 10) t hs hz rfl (min z 10) 0 (by omega) 2000 σ (by omega) q3 (fun j hj => q5 j hj)
  obtain ⟨ρ, r1, r2, r3, r4⟩ := tl_m (c := min z 10) t a1 hs e1 b1 hz rfl (min z 10) 0 (by omega) 2000 τ (by omega) (by rw [t2 102 (by decide)]; exact q4) (fun j hj => by rw [t2 103 (by decide)])
  have le := tlN_le t (min z 10) 0
  obtain ⟨ω, w1, w2, w3, w4, w5⟩ := inv_talls t hI (tlN t (min z 10) 0) (by omega) (fun j hj => le.2.2 j (by omega) hj)
  have e : ρ = ω := by
    funext k
    by_cases k96 : k = 96
    · subst k96
      funext p
      by_cases c : ∃ j, j < tlN t (min z 10) 0 ∧ p = 24 + 2 * j
      · obtain ⟨j, c1, c2⟩ := c
        rw [c2, r3 j (by omega) c1, w4 j c1]
      · rw [r4 p (fun j _ j2 e => c ⟨j, j2, e⟩), w5 p (fun j j2 e => c ⟨j, j2, e⟩), t2 96 (by decide)]
    · rw [r2 k k96]
      by_cases k19 : k = 19
      · subst k19
        funext j
        rw [t3 j, w3 j]
        by_cases c : j < tlN t (min z 10) 0
        · rw [if_pos ⟨Nat.zero_le _, c⟩, if_pos c]
        · rw [if_neg (fun h => c h.2), if_neg c]
      · rw [t2 k k19, w2 k k19 k96]
  refine ⟨nI (tlN t (min z 10) 0), τ, ρ, ?_, ?_, by rw [e]; exact inv_mono _ _ w1⟩
  · simp only [f_X9_talls, g_0, g_95, g_1, g_2, g_5, g_18, g_24, g_26, g_79, g_80, g_72, l_0_0, l_0_1, l_0_3, l_0_4, l_0_5, l_0_6, l_0_7, l_1_0, l_1_1, l_1_2, l_1_3, l_2_0, l_2_1, l_2_2, l_2_3, l_2_4, l_5_0, l_5_1, l_5_2, l_5_3, l_18_0, l_18_1, l_18_2, l_18_3, l_18_4, l_24_0, l_26_0, l_79_0, l_80_0, l_95_0, l_95_1, l_95_2, l_95_3, l_95_6, l_95_16, l_95_17, l_95_18, l_95_19, l_95_20, l_95_21, l_95_22, bzBd, bzBp, bzLet, bzOp, f_X10_in, f_X9_within, e_f1, e_f2, e_f3, e_f4, e_f5, e_e1, e_e2, e_e3, e_e4, e_e5, h1, bzGdT l2, f_X5_isMissing, q1, if_neg m0, if_true, l3, f_X1_takeTalls, bzGdT l4, q3, mn]
    rw [show (0 : Int32) = nI 0 from rfl, t1]
  · have o101 : τ 101 = σ 101 := t2 101 (by decide)
    simp only [f_X10_talls, g_0, g_95, g_1, g_2, g_5, g_18, g_24, g_26, g_79, g_80, g_72, l_0_0, l_0_1, l_0_3, l_0_4, l_0_5, l_0_6, l_0_7, l_1_0, l_1_1, l_1_2, l_1_3, l_2_0, l_2_1, l_2_2, l_2_3, l_2_4, l_5_0, l_5_1, l_5_2, l_5_3, l_18_0, l_18_1, l_18_2, l_18_3, l_18_4, l_24_0, l_26_0, l_79_0, l_80_0, l_95_0, l_95_1, l_95_2, l_95_3, l_95_6, l_95_16, l_95_17, l_95_18, l_95_19, l_95_20, l_95_21, l_95_22, bzBd, bzBp, bzLet, bzOp, f_X10_in, f_X9_within, e_f1, e_f2, e_f3, e_f4, e_f5, e_e1, e_e2, e_e3, e_e4, e_e5, h2, bzGdT b1, n1, o101, if_neg m0, if_neg one_ne]
    exact r1
