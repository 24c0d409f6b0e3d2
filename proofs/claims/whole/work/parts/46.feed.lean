set_option linter.unusedVariables false
theorem lsr255 (a : BitVec 64) (k : Nat) (hk : k ≤ 56) : (a >>> k) &&& 255#64 = (a.sshiftRight k) &&& 255#64 := by
  apply BitVec.eq_of_getLsbD_eq
  intro i hi
  rw [BitVec.getLsbD_and, BitVec.getLsbD_and, BitVec.getLsbD_ushiftRight, BitVec.getLsbD_sshiftRight]
  by_cases h : i < 8
  · have h1 : ¬ 64 ≤ i := by omega
    have h2 : k + i < 64 := by omega
    simp [h1, h2]
  · have : (255#64).getLsbD i = false := by
      have e : (255#64).getLsbD i = Nat.testBit (2 ^ 8 - 1) i := rfl
      rw [e, Nat.testBit_two_pow_sub_one]
      exact decide_eq_false h
    rw [this, Bool.and_false, Bool.and_false]
def bfE (a : Int64) (v : Nat) : Int32 := (((a >>> ((8 * nI v).toInt64 &&& 63)) &&& 255)).toInt32
theorem byte_eq (a : Int64) (v : Nat) (hv : v < 8) : (((((a.toUInt64 >>> ((8 * nI v).toInt64.toUInt64 &&& Int64.toUInt64 63)).toInt64) &&& 255)).toInt32) = bfE a v := by
  unfold bfE
  refine congrArg Int64.toInt32 (Int64.toBitVec_inj.mp ?_)
  rcases (show v = 0 ∨ v = 1 ∨ v = 2 ∨ v = 3 ∨ v = 4 ∨ v = 5 ∨ v = 6 ∨ v = 7 by omega) with rfl | rfl | rfl | rfl | rfl | rfl | rfl | rfl
  · exact lsr255 a.toBitVec 0 (by decide)
  · exact lsr255 a.toBitVec 8 (by decide)
  · exact lsr255 a.toBitVec 16 (by decide)
  · exact lsr255 a.toBitVec 24 (by decide)
  · exact lsr255 a.toBitVec 32 (by decide)
  · exact lsr255 a.toBitVec 40 (by decide)
  · exact lsr255 a.toBitVec 48 (by decide)
  · exact lsr255 a.toBitVec 56 (by decide)
theorem fd_c {T c : Nat} (a : Int64) (hT : T + c ≤ 50) (hc : c ≤ 8) : ∀ m v, m + v = c → ∀ (f : Nat) (σ : bzS), m < f → σ 24 1 = nI (T + v) → ∃ τ, fl_X9_feed_44 0 a (nI c) f (nI v) σ = some (nI (T + c), τ) ∧ (∀ k, k ≠ 24 → k ≠ 25 → τ k = σ k) ∧ (∀ j, j ≠ 1 → τ 24 j = σ 24 j) ∧ τ 24 1 = nI (T + c) ∧ (∀ j, T + v ≤ j → j < T + c → τ 25 j = bfE a (j - T)) ∧ (∀ j, (j < T + v ∨ T + c ≤ j) → τ 25 j = σ 25 j) := by
  intro m
  induction m with
  | zero =>
    intro v hv f σ hf h1
    obtain ⟨f, rfl⟩ : ∃ q, f = q + 1 := ⟨f - 1, by omega⟩
    have e : v = c := by omega
    subst e
    refine ⟨σ, ?_, fun k _ _ => rfl, fun j _ => rfl, h1, fun j p q => absurd q (by omega), fun j _ => rfl⟩
    simp only [fl_X9_feed_44, fb_X9_feed_44, if_pos (Int32.le_refl _), g_0, g_95, g_1, g_2, g_5, g_18, g_24, g_26, g_79, g_80, g_72, l_0_0, l_0_1, l_0_3, l_0_4, l_0_5, l_0_6, l_0_7, l_1_0, l_1_1, l_1_2, l_1_3, l_2_0, l_2_1, l_2_2, l_2_3, l_2_4, l_5_0, l_5_1, l_5_2, l_5_3, l_18_0, l_18_1, l_18_2, l_18_3, l_18_4, l_24_0, l_26_0, l_79_0, l_80_0, l_95_0, l_95_1, l_95_2, l_95_3, l_95_6, l_95_16, l_95_17, l_95_18, l_95_19, l_95_20, l_95_21, l_95_22, bzBd, bzBp, bzLet, bzOp, f_X10_in, f_X9_within, e_f1, e_f2, e_f3, e_f4, e_f5, e_e1, e_e2, e_e3, e_e4, e_e5, h1]
  | succ m ih =>
    intro v hv f σ hf h1
    obtain ⟨f, rfl⟩ : ∃ q, f = q + 1 := ⟨f - 1, by omega⟩
    obtain ⟨τ, t1, t2, t3, t4, t5, t6⟩ := ih (v + 1) (by omega) f (bzSt (bzSt σ 25 (T + v) (bfE a v)) 24 1 (nI (T + v + 1))) (by omega) (by rw [st_s, pk_us]; rfl)
    refine ⟨τ, ?_, fun k k1 k2 => by rw [t2 k k1 k2, st_o k1, st_o k2], fun j hj => by rw [t3 j hj, st_s, pk_un hj, st_o (by decide)], t4, fun j p q => ?_, fun j hj => by rw [t6 j (by omega), st_o (by decide), st_s, pk_un (by omega)]⟩
    · have e0 : bzSt σ 25 (T + v) (bfE a v) 24 1 = nI (T + v) := by rw [st_o (by decide)]; exact h1
      have ad : f_X4_add 24 (bfE a v) σ = some (1, bzSt (bzSt σ 25 (T + v) (bfE a v)) 24 1 (nI (T + v + 1))) := by
        simp only [f_X4_add, g_0, g_95, g_1, g_2, g_5, g_18, g_24, g_26, g_79, g_80, g_72, l_0_0, l_0_1, l_0_3, l_0_4, l_0_5, l_0_6, l_0_7, l_1_0, l_1_1, l_1_2, l_1_3, l_2_0, l_2_1, l_2_2, l_2_3, l_2_4, l_5_0, l_5_1, l_5_2, l_5_3, l_18_0, l_18_1, l_18_2, l_18_3, l_18_4, l_24_0, l_26_0, l_79_0, l_80_0, l_95_0, l_95_1, l_95_2, l_95_3, l_95_6, l_95_16, l_95_17, l_95_18, l_95_19, l_95_20, l_95_21, l_95_22, bzBd, bzBp, bzLet, bzOp, f_X10_in, f_X9_within, e_f1, e_f2, e_f3, e_f4, e_f5, e_e1, e_e2, e_e3, e_e4, e_e5, h1, show ln 25 = 50 from rfl, ofN, if_pos (nI_lt (show T + v < 50 by omega) (by decide)), bzGdT (bzIn_nI (show T + v < 50 by omega) (by decide)), clN (show T + v < 2 ^ 31 by omega), e0, nI_1]
      have t1 : fl_X9_feed_44 0 a (nI c) f (nI (v + 1)) (bzSt (bzSt σ 25 (T + v) (bfE a v)) 24 1 (nI (T + v + 1))) = _ := t1
      simp only [fl_X9_feed_44, fb_X9_feed_44]
      rw [if_neg (nI_ge (show v < c by omega) (by omega)), byte_eq a v (by omega), l_0_0, l_1_2, ad, bzBpS, bzLetS, nI_1, t1]
    · by_cases e : j = T + v
      · subst e
        rw [t6 _ (by omega), st_o (by decide), st_s, pk_us, show T + v - T = v by omega]
      · exact t5 j (by omega) q
theorem fd_m {T c : Nat} (a : Int64) (hT : T + c ≤ 50) (hc : c ≤ 8) : ∀ m v, m + v = c → ∀ (f : Nat) (σ : bzS), m < f → σ 96 8 = nI (T + v) → ∃ τ, fl_X10_feed_41 95 a (nI c) f (nI v) σ = some (nI (T + c), τ) ∧ (∀ k, k ≠ 96 → τ k = σ k) ∧ (∀ j, j ≠ 8 → (j < 84 + T + v ∨ 84 + T + c ≤ j) → τ 96 j = σ 96 j) ∧ τ 96 8 = nI (T + c) ∧ (∀ j, T + v ≤ j → j < T + c → τ 96 (84 + j) = bfE a (j - T)) := by
  intro m
  induction m with
  | zero =>
    intro v hv f σ hf h1
    obtain ⟨f, rfl⟩ : ∃ q, f = q + 1 := ⟨f - 1, by omega⟩
    have e : v = c := by omega
    subst e
    refine ⟨σ, ?_, fun k _ => rfl, fun j _ _ => rfl, h1, fun j p q => absurd q (by omega)⟩
    simp only [fl_X10_feed_41, fb_X10_feed_41, if_pos (Int32.le_refl _), l_95_0, h1]
  | succ m ih =>
    intro v hv f σ hf h1
    obtain ⟨f, rfl⟩ : ∃ q, f = q + 1 := ⟨f - 1, by omega⟩
    obtain ⟨τ, t1, t2, t3, t4, t5⟩ := ih (v + 1) (by omega) f (bzSt (bzSt σ 96 (84 + (T + v)) (bfE a v)) 96 8 (nI (T + v + 1))) (by omega) (by rw [st_s, pk_us]; rfl)
    refine ⟨τ, ?_, fun k k1 => by rw [t2 k k1, st_o k1, st_o k1], fun j hj hj2 => by rw [t3 j hj (by omega), st_s, pk_un hj, st_s, pk_un (by omega)], t4, fun j p q => ?_⟩
    · have e0 : bzSt σ 96 (84 + (T + v)) (bfE a v) 96 8 = nI (T + v) := by rw [st_s, pk_un (by omega)]; exact h1
      have ep : 84 + nI (T + v) = nI (84 + (T + v)) := by rw [show (84 : Int32) = nI 84 from rfl, nI_add]
      have t1 : fl_X10_feed_41 95 a (nI c) f (nI (v + 1)) (bzSt (bzSt σ 96 (84 + (T + v)) (bfE a v)) 96 8 (nI (T + v + 1))) = _ := t1
      have eb : ((a >>> ((8 * nI v).toInt64 &&& 63)) &&& 255).toInt32 = bfE a v := rfl
      simp only [fl_X10_feed_41, fb_X10_feed_41]
      rw [if_neg (nI_ge (show v < c by omega) (by omega)), l_95_0, h1, ep, bzGdT (bzIn_nI (show 84 + (T + v) < 254 by omega) (by decide)), clN (show 84 + (T + v) < 2 ^ 31 by omega), eb, bzLetS, bzLetS, bzLetS, e0, nI_1, nI_1, t1]
    · by_cases e : j = T + v
      · subst e
        rw [t3 _ (by omega) (by omega), st_s, pk_un (by omega), st_s, pk_us, show T + v - T = v by omega]
      · exact t5 j (by omega) q
theorem mc_23 : ∀ p, p < 84 → mc p = 23 → p = 8 := by decide +kernel
theorem inv_fd1 {n T : Nat} {σ : bzS} (x : Int32) (hI : bzInv n σ) (hT : T < 50) (ez : σ 96 8 = nI T) : bzInv n (bzSt (bzSt (bzSt (bzSt σ 25 T x) 24 1 (nI (T + 1))) 96 (84 + T) x) 96 8 (nI (T + 1))) := by
  have eo : ∀ k, k ≠ 24 → k ≠ 25 → k ≠ 96 → bzSt (bzSt (bzSt (bzSt σ 25 T x) 24 1 (nI (T + 1))) 96 (84 + T) x) 96 8 (nI (T + 1)) k = σ k := fun k h1 h2 h3 => by rw [st_o h3, st_o h3, st_o h1, st_o h2]
  have e96 : bzSt (bzSt (bzSt (bzSt σ 25 T x) 24 1 (nI (T + 1))) 96 (84 + T) x) 96 8 (nI (T + 1)) 96 = upd (upd (σ 96) (84 + T) x) 8 (nI (T + 1)) := by rw [st_s, st_s, st_o (by decide), st_o (by decide)]
  have e24 : bzSt (bzSt (bzSt (bzSt σ 25 T x) 24 1 (nI (T + 1))) 96 (84 + T) x) 96 8 (nI (T + 1)) 24 = upd (σ 24) 1 (nI (T + 1)) := by rw [st_o (by decide), st_o (by decide), st_s, st_o (by decide)]
  have e25 : bzSt (bzSt (bzSt (bzSt σ 25 T x) 24 1 (nI (T + 1))) 96 (84 + T) x) 96 8 (nI (T + 1)) 25 = upd (σ 25) T x := by rw [st_o (by decide), st_o (by decide), st_o (by decide), st_s]
  generalize bzSt (bzSt (bzSt (bzSt σ 25 T x) 24 1 (nI (T + 1))) 96 (84 + T) x) 96 8 (nI (T + 1)) = τ at eo e96 e24 e25
  obtain ⟨⟨i1, ⟨ia, ib⟩, i2, i3, i4⟩, ⟨⟨j1, j2⟩, j3⟩, -⟩ := id hI
  have fr : ∀ p, p ≠ 8 → (p < 84 ∨ 134 ≤ p) → τ 96 p = σ 96 p := fun p h1 h2 => by rw [e96, pk_un h1, pk_un (by omega)]
  refine inv_now hI ⟨?_, ⟨ia.ext ?_ ?_ ?_ ?_ ?_, ib.ext ?_ ?_ ?_ ?_ ?_⟩, ?_, ?_, ?_⟩ ⟨?_, ?_⟩ ?_ (fun k h0 h1 h2 h3 h4 => eo k (by omega) (by omega) h4) (fun j hj => by rw [eo 95 (by decide) (by decide) (by decide)])
  · intro p hp
    have hpl := plB_lt hp
    have hm := mc_in p hpl.1 hp
    by_cases p8 : p = 8
    · subst p8
      show τ 24 1 = τ 96 8
      rw [e24, e96, pk_us, pk_us]
    · rw [fr p p8 (by omega), eo _ (fun e => p8 (mc_23 p hpl.1 (by omega))) (by omega) (by omega)]
      exact i1 p hp
  · rw [eo _ (by decide) (by decide) (by decide)]
  · rw [eo _ (by decide) (by decide) (by decide)]
  · rw [eo _ (by decide) (by decide) (by decide)]
  · exact fr 10 (by decide) (by decide)
  · funext j; exact fr _ (by omega) (by omega)
  · rw [eo _ (by decide) (by decide) (by decide)]
  · rw [eo _ (by decide) (by decide) (by decide)]
  · rw [eo _ (by decide) (by decide) (by decide)]
  · exact fr 11 (by decide) (by decide)
  · funext j; exact fr _ (by omega) (by omega)
  · intro i hi hf
    show τ 25 i = τ 96 (84 + i)
    rw [e96, pk_us] at hf
    rw [e25, e96, pk_un (show 84 + i ≠ 8 by omega)]
    by_cases hiz : i = T
    · subst hiz; rw [pk_us, pk_us]
    · rw [pk_un hiz, pk_un (by omega)]
      refine i2 i hi ?_
      rw [ez]
      have := (nI_ltI (a := i) (b := T + 1) (by omega) (by omega)).mp hf
      exact nI_lt (by omega) (by omega)
  · intro i hi hf
    rw [fr 9 (by decide) (by decide)] at hf
    rw [eo _ (by decide) (by decide) (by decide), fr _ (by omega) (by omega)]
    exact i3 i hi hf
  · rw [eo _ (by decide) (by decide) (by decide)]; exact i4
  · intro p hp h0 h1
    by_cases p8 : p = 8
    · subst p8
      rw [e96, pk_us]
      exact ⟨T + 1, by show T + 1 ≤ 50; omega, rfl⟩
    · rw [fr p p8 (by have := plB_lt hp; omega)]
      exact j1 p hp h0 h1
  · intro i hi hf
    rw [fr 2 (by decide) (by decide)] at hf
    rw [fr _ (by omega) (by omega)]
    exact j2 i hi hf
  · rw [fr 0 (by decide) (by decide)]; exact j3
theorem inv_fd {n T : Nat} {σ : bzS} (b : Nat → Int32) (hI : bzInv n σ) (ez : σ 96 8 = nI T) (e24 : σ 24 1 = nI T) : ∀ c, T + c ≤ 50 → ∃ ρ, bzInv n ρ ∧ (∀ k, k ≠ 24 → k ≠ 25 → k ≠ 96 → ρ k = σ k) ∧ (∀ j, j ≠ 1 → ρ 24 j = σ 24 j) ∧ ρ 24 1 = nI (T + c) ∧ (∀ j, T ≤ j → j < T + c → ρ 25 j = b (j - T)) ∧ (∀ j, (j < T ∨ T + c ≤ j) → ρ 25 j = σ 25 j) ∧ (∀ j, j ≠ 8 → (j < 84 + T ∨ 84 + T + c ≤ j) → ρ 96 j = σ 96 j) ∧ ρ 96 8 = nI (T + c) ∧ (∀ j, T ≤ j → j < T + c → ρ 96 (84 + j) = b (j - T)) := by
  intro c
  induction c with
  | zero => exact fun _ => ⟨σ, hI, fun k _ _ _ => rfl, fun j _ => rfl, e24, fun j p q => absurd q (by omega), fun j _ => rfl, fun j _ _ => rfl, ez, fun j p q => absurd q (by omega)⟩
  | succ c ih =>
    intro hc
    obtain ⟨ρ, q1, q2, q3, q4, q5, q6, q7, q8, q9⟩ := ih (by omega)
    have q := inv_fd1 (T := T + c) (b c) q1 (by omega) q8
    refine ⟨_, q, fun k k1 k2 k3 => by rw [st_o k3, st_o k3, st_o k1, st_o k2, q2 k k1 k2 k3], fun j hj => by rw [st_o (by decide), st_o (by decide), st_s, pk_un hj, st_o (by decide), q3 j hj], by rw [st_o (by decide), st_o (by decide), st_s, pk_us]; rfl, fun j p1 p2 => ?_, fun j hj => by rw [st_o (by decide), st_o (by decide), st_o (by decide), st_s, pk_un (by omega), q6 j (by omega)], fun j h1 h2 => by rw [st_s, pk_un h1, st_s, pk_un (by omega), st_o (by decide), st_o (by decide), q7 j h1 (by omega)], by rw [st_s, pk_us]; rfl, fun j p1 p2 => ?_⟩
    · rw [st_o (by decide), st_o (by decide), st_o (by decide), st_s]
      by_cases e : j = T + c
      · subst e; rw [pk_us, show T + c - T = c by omega]
      · rw [pk_un e, q5 j p1 (by omega)]
    · rw [st_s, pk_un (by omega), st_s, st_o (by decide), st_o (by decide)]
      by_cases e : j = T + c
      · subst e; rw [pk_us, show T + c - T = c by omega]
      · rw [pk_un (by omega), q9 j p1 (by omega)]
theorem st_feed : bzSt_feed bzInv := by
  intro a a3 σ n hn hI
  obtain ⟨T, hT, eT⟩ := hI.2.1.1.1 8 rfl (by decide) (by decide)
  have hT : T ≤ 50 := hT
  have e24 : σ 24 1 = nI T := (hI.1.1 8 rfl).trans eT
  by_cases c1 : a3 < 1
  · refine err1 hI ?_ (fun τ ht => ?_)
    · simp [f_X9_feed, g_0, g_95, g_1, g_2, g_5, g_18, g_24, g_26, g_79, g_80, g_72, l_0_0, l_0_1, l_0_3, l_0_4, l_0_5, l_0_6, l_0_7, l_1_0, l_1_1, l_1_2, l_1_3, l_2_0, l_2_1, l_2_2, l_2_3, l_2_4, l_5_0, l_5_1, l_5_2, l_5_3, l_18_0, l_18_1, l_18_2, l_18_3, l_18_4, l_24_0, l_26_0, l_79_0, l_80_0, l_95_0, l_95_1, l_95_2, l_95_3, l_95_6, l_95_16, l_95_17, l_95_18, l_95_19, l_95_20, l_95_21, l_95_22, bzBd, bzBp, bzLet, bzOp, f_X10_in, f_X9_within, e_f1, e_f2, e_f3, e_f4, e_f5, e_e1, e_e2, e_e3, e_e4, e_e5, c1]
    · simp [f_X10_feed, g_0, g_95, g_1, g_2, g_5, g_18, g_24, g_26, g_79, g_80, g_72, l_0_0, l_0_1, l_0_3, l_0_4, l_0_5, l_0_6, l_0_7, l_1_0, l_1_1, l_1_2, l_1_3, l_2_0, l_2_1, l_2_2, l_2_3, l_2_4, l_5_0, l_5_1, l_5_2, l_5_3, l_18_0, l_18_1, l_18_2, l_18_3, l_18_4, l_24_0, l_26_0, l_79_0, l_80_0, l_95_0, l_95_1, l_95_2, l_95_3, l_95_6, l_95_16, l_95_17, l_95_18, l_95_19, l_95_20, l_95_21, l_95_22, bzBd, bzBp, bzLet, bzOp, f_X10_in, f_X9_within, e_f1, e_f2, e_f3, e_f4, e_f5, e_e1, e_e2, e_e3, e_e4, e_e5, c1]
  by_cases c2 : 8 < a3
  · refine err1 hI ?_ (fun τ ht => ?_)
    · simp [f_X9_feed, g_0, g_95, g_1, g_2, g_5, g_18, g_24, g_26, g_79, g_80, g_72, l_0_0, l_0_1, l_0_3, l_0_4, l_0_5, l_0_6, l_0_7, l_1_0, l_1_1, l_1_2, l_1_3, l_2_0, l_2_1, l_2_2, l_2_3, l_2_4, l_5_0, l_5_1, l_5_2, l_5_3, l_18_0, l_18_1, l_18_2, l_18_3, l_18_4, l_24_0, l_26_0, l_79_0, l_80_0, l_95_0, l_95_1, l_95_2, l_95_3, l_95_6, l_95_16, l_95_17, l_95_18, l_95_19, l_95_20, l_95_21, l_95_22, bzBd, bzBp, bzLet, bzOp, f_X10_in, f_X9_within, e_f1, e_f2, e_f3, e_f4, e_f5, e_e1, e_e2, e_e3, e_e4, e_e5, c1, c2]
    · simp [f_X10_feed, g_0, g_95, g_1, g_2, g_5, g_18, g_24, g_26, g_79, g_80, g_72, l_0_0, l_0_1, l_0_3, l_0_4, l_0_5, l_0_6, l_0_7, l_1_0, l_1_1, l_1_2, l_1_3, l_2_0, l_2_1, l_2_2, l_2_3, l_2_4, l_5_0, l_5_1, l_5_2, l_5_3, l_18_0, l_18_1, l_18_2, l_18_3, l_18_4, l_24_0, l_26_0, l_79_0, l_80_0, l_95_0, l_95_1, l_95_2, l_95_3, l_95_6, l_95_16, l_95_17, l_95_18, l_95_19, l_95_20, l_95_21, l_95_22, bzBd, bzBp, bzLet, bzOp, f_X10_in, f_X9_within, e_f1, e_f2, e_f3, e_f4, e_f5, e_e1, e_e2, e_e3, e_e4, e_e5, c1, c2]
  obtain ⟨c, hc1, hc, ec⟩ : ∃ w : Nat, 1 ≤ w ∧ w ≤ 8 ∧ a3 = nI w := by
    rcases rng a3 (n := 8) (by decide) with ⟨k, k1, k2⟩ | h | h
    · refine ⟨k, ?_, k1, k2⟩
      rcases Nat.eq_zero_or_pos k with h0 | h0
      · subst h0; subst k2; exact absurd (by decide) c1
      · exact h0
    · exact absurd (Int32.lt_trans h (by decide)) c1
    · exact absurd h c2
  have es : nI T + a3 = nI (T + c) := by rw [ec, nI_add]
  by_cases cf : T + c ≤ 50
  rotate_left
  · have g : ¬ nI (T + c) ≤ 50 := Int32.not_le.mpr (nI_lt (a := 50) (by omega) (by omega))
    refine err4 hI ?_ (fun τ ht => ?_)
    · simp only [f_X9_feed, g_0, g_95, g_1, g_2, g_5, g_18, g_24, g_26, g_79, g_80, g_72, l_0_0, l_0_1, l_0_3, l_0_4, l_0_5, l_0_6, l_0_7, l_1_0, l_1_1, l_1_2, l_1_3, l_2_0, l_2_1, l_2_2, l_2_3, l_2_4, l_5_0, l_5_1, l_5_2, l_5_3, l_18_0, l_18_1, l_18_2, l_18_3, l_18_4, l_24_0, l_26_0, l_79_0, l_80_0, l_95_0, l_95_1, l_95_2, l_95_3, l_95_6, l_95_16, l_95_17, l_95_18, l_95_19, l_95_20, l_95_21, l_95_22, bzBd, bzBp, bzLet, bzOp, f_X10_in, f_X9_within, e_f1, e_f2, e_f3, e_f4, e_f5, e_e1, e_e2, e_e3, e_e4, e_e5, if_neg c1, if_neg c2, if_neg one_ne, e24, es, if_neg g]
    · simp only [f_X10_feed, g_0, g_95, g_1, g_2, g_5, g_18, g_24, g_26, g_79, g_80, g_72, l_0_0, l_0_1, l_0_3, l_0_4, l_0_5, l_0_6, l_0_7, l_1_0, l_1_1, l_1_2, l_1_3, l_2_0, l_2_1, l_2_2, l_2_3, l_2_4, l_5_0, l_5_1, l_5_2, l_5_3, l_18_0, l_18_1, l_18_2, l_18_3, l_18_4, l_24_0, l_26_0, l_79_0, l_80_0, l_95_0, l_95_1, l_95_2, l_95_3, l_95_6, l_95_16, l_95_17, l_95_18, l_95_19, l_95_20, l_95_21, l_95_22, bzBd, bzBp, bzLet, bzOp, f_X10_in, f_X9_within, e_f1, e_f2, e_f3, e_f4, e_f5, e_e1, e_e2, e_e3, e_e4, e_e5, if_neg c1, if_neg c2, if_neg one_ne, ht 96 (by decide), eT, es, if_neg g]
  have g : nI (T + c) ≤ 50 := Int32.not_lt.mp (nI_nlt (a := 50) (by omega) (by decide))
  obtain ⟨τ, t1, t2, t3, t4, t5, t6⟩ := fd_c (T := T) (c := c) a cf hc c 0 rfl 2000 σ (by omega) e24
  have h96 : τ 96 = σ 96 := t2 96 (by decide) (by decide)
  obtain ⟨ρ, r1, r2, r3, r4, r5⟩ := fd_m (T := T) (c := c) a cf hc c 0 rfl 2000 τ (by omega) (by rw [h96]; exact eT)
  obtain ⟨ω, w1, w2, w3, w4, w5, w6, w7, w8, w9⟩ := inv_fd (fun j => bfE a j) hI eT e24 c cf
  have e : ρ = ω := by
    funext k
    by_cases k96 : k = 96
    · subst k96
      funext j
      by_cases j8 : j = 8
      · subst j8; rw [r4, w8]
      by_cases q : 84 + T ≤ j ∧ j < 84 + T + c
      · rw [show j = 84 + (j - 84) by omega, r5 _ (by omega) (by omega), w9 _ (by omega) (by omega)]
      · rw [r3 j j8 (by omega), w7 j j8 (by omega), h96]
    rw [r2 k k96]
    by_cases k24 : k = 24
    · subst k24
      funext j
      by_cases j1 : j = 1
      · subst j1; rw [t4, w4]
      · rw [t3 j j1, w3 j j1]
    by_cases k25 : k = 25
    · subst k25
      funext j
      by_cases q : T ≤ j ∧ j < T + c
      · rw [t5 j (by omega) q.2, w5 j q.1 q.2]
      · rw [t6 j (by omega), w6 j (by omega)]
    rw [t2 k k24 k25, w2 k k24 k25 k96]
  refine ⟨nI (T + c), τ, ρ, ?_, ?_, by rw [e]; exact inv_mono _ _ w1⟩
  · simp only [f_X9_feed, g_0, g_95, g_1, g_2, g_5, g_18, g_24, g_26, g_79, g_80, g_72, l_0_0, l_0_1, l_0_3, l_0_4, l_0_5, l_0_6, l_0_7, l_1_0, l_1_1, l_1_2, l_1_3, l_2_0, l_2_1, l_2_2, l_2_3, l_2_4, l_5_0, l_5_1, l_5_2, l_5_3, l_18_0, l_18_1, l_18_2, l_18_3, l_18_4, l_24_0, l_26_0, l_79_0, l_80_0, l_95_0, l_95_1, l_95_2, l_95_3, l_95_6, l_95_16, l_95_17, l_95_18, l_95_19, l_95_20, l_95_21, l_95_22, bzBd, bzBp, bzLet, bzOp, f_X10_in, f_X9_within, e_f1, e_f2, e_f3, e_f4, e_f5, e_e1, e_e2, e_e3, e_e4, e_e5, if_neg c1, if_neg c2, if_neg one_ne, e24, es, if_pos g]
    rw [ec]; exact t1
  · simp only [f_X10_feed, g_0, g_95, g_1, g_2, g_5, g_18, g_24, g_26, g_79, g_80, g_72, l_0_0, l_0_1, l_0_3, l_0_4, l_0_5, l_0_6, l_0_7, l_1_0, l_1_1, l_1_2, l_1_3, l_2_0, l_2_1, l_2_2, l_2_3, l_2_4, l_5_0, l_5_1, l_5_2, l_5_3, l_18_0, l_18_1, l_18_2, l_18_3, l_18_4, l_24_0, l_26_0, l_79_0, l_80_0, l_95_0, l_95_1, l_95_2, l_95_3, l_95_6, l_95_16, l_95_17, l_95_18, l_95_19, l_95_20, l_95_21, l_95_22, bzBd, bzBp, bzLet, bzOp, f_X10_in, f_X9_within, e_f1, e_f2, e_f3, e_f4, e_f5, e_e1, e_e2, e_e3, e_e4, e_e5, if_neg c1, if_neg c2, if_neg one_ne, h96, eT, es, if_pos g]
    rw [ec]; exact r1
