set_option linter.unusedVariables false
theorem xor6 {y : Nat} (h : y < 2 ^ 31) : (0 : Int32) ≤ nI y ^^^ 6 := by
  rw [Int32.le_iff_toInt_le]
  show (0 : Int) ≤ (nI y ^^^ 6).toBitVec.toInt
  have e : (nI y ^^^ 6).toBitVec = (nI y).toBitVec ^^^ (6 : Int32).toBitVec := rfl
  have n : ((nI y ^^^ 6).toBitVec).toNat < 2 ^ 31 := by
    rw [e, BitVec.toNat_xor, pk_tn (by omega)]
    exact Nat.xor_lt_two_pow h (by decide)
  rw [BitVec.toInt_eq_toNat_of_lt (by omega)]
  omega
theorem fm6 {y : Nat} (h : y < 2 ^ 31) : f_J_floorMod (nI y) 6 = some (nI (y % 6)) := by
  unfold f_J_floorMod
  rw [bzGdT (by decide), bzLetS, if_pos (xor6 h)]
  exact congrArg some (pk_rem (d := 6) h (by decide) (by decide))
/-- heat and rain of a row's year y -/
def pHeat (f : Nat → Int32) (y : Nat) : Int32 := f (12 + 2 * (y % 6))
def pRain (f : Nat → Int32) (y : Nat) : Int32 := f (13 + 2 * (y % 6))
theorem sea_p : ∀ i, i < 6 → cpB (12 + 2 * i) = true ∧ cpB (13 + 2 * i) = true ∧ mc (12 + 2 * i) = 2 ∧ mc (13 + 2 * i) = 3 ∧ mj (12 + 2 * i) = i ∧ mj (13 + 2 * i) = i := by decide +kernel
theorem heat_c {σ : bzS} {b : Nat} {f : Nat → Int32} {y : Nat} (hb : b = 1 ∨ b = 54) (h : bzCR σ b f) (hy : f 0 = nI y) (h31 : y < 2 ^ 31) : f_X0_heatNow (b + 1) σ = some (pHeat f y) := by
  obtain ⟨p1, p2, p3, p4, p5, p6⟩ := sea_p (y % 6) (Nat.mod_lt _ (by decide))
  have a := h.1 _ p1
  have d := h.1 0 rfl
  rw [p3, p5] at a
  have d : σ (b + 1) 8 = nI y := d.trans hy
  rcases hb with rfl | rfl
  · simp [f_X0_heatNow, g_0, g_95, g_1, g_2, g_5, g_18, g_24, g_26, g_79, g_80, g_72, l_0_0, l_0_1, l_0_3, l_0_4, l_0_5, l_0_6, l_0_7, l_1_0, l_1_1, l_1_2, l_1_3, l_2_0, l_2_1, l_2_2, l_2_3, l_2_4, l_5_0, l_5_1, l_5_2, l_5_3, l_18_0, l_18_1, l_18_2, l_18_3, l_18_4, l_24_0, l_26_0, l_79_0, l_80_0, l_95_0, l_95_1, l_95_2, l_95_3, l_95_6, l_95_16, l_95_17, l_95_18, l_95_19, l_95_20, l_95_21, l_95_22, bzBd, bzBp, bzLet, bzOp, f_X10_in, f_X9_within, e_f1, e_f2, e_f3, e_f4, e_f5, e_e1, e_e2, e_e3, e_e4, e_e5, d, fm6 h31, bzGdT (bzIn_nI (show y % 6 < 6 from Nat.mod_lt _ (by decide)) (by decide)), clN (show y % 6 < 2 ^ 31 by omega)]
    exact a
  · simp [f_X0_heatNow, g_0, g_95, g_1, g_2, g_5, g_18, g_24, g_26, g_79, g_80, g_72, l_0_0, l_0_1, l_0_3, l_0_4, l_0_5, l_0_6, l_0_7, l_1_0, l_1_1, l_1_2, l_1_3, l_2_0, l_2_1, l_2_2, l_2_3, l_2_4, l_5_0, l_5_1, l_5_2, l_5_3, l_18_0, l_18_1, l_18_2, l_18_3, l_18_4, l_24_0, l_26_0, l_79_0, l_80_0, l_95_0, l_95_1, l_95_2, l_95_3, l_95_6, l_95_16, l_95_17, l_95_18, l_95_19, l_95_20, l_95_21, l_95_22, bzBd, bzBp, bzLet, bzOp, f_X10_in, f_X9_within, e_f1, e_f2, e_f3, e_f4, e_f5, e_e1, e_e2, e_e3, e_e4, e_e5, g_55, l_55_0, d, fm6 h31, bzGdT (bzIn_nI (show y % 6 < 6 from Nat.mod_lt _ (by decide)) (by decide)), clN (show y % 6 < 2 ^ 31 by omega)]
    exact a
theorem rain_c {σ : bzS} {b : Nat} {f : Nat → Int32} {y : Nat} (hb : b = 1 ∨ b = 54) (h : bzCR σ b f) (hy : f 0 = nI y) (h31 : y < 2 ^ 31) : f_X0_rainNow (b + 1) σ = some (pRain f y) := by
  obtain ⟨p1, p2, p3, p4, p5, p6⟩ := sea_p (y % 6) (Nat.mod_lt _ (by decide))
  have a := h.1 _ p2
  have d := h.1 0 rfl
  rw [p4, p6] at a
  have d : σ (b + 1) 8 = nI y := d.trans hy
  rcases hb with rfl | rfl
  · simp [f_X0_rainNow, g_0, g_95, g_1, g_2, g_5, g_18, g_24, g_26, g_79, g_80, g_72, l_0_0, l_0_1, l_0_3, l_0_4, l_0_5, l_0_6, l_0_7, l_1_0, l_1_1, l_1_2, l_1_3, l_2_0, l_2_1, l_2_2, l_2_3, l_2_4, l_5_0, l_5_1, l_5_2, l_5_3, l_18_0, l_18_1, l_18_2, l_18_3, l_18_4, l_24_0, l_26_0, l_79_0, l_80_0, l_95_0, l_95_1, l_95_2, l_95_3, l_95_6, l_95_16, l_95_17, l_95_18, l_95_19, l_95_20, l_95_21, l_95_22, bzBd, bzBp, bzLet, bzOp, f_X10_in, f_X9_within, e_f1, e_f2, e_f3, e_f4, e_f5, e_e1, e_e2, e_e3, e_e4, e_e5, d, fm6 h31, bzGdT (bzIn_nI (show y % 6 < 6 from Nat.mod_lt _ (by decide)) (by decide)), clN (show y % 6 < 2 ^ 31 by omega)]
    exact a
  · simp [f_X0_rainNow, g_0, g_95, g_1, g_2, g_5, g_18, g_24, g_26, g_79, g_80, g_72, l_0_0, l_0_1, l_0_3, l_0_4, l_0_5, l_0_6, l_0_7, l_1_0, l_1_1, l_1_2, l_1_3, l_2_0, l_2_1, l_2_2, l_2_3, l_2_4, l_5_0, l_5_1, l_5_2, l_5_3, l_18_0, l_18_1, l_18_2, l_18_3, l_18_4, l_24_0, l_26_0, l_79_0, l_80_0, l_95_0, l_95_1, l_95_2, l_95_3, l_95_6, l_95_16, l_95_17, l_95_18, l_95_19, l_95_20, l_95_21, l_95_22, bzBd, bzBp, bzLet, bzOp, f_X10_in, f_X9_within, e_f1, e_f2, e_f3, e_f4, e_f5, e_e1, e_e2, e_e3, e_e4, e_e5, g_55, l_55_1, d, fm6 h31, bzGdT (bzIn_nI (show y % 6 < 6 from Nat.mod_lt _ (by decide)) (by decide)), clN (show y % 6 < 2 ^ 31 by omega)]
    exact a
theorem yr6 {y : Nat} (h : y < 2 ^ 31) : (12 : Int32) + 2 * (nI y - nI y / 6 * 6) = nI (12 + 2 * (y % 6)) := by
  rw [show nI y - nI y / 6 * 6 = nI (y % 6) from pk_rem (d := 6) h (by decide) (by decide), show (2 : Int32) = nI 2 from rfl, pk_mul, show (12 : Int32) = nI 12 from rfl, nI_add]
theorem heat_m {σ : bzS} {y : Nat} (hy : σ 96 0 = nI y) (h31 : y < 2 ^ 31) : f_X10_heat 95 σ = some (pHeat (σ 96) y) := by
  simp only [f_X10_heat, g_0, g_95, g_1, g_2, g_5, g_18, g_24, g_26, g_79, g_80, g_72, l_0_0, l_0_1, l_0_3, l_0_4, l_0_5, l_0_6, l_0_7, l_1_0, l_1_1, l_1_2, l_1_3, l_2_0, l_2_1, l_2_2, l_2_3, l_2_4, l_5_0, l_5_1, l_5_2, l_5_3, l_18_0, l_18_1, l_18_2, l_18_3, l_18_4, l_24_0, l_26_0, l_79_0, l_80_0, l_95_0, l_95_1, l_95_2, l_95_3, l_95_6, l_95_16, l_95_17, l_95_18, l_95_19, l_95_20, l_95_21, l_95_22, bzBd, bzBp, bzLet, bzOp, f_X10_in, f_X9_within, e_f1, e_f2, e_f3, e_f4, e_f5, e_e1, e_e2, e_e3, e_e4, e_e5, hy, yr6 h31, bzGdT (bzIn_nI (show 12 + 2 * (y % 6) < 254 by omega) (by decide)), clN (show 12 + 2 * (y % 6) < 2 ^ 31 by omega)]
  rfl
theorem rain_m {σ : bzS} {y : Nat} (hy : σ 96 0 = nI y) (h31 : y < 2 ^ 31) : f_X10_rain 95 σ = some (pRain (σ 96) y) := by
  simp only [f_X10_rain, g_0, g_95, g_1, g_2, g_5, g_18, g_24, g_26, g_79, g_80, g_72, l_0_0, l_0_1, l_0_3, l_0_4, l_0_5, l_0_6, l_0_7, l_1_0, l_1_1, l_1_2, l_1_3, l_2_0, l_2_1, l_2_2, l_2_3, l_2_4, l_5_0, l_5_1, l_5_2, l_5_3, l_18_0, l_18_1, l_18_2, l_18_3, l_18_4, l_24_0, l_26_0, l_79_0, l_80_0, l_95_0, l_95_1, l_95_2, l_95_3, l_95_6, l_95_16, l_95_17, l_95_18, l_95_19, l_95_20, l_95_21, l_95_22, bzBd, bzBp, bzLet, bzOp, f_X10_in, f_X9_within, e_f1, e_f2, e_f3, e_f4, e_f5, e_e1, e_e2, e_e3, e_e4, e_e5, hy, yr6 h31, nI_1, bzGdT (bzIn_nI (show 12 + 2 * (y % 6) + 1 < 254 by omega) (by decide)), clN (show 12 + 2 * (y % 6) + 1 < 2 ^ 31 by omega)]
  show some (σ 96 (12 + 2 * (y % 6) + 1)) = some (σ 96 (13 + 2 * (y % 6)))
  rw [show 12 + 2 * (y % 6) + 1 = 13 + 2 * (y % 6) by omega]
/-- does a visitor of kind k, number n, every e years come in year y of rain r -/
def pComes1 (s k n y r : Int32) : Int32 := if k = 2 then (if 5 ≤ r then 0 else 1) else if k = 3 then s else if k = 4 then (if s = 0 then 0 else if 6 < r then 0 else 1) else if k = 5 then (if 5 ≤ r then 0 else if s = 0 then 0 else 1) else if k = 6 then (if s = 0 then 0 else if y - y / 10 * 10 = n then 0 else 1) else s
def pComes (k n e y r : Int32) : Int32 := if y - y / e * e = 0 then pComes1 1 k n y r else pComes1 0 k n y r
theorem pComes_01 (k n e y r : Int32) : pComes k n e y r = 0 ∨ pComes k n e y r = 1 := by
  unfold pComes pComes1
  repeat' split
  all_goals first | exact Or.inl rfl | exact Or.inr rfl
def pKeeps (k n l w h : Int32) : Int32 := if k = 1 then l else if k = 2 then 1 else if k = 3 then l / 2 + n / 3 else if k = 4 then (if h ≤ 5 then l else l + 2) else if k = 5 then 2 else if k = 6 then (if w ≤ 60 then 2 * (l / 2 + n / 3) else 0) else l / 2
theorem comes_c1 {σ : bzS} {V i : Nat} {y r s : Int32} (hV : V = 5 ∨ V = 58) (hi : i < 8) (hs : s = 0 ∨ s = 1) : fb_X7_comes_43 V (nI i) y r σ s = some (pComes1 s (σ (V + 1) i) (σ (V + 2) i) y r) := by
  have i8 : bzIn (nI i) 8 := bzIn_nI hi (by decide)
  rcases hV with rfl | rfl
  · simp only [fb_X7_comes_43, pComes1, g_0, g_95, g_1, g_2, g_5, g_18, g_24, g_26, g_79, g_80, g_72, l_0_0, l_0_1, l_0_3, l_0_4, l_0_5, l_0_6, l_0_7, l_1_0, l_1_1, l_1_2, l_1_3, l_2_0, l_2_1, l_2_2, l_2_3, l_2_4, l_5_0, l_5_1, l_5_2, l_5_3, l_18_0, l_18_1, l_18_2, l_18_3, l_18_4, l_24_0, l_26_0, l_79_0, l_80_0, l_95_0, l_95_1, l_95_2, l_95_3, l_95_6, l_95_16, l_95_17, l_95_18, l_95_19, l_95_20, l_95_21, l_95_22, bzBd, bzBp, bzLet, bzOp, f_X10_in, f_X9_within, e_f1, e_f2, e_f3, e_f4, e_f5, e_e1, e_e2, e_e3, e_e4, e_e5, bzGdT i8, bzGdT hs, clN (show i < 2 ^ 31 by omega)]
    repeat' split
    all_goals first | rfl | contradiction
  · simp only [fb_X7_comes_43, pComes1, g_0, g_95, g_1, g_2, g_5, g_18, g_24, g_26, g_79, g_80, g_72, l_0_0, l_0_1, l_0_3, l_0_4, l_0_5, l_0_6, l_0_7, l_1_0, l_1_1, l_1_2, l_1_3, l_2_0, l_2_1, l_2_2, l_2_3, l_2_4, l_5_0, l_5_1, l_5_2, l_5_3, l_18_0, l_18_1, l_18_2, l_18_3, l_18_4, l_24_0, l_26_0, l_79_0, l_80_0, l_95_0, l_95_1, l_95_2, l_95_3, l_95_6, l_95_16, l_95_17, l_95_18, l_95_19, l_95_20, l_95_21, l_95_22, bzBd, bzBp, bzLet, bzOp, f_X10_in, f_X9_within, e_f1, e_f2, e_f3, e_f4, e_f5, e_e1, e_e2, e_e3, e_e4, e_e5, l_58_0, l_58_1, bzGdT i8, bzGdT hs, clN (show i < 2 ^ 31 by omega)]
    repeat' split
    all_goals first | rfl | contradiction
theorem comes_c {σ : bzS} {V i N : Nat} {y r : Int32} (hV : V = 5 ∨ V = 58) (hi : i < N) (hN : N ≤ 8) (h4 : σ V 4 = nI N) (h5 : ¬ nI i = σ V 5) (he : ¬ σ (V + 4) i ≤ 0) : f_X7_comes V (nI i) y r σ = some (pComes (σ (V + 1) i) (σ (V + 2) i) (σ (V + 4) i) y r) := by
  have i8 : bzIn (nI i) 8 := bzIn_nI (by omega) (by decide)
  have e0 : ¬ σ (V + 4) i = 0 := fun h => he (by rw [h]; decide)
  have hh : f_X7_has V (nI i) σ = some 1 := by
    rcases hV with rfl | rfl <;> simp [f_X7_has, g_0, g_95, g_1, g_2, g_5, g_18, g_24, g_26, g_79, g_80, g_72, l_0_0, l_0_1, l_0_3, l_0_4, l_0_5, l_0_6, l_0_7, l_1_0, l_1_1, l_1_2, l_1_3, l_2_0, l_2_1, l_2_2, l_2_3, l_2_4, l_5_0, l_5_1, l_5_2, l_5_3, l_18_0, l_18_1, l_18_2, l_18_3, l_18_4, l_24_0, l_26_0, l_79_0, l_80_0, l_95_0, l_95_1, l_95_2, l_95_3, l_95_6, l_95_16, l_95_17, l_95_18, l_95_19, l_95_20, l_95_21, l_95_22, bzBd, bzBp, bzLet, bzOp, f_X10_in, f_X9_within, e_f1, e_f2, e_f3, e_f4, e_f5, e_e1, e_e2, e_e3, e_e4, e_e5, g_58, nI_n0 (show i < 2 ^ 31 by omega), h4, nI_ge hi (by omega), show ¬ (8 : Int32) < nI N from nI_nlt (b := N) (a := 8) hN (by decide)]
  have k1 := comes_c1 (σ := σ) (y := y) (r := r) hV (show i < 8 by omega) (Or.inr (rfl : (1 : Int32) = 1))
  have k0 := comes_c1 (σ := σ) (y := y) (r := r) hV (show i < 8 by omega) (Or.inl (rfl : (0 : Int32) = 0))
  have ek : kd V = 7 ∧ ly V 3 = V + 4 := by rcases hV with rfl | rfl <;> exact ⟨rfl, rfl⟩
  simp only [f_X7_comes, bzGdT ek.1, ek.2, bzGdT i8, hh, bzBd, if_neg one_ne, if_neg h5, clN (show i < 2 ^ 31 by omega), if_neg he, bzGdT e0, k1, k0, pComes]
  split <;> rfl
theorem its_m {i w : Nat} {W : Int32} {τ : bzS} (hW : nI w = W) (hi : i < 8) (hw : w < 4) : f_X10_its 95 (nI i) W τ = some (τ 96 (52 + 4 * i + w)) := e_its hW (by omega)
theorem comes_m {σ : bzS} {i y : Nat} (hi : i < 8) (hy : σ 96 0 = nI y) (h31 : y < 2 ^ 31) (he : ¬ σ 96 (52 + 4 * i + 3) = 0) : f_X10_isComing 95 (nI i) σ = some (pComes (σ 96 (52 + 4 * i + 0)) (σ 96 (52 + 4 * i + 1)) (σ 96 (52 + 4 * i + 3)) (nI y) (pRain (σ 96) y)) := by
  have k : ∀ s : Int32, s = 0 ∨ s = 1 → fb_X10_isComing_21 95 (nI i) σ s = some (pComes1 s (σ 96 (52 + 4 * i + 0)) (σ 96 (52 + 4 * i + 1)) (nI y) (pRain (σ 96) y)) := by
    intro s hs
    simp only [fb_X10_isComing_21, pComes1, its_m (w := 0) (W := 0) rfl hi (by decide), its_m (w := 1) (W := 1) rfl hi (by decide), rain_m hy h31, bzBd, bzGdT hs, l_95_0, hy]
    repeat' split
    all_goals first | rfl | contradiction
  simp only [f_X10_isComing, g_0, g_95, g_1, g_2, g_5, g_18, g_24, g_26, g_79, g_80, g_72, l_0_0, l_0_1, l_0_3, l_0_4, l_0_5, l_0_6, l_0_7, l_1_0, l_1_1, l_1_2, l_1_3, l_2_0, l_2_1, l_2_2, l_2_3, l_2_4, l_5_0, l_5_1, l_5_2, l_5_3, l_18_0, l_18_1, l_18_2, l_18_3, l_18_4, l_24_0, l_26_0, l_79_0, l_80_0, l_95_0, l_95_1, l_95_2, l_95_3, l_95_6, l_95_16, l_95_17, l_95_18, l_95_19, l_95_20, l_95_21, l_95_22, bzBd, bzBp, bzLet, bzOp, f_X10_in, f_X9_within, e_f1, e_f2, e_f3, e_f4, e_f5, e_e1, e_e2, e_e3, e_e4, e_e5, its_m (w := 3) (W := 3) rfl hi (by decide), bzGdT he, hy, k 1 (Or.inr rfl), k 0 (Or.inl rfl), pComes]
  split <;> rfl
theorem keeps_c {σ : bzS} {V i N : Nat} {w h : Int32} (hV : V = 5 ∨ V = 58) (hi : i < N) (hN : N ≤ 8) (h4 : σ V 4 = nI N) : f_X7_keeps V (nI i) w h σ = some (pKeeps (σ (V + 1) i) (σ (V + 2) i) (σ (V + 3) i) w h) := by
  have i8 : bzIn (nI i) 8 := bzIn_nI (by omega) (by decide)
  have hh : f_X7_has V (nI i) σ = some 1 := by
    rcases hV with rfl | rfl <;> simp [f_X7_has, g_0, g_95, g_1, g_2, g_5, g_18, g_24, g_26, g_79, g_80, g_72, l_0_0, l_0_1, l_0_3, l_0_4, l_0_5, l_0_6, l_0_7, l_1_0, l_1_1, l_1_2, l_1_3, l_2_0, l_2_1, l_2_2, l_2_3, l_2_4, l_5_0, l_5_1, l_5_2, l_5_3, l_18_0, l_18_1, l_18_2, l_18_3, l_18_4, l_24_0, l_26_0, l_79_0, l_80_0, l_95_0, l_95_1, l_95_2, l_95_3, l_95_6, l_95_16, l_95_17, l_95_18, l_95_19, l_95_20, l_95_21, l_95_22, bzBd, bzBp, bzLet, bzOp, f_X10_in, f_X9_within, e_f1, e_f2, e_f3, e_f4, e_f5, e_e1, e_e2, e_e3, e_e4, e_e5, g_58, nI_n0 (show i < 2 ^ 31 by omega), h4, nI_ge hi (by omega), show ¬ (8 : Int32) < nI N from nI_nlt (b := N) (a := 8) hN (by decide)]
  have ek : kd V = 7 ∧ ly V 0 = V + 1 ∧ ly V 1 = V + 2 ∧ ly V 2 = V + 3 := by rcases hV with rfl | rfl <;> exact ⟨rfl, rfl, rfl, rfl⟩
  simp only [f_X7_keeps, bzGdT ek.1, ek.2.1, ek.2.2.1, ek.2.2.2, bzGdT i8, hh, bzBd, bzLet, if_neg one_ne, clN (show i < 2 ^ 31 by omega), pKeeps, Int32.add_zero]
  repeat' split
  all_goals first | rfl | contradiction
theorem keeps_m {σ : bzS} {i y : Nat} (hi : i < 8) (hy : σ 96 0 = nI y) (h31 : y < 2 ^ 31) : f_X10_keeps 95 (nI i) σ = some (pKeeps (σ 96 (52 + 4 * i + 0)) (σ 96 (52 + 4 * i + 1)) (σ 96 (52 + 4 * i + 2)) (σ 96 3) (pHeat (σ 96) y)) := by
  simp only [f_X10_keeps, g_0, g_95, g_1, g_2, g_5, g_18, g_24, g_26, g_79, g_80, g_72, l_0_0, l_0_1, l_0_3, l_0_4, l_0_5, l_0_6, l_0_7, l_1_0, l_1_1, l_1_2, l_1_3, l_2_0, l_2_1, l_2_2, l_2_3, l_2_4, l_5_0, l_5_1, l_5_2, l_5_3, l_18_0, l_18_1, l_18_2, l_18_3, l_18_4, l_24_0, l_26_0, l_79_0, l_80_0, l_95_0, l_95_1, l_95_2, l_95_3, l_95_6, l_95_16, l_95_17, l_95_18, l_95_19, l_95_20, l_95_21, l_95_22, bzBd, bzBp, bzLet, bzOp, f_X10_in, f_X9_within, e_f1, e_f2, e_f3, e_f4, e_f5, e_e1, e_e2, e_e3, e_e4, e_e5, its_m (w := 0) (W := 0) rfl hi (by decide), its_m (w := 1) (W := 1) rfl hi (by decide), its_m (w := 2) (W := 2) rfl hi (by decide), heat_m hy h31, pKeeps]
  repeat' split
  all_goals first | rfl | contradiction | (rename_i h; first | exact if_pos h | exact if_neg h)
