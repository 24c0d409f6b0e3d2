set_option linter.unusedVariables false
/-! power -/
theorem bitT : ∀ S, S < 256 → ∀ v, v < 8 → ((nI S >>> (nI v &&& 31)) &&& 1) = (if Nat.testBit S v = true then 1 else 0) := by decide +kernel
theorem orT : ∀ n, n ≤ 8 → f_X10_orders (nI n) = some (tb 110 n) := by decide +kernel
def onN (S : Nat) : Nat := (onesOf (nI S)).toNatClampNeg
theorem onT : ∀ S, S < 256 → onesOf (nI S) = nI (onN S) := by decide +kernel
theorem onB8 : ∀ N, N ≤ 8 → ∀ k, k < N → ∀ S, S < 2 ^ N → Nat.testBit S k = false → onN S + 1 ≤ N := by decide +kernel
def pLd (f : Nat → Int32) (S : Nat) : Nat → Nat → Int32 → Int32
  | 0, _, x => x
  | m + 1, v, x => if Nat.testBit S v = true then pLd f S m (v + 1) (x + f (52 + 4 * v + 2)) else pLd f S m (v + 1) x
theorem pLd_add (f : Nat → Int32) (S : Nat) (l : Int32) : ∀ m v x, pLd f S m v (x + l) = pLd f S m v x + l := by
  intro m
  induction m with
  | zero => intro v x; rfl
  | succ m ih =>
    intro v x
    show (if _ then _ else _) = (if _ then _ else _) + l
    by_cases c : Nat.testBit S v = true
    · rw [if_pos c, if_pos c, show x + l + f (52 + 4 * v + 2) = x + f (52 + 4 * v + 2) + l by ac_rfl]; exact ih _ _
    · rw [if_neg c, if_neg c]; exact ih _ _
theorem pLd_or (f : Nat → Int32) {S k : Nat} (hk : Nat.testBit S k = false) : ∀ m v x, pLd f (S ||| 2 ^ k) m v x = pLd f S m v x + (if v ≤ k ∧ k < v + m then f (52 + 4 * k + 2) else 0) := by
  intro m
  induction m with
  | zero => intro v x; rw [if_neg (by omega), Int32.add_zero]; rfl
  | succ m ih =>
    intro v x
    have tb_ : Nat.testBit (S ||| 2 ^ k) v = (Nat.testBit S v || decide (k = v)) := by rw [Nat.testBit_or, Nat.testBit_two_pow]
    show (if Nat.testBit (S ||| 2 ^ k) v = true then pLd f (S ||| 2 ^ k) m (v + 1) (x + f (52 + 4 * v + 2)) else pLd f (S ||| 2 ^ k) m (v + 1) x) = (if Nat.testBit S v = true then pLd f S m (v + 1) (x + f (52 + 4 * v + 2)) else pLd f S m (v + 1) x) + _
    by_cases c : k = v
    · subst c
      rw [if_pos (by rw [tb_, decide_eq_true rfl, Bool.or_true]), if_neg (by rw [hk]; exact Bool.false_ne_true), if_pos (by omega), ih, if_neg (by omega), Int32.add_zero, pLd_add]
    · rw [tb_, decide_eq_false c, Bool.or_false]
      by_cases q : v ≤ k ∧ k < v + (m + 1)
      · rw [if_pos q]
        by_cases d : Nat.testBit S v = true
        · rw [if_pos d, if_pos d, ih, if_pos (by omega)]
        · rw [if_neg d, if_neg d, ih, if_pos (by omega)]
      · rw [if_neg q]
        by_cases d : Nat.testBit S v = true
        · rw [if_pos d, if_pos d, ih, if_neg (by omega)]
        · rw [if_neg d, if_neg d, ih, if_neg (by omega)]
theorem pLd_hi (f : Nat → Int32) {S N : Nat} (hS : S < 2 ^ N) : ∀ m v x, N ≤ v → pLd f S m v x = x := by
  intro m
  induction m with
  | zero => intro v x _; rfl
  | succ m ih =>
    intro v x hv
    have : Nat.testBit S v = false := Nat.testBit_lt_two_pow (Nat.lt_of_lt_of_le hS (Nat.pow_le_pow_right (by decide) hv))
    show (if _ then _ else _) = _
    rw [this, if_neg Bool.false_ne_true]; exact ih _ _ (by omega)
def pL8 (f : Nat → Int32) (S : Nat) : Int32 := pLd f S 8 0 0
theorem ld_c {σ : bzS} {f : Nat → Int32} {S : Nat} (hS : S < 256) (hC : bzCR σ 1 f) : ∀ m v, v + m = 8 → ∀ (F : Nat) (x : Int32), m < F → fl_X7_loudOf_4 5 (nI S) σ F x (nI v) = some (pLd f S m v x) := by
  intro m
  induction m with
  | zero =>
    intro v hv F x hF
    obtain ⟨F, rfl⟩ : ∃ x, F = x + 1 := ⟨F - 1, by omega⟩
    have e : v = 8 := by omega
    subst e
    show fb_X7_loudOf_4 (fl_X7_loudOf_4 5 (nI S) σ F) 5 (nI S) σ x (nI 8) = _
    unfold fb_X7_loudOf_4
    rw [if_pos (show (8 : Int32) ≤ nI 8 by decide)]; rfl
  | succ m ih =>
    intro v hv F x hF
    obtain ⟨F, rfl⟩ : ∃ x, F = x + 1 := ⟨F - 1, by omega⟩
    have v2 : σ 8 v = f (52 + 4 * v + 2) := vis_c hC (i := v) (w := 2) (by omega) (by decide)
    show fb_X7_loudOf_4 (fl_X7_loudOf_4 5 (nI S) σ F) 5 (nI S) σ x (nI v) = some (if Nat.testBit S v = true then pLd f S m (v + 1) (x + f (52 + 4 * v + 2)) else pLd f S m (v + 1) x)
    unfold fb_X7_loudOf_4
    rw [if_neg (show ¬ (8 : Int32) ≤ nI v from nI_ge (b := 8) (by omega) (by decide)), bzGdT (bzIn_nI (show v < 8 by omega) (by decide)), bitT S hS v (by omega), l_5_2, clN (by omega), v2, bzLetS, bzLetS, nI_1]
    by_cases c : Nat.testBit S v = true
    · rw [if_pos c, if_pos c, Int32.one_mul]; exact ih (v + 1) (by omega) F _ (by omega)
    · rw [if_neg c, if_neg c, Int32.zero_mul, Int32.add_zero]; exact ih (v + 1) (by omega) F _ (by omega)
theorem l8_c {σ : bzS} {f : Nat → Int32} {S : Nat} (hS : S < 256) (hC : bzCR σ 1 f) : f_X7_loudOf 5 (nI S) σ = some (pL8 f S) := by
  unfold f_X7_loudOf
  rw [g_5]; exact ld_c hS hC 8 0 rfl 2000 0 (by decide)
theorem ld_m {σ : bzS} {S N : Nat} (hS : S < 2 ^ N) (hN : N ≤ 8) (h2 : σ 96 2 = nI N) : ∀ m v, v + m = N → ∀ (F : Nat) (x : Int32), m < F → fl_X10_loudOf_4 95 (nI S) σ F x (nI v) = some (pLd (σ 96) S (8 - v) v x) := by
  have h8 : S < 256 := Nat.lt_of_lt_of_le hS (Nat.pow_le_pow_right (n := 2) (by decide) hN)
  intro m
  induction m with
  | zero =>
    intro v hv F x hF
    obtain ⟨F, rfl⟩ : ∃ x, F = x + 1 := ⟨F - 1, by omega⟩
    have e : v = N := by omega
    subst e
    show fb_X10_loudOf_4 (fl_X10_loudOf_4 95 (nI S) σ F) 95 (nI S) σ x (nI v) = _
    unfold fb_X10_loudOf_4
    rw [l_95_0, h2, if_pos (Int32.le_refl _), pLd_hi _ hS _ _ _ (Nat.le_refl _)]
  | succ m ih =>
    intro v hv F x hF
    obtain ⟨F, rfl⟩ : ∃ x, F = x + 1 := ⟨F - 1, by omega⟩
    have its := its_m (i := v) (w := 2) (W := 2) (τ := σ) rfl (by omega) (by decide)
    have go := fun x => ih (v + 1) (by omega) F x (by omega)
    have e8 : 8 - v = (8 - (v + 1)) + 1 := by omega
    rw [e8]
    show fb_X10_loudOf_4 (fl_X10_loudOf_4 95 (nI S) σ F) 95 (nI S) σ x (nI v) = some (if Nat.testBit S v = true then pLd (σ 96) S (8 - (v + 1)) (v + 1) (x + σ 96 (52 + 4 * v + 2)) else pLd (σ 96) S (8 - (v + 1)) (v + 1) x)
    unfold fb_X10_loudOf_4
    rw [l_95_0, h2, if_neg (nI_ge (by omega) (by omega)), bitT S h8 v (by omega), its, bzBdS, bzLetS, bzLetS, bzLetS, nI_1, Int32.add_zero]
    by_cases c : Nat.testBit S v = true
    · rw [if_pos c, if_pos c, if_pos rfl]; exact go _
    · rw [if_neg c, if_neg c, if_neg (by decide)]; exact go _
theorem l8_m {σ : bzS} {S N : Nat} (hS : S < 2 ^ N) (hN : N ≤ 8) (h2 : σ 96 2 = nI N) : f_X10_loudOf 95 (nI S) σ = some (pL8 (σ 96) S) := by
  unfold f_X10_loudOf
  rw [g_95]; exact ld_m hS hN h2 N 0 (by omega) 2000 0 (by omega)
theorem l8_or (f : Nat → Int32) {S k : Nat} (hk : Nat.testBit S k = false) (h8 : k < 8) : pL8 f (S ||| 2 ^ k) = pL8 f S + f (52 + 4 * k + 2) := by
  unfold pL8
  rw [pLd_or f hk, if_pos (by omega)]
def pPw (f : Nat → Int32) (N k : Nat) (all : Int32) : Nat → Nat → Int32 → Int32
  | 0, _, c => c
  | m + 1, v, c => if Nat.testBit v k = true then pPw f N k all m (v + 1) c else if all < 2 * pL8 f v then pPw f N k all m (v + 1) c else if 2 * (pL8 f v + f (52 + 4 * k + 2)) ≤ all then pPw f N k all m (v + 1) c else pPw f N k all m (v + 1) (c + tb 110 (onN v) * tb 110 (N - 1 - onN v))
theorem oo_c {σ : bzS} {n : Nat} (hn : n ≤ 8) : f_X7_ordersOf (nI n) σ = some (tb 110 n) := by
  unfold f_X7_ordersOf
  rw [ip_1 (i := n) (k := 110) (show n < 9 by omega) (by decide) (Or.inr rfl), bzBdS, if_neg one_ne, bzGdT (bzIn_nI (show n < 9 by omega) (by decide)), clN (by omega)]
theorem pw_c {σ : bzS} {f : Nat → Int32} {N k : Nat} {all : Int32} (hC : bzCR σ 1 f) (hN : N ≤ 8) (h4 : σ 5 4 = nI N) (hk : k < N) : ∀ m v, v + m = 2 ^ N → ∀ (F : Nat) (c : Int32), m < F → fl_X7_ordersTippedBy_20 5 (nI k) σ F all c (nI v) = some (pPw f N k all m v c) := by
  have e256 : (2 : Nat) ^ N ≤ 256 := Nat.pow_le_pow_right (n := 2) (by decide) hN
  have v2 : σ 8 k = f (52 + 4 * k + 2) := vis_c hC (i := k) (w := 2) (by omega) (by decide)
  intro m
  induction m with
  | zero =>
    intro v hv F c hF
    obtain ⟨F, rfl⟩ : ∃ x, F = x + 1 := ⟨F - 1, by omega⟩
    have e : v = 2 ^ N := by omega
    show fb_X7_ordersTippedBy_20 (fl_X7_ordersTippedBy_20 5 (nI k) σ F) 5 (nI k) σ all c (nI v) = _
    unfold fb_X7_ordersTippedBy_20
    rw [h4, bit_n N (by omega), e, if_pos (Int32.le_refl _)]; rfl
  | succ m ih =>
    intro v hv F c hF
    obtain ⟨F, rfl⟩ : ∃ x, F = x + 1 := ⟨F - 1, by omega⟩
    have hv8 : v < 256 := by omega
    have bt := bitT v hv8 k (by omega)
    obtain ⟨o1, o2, o3⟩ := on_cm (show v < 1024 by omega)
    have skip : ∀ s0 : Int32, (s0 = 0 ∨ Nat.testBit v k = true) → fb_X7_ordersTippedBy_67 (fl_X7_ordersTippedBy_20 5 (nI k) σ F) 5 (nI k) σ all c (nI v) s0 = some (pPw f N k all m (v + 1) c) := by
      intro s0 h
      unfold fb_X7_ordersTippedBy_67
      rw [bt, bzLetS, nI_1]
      by_cases q : Nat.testBit v k = true
      · rw [if_pos q, if_neg one_ne]; exact ih (v + 1) (by omega) F c (by omega)
      · rw [if_neg q, if_pos rfl, if_pos (h.resolve_right q)]; exact ih (v + 1) (by omega) F c (by omega)
    show fb_X7_ordersTippedBy_20 (fl_X7_ordersTippedBy_20 5 (nI k) σ F) 5 (nI k) σ all c (nI v) = some (if Nat.testBit v k = true then pPw f N k all m (v + 1) c else if all < 2 * pL8 f v then pPw f N k all m (v + 1) c else if 2 * (pL8 f v + f (52 + 4 * k + 2)) ≤ all then pPw f N k all m (v + 1) c else pPw f N k all m (v + 1) (c + tb 110 (onN v) * tb 110 (N - 1 - onN v)))
    unfold fb_X7_ordersTippedBy_20
    rw [h4, bit_n N (by omega), if_neg (nI_ge (by omega) (by omega)), l8_c hv8 hC, bzBdS, bzGdT (bzIn_nI (show k < 8 by omega) (by decide)), l_5_2, clN (by omega), v2]
    by_cases c1 : all < 2 * pL8 f v
    · rw [if_pos c1, skip 0 (Or.inl rfl), if_pos c1]
      by_cases q : Nat.testBit v k = true
      · rw [if_pos q]
      · rw [if_neg q]
    · rw [if_neg c1, if_neg c1]
      by_cases c2 : 2 * (pL8 f v + f (52 + 4 * k + 2)) ≤ all
      · rw [if_pos c2, skip 0 (Or.inl rfl), if_pos c2]
        by_cases q : Nat.testBit v k = true
        · rw [if_pos q]
        · rw [if_neg q]
      · rw [if_neg c2, if_neg c2]
        by_cases q : Nat.testBit v k = true
        · rw [if_pos q, skip 1 (Or.inr q)]
        · have q' : Nat.testBit v k = false := by cases hq : Nat.testBit v k with | false => rfl | true => exact absurd hq q
          have ob := onB8 N hN k hk v (by omega) q'
          rw [if_neg q]
          unfold fb_X7_ordersTippedBy_67
          have eN : nI N - 1 - nI (onN v) = nI (N - 1 - onN v) := by
            rw [show nI N - 1 = nI (N - 1) by rw [show N = (N - 1) + 1 by omega, nI_pred]; rfl, pk_sub (by omega)]
          rw [bt, if_neg q, if_pos rfl, if_neg one_ne, o1, bzBdS, onT v hv8, oo_c (by omega), bzBdS, h4, eN, oo_c (by omega), bzBdS, bzLetS, bzLetS, nI_1]
          exact ih (v + 1) (by omega) F _ (by omega)
theorem pw_m {σ : bzS} {N k : Nat} {all : Int32} (hN : N ≤ 8) (h2 : σ 96 2 = nI N) (hk : k < N) : ∀ m v, v + m = 2 ^ N → ∀ (F : Nat) (c : Int32), m < F → fl_X10_power_38 95 (nI k) F (nI (2 ^ N - 1)) all c (nI v) σ = some (pPw (σ 96) N k all m v c, σ) := by
  have e256 : (2 : Nat) ^ N ≤ 256 := Nat.pow_le_pow_right (n := 2) (by decide) hN
  have epos : 0 < (2 : Nat) ^ N := Nat.two_pow_pos N
  intro m
  induction m with
  | zero =>
    intro v hv F c hF
    obtain ⟨F, rfl⟩ : ∃ x, F = x + 1 := ⟨F - 1, by omega⟩
    have e : v = 2 ^ N := by omega
    show fb_X10_power_38 (fl_X10_power_38 95 (nI k) F) 95 (nI k) (nI (2 ^ N - 1)) all c (nI v) σ = _
    unfold fb_X10_power_38
    rw [e, if_pos (nI_lt (by omega) (by omega))]; rfl
  | succ m ih =>
    intro v hv F c hF
    obtain ⟨F, rfl⟩ : ∃ x, F = x + 1 := ⟨F - 1, by omega⟩
    have hv8 : v < 256 := by omega
    have bt := bitT v hv8 k (by omega)
    obtain ⟨o1, o2, o3⟩ := on_cm (show v < 1024 by omega)
    have skip : fb_X10_power_86 (fl_X10_power_38 95 (nI k) F) 95 (nI k) (nI (2 ^ N - 1)) all c (nI v) 0 σ = some (pPw (σ 96) N k all m (v + 1) c, σ) := by
      unfold fb_X10_power_86
      rw [if_pos rfl, bzLetS, bzLetS, nI_1, Int32.add_zero]; exact ih (v + 1) (by omega) F c (by omega)
    show fb_X10_power_38 (fl_X10_power_38 95 (nI k) F) 95 (nI k) (nI (2 ^ N - 1)) all c (nI v) σ = some ((if Nat.testBit v k = true then pPw (σ 96) N k all m (v + 1) c else if all < 2 * pL8 (σ 96) v then pPw (σ 96) N k all m (v + 1) c else if 2 * (pL8 (σ 96) v + σ 96 (52 + 4 * k + 2)) ≤ all then pPw (σ 96) N k all m (v + 1) c else pPw (σ 96) N k all m (v + 1) (c + tb 110 (onN v) * tb 110 (N - 1 - onN v))), σ)
    unfold fb_X10_power_38
    rw [if_neg (nI_nlt (by omega) (by omega)), bt]
    by_cases q : Nat.testBit v k = true
    · rw [if_pos q, if_pos q, if_neg one_ne]; exact skip
    · have q' : Nat.testBit v k = false := by cases hq : Nat.testBit v k with | false => rfl | true => exact absurd hq q
      have ob := onB8 N hN k hk v (by omega) q'
      have hor : v ||| 2 ^ k < 2 ^ N := Nat.or_lt_two_pow (by omega) (Nat.pow_lt_pow_right (by decide) hk)
      have h2k : (2 : Nat) ^ k ≤ 256 := Nat.pow_le_pow_right (n := 2) (by decide) (show k ≤ 8 by omega)
      rw [if_neg q, if_neg q, if_pos rfl, l8_m (N := N) (by omega) hN h2, bzBdS, bit_n k (by omega), nI_or (by omega) (by omega), l8_m hor hN h2, bzBdS, l8_or _ q' (by omega)]
      by_cases c1 : all < 2 * pL8 (σ 96) v
      · rw [if_pos c1, if_pos c1]; exact skip
      · rw [if_neg c1, if_neg c1]
        by_cases c2 : 2 * (pL8 (σ 96) v + σ 96 (52 + 4 * k + 2)) ≤ all
        · rw [if_pos c2, if_pos c2]; exact skip
        · rw [if_neg c2, if_neg c2]
          unfold fb_X10_power_86
          have eN : nI N - 1 - nI (onN v) = nI (N - 1 - onN v) := by
            rw [show nI N - 1 = nI (N - 1) by rw [show N = (N - 1) + 1 by omega, nI_pred]; rfl, pk_sub (by omega)]
          rw [if_neg one_ne, o2, bzBdS, onT v hv8, orT _ (by omega), bzBdS, bzBdS, l_95_0, h2, eN, orT _ (by omega), bzBdS, bzLetS, bzLetS, nI_1]
          exact ih (v + 1) (by omega) F _ (by omega)
theorem st_power : bzSt_power bzInv := by
  intro a1 σ n hn hI
  rcases hasV hI a1 with ⟨h1, h2⟩ | ⟨k, N, e1, hk, hN, s1, s2, b1, n1, h1, h2⟩
  · refine err1 hI ?_ (fun τ ht => ?_)
    · unfold f_X9_power; rw [g_0, l_0_0, l_1_0, l_2_2, h1, bzBdS, if_pos rfl]; rfl
    · unfold f_X10_power; rw [g_95, h2 τ ht, bzBdS, if_pos rfl]; rfl
  subst e1
  have hC := cr_of_sr hI.1
  have e256 : (2 : Nat) ^ N ≤ 256 := Nat.pow_le_pow_right (n := 2) (by decide) hN
  have epos : 0 < (2 : Nat) ^ N := Nat.two_pow_pos N
  have e1N : nI (2 ^ N) - 1 = nI (2 ^ N - 1) := by
    rw [show nI (2 ^ N) - 1 = nI ((2 ^ N - 1) + 1) - 1 by rw [show 2 ^ N - 1 + 1 = 2 ^ N by omega], nI_pred]
  refine ⟨pPw (σ 96) N k (pL8 (σ 96) (2 ^ N - 1)) (2 ^ N) 0 0, σ, σ, ?_, ?_, inv_mono _ _ hI⟩
  · have la : f_X7_loudOfAll 5 σ = some (pL8 (σ 96) (2 ^ N - 1)) := by
      unfold f_X7_loudOfAll
      rw [g_5, s2, bit_n N (by omega), e1N, l8_c (by omega) hC, bzBdS]
    have ot : f_X7_ordersTippedBy 5 (nI k) σ = some (pPw (σ 96) N k (pL8 (σ 96) (2 ^ N - 1)) (2 ^ N) 0 0) := by
      unfold f_X7_ordersTippedBy
      rw [g_5, h1, bzBdS, if_neg one_ne, la, bzBdS]
      exact pw_c hC hN s2 hk (2 ^ N) 0 (by omega) 2000 0 (by omega)
    unfold f_X9_power
    rw [g_0, l_0_0, l_1_0, l_2_2, h1, bzBdS, if_neg one_ne, ot, bzBdS]
  · unfold f_X10_power
    rw [g_95, h2 σ s1, bzBdS, if_neg one_ne, l_95_0, s1, bit_n N (by omega), e1N, bzLetS, l8_m (N := N) (by omega) hN s1, bzBdS]
    exact pw_m hN s1 hk (2 ^ N) 0 (by omega) 2000 0 (by omega)
