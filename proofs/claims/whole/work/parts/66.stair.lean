set_option linter.unusedVariables false
/-! stair, exact -/
theorem nI_or {a b : Nat} (ha : a < 2 ^ 31) (hb : b < 2 ^ 31) : nI a ||| nI b = nI (a ||| b) := by
  apply Int32.toBitVec_inj.mp
  apply BitVec.eq_of_toNat_eq
  have h : a ||| b < 2 ^ 31 := Nat.or_lt_two_pow ha hb
  have e : (nI a ||| nI b).toBitVec = (nI a).toBitVec ||| (nI b).toBitVec := rfl
  rw [e, BitVec.toNat_or, pk_tn (by omega), pk_tn (by omega), pk_tn (by omega)]
theorem bit_n : ∀ v, v < 10 → (1 : Int32) <<< (nI v &&& 31) = nI (2 ^ v) := by decide +kernel
theorem bit_m : ∀ v, v < 10 → nI v &&& 31 = nI v := by decide +kernel
/-- a set that has nothing beside another is no greater -/
theorem sub_le {v G : Nat} (hv : v < 2 ^ 31) (hG : G < 2 ^ 31) (h : nI v &&& (nI G ^^^ (-1)) = 0) : v ≤ G := by
  have h2 : (nI v).toBitVec &&& ((nI G).toBitVec ^^^ BitVec.allOnes 32) = 0#32 := congrArg Int32.toBitVec h
  have h3 : (nI v).toBitVec = (nI v).toBitVec &&& (nI G).toBitVec := by
    apply BitVec.eq_of_getLsbD_eq
    intro i hi
    have h4 := congrArg (fun x => BitVec.getLsbD x i) h2
    simp only [BitVec.getLsbD_and, BitVec.getLsbD_xor, BitVec.getLsbD_allOnes, BitVec.getLsbD_zero, hi, decide_true] at h4
    rw [BitVec.getLsbD_and]
    cases a : (nI v).toBitVec.getLsbD i with
    | false => rfl
    | true =>
      rw [a] at h4
      cases b : (nI G).toBitVec.getLsbD i with
      | false => rw [b] at h4; exact absurd h4 (by decide)
      | true => rfl
  have h5 := congrArg BitVec.toNat h3
  rw [BitVec.toNat_and, pk_tn (by omega), pk_tn (by omega)] at h5
  have := Nat.and_le_right (n := v) (m := G)
  omega
theorem one_bit (x : Int32) : x &&& 1 = 0 ∨ x &&& 1 = 1 := by
  obtain ⟨j, h1, h2⟩ := pk_andE x (m := 1) 1 rfl
  rcases (show j = 0 ∨ j = 1 by omega) with rfl | rfl
  · exact Or.inl h2
  · exact Or.inr h2
def pW40 (f : Nat → Int32) : Int32 := 40 + f 5 / 4
def pGs (f : Nat → Int32) : Nat → Nat → Nat → Nat
  | 0, _, x => x
  | m + 1, v, x => if f (24 + 2 * v + 1) < pW40 f then pGs f m (v + 1) x else pGs f m (v + 1) (x ||| 2 ^ v)
theorem pGs_lt (f : Nat → Int32) : ∀ m v x, v + m = 10 → x < 2 ^ 10 → pGs f m v x < 2 ^ 10 := by
  intro m
  induction m with
  | zero => intro v x _ h; exact h
  | succ m ih =>
    intro v x hv h
    show (if _ then _ else _) < _
    by_cases c : f (24 + 2 * v + 1) < pW40 f
    · rw [if_pos c]; exact ih _ _ (by omega) h
    · rw [if_neg c]
      exact ih _ _ (by omega) (Nat.or_lt_two_pow h (Nat.pow_lt_pow_right (by decide) (by omega)))
theorem stp_p : ∀ v, v < 10 → plB (24 + 2 * v) = true ∧ mc (24 + 2 * v) = 18 ∧ mj (24 + 2 * v) = v ∧ plB (24 + 2 * v + 1) = true ∧ mc (24 + 2 * v + 1) = 19 ∧ mj (24 + 2 * v + 1) = v := by decide +kernel
theorem gs_c {σ : bzS} {f : Nat → Int32} (h : bzSR σ 1 f) : ∀ m v, v + m = 10 → ∀ (F x : Nat), m < F → x < 2 ^ 10 → fl_X1_goodSteps_4 18 (pW40 f) σ F (nI x) (nI v) = some (nI (pGs f m v x)) := by
  intro m
  induction m with
  | zero =>
    intro v hv F x hF hx
    obtain ⟨F, rfl⟩ : ∃ x, F = x + 1 := ⟨F - 1, by omega⟩
    have e : v = 10 := by omega
    subst e
    show fb_X1_goodSteps_4 (fl_X1_goodSteps_4 18 (pW40 f) σ F) 18 (pW40 f) σ (nI x) (nI 10) = _
    unfold fb_X1_goodSteps_4
    rw [if_pos (show (10 : Int32) ≤ nI 10 by decide)]; rfl
  | succ m ih =>
    intro v hv F x hF hx
    obtain ⟨F, rfl⟩ : ∃ x, F = x + 1 := ⟨F - 1, by omega⟩
    obtain ⟨p1, p2, p3, p4, p5, p6⟩ := stp_p v (by omega)
    have e := h.1 _ p4
    rw [p5, p6] at e
    have e : σ 20 v = f (24 + 2 * v + 1) := e
    have ig : f_X1_isGood 18 (nI v) (pW40 f) σ = if f (24 + 2 * v + 1) < pW40 f then some 0 else some 1 := by
      unfold f_X1_isGood
      rw [g_18, l_18_1, ip_1 (i := v) (k := 20) (show v < 10 by omega) (by decide) (Or.inl rfl), bzBdS, if_neg one_ne, bzGdT (bzIn_nI (show v < 10 by omega) (by decide)), clN (by omega), e]
    show fb_X1_goodSteps_4 (fl_X1_goodSteps_4 18 (pW40 f) σ F) 18 (pW40 f) σ (nI x) (nI v) = some (nI (if f (24 + 2 * v + 1) < pW40 f then pGs f m (v + 1) x else pGs f m (v + 1) (x ||| 2 ^ v)))
    have h2 : (2 : Nat) ^ v < 2 ^ 10 := Nat.pow_lt_pow_right (by decide) (by omega)
    have e10 : (2 : Nat) ^ 10 = 1024 := rfl
    unfold fb_X1_goodSteps_4
    rw [if_neg (show ¬ (10 : Int32) ≤ nI v from nI_ge (b := 10) (by omega) (by decide)), ig]
    by_cases c : f (24 + 2 * v + 1) < pW40 f
    · rw [if_pos c, if_pos c, bzBdS, if_pos rfl, bzLetS, nI_1]
      exact ih (v + 1) (by omega) F x (by omega) hx
    · rw [if_neg c, if_neg c, bzBdS, if_neg one_ne, bzLetS, bzLetS, nI_1, bit_n v (by omega), nI_or (by omega) (by omega)]
      exact ih (v + 1) (by omega) F _ (by omega) (Nat.or_lt_two_pow hx h2)
theorem gs_m {σ : bzS} : ∀ m v, v + m = 10 → ∀ (F x : Nat), m < F → x < 2 ^ 10 → fl_X10_goodSet_4 95 σ F (nI x) (nI v) = some (nI (pGs (σ 96) m v x)) := by
  intro m
  induction m with
  | zero =>
    intro v hv F x hF hx
    obtain ⟨F, rfl⟩ : ∃ x, F = x + 1 := ⟨F - 1, by omega⟩
    have e : v = 10 := by omega
    subst e
    show fb_X10_goodSet_4 (fl_X10_goodSet_4 95 σ F) 95 σ (nI x) (nI 10) = _
    unfold fb_X10_goodSet_4
    rw [if_pos (show (10 : Int32) ≤ nI 10 by decide)]; rfl
  | succ m ih =>
    intro v hv F x hF hx
    obtain ⟨F, rfl⟩ : ∃ x, F = x + 1 := ⟨F - 1, by omega⟩
    have ep : 24 + 2 * nI v + 1 = nI (24 + 2 * v + 1) := by rw [show (24 : Int32) = nI 24 from rfl, show (2 : Int32) = nI 2 from rfl, pk_mul, nI_add, nI_1]
    have ig : f_X10_isGood 95 (nI v) σ = if σ 96 (24 + 2 * v + 1) < pW40 (σ 96) then some 0 else some 1 := by
      unfold f_X10_isGood
      rw [g_95, ep, bzGdT (bzIn_nI (show 24 + 2 * v + 1 < 254 by omega) (by decide)), clN (by omega), l_95_0]
      rfl
    show fb_X10_goodSet_4 (fl_X10_goodSet_4 95 σ F) 95 σ (nI x) (nI v) = some (nI (if σ 96 (24 + 2 * v + 1) < pW40 (σ 96) then pGs (σ 96) m (v + 1) x else pGs (σ 96) m (v + 1) (x ||| 2 ^ v)))
    have h2 : (2 : Nat) ^ v < 2 ^ 10 := Nat.pow_lt_pow_right (by decide) (by omega)
    have e10 : (2 : Nat) ^ 10 = 1024 := rfl
    unfold fb_X10_goodSet_4
    rw [if_neg (show ¬ (10 : Int32) ≤ nI v from nI_ge (b := 10) (by omega) (by decide)), ig]
    by_cases c : σ 96 (24 + 2 * v + 1) < pW40 (σ 96)
    · rw [if_pos c, if_pos c, bzBdS, if_pos rfl, bzLetS, bzLetS, nI_1, Int32.or_zero]
      exact ih (v + 1) (by omega) F x (by omega) hx
    · rw [if_neg c, if_neg c, bzBdS, if_neg one_ne, bzLetS, bzLetS, nI_1, bit_n v (by omega), nI_or (by omega) (by omega)]
      exact ih (v + 1) (by omega) F _ (by omega) (Nat.or_lt_two_pow hx h2)
def pTl (f : Nat → Int32) (S : Int32) : Nat → Nat → Int32 → Int32
  | 0, _, x => x
  | m + 1, v, x => if ((S >>> (nI v &&& 31)) &&& 1) = 1 then pTl f S m (v + 1) (x + f (24 + 2 * v)) else pTl f S m (v + 1) x
theorem tla_c {σ : bzS} {f : Nat → Int32} {S : Int32} (h : bzSR σ 1 f) : ∀ m v, v + m = 10 → ∀ (F : Nat) (x : Int32), m < F → fl_X1_tallOf_4 18 S σ F x (nI v) = some (pTl f S m v x) := by
  intro m
  induction m with
  | zero =>
    intro v hv F x hF
    obtain ⟨F, rfl⟩ : ∃ x, F = x + 1 := ⟨F - 1, by omega⟩
    have e : v = 10 := by omega
    subst e
    show fb_X1_tallOf_4 (fl_X1_tallOf_4 18 S σ F) 18 S σ x (nI 10) = _
    unfold fb_X1_tallOf_4
    rw [if_pos (show (10 : Int32) ≤ nI 10 by decide)]; rfl
  | succ m ih =>
    intro v hv F x hF
    obtain ⟨F, rfl⟩ : ∃ x, F = x + 1 := ⟨F - 1, by omega⟩
    obtain ⟨p1, p2, p3, p4, p5, p6⟩ := stp_p v (by omega)
    have e := h.1 _ p1
    rw [p2, p3] at e
    have e : σ 19 v = f (24 + 2 * v) := e
    show fb_X1_tallOf_4 (fl_X1_tallOf_4 18 S σ F) 18 S σ x (nI v) = some (if ((S >>> (nI v &&& 31)) &&& 1) = 1 then pTl f S m (v + 1) (x + f (24 + 2 * v)) else pTl f S m (v + 1) x)
    unfold fb_X1_tallOf_4
    rw [if_neg (show ¬ (10 : Int32) ≤ nI v from nI_ge (b := 10) (by omega) (by decide)), bzGdT (bzIn_nI (show v < 10 by omega) (by decide)), l_18_0, clN (by omega), e, bzLetS, bzLetS, nI_1]
    rcases one_bit (S >>> (nI v &&& 31)) with c | c
    · rw [c, if_neg (by decide), Int32.zero_mul, Int32.add_zero]; exact ih (v + 1) (by omega) F x (by omega)
    · rw [c, if_pos rfl, Int32.one_mul]; exact ih (v + 1) (by omega) F _ (by omega)
theorem tla_m {σ : bzS} {S : Int32} : ∀ m v, v + m = 10 → ∀ (F : Nat) (x : Int32), m < F → fl_X10_tallOf_4 95 S σ F x (nI v) = some (pTl (σ 96) S m v x) := by
  intro m
  induction m with
  | zero =>
    intro v hv F x hF
    obtain ⟨F, rfl⟩ : ∃ x, F = x + 1 := ⟨F - 1, by omega⟩
    have e : v = 10 := by omega
    subst e
    show fb_X10_tallOf_4 (fl_X10_tallOf_4 95 S σ F) 95 S σ x (nI 10) = _
    unfold fb_X10_tallOf_4
    rw [if_pos (show (10 : Int32) ≤ nI 10 by decide)]; rfl
  | succ m ih =>
    intro v hv F x hF
    obtain ⟨F, rfl⟩ : ∃ x, F = x + 1 := ⟨F - 1, by omega⟩
    have ep : 24 + 2 * nI v = nI (24 + 2 * v) := by rw [show (24 : Int32) = nI 24 from rfl, show (2 : Int32) = nI 2 from rfl, pk_mul, nI_add]
    show fb_X10_tallOf_4 (fl_X10_tallOf_4 95 S σ F) 95 S σ x (nI v) = some (if ((S >>> (nI v &&& 31)) &&& 1) = 1 then pTl (σ 96) S m (v + 1) (x + σ 96 (24 + 2 * v)) else pTl (σ 96) S m (v + 1) x)
    unfold fb_X10_tallOf_4
    rw [if_neg (show ¬ (10 : Int32) ≤ nI v from nI_ge (b := 10) (by omega) (by decide))]
    by_cases c : ((S >>> (nI v &&& 31)) &&& 1) = 1
    · rw [if_pos c, if_pos c, ep, bzGdT (bzIn_nI (show 24 + 2 * v < 254 by omega) (by decide)), l_95_0, clN (by omega), bzLetS, bzLetS, nI_1]; exact ih (v + 1) (by omega) F _ (by omega)
    · rw [if_neg c, if_neg c, bzLetS, bzLetS, nI_1, Int32.add_zero]; exact ih (v + 1) (by omega) F x (by omega)
def pTa (f : Nat → Int32) (S : Int32) : Int32 := pTl f S 10 0 0
theorem ta_c {σ : bzS} {f : Nat → Int32} (h : bzSR σ 1 f) (S : Int32) : f_X1_tallOf 18 S σ = some (pTa f S) := by
  unfold f_X1_tallOf
  rw [g_18]; exact tla_c h 10 0 rfl 2000 0 (by decide)
theorem ta_m {σ : bzS} (S : Int32) : f_X10_tallOf 95 S σ = some (pTa (σ 96) S) := by
  unfold f_X10_tallOf
  rw [g_95]; exact tla_m 10 0 rfl 2000 0 (by decide)
def onB (v : Nat) : Bool := match f_J_bitCount (nI v), f_X10_ones (nI v) with | some a, some b => decide (a = b ∧ b < 11) | _, _ => false
theorem onB_all : ∀ v, v < 1024 → onB v = true := by decide +kernel
theorem on_cm {v : Nat} (hv : v < 1024) : f_J_bitCount (nI v) = some (onesOf (nI v)) ∧ f_X10_ones (nI v) = some (onesOf (nI v)) ∧ onesOf (nI v) < 11 := by
  have h := onB_all v hv
  unfold onB at h
  unfold onesOf
  cases a : f_J_bitCount (nI v) with
  | none => rw [a] at h; exact Bool.noConfusion h
  | some x =>
    cases b : f_X10_ones (nI v) with
    | none => rw [a, b] at h; exact Bool.noConfusion h
    | some y =>
      rw [a, b] at h
      obtain ⟨h1, h2⟩ := of_decide_eq_true h
      subst h1
      exact ⟨rfl, rfl, h2⟩
abbrev suB (G : Nat) (v : Nat) : Prop := nI v &&& (nI G ^^^ (-1)) = 0
def feW (v : Nat) : Option Nat → Bool
  | none => true
  | some w => decide (onesOf (nI v) < onesOf (nI w))
def pBs (f : Nat → Int32) (G : Nat) : Nat → Nat → Option Nat → Option Nat
  | 0, _, b => b
  | m + 1, v, b => if suB G v then (if feW v b = true then (if pTa f (nI v) < f 6 then pBs f G m (v + 1) b else pBs f G m (v + 1) (some v)) else pBs f G m (v + 1) b) else pBs f G m (v + 1) b
theorem pBs_skip {f : Nat → Int32} {G m v : Nat} {b : Option Nat} (h : ¬ suB G v) : pBs f G (m + 1) v b = pBs f G m (v + 1) b := if_neg h
theorem pBs_old {f : Nat → Int32} {G m v : Nat} {b : Option Nat} (h : suB G v) (h2 : ¬ feW v b = true) : pBs f G (m + 1) v b = pBs f G m (v + 1) b := by
  show (if _ then (if _ then _ else _) else _) = _
  rw [if_pos h, if_neg h2]
theorem pBs_low {f : Nat → Int32} {G m v : Nat} {b : Option Nat} (h : suB G v) (h2 : feW v b = true) (h3 : pTa f (nI v) < f 6) : pBs f G (m + 1) v b = pBs f G m (v + 1) b := by
  show (if _ then (if _ then (if _ then _ else _) else _) else _) = _
  rw [if_pos h, if_pos h2, if_pos h3]
theorem pBs_new {f : Nat → Int32} {G m v : Nat} {b : Option Nat} (h : suB G v) (h2 : feW v b = true) (h3 : ¬ pTa f (nI v) < f 6) : pBs f G (m + 1) v b = pBs f G m (v + 1) (some v) := by
  show (if _ then (if _ then (if _ then _ else _) else _) else _) = _
  rw [if_pos h, if_pos h2, if_neg h3]
theorem pBs_out {f : Nat → Int32} {G : Nat} (hG : G < 1024) : ∀ m v b, G < v → v + m ≤ 1024 → pBs f G m v b = b := by
  intro m
  induction m with
  | zero => intro v b _ _; rfl
  | succ m ih =>
    intro v b hv hm
    rw [pBs_skip (fun c => by have := sub_le (v := v) (G := G) (by omega) (by omega) c; omega)]
    exact ih (v + 1) b (by omega) (by omega)
theorem pBs_cut {f : Nat → Int32} {G : Nat} (hG : G < 1024) : ∀ k v b, v + k = G + 1 → pBs f G (1024 - v) v b = pBs f G k v b := by
  intro k
  induction k with
  | zero => intro v b hv; exact pBs_out hG _ _ _ (by omega) (by omega)
  | succ k ih =>
    intro v b hv
    rw [show 1024 - v = (1024 - (v + 1)) + 1 by omega]
    by_cases h : suB G v
    · by_cases h2 : feW v b = true
      · by_cases h3 : pTa f (nI v) < f 6
        · rw [pBs_low h h2 h3, pBs_low h h2 h3]; exact ih _ _ (by omega)
        · rw [pBs_new h h2 h3, pBs_new h h2 h3]; exact ih _ _ (by omega)
      · rw [pBs_old h h2, pBs_old h h2]; exact ih _ _ (by omega)
    · rw [pBs_skip h, pBs_skip h]; exact ih _ _ (by omega)
def beV : Option Nat → Int32
  | none => -1
  | some w => nI w
def feV : Option Nat → Int32
  | none => 11
  | some w => onesOf (nI w)
def lt10 (b : Option Nat) : Prop := ∀ w, b = some w → w < 1024
theorem feW_c {v : Nat} {b : Option Nat} (hv : v < 1024) : (feV b ≤ onesOf (nI v)) ↔ ¬ feW v b = true := by
  cases b with
  | none =>
    have := (on_cm hv).2.2
    exact ⟨fun h => absurd this (Int32.not_lt.mpr h), fun h => absurd rfl h⟩
  | some w =>
    refine ⟨fun h c => ?_, fun h => ?_⟩
    · exact absurd (of_decide_eq_true c) (Int32.not_lt.mpr h)
    · exact le_of_nlt (fun c => h (decide_eq_true c))
theorem bs_c {σ : bzS} {f : Nat → Int32} {G : Nat} {W : Int32} (h : bzSR σ 1 f) : ∀ m v, v + m = 1024 → ∀ (F : Nat) (b : Option Nat), m < F → fl_X1_leastStair_15 18 W σ F (nI G) (beV b) (feV b) (nI v) = some (beV (pBs f G m v b)) := by
  intro m
  induction m with
  | zero =>
    intro v hv F b hF
    obtain ⟨F, rfl⟩ : ∃ x, F = x + 1 := ⟨F - 1, by omega⟩
    have e : v = 1024 := by omega
    subst e
    show fb_X1_leastStair_15 (fl_X1_leastStair_15 18 W σ F) 18 W σ (nI G) (beV b) (feV b) (nI 1024) = _
    unfold fb_X1_leastStair_15
    rw [if_pos (show (1024 : Int32) ≤ nI 1024 by decide)]; rfl
  | succ m ih =>
    intro v hv F b hF
    obtain ⟨F, rfl⟩ : ∃ x, F = x + 1 := ⟨F - 1, by omega⟩
    obtain ⟨o1, o2, o3⟩ := on_cm (show v < 1024 by omega)
    have s5 : σ 18 5 = f 6 := h.1 6 rfl
    have n1024 : ¬ (1024 : Int32) ≤ nI v := nI_ge (b := 1024) (by omega) (by decide)
    have nx := ih (v + 1) (by omega) F
    show fb_X1_leastStair_15 (fl_X1_leastStair_15 18 W σ F) 18 W σ (nI G) (beV b) (feV b) (nI v) = _
    unfold fb_X1_leastStair_15
    rw [if_neg n1024]
    by_cases c : suB G v
    · rw [if_pos c, o1, bzBdS]
      by_cases c2 : feV b ≤ onesOf (nI v)
      · rw [if_pos c2, pBs_old c ((feW_c (by omega)).mp c2)]
        unfold fb_X1_leastStair_47
        rw [if_pos rfl, bzLetS, nI_1]
        exact nx b (by omega)
      · have c3 : feW v b = true := by
          cases hq : feW v b with
          | true => rfl
          | false => exact absurd ((feW_c (by omega)).mpr (by rw [hq]; exact Bool.false_ne_true)) c2
        rw [if_neg c2]
        unfold fb_X1_leastStair_47
        rw [if_neg one_ne, ta_c h, bzBdS, s5]
        by_cases c4 : pTa f (nI v) < f 6
        · rw [if_pos c4, pBs_low c c3 c4, bzLetS, nI_1]; exact nx b (by omega)
        · rw [if_neg c4, pBs_new c c3 c4, o1, bzBdS, bzLetS, nI_1]; exact nx (some v) (by omega)
    · rw [if_neg c, pBs_skip c]
      unfold fb_X1_leastStair_47
      rw [if_pos rfl, bzLetS, nI_1]
      exact nx b (by omega)
theorem bs_m {σ : bzS} {G : Nat} {a1 : Int32} (hG : G < 1024) : ∀ m v, v + m = G + 1 → ∀ (F : Nat) (b : Option Nat), m < F → lt10 b → ∃ H, fl_X10_stair_26 95 a1 F (nI G) (beV b) (nI v) σ = fl_X10_stair_26 95 a1 (H + 1) (nI G) (beV (pBs (σ 96) G m v b)) (nI (G + 1)) σ ∧ lt10 (pBs (σ 96) G m v b) := by
  intro m
  induction m with
  | zero =>
    intro v hv F b hF hb
    obtain ⟨F, rfl⟩ : ∃ x, F = x + 1 := ⟨F - 1, by omega⟩
    have e : v = G + 1 := by omega
    subst e
    exact ⟨F, rfl, hb⟩
  | succ m ih =>
    intro v hv F b hF hb
    obtain ⟨F, rfl⟩ : ∃ x, F = x + 1 := ⟨F - 1, by omega⟩
    obtain ⟨o1, o2, o3⟩ := on_cm (show v < 1024 by omega)
    have nx := ih (v + 1) (by omega) F
    have e0 : fl_X10_stair_26 95 a1 (F + 1) (nI G) (beV b) (nI v) σ = fb_X10_stair_26 (fl_X10_stair_26 95 a1 F) 95 a1 (nI G) (beV b) (nI v) σ := rfl
    have hd : ∀ {e : Option Nat}, pBs (σ 96) G (m + 1) v b = pBs (σ 96) G m (v + 1) e → fb_X10_stair_26 (fl_X10_stair_26 95 a1 F) 95 a1 (nI G) (beV b) (nI v) σ = fl_X10_stair_26 95 a1 F (nI G) (beV e) (nI (v + 1)) σ → lt10 e → ∃ H, fl_X10_stair_26 95 a1 (F + 1) (nI G) (beV b) (nI v) σ = fl_X10_stair_26 95 a1 (H + 1) (nI G) (beV (pBs (σ 96) G (m + 1) v b)) (nI (G + 1)) σ ∧ lt10 (pBs (σ 96) G (m + 1) v b) := by
      intro e h1 h2 h3
      obtain ⟨H, x1, x2⟩ := nx e (by omega) h3
      exact ⟨H, by rw [h1, e0, h2]; exact x1, by rw [h1]; exact x2⟩
    have nG : ¬ nI G < nI v := nI_nlt (by omega) (by omega)
    have hv2 : lt10 (some v) := fun w hw => by have := Option.some.inj hw; omega
    by_cases c : suB G v
    · by_cases c3 : feW v b = true
      · by_cases c4 : pTa (σ 96) (nI v) < σ 96 6
        · refine hd (pBs_low c c3 c4) ?_ hb
          unfold fb_X10_stair_26
          rw [if_neg nG, if_pos c]
          cases b with
          | none => rw [if_pos (show beV none < 0 by decide), ta_m, bzBdS, l_95_0, if_pos c4, bzLetS, nI_1]
          | some w =>
            have hw := hb w rfl
            rw [if_neg (show ¬ beV (some w) < 0 from nI_n0 (by omega)), o2, bzBdS, show beV (some w) = nI w from rfl, (on_cm hw).2.1, bzBdS, if_neg (Int32.not_le.mpr (of_decide_eq_true c3)), ta_m, bzBdS, l_95_0, if_pos c4, bzLetS, nI_1]
        · refine hd (pBs_new c c3 c4) ?_ hv2
          unfold fb_X10_stair_26
          rw [if_neg nG, if_pos c]
          cases b with
          | none => rw [if_pos (show beV none < 0 by decide), ta_m, bzBdS, l_95_0, if_neg c4, bzLetS, nI_1]; rfl
          | some w =>
            have hw := hb w rfl
            rw [if_neg (show ¬ beV (some w) < 0 from nI_n0 (by omega)), o2, bzBdS, show beV (some w) = nI w from rfl, (on_cm hw).2.1, bzBdS, if_neg (Int32.not_le.mpr (of_decide_eq_true c3)), ta_m, bzBdS, l_95_0, if_neg c4, bzLetS, nI_1]; rfl
      · refine hd (pBs_old c c3) ?_ hb
        cases b with
        | none => exact absurd rfl c3
        | some w =>
          have hw := hb w rfl
          unfold fb_X10_stair_26
          rw [if_neg nG, if_pos c, if_neg (show ¬ beV (some w) < 0 from nI_n0 (by omega)), o2, bzBdS, show beV (some w) = nI w from rfl, (on_cm hw).2.1, bzBdS, if_pos (le_of_nlt (fun q => c3 (decide_eq_true q))), bzLetS, nI_1]
    · refine hd (pBs_skip c) ?_ hb
      unfold fb_X10_stair_26
      rw [if_neg nG, if_neg c, bzLetS, nI_1]
theorem st_stair : bzSt_stair bzInv := by
  intro a1 σ n hn hI
  rcases cutR a1 (n := 1) (lo := 0) (N := 1) rfl (Or.inl rfl) (by decide) with c1 | ⟨c1, c1', -⟩
  · refine err1 hI ?_ (fun τ _ => ?_)
    · unfold f_X9_stair; rw [g_0, wi_0 c1, bzBdS, if_pos rfl]; rfl
    · unfold f_X10_stair; rw [g_95, in_0 c1, bzBdS, if_pos rfl]; rfl
  have wt : f_X0_weight 2 σ = some (pW40 (σ 96)) := by
    have e7 : σ 2 7 = σ 96 5 := hI.1.1 5 rfl
    unfold f_X0_weight pW40
    rw [g_2, e7]
  have G10 := pGs_lt (σ 96) 10 0 0 rfl (by decide)
  generalize hGe : pGs (σ 96) 10 0 0 = G at G10
  have G10 : G < 1024 := G10
  have gc : f_X1_goodSteps 18 (pW40 (σ 96)) σ = some (nI G) := by
    unfold f_X1_goodSteps
    rw [g_18, ← hGe]; exact gs_c hI.1 10 0 rfl 2000 0 (by decide) (by decide)
  have gm : ∀ τ : bzS, τ 96 = σ 96 → f_X10_goodSet 95 τ = some (nI G) := fun τ ht => by
    unfold f_X10_goodSet
    rw [g_95, ← hGe, ← ht]; exact gs_m 10 0 rfl 2000 0 (by decide) (by decide)
  have lc : f_X1_leastStair 18 (pW40 (σ 96)) σ = some (beV (pBs (σ 96) G 1024 0 none)) := by
    unfold f_X1_leastStair
    rw [g_18, gc, bzBdS]; exact bs_c hI.1 1024 0 rfl 2000 none (by decide)
  have cutE : pBs (σ 96) G 1024 0 none = pBs (σ 96) G (G + 1) 0 none := pBs_cut G10 (G + 1) 0 none (by omega)
  have mm : ∀ τ : bzS, τ 96 = σ 96 → ∃ H, f_X10_stair 95 a1 τ = fl_X10_stair_26 95 a1 (H + 1) (nI G) (beV (pBs (σ 96) G 1024 0 none)) (nI (G + 1)) τ ∧ lt10 (pBs (σ 96) G 1024 0 none) := fun τ ht => by
    obtain ⟨H, h1, h2⟩ := bs_m (σ := τ) (a1 := a1) G10 (G + 1) 0 (by omega) 2000 none (by omega) (fun w hw => no_some hw)
    rw [ht, ← cutE] at h1 h2
    refine ⟨H, ?_, h2⟩
    unfold f_X10_stair
    rw [g_95, in_1 c1 c1', bzBdS, if_neg one_ne, gm τ ht, bzBdS]; exact h1
  have hx : nI G < nI (G + 1) := nI_lt (by omega) (by omega)
  cases hB : pBs (σ 96) G 1024 0 none with
  | none =>
    rw [hB] at lc
    refine err2 hI ?_ (fun τ ht => ?_)
    · unfold f_X9_stair
      rw [g_0, wi_1 c1 c1', bzBdS, if_neg one_ne, l_0_0, l_1_0, wt, bzBdS, l_1_1, lc, bzBdS, if_neg (show ¬ (0 : Int32) ≤ beV none by decide)]; rfl
    · obtain ⟨H, h1, -⟩ := mm τ (ht 96 (by decide))
      rw [h1, hB]
      show fb_X10_stair_26 (fl_X10_stair_26 95 a1 H) 95 a1 (nI G) (beV none) (nI (G + 1)) τ = _
      unfold fb_X10_stair_26
      rw [if_pos hx, if_neg (show ¬ (0 : Int32) ≤ beV none by decide)]; rfl
  | some w =>
    obtain ⟨H, h1, h2⟩ := mm σ rfl
    rw [hB] at lc h1 h2
    have hw := h2 w rfl
    obtain ⟨o1, o2, o3⟩ := on_cm hw
    have p0 : (0 : Int32) ≤ nI w := nI_pos' (by omega)
    refine ⟨if a1 = 0 then nI w else onesOf (nI w), σ, σ, ?_, ?_, inv_mono _ _ hI⟩
    · unfold f_X9_stair
      rw [g_0, wi_1 c1 c1', bzBdS, if_neg one_ne, l_0_0, l_1_0, wt, bzBdS, l_1_1, lc, bzBdS, show beV (some w) = nI w from rfl, if_pos p0, o1, bzBdS]
      by_cases q : a1 = 0
      · rw [if_pos q, if_pos q]
      · rw [if_neg q, if_neg q]
    · rw [h1]
      show fb_X10_stair_26 (fl_X10_stair_26 95 a1 H) 95 a1 (nI G) (nI w) (nI (G + 1)) σ = _
      unfold fb_X10_stair_26
      rw [if_pos hx, if_pos p0, o2, bzBdS]
      by_cases q : a1 = 0
      · rw [if_pos q, if_pos q]
      · rw [if_neg q, if_neg q]
/-! exact -/
def pEx (f : Nat → Int32) (G : Nat) : Nat → Nat → Int32 → Int32
  | 0, _, c => c
  | m + 1, v, c => if suB G v then (if pTa f (nI v) = f 6 then pEx f G m (v + 1) (c + 1) else pEx f G m (v + 1) c) else pEx f G m (v + 1) c
theorem pEx_skip {f : Nat → Int32} {G m v : Nat} {c : Int32} (h : ¬ suB G v) : pEx f G (m + 1) v c = pEx f G m (v + 1) c := if_neg h
theorem pEx_in {f : Nat → Int32} {G m v : Nat} {c : Int32} (h : suB G v) : pEx f G (m + 1) v c = if pTa f (nI v) = f 6 then pEx f G m (v + 1) (c + 1) else pEx f G m (v + 1) c := if_pos h
theorem pEx_out {f : Nat → Int32} {G : Nat} (hG : G < 1024) : ∀ m v c, G < v → v + m ≤ 1024 → pEx f G m v c = c := by
  intro m
  induction m with
  | zero => intro v c _ _; rfl
  | succ m ih =>
    intro v c hv hm
    rw [pEx_skip (fun c => by have := sub_le (v := v) (G := G) (by omega) (by omega) c; omega)]
    exact ih (v + 1) c (by omega) (by omega)
theorem pEx_cut {f : Nat → Int32} {G : Nat} (hG : G < 1024) : ∀ k v c, v + k = G + 1 → pEx f G (1024 - v) v c = pEx f G k v c := by
  intro k
  induction k with
  | zero => intro v c hv; exact pEx_out hG _ _ _ (by omega) (by omega)
  | succ k ih =>
    intro v c hv
    rw [show 1024 - v = (1024 - (v + 1)) + 1 by omega]
    by_cases h : suB G v
    · rw [pEx_in h, pEx_in h, ih _ _ (by omega), ih _ _ (by omega)]
    · rw [pEx_skip h, pEx_skip h]; exact ih _ _ (by omega)
theorem ex_c {σ : bzS} {f : Nat → Int32} {G : Nat} {W : Int32} (h : bzSR σ 1 f) : ∀ m v, v + m = 1024 → ∀ (F : Nat) (c : Int32), m < F → fl_X1_exactStairs_11 18 W σ F (nI G) c (nI v) = some (pEx f G m v c) := by
  intro m
  induction m with
  | zero =>
    intro v hv F c hF
    obtain ⟨F, rfl⟩ : ∃ x, F = x + 1 := ⟨F - 1, by omega⟩
    have e : v = 1024 := by omega
    subst e
    show fb_X1_exactStairs_11 (fl_X1_exactStairs_11 18 W σ F) 18 W σ (nI G) c (nI 1024) = _
    unfold fb_X1_exactStairs_11
    rw [if_pos (show (1024 : Int32) ≤ nI 1024 by decide)]; rfl
  | succ m ih =>
    intro v hv F c hF
    obtain ⟨F, rfl⟩ : ∃ x, F = x + 1 := ⟨F - 1, by omega⟩
    have s5 : σ 18 5 = f 6 := h.1 6 rfl
    show fb_X1_exactStairs_11 (fl_X1_exactStairs_11 18 W σ F) 18 W σ (nI G) c (nI v) = _
    unfold fb_X1_exactStairs_11
    rw [if_neg (show ¬ (1024 : Int32) ≤ nI v from nI_ge (b := 1024) (by omega) (by decide)), ta_c h, bzBdS, s5, bzLetS, bzLetS, bzLetS, nI_1]
    by_cases q : suB G v
    · rw [if_pos q, pEx_in q]
      by_cases q2 : pTa f (nI v) = f 6
      · rw [if_pos q2, if_pos q2]; exact ih (v + 1) (by omega) F _ (by omega)
      · rw [if_neg q2, if_neg q2]; exact ih (v + 1) (by omega) F _ (by omega)
    · rw [if_neg q, pEx_skip q]; exact ih (v + 1) (by omega) F _ (by omega)
theorem ex_m {σ : bzS} {G : Nat} (hG : G < 1024) : ∀ m v, v + m = G + 1 → ∀ (F : Nat) (c : Int32), m < F → fl_X10_exact_9 95 σ F (nI G) c (nI v) = some (pEx (σ 96) G m v c) := by
  intro m
  induction m with
  | zero =>
    intro v hv F c hF
    obtain ⟨F, rfl⟩ : ∃ x, F = x + 1 := ⟨F - 1, by omega⟩
    have e : v = G + 1 := by omega
    subst e
    show fb_X10_exact_9 (fl_X10_exact_9 95 σ F) 95 σ (nI G) c (nI (G + 1)) = _
    unfold fb_X10_exact_9
    rw [if_pos (nI_lt (by omega) (by omega))]; rfl
  | succ m ih =>
    intro v hv F c hF
    obtain ⟨F, rfl⟩ : ∃ x, F = x + 1 := ⟨F - 1, by omega⟩
    show fb_X10_exact_9 (fl_X10_exact_9 95 σ F) 95 σ (nI G) c (nI v) = _
    unfold fb_X10_exact_9
    rw [if_neg (show ¬ nI G < nI v from nI_nlt (by omega) (by omega)), ta_m, bzBdS, l_95_0, bzLetS, bzLetS, bzLetS, bzLetS, nI_1, Int32.add_zero]
    by_cases q : suB G v
    · rw [if_pos q, pEx_in q]
      by_cases q2 : pTa (σ 96) (nI v) = σ 96 6
      · rw [if_pos q2, if_pos q2]; exact ih (v + 1) (by omega) F _ (by omega)
      · rw [if_neg q2, if_neg q2]; exact ih (v + 1) (by omega) F _ (by omega)
    · rw [if_neg q, pEx_skip q]; exact ih (v + 1) (by omega) F _ (by omega)
theorem st_exact : bzSt_exact bzInv := by
  intro σ n hn hI
  have wt : f_X0_weight 2 σ = some (pW40 (σ 96)) := by
    have e7 : σ 2 7 = σ 96 5 := hI.1.1 5 rfl
    unfold f_X0_weight pW40
    rw [g_2, e7]
  have G10 := pGs_lt (σ 96) 10 0 0 rfl (by decide)
  generalize hGe : pGs (σ 96) 10 0 0 = G at G10
  have G10 : G < 1024 := G10
  have gc : f_X1_goodSteps 18 (pW40 (σ 96)) σ = some (nI G) := by
    unfold f_X1_goodSteps
    rw [g_18, ← hGe]; exact gs_c hI.1 10 0 rfl 2000 0 (by decide) (by decide)
  have gm : f_X10_goodSet 95 σ = some (nI G) := by
    unfold f_X10_goodSet
    rw [g_95, ← hGe]; exact gs_m 10 0 rfl 2000 0 (by decide) (by decide)
  refine ⟨pEx (σ 96) G 1024 0 0, ?_, ?_, inv_mono _ _ hI⟩
  · unfold f_X9_exact
    rw [g_0, l_0_0, l_1_0, wt, bzBdS, l_1_1]
    unfold f_X1_exactStairs
    rw [g_18, gc, bzBdS, show (0 : Int32) = nI 0 from rfl, ex_c hI.1 1024 0 rfl 2000 (nI 0) (by decide), bzBdS]
  · unfold f_X10_exact
    rw [g_95, gm, bzBdS, show pEx (σ 96) G 1024 0 0 = pEx (σ 96) G (G + 1) 0 0 from pEx_cut G10 (G + 1) 0 0 (by omega)]
    exact ex_m G10 (G + 1) 0 (by omega) 2000 0 (by omega)
