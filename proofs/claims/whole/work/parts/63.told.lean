set_option linter.unusedVariables false
/-! what would be: wanted, which; check -/
def pUn (t : Nat → Int32) : Nat → Nat → (Nat → Int32) → Option Nat
  | 0, _, _ => none
  | m + 1, i, g => if pYr (-1) g 4 = t i then pUn t m (i + 1) (pYr (-1) g) else some i
def pUnV : Option Nat → Int32
  | none => -1
  | some j => nI j
theorem pUn_b (t : Nat → Int32) : ∀ m i g j, pUn t m i g = some j → j < i + m := by
  intro m
  induction m with
  | zero => intro i g j h; exact no_some h
  | succ m ih =>
    intro i g j h
    have h : (if pYr (-1) g 4 = t i then pUn t m (i + 1) (pYr (-1) g) else some i) = some j := h
    by_cases c : pYr (-1) g 4 = t i
    · rw [if_pos c] at h; have := ih _ _ _ h; omega
    · rw [if_neg c] at h; have := Option.some.inj h; omega
theorem un_c {σ0 : bzS} {t : Nat → Int32} {R Q L z : Nat} (kR : kd R = 4) (lQ : ly R 0 = Q) (nQ : ln Q = L) (hL : L ≤ 50) (hz : z ≤ L) (oR : R < 55 ∨ 70 < R) (oQ : Q < 55 ∨ 70 < Q) (hR : σ0 R 1 = nI z) (hQ : ∀ i, i < z → σ0 Q i = t i) :
    ∀ m i, i + m = z → ∀ (F : Nat) (σ : bzS) (g : Nat → Int32) (y : Nat), m < F → thT (-1) g σ0 σ → pOk g y → y + m < 20000 → ∃ τ, fl_X9_firstUnlike_2 0 R F (nI i) σ = some (pUnV (pUn t m i g), τ) ∧ ∀ k, (k < 55 ∨ 70 < k) → τ k = σ0 k := by
  intro m
  induction m with
  | zero =>
    intro i hi F σ g y hF h hk hy
    obtain ⟨F, rfl⟩ : ∃ x, F = x + 1 := ⟨F - 1, by omega⟩
    have e : i = z := by omega
    refine ⟨σ, ?_, h.2.2⟩
    show fb_X9_firstUnlike_2 (fl_X9_firstUnlike_2 0 R F) 0 R (nI i) σ = _
    unfold fb_X9_firstUnlike_2
    rw [h.2.2 R oR, hR, e, if_pos (Int32.le_refl _)]; rfl
  | succ m ih =>
    intro i hi F σ g y hF h hk hy
    obtain ⟨F, rfl⟩ : ∃ x, F = x + 1 := ⟨F - 1, by omega⟩
    obtain ⟨τ, t1, t2⟩ := th_pass (n := 1) (by decide) h hk (by omega)
    have t1 : f_X0_pass 55 1 σ = some (pYr (-1) g 4, τ) := t1
    have a1 : f_X4_at R (nI i) τ = some (t i) := by
      rw [at_c kR lQ nQ (by rw [t2.2.2 R oR]; exact hR) (show i < z by omega) hz hL, t2.2.2 Q oQ, hQ i (by omega)]
    show ∃ ρ, fb_X9_firstUnlike_2 (fl_X9_firstUnlike_2 0 R F) 0 R (nI i) σ = some (pUnV (if pYr (-1) g 4 = t i then pUn t m (i + 1) (pYr (-1) g) else some i), ρ) ∧ _
    unfold fb_X9_firstUnlike_2
    rw [h.2.2 R oR, hR, if_neg (nI_ge (by omega) (by omega)), l_0_3, t1, bzBpS, a1, bzBdS, bzLetS, nI_1]
    by_cases c : pYr (-1) g 4 = t i
    · rw [if_pos c, if_pos c]; exact ih (i + 1) (by omega) F τ (pYr (-1) g) (y + 1) (by omega) t2 (pYr_ok hk (by omega)) (by omega)
    · rw [if_neg c, if_neg c]; exact ⟨τ, rfl, t2.2.2⟩
theorem fu_c {σ0 σ : bzS} {t : Nat → Int32} {R Q L z y : Nat} {g : Nat → Int32} (kR : kd R = 4) (lQ : ly R 0 = Q) (nQ : ln Q = L) (hL : L ≤ 50) (hz : z ≤ L) (oR : R < 55 ∨ 70 < R) (oQ : Q < 55 ∨ 70 < Q) (hR : σ0 R 1 = nI z) (hQ : ∀ i, i < z → σ0 Q i = t i) (h : thT (-1) g σ0 σ) (hk : pOk g y) (hy : y + z < 20000) : ∃ τ, f_X9_firstUnlike 0 R σ = some (pUnV (pUn t z 0 g), τ) ∧ ∀ k, (k < 55 ∨ 70 < k) → τ k = σ0 k := by
  obtain ⟨τ, t1, t2⟩ := un_c kR lQ nQ hL hz oR oQ hR hQ z 0 (by omega) 2000 σ g y (by omega) h hk hy
  refine ⟨τ, ?_, t2⟩
  unfold f_X9_firstUnlike
  rw [g_0, bzGdT kR]; exact t1
theorem ls_m {f : Nat → Int32} {σ1 : bzS} {t : Nat → Int32} {s z : Nat} (hs : s < 4) (hz : z ≤ 40) (h102 : σ1 102 s = nI z) (h103 : ∀ i, i < z → σ1 103 (40 * s + i) = t i) :
    ∀ m i, i + m = z → ∀ (F : Nat) (σ : bzS) (g : Nat → Int32) (y : Nat), m + 1 < F → mdT (-1) f g σ1 σ → pOk g y → y + m < 20000 → ∃ τ, fl_X10_leansSo_4 95 (nI s) F 1 (nI i) σ = some ((if pUn t m i g = none then 1 else 0), τ) ∧ mdT (-1) f f σ1 τ := by
  have b4 : bzIn (nI s) 4 := bzIn_nI hs (by decide)
  have cs : (nI s).toNatClampNeg = s := clN (by omega)
  have out : ∀ (F i : Nat) (σ : bzS) (g : Nat → Int32), mdT (-1) f g σ1 σ → ∃ τ, fl_X10_leansSo_4 95 (nI s) (F + 1) 0 (nI i) σ = some (0, τ) ∧ mdT (-1) f f σ1 τ := by
    intro F i σ g h
    obtain ⟨τ, t1, t2⟩ := md_back h
    refine ⟨τ, ?_, t2⟩
    show fb_X10_leansSo_4 (fl_X10_leansSo_4 95 (nI s) F) 95 (nI s) 0 (nI i) σ = _
    unfold fb_X10_leansSo_4
    rw [bzGdT b4, if_pos rfl, l_95_2, l_95_0, t1, bzBdS, bzGdT (Or.inl rfl)]
    by_cases c : σ (ly 95 17) (nI s).toNatClampNeg ≤ nI i
    · rw [if_pos c]
    · rw [if_neg c]
  intro m
  induction m with
  | zero =>
    intro i hi F σ g y hF h hk hy
    obtain ⟨F, rfl⟩ : ∃ x, F = x + 1 := ⟨F - 1, by omega⟩
    have e : i = z := by omega
    obtain ⟨τ, t1, t2⟩ := md_back h
    refine ⟨τ, ?_, t2⟩
    show fb_X10_leansSo_4 (fl_X10_leansSo_4 95 (nI s) F) 95 (nI s) 1 (nI i) σ = some (1, τ)
    unfold fb_X10_leansSo_4
    rw [bzGdT b4, l_95_17, cs, h.2.2.2.1 102 (by decide) (by decide) (by decide), h102, e, if_pos (Int32.le_refl _), l_95_2, l_95_0, t1, bzBdS, bzGdT (Or.inr rfl)]
  | succ m ih =>
    intro i hi F σ g y hF h hk hy
    obtain ⟨F, rfl⟩ : ∃ x, F = x + 2 := ⟨F - 2, by omega⟩
    obtain ⟨τ, t1, t2⟩ := md_year h hk
    have ep : 40 * nI s + nI i = nI (40 * s + i) := by rw [show (40 : Int32) = nI 40 from rfl, pk_mul, nI_add]
    have e4 : τ 96 4 = pYr (-1) g 4 := by rw [t2.1]
    have et : τ 103 (40 * s + i) = t i := by rw [t2.2.2.2.1 103 (by decide) (by decide) (by decide)]; exact h103 i (by omega)
    have e0 : fl_X10_leansSo_4 95 (nI s) (F + 2) 1 (nI i) σ = if pYr (-1) g 4 = t i then fl_X10_leansSo_4 95 (nI s) (F + 1) 1 (nI (i + 1)) τ else fl_X10_leansSo_4 95 (nI s) (F + 1) 0 (nI (i + 1)) τ := by
      show fb_X10_leansSo_4 (fl_X10_leansSo_4 95 (nI s) (F + 1)) 95 (nI s) 1 (nI i) σ = _
      unfold fb_X10_leansSo_4
      rw [bzGdT b4, l_95_17, cs, h.2.2.2.1 102 (by decide) (by decide) (by decide), h102, if_neg (nI_ge (show i < z by omega) (by omega)), if_neg one_ne, t1, bzBdS, ep, bzGdT (bzIn_nI (show 40 * s + i < 160 by omega) (by decide)), l_95_18, l_95_0, clN (show 40 * s + i < 2 ^ 31 by omega), et, e4, bzLetS, bzLetS, nI_1]
      by_cases c : pYr (-1) g 4 = t i
      · rw [if_pos c, if_pos c.symm]
      · rw [if_neg c, if_neg (fun q => c q.symm)]
    by_cases c : pYr (-1) g 4 = t i
    · have ec : pUn t (m + 1) i g = pUn t m (i + 1) (pYr (-1) g) := if_pos c
      rw [e0, if_pos c, ec]
      exact ih (i + 1) (by omega) (F + 1) τ (pYr (-1) g) (y + 1) (by omega) t2 (pYr_ok hk (by omega)) (by omega)
    · have ec : pUn t (m + 1) i g = some i := if_neg c
      rw [e0, if_neg c, ec, if_neg (fun q => no_some q.symm)]
      exact out F (i + 1) τ _ t2
theorem leans_m {f g : Nat → Int32} {σ1 σ : bzS} {t : Nat → Int32} {s z y : Nat} (hs : s < 4) (hz : z ≤ 40) (h102 : σ1 102 s = nI z) (h103 : ∀ i, i < z → σ1 103 (40 * s + i) = t i) (h : mdT (-1) f g σ1 σ) (hk : pOk g y) (hy : y + z < 20000) : ∃ τ, f_X10_leansSo 95 (nI s) σ = some ((if pUn t z 0 g = none then 1 else 0), τ) ∧ mdT (-1) f f σ1 τ := by
  obtain ⟨τ, t1, t2⟩ := ls_m hs hz h102 h103 z 0 (by omega) 2000 σ g y (by omega) h hk hy
  exact ⟨τ, t1, t2⟩
/-! counting -/
def cntP (P : Nat → Bool) : Nat → Nat → Nat
  | 0, _ => 0
  | k + 1, i => (if P i = true then 1 else 0) + cntP P k (i + 1)
def fstP (P : Nat → Bool) : Nat → Nat → Option Nat
  | 0, _ => none
  | k + 1, i => if P i = true then some i else fstP P k (i + 1)
theorem cntP_r (P : Nat → Bool) : ∀ k i, cntP P (k + 1) i = cntP P k i + (if P (i + k) = true then 1 else 0) := by
  intro k
  induction k with
  | zero => intro i; show _ + 0 = 0 + _; rw [Nat.add_zero, Nat.zero_add, Nat.add_zero]
  | succ k ih =>
    intro i
    have e : cntP P (k + 1 + 1) i = (if P i = true then 1 else 0) + cntP P (k + 1) (i + 1) := rfl
    have e2 : cntP P (k + 1) i = (if P i = true then 1 else 0) + cntP P k (i + 1) := rfl
    rw [e, ih (i + 1), e2, show i + 1 + k = i + (k + 1) by omega, Nat.add_assoc]
theorem fstP_r (P : Nat → Bool) : ∀ k i, fstP P (k + 1) i = (match fstP P k i with | some w => some w | none => if P (i + k) = true then some (i + k) else none) := by
  intro k
  induction k with
  | zero => intro i; rfl
  | succ k ih =>
    intro i
    have e : fstP P (k + 1 + 1) i = if P i = true then some i else fstP P (k + 1) (i + 1) := rfl
    have e2 : fstP P (k + 1) i = if P i = true then some i else fstP P k (i + 1) := rfl
    rw [e, e2]
    by_cases c : P i = true
    · rw [if_pos c, if_pos c]
    · rw [if_neg c, if_neg c, ih (i + 1), show i + 1 + k = i + (k + 1) by omega]
theorem cntP_le (P : Nat → Bool) : ∀ k i, cntP P k i ≤ k := by
  intro k
  induction k with
  | zero => intro i; exact Nat.le_refl _
  | succ k ih =>
    intro i
    have e2 : cntP P (k + 1) i = (if P i = true then 1 else 0) + cntP P k (i + 1) := rfl
    have := ih (i + 1)
    rw [e2]
    by_cases c : P i = true
    · rw [if_pos c]; omega
    · rw [if_neg c]; omega
theorem fstP_cs (P : Nat → Bool) : ∀ k i, (fstP P k i = none ∧ cntP P k i = 0) ∨ ∃ w, fstP P k i = some w ∧ i ≤ w ∧ w < i + k ∧ 0 < cntP P k i := by
  intro k
  induction k with
  | zero => intro i; exact Or.inl ⟨rfl, rfl⟩
  | succ k ih =>
    intro i
    have e : fstP P (k + 1) i = if P i = true then some i else fstP P k (i + 1) := rfl
    have e2 : cntP P (k + 1) i = (if P i = true then 1 else 0) + cntP P k (i + 1) := rfl
    rw [e, e2]
    by_cases c : P i = true
    · rw [if_pos c, if_pos c]; exact Or.inr ⟨i, rfl, Nat.le_refl _, by omega, by omega⟩
    · rw [if_neg c, if_neg c]
      rcases ih (i + 1) with ⟨h1, h2⟩ | ⟨w, h1, h2, h3, h4⟩
      · exact Or.inl ⟨h1, by rw [h2]⟩
      · exact Or.inr ⟨w, h1, by omega, by omega, by omega⟩
def lstC : Option Nat → Int32
  | none => 100
  | some w => nI w
def lstM : Option Nat → Int32
  | none => -1000000002
  | some w => nI w
abbrev wnP (f t : Nat → Int32) (z : Nat) : Nat → Bool := fun w => (pUn t z 0 (upd f 3 (nI w))).isNone
theorem wn_c {n0 y s z : Nat} {σ0 : bzS} {t : Nat → Int32} {a1 a2 : Int32} (hI : bzInv n0 σ0) (hy : y ≤ 9999) (hk : pOk (σ0 96) y) (hs : s < 4) (hz : z ≤ 40) (hR : σ0 (84 + 3 * s) 1 = nI z) (hQ : ∀ i, i < z → σ0 (85 + 3 * s) i = t i) :
    ∀ m v, v + m = 100 → ∀ (F : Nat) (σ : bzS), m < F → (∀ k, (k < 55 ∨ 70 < k) → σ k = σ0 k) → ∃ G τ, fl_X9_wanted_50 0 a1 a2 F (83 + 3 * s) (nI (cntP (wnP (σ0 96) t z) v 0)) (lstC (fstP (wnP (σ0 96) t z) v 0)) (nI v) σ = fl_X9_wanted_50 0 a1 a2 (G + 1) (83 + 3 * s) (nI (cntP (wnP (σ0 96) t z) 100 0)) (lstC (fstP (wnP (σ0 96) t z) 100 0)) (nI 100) τ ∧ ∀ k, (k < 55 ∨ 70 < k) → τ k = σ0 k := by
  obtain ⟨l1, l2, l3, l4, l5, l6⟩ := sh_l s hs
  intro m
  induction m with
  | zero =>
    intro v hv F σ hF h
    obtain ⟨F, rfl⟩ : ∃ x, F = x + 1 := ⟨F - 1, by omega⟩
    have e : v = 100 := by omega
    subst e
    exact ⟨F, σ, rfl, h⟩
  | succ m ih =>
    intro v hv F σ hF h
    obtain ⟨F, rfl⟩ : ∃ x, F = x + 1 := ⟨F - 1, by omega⟩
    obtain ⟨τ, t1, t2⟩ := th_new hI h
    have t3 := th_set (p := 3) (c := 55) (j := 5) (nI v) t2 rfl rfl rfl (by decide)
    obtain ⟨κ, k1, k2⟩ := fu_c l4 l5 l6 (by decide) hz (by omega) (by omega) hR hQ t3 (pOk_want hk (show v ≤ 99 by omega)) (by omega)
    obtain ⟨G, ω, w1, w2⟩ := ih (v + 1) (by omega) F κ (by omega) k2
    refine ⟨G, ω, Eq.trans ?_ w1, w2⟩
    show fb_X9_wanted_50 (fl_X9_wanted_50 0 a1 a2 F) 0 a1 a2 (83 + 3 * s) _ _ (nI v) σ = _
    unfold fb_X9_wanted_50
    rw [if_neg (show ¬ (99 : Int32) < nI v from nI_nlt (a := 99) (by omega) (by decide)), t1, bzBdS, l_0_3, bzLetS, l3, k1, bzBpS, bzLetS, bzLetS, nI_1, nI_1, min_c, bzBdS, bzLetS]
    rw [cntP_r, fstP_r, Nat.zero_add]
    cases hp : pUn t z 0 (upd (σ0 96) 3 (nI v)) with
    | some j =>
      have hj := pUn_b _ _ _ _ _ hp
      have np : ¬ wnP (σ0 96) t z v = true := by show ¬ (pUn t z 0 (upd (σ0 96) 3 (nI v))).isNone = true; rw [hp]; exact Bool.false_ne_true
      rw [if_neg np, if_neg np]
      show (if 0 ≤ nI j then _ else _) = _
      rw [if_pos (show (0 : Int32) ≤ nI j from nI_pos' (by omega)), Nat.add_zero]
      cases fstP (wnP (σ0 96) t z) v 0 <;> rfl
    | none =>
      have np : wnP (σ0 96) t z v = true := by show (pUn t z 0 (upd (σ0 96) 3 (nI v))).isNone = true; rw [hp]; rfl
      rw [if_pos np, if_pos np]
      show (if (0 : Int32) ≤ -1 then _ else _) = _
      rw [if_neg (by decide)]
      rcases fstP_cs (wnP (σ0 96) t z) v 0 with ⟨h1, -⟩ | ⟨w, h1, h2, h3, -⟩
      · rw [h1, show pMin (lstC none) (nI v) = nI v from if_pos (show nI v < 100 from nI_lt (b := 100) (by omega) (by decide))]; rfl
      · rw [h1, show pMin (lstC (some w)) (nI v) = nI w from if_neg (show ¬ nI v < nI w from nI_nlt (by omega) (by omega))]; rfl
theorem wn_m {f : Nat → Int32} {y s z : Nat} {σ1 : bzS} {t : Nat → Int32} {a2 : Int32} (hy : y ≤ 9999) (hk : pOk f y) (hs : s < 4) (hz : z ≤ 40) (h102 : σ1 102 s = nI z) (h103 : ∀ i, i < z → σ1 103 (40 * s + i) = t i) :
    ∀ m k, k + m = 100 → ∀ (F : Nat) (σ : bzS) (L : Int32), m < F → L = nI m - 1 → mdT (-1) f f σ1 σ → ∃ G τ, fl_X10_wanted_61 95 (nI s) a2 F (nI (cntP (wnP f t z) k m)) (lstM (fstP (wnP f t z) k m)) L σ = fl_X10_wanted_61 95 (nI s) a2 (G + 1) (nI (cntP (wnP f t z) 100 0)) (lstM (fstP (wnP f t z) 100 0)) (-1) τ ∧ mdT (-1) f f σ1 τ := by
  intro m
  induction m with
  | zero =>
    intro k hk0 F σ L hF hL h
    obtain ⟨F, rfl⟩ : ∃ x, F = x + 1 := ⟨F - 1, by omega⟩
    have e : k = 100 := by omega
    subst e
    have eL : L = -1 := hL
    subst eL
    exact ⟨F, σ, rfl, h⟩
  | succ m ih =>
    intro k hk0 F σ L hF hL h
    obtain ⟨F, rfl⟩ : ∃ x, F = x + 1 := ⟨F - 1, by omega⟩
    have eL : L = nI m := by rw [hL, nI_pred]
    subst eL
    obtain ⟨κ, k1, k2⟩ := leans_m hs hz h102 h103 (md_set (p := 3) (nI m) h (by decide)) (pOk_want hk (show m ≤ 99 by omega)) (by omega)
    obtain ⟨G, ω, w1, w2⟩ := ih (k + 1) (by omega) F κ (nI m - 1) (by omega) rfl k2
    refine ⟨G, ω, Eq.trans ?_ w1, w2⟩
    have e2 : cntP (wnP f t z) (k + 1) m = (if wnP f t z m = true then 1 else 0) + cntP (wnP f t z) k (m + 1) := rfl
    have e3 : fstP (wnP f t z) (k + 1) m = if wnP f t z m = true then some m else fstP (wnP f t z) k (m + 1) := rfl
    show fb_X10_wanted_61 (fl_X10_wanted_61 95 (nI s) a2 F) 95 (nI s) a2 _ _ (nI m) σ = _
    unfold fb_X10_wanted_61
    rw [if_neg (nI_n0 (by omega)), l_95_0, bzLetS, k1, bzBpS, e2, e3]
    simp only [bzLet]
    rw [show nI m + -1 = nI m - 1 from (Int32.sub_eq_add_neg _ _).symm]
    by_cases hp : pUn t z 0 (upd f 3 (nI m)) = none
    · have np : wnP f t z m = true := by show (pUn t z 0 (upd f 3 (nI m))).isNone = true; rw [hp]; rfl
      rw [if_pos hp, if_pos np, if_pos np, if_neg one_ne, if_neg one_ne, nI_1, Nat.add_comm]; rfl
    · have np : ¬ wnP f t z m = true := by
        show ¬ (pUn t z 0 (upd f 3 (nI m))).isNone = true
        cases hq : pUn t z 0 (upd f 3 (nI m)) with
        | none => exact absurd hq hp
        | some j => exact Bool.false_ne_true
      rw [if_neg hp, if_neg np, if_neg np, if_pos rfl, if_pos rfl, Int32.add_zero, Nat.zero_add]
