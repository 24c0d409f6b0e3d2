set_option linter.unusedVariables false
/-! house -/
/-- the tree at a row and a place; over the edges none -/
def pT (f : Nat → Int32) (r p : Int32) : Int32 := if r < 0 ∨ 7 < r then 0 else if p < 0 ∨ 7 < p then 0 else (f (44 + r.toNatClampNeg) >>> (p &&& 31)) &&& 1
theorem pT_c {σ : bzS} {f : Nat → Int32} (h : bzSR σ 1 f) (r p : Int32) : f_X1_treeAt 18 r p σ = some (pT f r p) := by
  unfold f_X1_treeAt pT
  rw [g_18, l_18_2]
  rcases cutR r (n := 7) (lo := 0) (N := 7) rfl (Or.inl rfl) (by decide) with c | ⟨c, c', k, hk, rfl⟩
  · rw [if_pos c, ip_0 (a := r) (k := 21) (c.imp id (fun h => (out_ge (n := 7) (by decide) (Or.inr h)).resolve_left (fun q => Int32.lt_irrefl (Int32.lt_trans (Int32.lt_trans q (by decide : (0 : Int32) < 7)) h)))) (Or.inl rfl), bzBdS, if_pos rfl]
  · have hn : ¬ (nI k < 0 ∨ 7 < nI k) := fun h => h.elim c c'
    obtain ⟨q1, q2, q3, q4⟩ := row_p k (by omega)
    have e := h.1 _ q1
    rw [q2, q3] at e
    have e : σ 21 k = f (44 + k) := e
    rw [if_neg hn, ip_1 (i := k) (k := 21) (show k < 8 by omega) (by decide) (Or.inl rfl), bzBdS, if_neg one_ne]
    by_cases d : p < 0 ∨ 7 < p
    · rw [if_pos d, wi_0 d, bzBdS, if_pos rfl]
    · rw [if_neg d, wi_1 (fun q => d (Or.inl q)) (fun q => d (Or.inr q)), bzBdS, if_neg one_ne, bzGdT (bzIn_nI (show k < 8 by omega) (by decide)), clN (by omega), e]
theorem pT_m {σ : bzS} (r p : Int32) : f_X10_tree 95 r p σ = some (pT (σ 96) r p) := by
  unfold f_X10_tree pT
  rw [g_95]
  rcases cutR r (n := 7) (lo := 0) (N := 7) rfl (Or.inl rfl) (by decide) with c | ⟨c, c', k, hk, rfl⟩
  · rw [if_pos c, in_0 c, bzBdS, if_pos rfl]
  · have hn : ¬ (nI k < 0 ∨ 7 < nI k) := fun h => h.elim c c'
    have e44 : (44 : Int32) + nI k = nI (44 + k) := nI_add 44 k
    rw [if_neg hn, in_1 c c', bzBdS, if_neg one_ne]
    by_cases d : p < 0 ∨ 7 < p
    · rw [if_pos d, in_0 d, bzBdS, if_pos rfl]
    · rw [if_neg d, in_1 (fun q => d (Or.inl q)) (fun q => d (Or.inr q)), bzBdS, if_neg one_ne, e44, bzGdT (bzIn_nI (show 44 + k < 254 by omega) (by decide)), l_95_0, clN (by omega), clN (by omega)]
/-- trees of a row, of a line, bit by bit -/
def pRo (f : Nat → Int32) (r : Int32) : Nat → Nat → Int32 → Int32
  | 0, _, x => x
  | m + 1, v, x => pRo f r m (v + 1) (x + pT f r (nI v))
def pLn (f : Nat → Int32) (p : Int32) : Nat → Nat → Int32 → Int32
  | 0, _, x => x
  | m + 1, v, x => pLn f p m (v + 1) (x + pT f (nI v) p)
def s8 (x : Int32) : Int32 := ((((((((0 + ((x >>> (nI 0 &&& 31)) &&& 1)) + ((x >>> (nI 1 &&& 31)) &&& 1)) + ((x >>> (nI 2 &&& 31)) &&& 1)) + ((x >>> (nI 3 &&& 31)) &&& 1)) + ((x >>> (nI 4 &&& 31)) &&& 1)) + ((x >>> (nI 5 &&& 31)) &&& 1)) + ((x >>> (nI 6 &&& 31)) &&& 1)) + ((x >>> (nI 7 &&& 31)) &&& 1))
theorem s8_ones : ∀ v, v < 256 → f_X10_ones (nI v) = some (s8 (nI v)) := by decide +kernel
theorem pT_in (f : Nat → Int32) {r p : Nat} (hr : r < 8) (hp : p < 8) : pT f (nI r) (nI p) = (f (44 + r) >>> (nI p &&& 31)) &&& 1 := by
  unfold pT
  rw [if_neg (show ¬ (nI r < 0 ∨ 7 < nI r) from fun h => h.elim (nI_n0 (by omega)) (nI_nlt (a := 7) (by omega) (by decide))), if_neg (show ¬ (nI p < 0 ∨ 7 < nI p) from fun h => h.elim (nI_n0 (by omega)) (nI_nlt (a := 7) (by omega) (by decide))), clN (by omega)]
theorem pRo_s8 (f : Nat → Int32) {r : Nat} (hr : r < 8) : pRo f (nI r) 8 0 0 = s8 (f (44 + r)) := by
  show ((((((((0 + pT f (nI r) (nI 0)) + pT f (nI r) (nI 1)) + pT f (nI r) (nI 2)) + pT f (nI r) (nI 3)) + pT f (nI r) (nI 4)) + pT f (nI r) (nI 5)) + pT f (nI r) (nI 6)) + pT f (nI r) (nI 7)) = _
  rw [pT_in f hr (by decide), pT_in f hr (by decide), pT_in f hr (by decide), pT_in f hr (by decide), pT_in f hr (by decide), pT_in f hr (by decide), pT_in f hr (by decide), pT_in f hr (by decide)]
  rfl
theorem ro_c {n : Nat} {σ : bzS} (hI : bzInv n σ) {r : Nat} (hr : r < 8) : f_X1_treesOfRow 18 (nI r) σ = some (pRo (σ 96) (nI r) 8 0 0) := by
  obtain ⟨t1, t2⟩ := trees_r hI hr
  obtain ⟨v, hv, ev⟩ := hI.2.1.1.1 (44 + r) (row_p r hr).1 (by omega) (by omega)
  rw [(row_p r hr).2.2.2] at hv
  have h := s8_ones v (by omega)
  rw [← ev, t2] at h
  rw [t1, pRo_s8 _ hr]
  exact h
theorem ln_c {σ : bzS} {f : Nat → Int32} (h : bzSR σ 1 f) (p : Int32) : ∀ m v, v + m = 8 → ∀ (F : Nat) (x : Int32), m < F → fl_X1_treesOfLine_4 18 p σ F x (nI v) = some (pLn f p m v x) := by
  intro m
  induction m with
  | zero =>
    intro v hv F x hF
    obtain ⟨F, rfl⟩ : ∃ x, F = x + 1 := ⟨F - 1, by omega⟩
    have e : v = 8 := by omega
    subst e
    show fb_X1_treesOfLine_4 (fl_X1_treesOfLine_4 18 p σ F) 18 p σ x (nI 8) = _
    unfold fb_X1_treesOfLine_4
    rw [if_pos (show (8 : Int32) ≤ nI 8 by decide)]; rfl
  | succ m ih =>
    intro v hv F x hF
    obtain ⟨F, rfl⟩ : ∃ x, F = x + 1 := ⟨F - 1, by omega⟩
    show fb_X1_treesOfLine_4 (fl_X1_treesOfLine_4 18 p σ F) 18 p σ x (nI v) = _
    unfold fb_X1_treesOfLine_4
    rw [if_neg (show ¬ (8 : Int32) ≤ nI v from nI_ge (b := 8) (by omega) (by decide)), pT_c h, bzBdS, bzLetS, bzLetS, nI_1]
    exact ih (v + 1) (by omega) F _ (by omega)
theorem by0_m {σ : bzS} (r p : Int32) : ∀ m v, v + m = 8 → ∀ (F : Nat) (x : Int32), m < F → fl_X10_treesBy_6 95 r p 0 σ F x (nI v) = some (pRo (σ 96) r m v x) := by
  intro m
  induction m with
  | zero =>
    intro v hv F x hF
    obtain ⟨F, rfl⟩ : ∃ x, F = x + 1 := ⟨F - 1, by omega⟩
    have e : v = 8 := by omega
    subst e
    show fb_X10_treesBy_6 (fl_X10_treesBy_6 95 r p 0 σ F) 95 r p 0 σ x (nI 8) = _
    unfold fb_X10_treesBy_6
    rw [if_pos (show (8 : Int32) ≤ nI 8 by decide)]
    show fb_X10_treesBy_53 (fl_X10_treesBy_53 95 r p 0 σ 1999) 95 r p 0 σ x 0 = some x
    unfold fb_X10_treesBy_53
    rw [if_neg (by decide), if_neg (by decide)]
  | succ m ih =>
    intro v hv F x hF
    obtain ⟨F, rfl⟩ : ∃ x, F = x + 1 := ⟨F - 1, by omega⟩
    show fb_X10_treesBy_6 (fl_X10_treesBy_6 95 r p 0 σ F) 95 r p 0 σ x (nI v) = _
    unfold fb_X10_treesBy_6
    rw [if_neg (show ¬ (8 : Int32) ≤ nI v from nI_ge (b := 8) (by omega) (by decide)), if_neg (show ¬ (2 : Int32) ≤ 0 by decide), if_pos rfl, pT_m, bzBdS, bzLetS, bzLetS, nI_1]
    exact ih (v + 1) (by omega) F _ (by omega)
theorem by1_m {σ : bzS} (r p : Int32) : ∀ m v, v + m = 8 → ∀ (F : Nat) (x : Int32), m < F → fl_X10_treesBy_6 95 r p 1 σ F x (nI v) = some (pLn (σ 96) p m v x) := by
  intro m
  induction m with
  | zero =>
    intro v hv F x hF
    obtain ⟨F, rfl⟩ : ∃ x, F = x + 1 := ⟨F - 1, by omega⟩
    have e : v = 8 := by omega
    subst e
    show fb_X10_treesBy_6 (fl_X10_treesBy_6 95 r p 1 σ F) 95 r p 1 σ x (nI 8) = _
    unfold fb_X10_treesBy_6
    rw [if_pos (show (8 : Int32) ≤ nI 8 by decide)]
    show fb_X10_treesBy_53 (fl_X10_treesBy_53 95 r p 1 σ 1999) 95 r p 1 σ x 0 = some x
    unfold fb_X10_treesBy_53
    rw [if_neg (by decide), if_neg (by decide)]
  | succ m ih =>
    intro v hv F x hF
    obtain ⟨F, rfl⟩ : ∃ x, F = x + 1 := ⟨F - 1, by omega⟩
    show fb_X10_treesBy_6 (fl_X10_treesBy_6 95 r p 1 σ F) 95 r p 1 σ x (nI v) = _
    unfold fb_X10_treesBy_6
    rw [if_neg (show ¬ (8 : Int32) ≤ nI v from nI_ge (b := 8) (by omega) (by decide)), if_neg (show ¬ (2 : Int32) ≤ 1 by decide), if_neg one_ne, pT_m, bzBdS, bzLetS, bzLetS, nI_1]
    exact ih (v + 1) (by omega) F _ (by omega)
/-- three in a row -/
def t3 (f : Nat → Int32) (x r q : Int32) : Int32 := ((x + pT f r q) + pT f r (q + 1)) + pT f r (q + 1 + 1)
theorem edge : ∀ p, p < 8 → ¬ (nI p + 1 < nI p - 1) ∧ ¬ (nI p + 1 < nI p - 1 + 1) ∧ ¬ (nI p + 1 < nI p - 1 + 1 + 1) ∧ nI p + 1 < nI p - 1 + 1 + 1 + 1 := by decide +kernel
theorem nr_c {σ : bzS} {f : Nat → Int32} (h : bzSR σ 1 f) {K : Int32 → Int32 → Option Int32} {a : Int32} {p : Nat} (hp : p < 8) (x r : Int32) : fl_X1_treesNextTo_26 K 18 a (nI p) σ 2000 x r (nI p - 1) = K (t3 f x r (nI p - 1)) (r + 1) := by
  obtain ⟨e1, e2, e3, e4⟩ := edge p hp
  have step : ∀ (F : Nat) (x q : Int32), ¬ (nI p + 1 < q) → fl_X1_treesNextTo_26 K 18 a (nI p) σ (F + 1) x r q = fl_X1_treesNextTo_26 K 18 a (nI p) σ F (x + pT f r q) r (q + 1) := by
    intro F x q hq
    show fb_X1_treesNextTo_26 K (fl_X1_treesNextTo_26 K 18 a (nI p) σ F) 18 a (nI p) σ x r q = _
    unfold fb_X1_treesNextTo_26
    rw [if_neg hq, pT_c h, bzBdS, bzLetS, bzLetS]
  have last : ∀ (F : Nat) (x q : Int32), nI p + 1 < q → fl_X1_treesNextTo_26 K 18 a (nI p) σ (F + 1) x r q = K x (r + 1) := by
    intro F x q hq
    show fb_X1_treesNextTo_26 K (fl_X1_treesNextTo_26 K 18 a (nI p) σ F) 18 a (nI p) σ x r q = _
    unfold fb_X1_treesNextTo_26
    rw [if_pos hq, bzLetS]
  rw [step 1999 _ _ e1, step 1998 _ _ e2, step 1997 _ _ e3, last 1996 _ _ e4]
  rfl
theorem nt_c {σ : bzS} {f : Nat → Int32} (h : bzSR σ 1 f) {r p : Nat} (hr : r < 8) (hp : p < 8) : f_X1_treesNextTo 18 (nI r) (nI p) σ = some (t3 f (t3 f (t3 f (-(pT f (nI r) (nI p))) (nI r - 1) (nI p - 1)) (nI r - 1 + 1) (nI p - 1)) (nI r - 1 + 1 + 1) (nI p - 1)) := by
  obtain ⟨e1, e2, e3, e4⟩ := edge r hr
  have step : ∀ (F : Nat) (x q : Int32), ¬ (nI r + 1 < q) → fl_X1_treesNextTo_13 18 (nI r) (nI p) σ (F + 1) x q = fl_X1_treesNextTo_13 18 (nI r) (nI p) σ F (t3 f x q (nI p - 1)) (q + 1) := by
    intro F x q hq
    show fb_X1_treesNextTo_13 (fl_X1_treesNextTo_13 18 (nI r) (nI p) σ F) 18 (nI r) (nI p) σ x q = _
    unfold fb_X1_treesNextTo_13
    rw [if_neg hq, bzLetS, nr_c h hp]
  have last : ∀ (F : Nat) (x q : Int32), nI r + 1 < q → fl_X1_treesNextTo_13 18 (nI r) (nI p) σ (F + 1) x q = some x := by
    intro F x q hq
    show fb_X1_treesNextTo_13 (fl_X1_treesNextTo_13 18 (nI r) (nI p) σ F) 18 (nI r) (nI p) σ x q = _
    unfold fb_X1_treesNextTo_13
    rw [if_pos hq]
  unfold f_X1_treesNextTo
  rw [g_18, pT_c h, bzBdS, bzLetS, bzLetS, step 1999 _ _ e1, step 1998 _ _ e2, step 1997 _ _ e3, last 1996 _ _ e4]
theorem by2_m {σ : bzS} (r p : Int32) : f_X10_treesBy 95 r p 2 σ = some ((((((((0 + pT (σ 96) (r - 1 + 0) (p - 1 + 0)) + pT (σ 96) (r - 1 + 0) (p - 1 + 1)) + pT (σ 96) (r - 1 + 0) (p - 1 + 2)) + pT (σ 96) (r - 1 + 1) (p - 1 + 0)) + pT (σ 96) (r - 1 + 1) (p - 1 + 2)) + pT (σ 96) (r - 1 + 2) (p - 1 + 0)) + pT (σ 96) (r - 1 + 2) (p - 1 + 1)) + pT (σ 96) (r - 1 + 2) (p - 1 + 2)) := by
  have step : ∀ (F : Nat) (x v : Int32) (a b w : Int32), ¬ (9 : Int32) ≤ v → ¬ v = 4 → v / 3 = a → v - v / 3 * 3 = b → v + 1 = w → fl_X10_treesBy_53 95 r p 2 σ (F + 1) x v = fl_X10_treesBy_53 95 r p 2 σ F (x + pT (σ 96) (r - 1 + a) (p - 1 + b)) w := by
    intro F x v a b w h1 h2 h3 h4 h5
    show fb_X10_treesBy_53 (fl_X10_treesBy_53 95 r p 2 σ F) 95 r p 2 σ x v = _
    unfold fb_X10_treesBy_53
    rw [if_neg h1, if_pos rfl, if_neg h2, h4, h3, pT_m, bzBdS, bzLetS, bzLetS, h5]
  have mid : ∀ (F : Nat) (x : Int32), fl_X10_treesBy_53 95 r p 2 σ (F + 1) x 4 = fl_X10_treesBy_53 95 r p 2 σ F x 5 := by
    intro F x
    show fb_X10_treesBy_53 (fl_X10_treesBy_53 95 r p 2 σ F) 95 r p 2 σ x 4 = _
    unfold fb_X10_treesBy_53
    rw [if_neg (by decide), if_pos rfl, if_pos rfl, bzLetS, bzLetS, Int32.add_zero]; rfl
  have last : ∀ (F : Nat) (x : Int32), fl_X10_treesBy_53 95 r p 2 σ (F + 1) x 9 = some x := by
    intro F x
    show fb_X10_treesBy_53 (fl_X10_treesBy_53 95 r p 2 σ F) 95 r p 2 σ x 9 = _
    unfold fb_X10_treesBy_53
    rw [if_pos (by decide)]
  unfold f_X10_treesBy
  rw [g_95]
  show fb_X10_treesBy_6 (fl_X10_treesBy_6 95 r p 2 σ 1999) 95 r p 2 σ 0 0 = _
  unfold fb_X10_treesBy_6
  rw [if_neg (by decide), if_pos (by decide)]
  rw [step 1999 0 0 0 0 1 (by decide) (by decide) rfl rfl rfl, step 1998 _ 1 0 1 2 (by decide) (by decide) rfl rfl rfl, step 1997 _ 2 0 2 3 (by decide) (by decide) rfl rfl rfl, step 1996 _ 3 1 0 4 (by decide) (by decide) rfl rfl rfl, mid 1995, step 1994 _ 5 1 2 6 (by decide) (by decide) rfl rfl rfl, step 1993 _ 6 2 0 7 (by decide) (by decide) rfl rfl rfl, step 1992 _ 7 2 1 8 (by decide) (by decide) rfl rfl rfl, step 1991 _ 8 2 2 9 (by decide) (by decide) rfl rfl rfl, last 1990]
theorem nine (t a b c d e g h i : Int32) : ((((((((-t + a) + b) + c) + d) + t) + e) + g) + h) + i = (((((((0 + a) + b) + c) + d) + e) + g) + h) + i := by
  have k : ((((-t + a) + b) + c) + d) + t = ((((-t + t) + a) + b) + c) + d := by ac_rfl
  rw [k, Int32.add_left_neg]
theorem nt_by (f : Nat → Int32) (r p : Int32) : t3 f (t3 f (t3 f (-(pT f r p)) (r - 1) (p - 1)) (r - 1 + 1) (p - 1)) (r - 1 + 1 + 1) (p - 1) = (((((((0 + pT f (r - 1 + 0) (p - 1 + 0)) + pT f (r - 1 + 0) (p - 1 + 1)) + pT f (r - 1 + 0) (p - 1 + 2)) + pT f (r - 1 + 1) (p - 1 + 0)) + pT f (r - 1 + 1) (p - 1 + 2)) + pT f (r - 1 + 2) (p - 1 + 0)) + pT f (r - 1 + 2) (p - 1 + 1)) + pT f (r - 1 + 2) (p - 1 + 2) := by
  have e2 : ∀ x : Int32, x + 1 + 1 = x + 2 := fun x => by rw [Int32.add_assoc]; rfl
  unfold t3
  rw [e2, e2, Int32.add_zero, Int32.add_zero]
  have hc : pT f (r - 1 + 1) (p - 1 + 1) = pT f r p := by rw [Int32.sub_add_cancel, Int32.sub_add_cancel]
  rw [hc]
  exact nine _ _ _ _ _ _ _ _ _
