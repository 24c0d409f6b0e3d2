set_option linter.unusedVariables false
/-! gait -/
def tum (v : Nat) : Bool := decide (f_X1_tumbles (nI v) = some 1)
theorem tum_T : ∀ v, v < 16 → f_X1_tumbles (nI v) = some (b01 (tum v)) ∧ f_X10_stands (nI v) = some (b01 (!tum v)) := by decide +kernel
theorem xor_T : ∀ v, v < 16 → nI v ^^^ 1 = nI (v ^^^ 1) ∧ nI v ^^^ 2 = nI (v ^^^ 2) ∧ nI v ^^^ 4 = nI (v ^^^ 4) ∧ nI v ^^^ 8 = nI (v ^^^ 8) := by decide +kernel
theorem xor_L : ∀ v, v < 16 → (v ^^^ 1) < 16 ∧ (v ^^^ 2) < 16 ∧ (v ^^^ 4) < 16 ∧ (v ^^^ 8) < 16 := by decide +kernel
def pSt (W : Nat → Int32) (v : Nat) : Int32 := if tum v = true then 0 else ((W (v ^^^ 1) + W (v ^^^ 2)) + W (v ^^^ 4)) + W (v ^^^ 8)
def pIn (fe v : Nat) : Int32 := if v = fe then (if tum v = true then 0 else 1) else 0
def pIt : Nat → (Nat → Int32) → Nat → Int32
  | 0, W => W
  | m + 1, W => pIt m (pSt W)
theorem pIt_s : ∀ m W, pIt (m + 1) W = pSt (pIt m W) := by
  intro m
  induction m with
  | zero => intro W; rfl
  | succ m ih => intro W; exact ih (pSt W)
theorem pIt_t {fe : Nat} (h : tum fe = true) (n : Nat) : pIt n (pIn fe) fe = 0 := by
  cases n with
  | zero => show (if fe = fe then (if tum fe = true then 0 else 1) else 0) = (0 : Int32); rw [if_pos rfl, if_pos h]
  | succ n => rw [pIt_s]; exact if_pos h
theorem mf_c {W : Nat → Int32} : ∀ m v, v + m = 16 → ∀ (F : Nat) (σ : bzS), m < F → (∀ j, j < 16 → σ 22 j = W j) → (∀ j, j < v → σ 23 j = pSt W j) → ∃ τ, fl_X1_moveOneFoot_2 18 F (nI v) σ = some τ ∧ (∀ j, j < 16 → τ 22 j = pSt W j) ∧ ∀ k, k ≠ 22 → k ≠ 23 → τ k = σ k := by
  intro m
  induction m with
  | zero =>
    intro v hv F σ hF hW hX
    obtain ⟨F, rfl⟩ : ∃ x, F = x + 1 := ⟨F - 1, by omega⟩
    have e : v = 16 := by omega
    subst e
    refine ⟨bzSa σ 22 (va_cpy (σ 23) (σ 22) 0 0 16), ?_, fun j hj => ?_, fun k h1 _ => sa_o h1⟩
    · show fb_X1_moveOneFoot_2 (fl_X1_moveOneFoot_2 18 F) 18 (nI 16) σ = _
      unfold fb_X1_moveOneFoot_2
      rw [if_pos (show (16 : Int32) ≤ nI 16 by decide)]; rfl
    · rw [sa_s, pk_cpy_in (Nat.zero_le _) (by omega), Nat.zero_add, Nat.sub_zero]; exact hX j hj
  | succ m ih =>
    intro v hv F σ hF hW hX
    obtain ⟨F, rfl⟩ : ∃ x, F = x + 1 := ⟨F - 1, by omega⟩
    have hv16 : v < 16 := by omega
    obtain ⟨x1, x2, x3, x4⟩ := xor_T v hv16
    obtain ⟨y1, y2, y3, y4⟩ := xor_L v hv16
    have go : ∀ X, X = pSt W v → ∃ τ, fl_X1_moveOneFoot_2 18 F (nI (v + 1)) (bzSt σ 23 v X) = some τ ∧ (∀ j, j < 16 → τ 22 j = pSt W j) ∧ ∀ k, k ≠ 22 → k ≠ 23 → τ k = σ k := by
      intro X hX2
      obtain ⟨τ, t1, t2, t3⟩ := ih (v + 1) (by omega) F (bzSt σ 23 v X) (by omega) (fun j hj => by rw [st_o (by decide)]; exact hW j hj) (fun j hj => by
        rw [st_s]
        by_cases c : j = v
        · subst c; rw [pk_us]; exact hX2
        · rw [pk_un c]; exact hX j (by omega))
      exact ⟨τ, t1, t2, fun k h1 h2 => by rw [t3 k h1 h2, st_o h2]⟩
    show ∃ τ, fb_X1_moveOneFoot_2 (fl_X1_moveOneFoot_2 18 F) 18 (nI v) σ = some τ ∧ _
    unfold fb_X1_moveOneFoot_2
    rw [if_neg (show ¬ (16 : Int32) ≤ nI v from nI_ge (b := 16) hv16 (by decide)), (tum_T v hv16).1, bzBdS]
    unfold fb_X1_moveOneFoot_20
    cases ht : tum v with
    | true =>
      rw [show b01 true = 1 from rfl, if_neg one_ne, if_pos rfl, bzGdT (bzIn_nI hv16 (by decide)), l_18_4, clN (by omega), bzLetS, bzLetS, nI_1]
      exact go 0 (by unfold pSt; rw [ht, if_pos rfl])
    | false =>
      rw [show b01 false = 0 from rfl, if_pos rfl, if_neg one_ne, x1, x2, x3, x4, bzGdT (bzIn_nI y1 (by decide)), bzGdT (bzIn_nI y2 (by decide)), bzGdT (bzIn_nI y3 (by decide)), bzGdT (bzIn_nI y4 (by decide)), bzGdT (bzIn_nI hv16 (by decide)), l_18_4, l_18_3, clN (by omega), clN (by omega), clN (by omega), clN (by omega), clN (by omega), hW _ y1, hW _ y2, hW _ y3, hW _ y4, bzLetS, bzLetS, nI_1]
      exact go _ (by unfold pSt; rw [ht, if_neg Bool.false_ne_true])
theorem gt_c {fe n : Nat} (hfe : fe < 16) : ∀ m v, v + m = n → n ≤ 12 → ∀ (F : Nat) (σ : bzS) (W : Nat → Int32), m < F → σ 18 6 = nI fe → (∀ j, j < 16 → σ 22 j = W j) → ∃ τ, fl_X1_gaits_61 18 (nI n) F (nI v) σ = some (pIt m W fe, τ) ∧ ∀ k, k ≠ 22 → k ≠ 23 → τ k = σ k := by
  intro m
  induction m with
  | zero =>
    intro v hv hn F σ W hF h6 hW
    obtain ⟨F, rfl⟩ : ∃ x, F = x + 1 := ⟨F - 1, by omega⟩
    have e : v = n := by omega
    subst e
    refine ⟨σ, ?_, fun k _ _ => rfl⟩
    show fb_X1_gaits_61 (fl_X1_gaits_61 18 (nI v) F) 18 (nI v) (nI v) σ = _
    unfold fb_X1_gaits_61
    rw [if_pos (Int32.le_refl _), h6, bzGdT (bzIn_nI hfe (by decide)), l_18_3, clN (by omega), hW fe hfe]; rfl
  | succ m ih =>
    intro v hv hn F σ W hF h6 hW
    obtain ⟨F, rfl⟩ : ∃ x, F = x + 1 := ⟨F - 1, by omega⟩
    obtain ⟨τ, t1, t2, t3⟩ := mf_c 16 0 rfl 2000 σ (by decide) hW (fun j hj => absurd hj (Nat.not_lt_zero _))
    have t1 : f_X1_moveOneFoot 18 σ = some τ := by unfold f_X1_moveOneFoot; rw [g_18]; exact t1
    obtain ⟨ρ, r1, r2⟩ := ih (v + 1) (by omega) hn F τ (pSt W) (by omega) (by rw [t3 18 (by decide) (by decide)]; exact h6) t2
    refine ⟨ρ, ?_, fun k h1 h2 => by rw [r2 k h1 h2, t3 k h1 h2]⟩
    show fb_X1_gaits_61 (fl_X1_gaits_61 18 (nI n) F) 18 (nI n) (nI v) σ = _
    unfold fb_X1_gaits_61
    rw [if_neg (nI_ge (by omega) (by omega)), t1, bzBdS, bzLetS, nI_1]
    exact r1
theorem gi_c {fe n : Nat} (hfe : fe < 16) (ht : tum fe = false) (hn : n ≤ 12) : ∀ m v, v + m = 16 → ∀ (F : Nat) (σ : bzS), m < F → σ 18 6 = nI fe → (∀ j, j < v → σ 22 j = pIn fe j) → ∃ τ, fl_X1_gaits_28 18 (nI n) F (nI v) σ = some (pIt n (pIn fe) fe, τ) ∧ ∀ k, k ≠ 22 → k ≠ 23 → τ k = σ k := by
  intro m
  induction m with
  | zero =>
    intro v hv F σ hF h6 hW
    obtain ⟨F, rfl⟩ : ∃ x, F = x + 1 := ⟨F - 1, by omega⟩
    have e : v = 16 := by omega
    subst e
    obtain ⟨τ, t1, t2⟩ := gt_c hfe n 0 (by omega) hn 2000 σ (pIn fe) (by omega) h6 hW
    refine ⟨τ, ?_, t2⟩
    show fb_X1_gaits_28 (fl_X1_gaits_28 18 (nI n) F) 18 (nI n) (nI 16) σ = _
    unfold fb_X1_gaits_28
    rw [if_pos (show (16 : Int32) ≤ nI 16 by decide)]; exact t1
  | succ m ih =>
    intro v hv F σ hF h6 hW
    obtain ⟨F, rfl⟩ : ∃ x, F = x + 1 := ⟨F - 1, by omega⟩
    have hv16 : v < 16 := by omega
    have go : ∀ X, X = pIn fe v → ∃ τ, fl_X1_gaits_28 18 (nI n) F (nI (v + 1)) (bzSt σ 22 v X) = some (pIt n (pIn fe) fe, τ) ∧ ∀ k, k ≠ 22 → k ≠ 23 → τ k = σ k := by
      intro X hX
      obtain ⟨τ, t1, t2⟩ := ih (v + 1) (by omega) F (bzSt σ 22 v X) (by omega) (by rw [st_o (by decide)]; exact h6) (fun j hj => by
        rw [st_s]
        by_cases c : j = v
        · subst c; rw [pk_us]; exact hX
        · rw [pk_un c]; exact hW j (by omega))
      exact ⟨τ, t1, fun k h1 h2 => by rw [t2 k h1 h2, st_o h1]⟩
    show ∃ τ, fb_X1_gaits_28 (fl_X1_gaits_28 18 (nI n) F) 18 (nI n) (nI v) σ = _ ∧ _
    unfold fb_X1_gaits_28
    rw [if_neg (show ¬ (16 : Int32) ≤ nI v from nI_ge (b := 16) hv16 (by decide)), h6, bzGdT (bzIn_nI hv16 (by decide)), bzGdT (bzIn_nI hv16 (by decide)), l_18_3, clN (by omega), bzLetS, bzLetS, bzLetS, bzLetS, nI_1]
    by_cases c : v = fe
    · rw [if_pos (by rw [c])]
      exact go 1 (by unfold pIn; rw [if_pos c, c, ht, if_neg Bool.false_ne_true])
    · rw [if_neg (fun q => c ((nI_eq (by omega) (by omega)).mp q))]
      exact go 0 (by unfold pIn; rw [if_neg c])
theorem g136 {X : Nat → Int32} {K : Int32 → bzS → Option (Int32 × bzS)} {a1 v2 : Int32} : ∀ m v, v + m = 16 → ∀ (F : Nat) (σ : bzS), m < F → (∀ j, j < 16 → σ 106 j = X j) → (∀ j, j < v → σ 105 j = X j) → ∃ τ, fl_X10_gait_136 K 95 a1 F v2 (nI v) σ = K (v2 + 1) τ ∧ (∀ j, j < 16 → τ 105 j = X j) ∧ ∀ k, k ≠ 105 → τ k = σ k := by
  intro m
  induction m with
  | zero =>
    intro v hv F σ hF hX hW
    obtain ⟨F, rfl⟩ : ∃ x, F = x + 1 := ⟨F - 1, by omega⟩
    have e : v = 16 := by omega
    subst e
    refine ⟨σ, ?_, hW, fun k _ => rfl⟩
    show fb_X10_gait_136 K (fl_X10_gait_136 K 95 a1 F) 95 a1 v2 (nI 16) σ = _
    unfold fb_X10_gait_136
    rw [if_pos (show (16 : Int32) ≤ nI 16 by decide)]; rfl
  | succ m ih =>
    intro v hv F σ hF hX hW
    obtain ⟨F, rfl⟩ : ∃ x, F = x + 1 := ⟨F - 1, by omega⟩
    have hv16 : v < 16 := by omega
    obtain ⟨τ, t1, t2, t3⟩ := ih (v + 1) (by omega) F (bzSt σ 105 v (X v)) (by omega) (fun j hj => by rw [st_o (by decide)]; exact hX j hj) (fun j hj => by
      rw [st_s]
      by_cases c : j = v
      · subst c; exact pk_us
      · rw [pk_un c]; exact hW j (by omega))
    refine ⟨τ, ?_, t2, fun k hk => by rw [t3 k hk, st_o hk]⟩
    show fb_X10_gait_136 K (fl_X10_gait_136 K 95 a1 F) 95 a1 v2 (nI v) σ = _
    unfold fb_X10_gait_136
    rw [if_neg (show ¬ (16 : Int32) ≤ nI v from nI_ge (b := 16) hv16 (by decide)), bzGdT (bzIn_nI hv16 (by decide)), bzGdT (bzIn_nI hv16 (by decide)), l_95_20, l_95_21, clN (by omega), hX v hv16, bzLetS, bzLetS, nI_1]
    exact t1
theorem g69 {W : Nat → Int32} {K : Int32 → bzS → Option (Int32 × bzS)} {a1 v2 : Int32} : ∀ m v, v + m = 16 → ∀ (F : Nat) (σ : bzS), m < F → (∀ j, j < 16 → σ 105 j = W j) → (∀ j, j < v → σ 106 j = pSt W j) → ∃ τ, fl_X10_gait_69 K 95 a1 F v2 (nI v) σ = K (v2 + 1) τ ∧ (∀ j, j < 16 → τ 105 j = pSt W j) ∧ ∀ k, k ≠ 105 → k ≠ 106 → τ k = σ k := by
  intro m
  induction m with
  | zero =>
    intro v hv F σ hF hW hX
    obtain ⟨F, rfl⟩ : ∃ x, F = x + 1 := ⟨F - 1, by omega⟩
    have e : v = 16 := by omega
    subst e
    obtain ⟨τ, t1, t2, t3⟩ := g136 (K := K) (a1 := a1) (v2 := v2) 16 0 rfl 2000 σ (by decide) hX (fun j hj => absurd hj (Nat.not_lt_zero _))
    refine ⟨τ, ?_, t2, fun k h1 _ => t3 k h1⟩
    show fb_X10_gait_69 K (fl_X10_gait_69 K 95 a1 F) 95 a1 v2 (nI 16) σ = _
    unfold fb_X10_gait_69
    rw [if_pos (show (16 : Int32) ≤ nI 16 by decide)]; exact t1
  | succ m ih =>
    intro v hv F σ hF hW hX
    obtain ⟨F, rfl⟩ : ∃ x, F = x + 1 := ⟨F - 1, by omega⟩
    have hv16 : v < 16 := by omega
    obtain ⟨x1, x2, x3, x4⟩ := xor_T v hv16
    obtain ⟨y1, y2, y3, y4⟩ := xor_L v hv16
    have go : ∀ X, X = pSt W v → ∃ τ, fl_X10_gait_69 K 95 a1 F v2 (nI (v + 1)) (bzSt σ 106 v X) = K (v2 + 1) τ ∧ (∀ j, j < 16 → τ 105 j = pSt W j) ∧ ∀ k, k ≠ 105 → k ≠ 106 → τ k = σ k := by
      intro X hX2
      obtain ⟨τ, t1, t2, t3⟩ := ih (v + 1) (by omega) F (bzSt σ 106 v X) (by omega) (fun j hj => by rw [st_o (by decide)]; exact hW j hj) (fun j hj => by
        rw [st_s]
        by_cases c : j = v
        · subst c; rw [pk_us]; exact hX2
        · rw [pk_un c]; exact hX j (by omega))
      exact ⟨τ, t1, t2, fun k h1 h2 => by rw [t3 k h1 h2, st_o h2]⟩
    show ∃ τ, fb_X10_gait_69 K (fl_X10_gait_69 K 95 a1 F) 95 a1 v2 (nI v) σ = _ ∧ _
    unfold fb_X10_gait_69
    rw [if_neg (show ¬ (16 : Int32) ≤ nI v from nI_ge (b := 16) hv16 (by decide)), (tum_T v hv16).2, bzBdS]
    cases ht : tum v with
    | true =>
      rw [show b01 (!true) = 0 from rfl, if_pos rfl, bzGdT (bzIn_nI hv16 (by decide)), l_95_21, clN (by omega), bzLetS, bzLetS, nI_1]
      exact go 0 (by unfold pSt; rw [ht, if_pos rfl])
    | false =>
      rw [show b01 (!false) = 1 from rfl, if_neg one_ne, x1, x2, x3, x4, bzGdT (bzIn_nI y1 (by decide)), bzGdT (bzIn_nI y2 (by decide)), bzGdT (bzIn_nI y3 (by decide)), bzGdT (bzIn_nI y4 (by decide)), bzGdT (bzIn_nI hv16 (by decide)), l_95_20, l_95_21, clN (by omega), clN (by omega), clN (by omega), clN (by omega), clN (by omega), hW _ y1, hW _ y2, hW _ y3, hW _ y4, bzLetS, bzLetS, nI_1]
      exact go _ (by unfold pSt; rw [ht, if_neg Bool.false_ne_true])
theorem g62 {fe n : Nat} (hfe : fe < 16) : ∀ m v, v + m = n → n ≤ 12 → ∀ (F : Nat) (σ : bzS) (W : Nat → Int32), m < F → σ 96 7 = nI fe → (∀ j, j < 16 → σ 105 j = W j) → ∃ τ, fl_X10_gait_62 95 (nI n) F (nI v) σ = some (pIt m W fe, τ) ∧ ∀ k, k ≠ 105 → k ≠ 106 → τ k = σ k := by
  intro m
  induction m with
  | zero =>
    intro v hv hn F σ W hF h6 hW
    obtain ⟨F, rfl⟩ : ∃ x, F = x + 1 := ⟨F - 1, by omega⟩
    have e : v = n := by omega
    subst e
    refine ⟨σ, ?_, fun k _ _ => rfl⟩
    show fb_X10_gait_62 (fl_X10_gait_62 95 (nI v) F) 95 (nI v) (nI v) σ = _
    unfold fb_X10_gait_62
    rw [if_pos (Int32.le_refl _), l_95_0, h6, bzGdT (bzIn_nI hfe (by decide)), l_95_20, clN (by omega), hW fe hfe]; rfl
  | succ m ih =>
    intro v hv hn F σ W hF h6 hW
    obtain ⟨F, rfl⟩ : ∃ x, F = x + 1 := ⟨F - 1, by omega⟩
    obtain ⟨τ, t1, t2, t3⟩ := g69 (K := fl_X10_gait_62 95 (nI n) F) (a1 := nI n) (v2 := nI v) 16 0 rfl 2000 σ (by decide) hW (fun j hj => absurd hj (Nat.not_lt_zero _))
    obtain ⟨ρ, r1, r2⟩ := ih (v + 1) (by omega) hn F τ (pSt W) (by omega) (by rw [t3 96 (by decide) (by decide)]; exact h6) t2
    refine ⟨ρ, ?_, fun k h1 h2 => by rw [r2 k h1 h2, t3 k h1 h2]⟩
    show fb_X10_gait_62 (fl_X10_gait_62 95 (nI n) F) 95 (nI n) (nI v) σ = _
    unfold fb_X10_gait_62
    rw [if_neg (nI_ge (by omega) (by omega))]
    rw [nI_1] at t1
    exact t1.trans r1
theorem g19 {fe n : Nat} (hfe : fe < 16) (hn : n ≤ 12) : ∀ m v, v + m = 16 → ∀ (F : Nat) (σ : bzS), m < F → σ 96 7 = nI fe → (∀ j, j < v → σ 105 j = pIn fe j) → ∃ τ, fl_X10_gait_19 95 (nI n) F (nI v) σ = some (pIt n (pIn fe) fe, τ) ∧ ∀ k, k ≠ 105 → k ≠ 106 → τ k = σ k := by
  intro m
  induction m with
  | zero =>
    intro v hv F σ hF h6 hW
    obtain ⟨F, rfl⟩ : ∃ x, F = x + 1 := ⟨F - 1, by omega⟩
    have e : v = 16 := by omega
    subst e
    obtain ⟨τ, t1, t2⟩ := g62 hfe n 0 (by omega) hn 2000 σ (pIn fe) (by omega) h6 hW
    refine ⟨τ, ?_, t2⟩
    show fb_X10_gait_19 (fl_X10_gait_19 95 (nI n) F) 95 (nI n) (nI 16) σ = _
    unfold fb_X10_gait_19
    rw [if_pos (show (16 : Int32) ≤ nI 16 by decide)]; exact t1
  | succ m ih =>
    intro v hv F σ hF h6 hW
    obtain ⟨F, rfl⟩ : ∃ x, F = x + 1 := ⟨F - 1, by omega⟩
    have hv16 : v < 16 := by omega
    have go : ∀ X, X = pIn fe v → ∃ τ, fl_X10_gait_19 95 (nI n) F (nI (v + 1)) (bzSt σ 105 v X) = some (pIt n (pIn fe) fe, τ) ∧ ∀ k, k ≠ 105 → k ≠ 106 → τ k = σ k := by
      intro X hX
      obtain ⟨τ, t1, t2⟩ := ih (v + 1) (by omega) F (bzSt σ 105 v X) (by omega) (by rw [st_o (by decide)]; exact h6) (fun j hj => by
        rw [st_s]
        by_cases c : j = v
        · subst c; rw [pk_us]; exact hX
        · rw [pk_un c]; exact hW j (by omega))
      exact ⟨τ, t1, fun k h1 h2 => by rw [t2 k h1 h2, st_o h1]⟩
    show ∃ τ, fb_X10_gait_19 (fl_X10_gait_19 95 (nI n) F) 95 (nI n) (nI v) σ = _ ∧ _
    unfold fb_X10_gait_19
    rw [if_neg (show ¬ (16 : Int32) ≤ nI v from nI_ge (b := 16) hv16 (by decide)), l_95_0, h6]
    by_cases c : v = fe
    · rw [if_pos (by rw [c]), (tum_T v hv16).2, bzBdS]
      cases ht : tum v with
      | true =>
        rw [show b01 (!true) = 0 from rfl, if_pos rfl, bzGdT (bzIn_nI hv16 (by decide)), l_95_20, clN (by omega), bzLetS, bzLetS, nI_1]
        exact go 0 (by unfold pIn; rw [if_pos c, ht, if_pos rfl])
      | false =>
        rw [show b01 (!false) = 1 from rfl, if_neg one_ne, bzGdT (bzIn_nI hv16 (by decide)), l_95_20, clN (by omega), bzLetS, bzLetS, nI_1]
        exact go 1 (by unfold pIn; rw [if_pos c, ht, if_neg Bool.false_ne_true])
    · rw [if_neg (fun q => c ((nI_eq (by omega) (by omega)).mp q)), bzGdT (bzIn_nI hv16 (by decide)), l_95_20, clN (by omega), bzLetS, bzLetS, nI_1]
      exact go 0 (by unfold pIn; rw [if_neg c])
theorem st_gait : bzSt_gait bzInv := by
  intro a1 σ n hn hI
  rcases cutR a1 (n := 12) (lo := 0) (N := 12) rfl (Or.inl rfl) (by decide) with c1 | ⟨c1, c1', q, hq, rfl⟩
  · refine err1 hI ?_ (fun τ _ => ?_)
    · unfold f_X9_gait; rw [g_0, wi_0 c1, bzBdS, if_pos rfl]; rfl
    · unfold f_X10_gait; rw [g_95, in_0 c1, bzBdS, if_pos rfl]; rfl
  obtain ⟨fe, f1, f2⟩ := hI.2.1.1.1 7 rfl (by decide) (by decide)
  have f1 : fe ≤ 15 := f1
  have s6 : σ 18 6 = nI fe := (hI.1.1 7 rfl).trans f2
  have cls : ∃ τ, f_X1_gaits 18 (nI q) σ = some (pIt q (pIn fe) fe, τ) ∧ ∀ k, k ≠ 22 → k ≠ 23 → τ k = σ k := by
    unfold f_X1_gaits
    rw [g_18, s6, l_18_3, ip_1 (i := fe) (k := 22) (show fe < 16 by omega) (by decide) (Or.inl rfl), bzBdS, if_neg one_ne, (tum_T fe (by omega)).1, bzBdS]
    cases ht : tum fe with
    | true =>
      rw [show b01 true = 1 from rfl, if_neg one_ne, pIt_t ht]
      exact ⟨σ, rfl, fun k _ _ => rfl⟩
    | false =>
      rw [show b01 false = 0 from rfl, if_pos rfl]
      exact gi_c (by omega) ht hq 16 0 rfl 2000 σ (by decide) s6 (fun j hj => absurd hj (Nat.not_lt_zero _))
  obtain ⟨τ, t1, t2⟩ := cls
  obtain ⟨ρ, r1, r2⟩ := g19 (fe := fe) (by omega) hq 16 0 rfl 2000 τ (by decide) (by rw [t2 96 (by decide) (by decide)]; exact f2) (fun j hj => absurd hj (Nat.not_lt_zero _))
  refine ⟨pIt q (pIn fe) fe, τ, ρ, ?_, ?_, inv_mono _ _ (inv_frame hI (fun k hk hf h95 => ?_) (fun j hj => ?_))⟩
  · unfold f_X9_gait
    rw [g_0, wi_1 c1 c1', bzBdS, if_neg one_ne, l_0_0, l_1_1, t1, bzBpS]
  · unfold f_X10_gait
    rw [g_95, in_1 c1 c1', bzBdS, if_neg one_ne]; exact r1
  · rw [r2 k (fr_ne hf rfl) (fr_ne hf rfl), t2 k (fr_ne hf rfl) (fr_ne hf rfl)]
  · rw [r2 95 (by decide) (by decide), t2 95 (by decide) (by decide)]
