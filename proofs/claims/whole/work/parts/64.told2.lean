set_option linter.unusedVariables false
theorem st_wanted : bzSt_wanted bzInv := by
  intro a1 a2 σ n hn hI
  obtain ⟨y, hy, hk⟩ := pOk_I hI
  rcases shOf a1 σ with ⟨h1, h2⟩ | ⟨s, hs, e1, b1, n1, h1, h2⟩
  · refine err1 hI ?_ (fun τ ht => ?_)
    · unfold f_X9_wanted; rw [g_0, h1, bzBdS, bzOp0]; rfl
    · unfold f_X10_wanted; rw [g_95, h2, bzBdS, if_pos rfl]; rfl
  obtain ⟨l1, l2, l3, l4, l5, l6⟩ := sh_l s hs
  obtain ⟨⟨q1, q2⟩, z, hz, q3, q4, q5⟩ := hI.2.2.2.2.2.1 s hs
  rcases cutR a2 (n := 1) (lo := 0) (N := 1) rfl (Or.inl rfl) (by decide) with c2 | ⟨c2, c2', w, hw, rfl⟩
  · refine err1 hI ?_ (fun τ ht => ?_)
    · unfold f_X9_wanted; rw [g_0, h1, bzBdS, bzOp1, bzGdT l2, wi_0 c2, bzBdS, if_pos rfl]; rfl
    · unfold f_X10_wanted; rw [g_95, h2, bzBdS, if_neg one_ne, in_0 c2, bzBdS, if_pos rfl]; rfl
  by_cases m0 : σ 101 s = 0
  · have mi : f_X5_isMissing (83 + 3 * s) σ = some 1 := by unfold f_X5_isMissing; rw [bzGdT l2, q1, if_pos m0]
    refine err2 hI ?_ (fun τ ht => ?_)
    · unfold f_X9_wanted; rw [g_0, h1, bzBdS, bzOp1, bzGdT l2, wi_1 c2 c2', bzBdS, if_neg one_ne, mi, bzBdS, if_neg one_ne]; rfl
    · unfold f_X10_wanted; rw [g_95, h2, bzBdS, if_neg one_ne, in_1 c2 c2', bzBdS, if_neg one_ne, bzGdT b1, l_95_16, n1, ht 101 (by decide), if_pos m0]; rfl
  have mi : f_X5_isMissing (83 + 3 * s) σ = some 0 := by unfold f_X5_isMissing; rw [bzGdT l2, q1, if_neg m0]
  obtain ⟨G, κ, k1, k2⟩ := wn_c (a1 := a1) (a2 := nI w) (t := fun i => σ 103 (40 * s + i)) hI hy hk hs hz q3 q5 100 0 rfl 2000 σ (by decide) (fun k _ => rfl)
  generalize hC : cntP (wnP (σ 96) (fun i => σ 103 (40 * s + i)) z) 100 0 = C at k1
  generalize hQ : fstP (wnP (σ 96) (fun i => σ 103 (40 * s + i)) z) 100 0 = Q at k1
  have cs := fstP_cs (wnP (σ 96) (fun i => σ 103 (40 * s + i)) z) 100 0
  have cl := cntP_le (wnP (σ 96) (fun i => σ 103 (40 * s + i)) z) 100 0
  rw [hC, hQ] at cs
  rw [hC] at cl
  have hc : f_X9_wanted 0 a1 (nI w) σ = if nI w = 0 then some (nI C, κ) else (if nI C ≤ 0 then some (-1000000002, bzSt κ 82 2 (κ 82 2 + 1)) else some (lstC Q, κ)) := by
    unfold f_X9_wanted
    rw [g_0, h1, bzBdS, bzOp1, bzGdT l2, wi_1 c2 c2', bzBdS, if_neg one_ne, mi, bzBdS, if_pos rfl]
    refine Eq.trans k1 ?_
    show fb_X9_wanted_50 (fl_X9_wanted_50 0 a1 (nI w) G) 0 a1 (nI w) (83 + 3 * s) (nI C) (lstC Q) (nI 100) κ = _
    unfold fb_X9_wanted_50
    rw [if_pos (show (99 : Int32) < nI 100 by decide)]; rfl
  have e95 : κ 95 = σ 95 := k2 95 (by decide)
  have e96 : κ 96 = σ 96 := k2 96 (by decide)
  have hm : ∀ μ : bzS, (∀ k, k ≠ 82 → μ k = κ k) → ∃ ω, f_X10_wanted 95 a1 (nI w) μ = (if nI w = 0 then some (nI C, ω) else (if 0 ≤ lstM Q then some (lstM Q, ω) else some (-1000000002, bzSt ω 100 2 (ω 100 2 + 1)))) ∧ mdT (-1) (σ 96) (σ 96) μ ω := by
    intro μ hμ
    obtain ⟨ρ, r1, r2⟩ := md_new (σ1 := μ) (σ := μ) (aw := -1) ((hμ 96 (by decide)).trans e96) (by rw [hμ 95 (by decide), e95]; exact hI.2.2.1) (fun k _ => rfl)
    obtain ⟨H, ω, w1, w2⟩ := wn_m (a2 := nI w) (t := fun i => σ 103 (40 * s + i)) hy hk hs hz (by rw [hμ 102 (by decide), k2 102 (by decide)]; exact q4) (fun i _ => by rw [hμ 103 (by decide), k2 103 (by decide)]) 100 0 rfl 2000 ρ 99 (by decide) rfl r2
    rw [hC, hQ] at w1
    refine ⟨ω, ?_, w2⟩
    unfold f_X10_wanted
    rw [g_95, h2, bzBdS, if_neg one_ne, in_1 c2 c2', bzBdS, if_neg one_ne, bzGdT b1, l_95_16, n1, hμ 101 (by decide), k2 101 (by decide), if_neg m0, l_95_0, l_95_2, r1, bzBdS, e1]
    refine Eq.trans w1 ?_
    show fb_X10_wanted_61 (fl_X10_wanted_61 95 (nI s) (nI w) H) 95 (nI s) (nI w) (nI C) (lstM Q) (-1) ω = _
    unfold fb_X10_wanted_61
    rw [if_pos (show (-1 : Int32) < 0 by decide)]; rfl
  by_cases cw : nI w = 0
  · rw [if_pos cw] at hc
    obtain ⟨ω, w1, w2⟩ := hm κ (fun k _ => rfl)
    rw [if_pos cw] at w1
    exact ⟨_, _, _, hc, w1, inv_th hI k2 w2⟩
  · rw [if_neg cw] at hc
    rcases cs with ⟨rfl, rfl⟩ | ⟨v, rfl, -, hv, hpos⟩
    · rw [if_pos (show nI 0 ≤ 0 by decide)] at hc
      obtain ⟨ω, w1, w2⟩ := hm (bzSt κ 82 2 (κ 82 2 + 1)) (fun k hk => st_o hk)
      rw [if_neg cw, if_neg (show ¬ (0 : Int32) ≤ lstM none by decide)] at w1
      exact ⟨_, _, _, hc, w1, inv_the (q := 2) hI (fun k h1 h2 => by rw [st_o h2]; exact k2 k h1) (by rw [st_s, k2 82 (by decide)]) w2⟩
    · rw [if_neg (nI_nle hpos (by omega))] at hc
      obtain ⟨ω, w1, w2⟩ := hm κ (fun k _ => rfl)
      rw [if_neg cw, if_pos (show (0 : Int32) ≤ lstM (some v) from nI_pos' (by omega))] at w1
      exact ⟨_, _, _, hc, w1, inv_th hI k2 w2⟩
def pWh (f t : Nat → Int32) (z i : Nat) : Nat → Nat → Int32 → Int32
  | 0, _, s => s
  | m + 1, v, s => if pUn t z 0 (upd f (52 + 4 * i + 0) (nI v)) = none then pWh f t z i m (v + 1) (s ||| (1 <<< (nI v &&& 31))) else pWh f t z i m (v + 1) s
theorem wh_c {n0 y s z i : Nat} {σ0 : bzS} {t : Nat → Int32} {a1 : Int32} (hI : bzInv n0 σ0) (hy : y ≤ 9999) (hk : pOk (σ0 96) y) (hs : s < 4) (hz : z ≤ 40) (hi : i < 8) (hR : σ0 (84 + 3 * s) 1 = nI z) (hQ : ∀ i, i < z → σ0 (85 + 3 * s) i = t i) :
    ∀ m v, v + m = 7 → ∀ (F : Nat) (σ : bzS) (x : Int32), m < F → (∀ k, (k < 55 ∨ 70 < k) → σ k = σ0 k) → ∃ τ, fl_X9_which_54 0 a1 (nI i) F (83 + 3 * s) x (nI v) σ = some (pWh (σ0 96) t z i m v x, τ) ∧ ∀ k, (k < 55 ∨ 70 < k) → τ k = σ0 k := by
  obtain ⟨l1, l2, l3, l4, l5, l6⟩ := sh_l s hs
  intro m
  induction m with
  | zero =>
    intro v hv F σ x hF h
    obtain ⟨F, rfl⟩ : ∃ x, F = x + 1 := ⟨F - 1, by omega⟩
    have e : v = 7 := by omega
    subst e
    refine ⟨σ, ?_, h⟩
    show fb_X9_which_54 (fl_X9_which_54 0 a1 (nI i) F) 0 a1 (nI i) (83 + 3 * s) x (nI 7) σ = _
    unfold fb_X9_which_54
    rw [if_pos (show (7 : Int32) ≤ nI 7 by decide)]; rfl
  | succ m ih =>
    intro v hv F σ x hF h
    obtain ⟨F, rfl⟩ : ∃ x, F = x + 1 := ⟨F - 1, by omega⟩
    obtain ⟨τ, t1, t2⟩ := th_new hI h
    have t3 := th_vis (i := i) (w := 0) (nI v) t2 hi (by decide)
    obtain ⟨κ, k1, k2⟩ := fu_c l4 l5 l6 (by decide) hz (by omega) (by omega) hR hQ t3 (pOk_vis hk hi (by decide) (show v ≤ 6 by omega) (fun c => absurd c (by decide))) (by omega)
    show ∃ ρ, fb_X9_which_54 (fl_X9_which_54 0 a1 (nI i) F) 0 a1 (nI i) (83 + 3 * s) x (nI v) σ = some ((if pUn t z 0 (upd (σ0 96) (52 + 4 * i + 0) (nI v)) = none then pWh (σ0 96) t z i m (v + 1) (x ||| (1 <<< (nI v &&& 31))) else pWh (σ0 96) t z i m (v + 1) x), ρ) ∧ _
    unfold fb_X9_which_54
    rw [if_neg (show ¬ (7 : Int32) ≤ nI v from nI_ge (b := 7) (by omega) (by decide)), t1, bzBdS, bzGdT (bzIn_nI hi (by decide)), l_0_3, l_55_2, l_58_0, clN (by omega), bzLetS, l3, k1, bzBpS, bzLetS, bzLetS, bzLetS, nI_1]
    cases hp : pUn t z 0 (upd (σ0 96) (52 + 4 * i + 0) (nI v)) with
    | some j =>
      have hj := pUn_b _ _ _ _ _ hp
      show ∃ ρ, (if 0 ≤ nI j then _ else _) = _ ∧ _
      rw [if_pos (show (0 : Int32) ≤ nI j from nI_pos' (by omega)), if_neg (fun q => no_some q.symm)]
      exact ih (v + 1) (by omega) F κ _ (by omega) k2
    | none =>
      show ∃ ρ, (if (0 : Int32) ≤ -1 then _ else _) = _ ∧ _
      rw [if_neg (by decide), if_pos rfl]
      exact ih (v + 1) (by omega) F κ _ (by omega) k2
theorem wh_m {f : Nat → Int32} {y s z i : Nat} {σ1 : bzS} {t : Nat → Int32} (hy : y ≤ 9999) (hk : pOk f y) (hs : s < 4) (hz : z ≤ 40) (hi : i < 8) (h102 : σ1 102 s = nI z) (h103 : ∀ i, i < z → σ1 103 (40 * s + i) = t i) :
    ∀ m v, v + m = 7 → ∀ (F : Nat) (σ : bzS) (x : Int32), m < F → mdT (-1) f f σ1 σ → ∃ τ, fl_X10_which_55 95 (nI s) (nI i) F x (nI v) σ = some (pWh f t z i m v x, τ) ∧ mdT (-1) f f σ1 τ := by
  intro m
  induction m with
  | zero =>
    intro v hv F σ x hF h
    obtain ⟨F, rfl⟩ : ∃ x, F = x + 1 := ⟨F - 1, by omega⟩
    have e : v = 7 := by omega
    subst e
    refine ⟨σ, ?_, h⟩
    show fb_X10_which_55 (fl_X10_which_55 95 (nI s) (nI i) F) 95 (nI s) (nI i) x (nI 7) σ = _
    unfold fb_X10_which_55
    rw [if_pos (show (6 : Int32) < nI 7 by decide)]; rfl
  | succ m ih =>
    intro v hv F σ x hF h
    obtain ⟨F, rfl⟩ : ∃ x, F = x + 1 := ⟨F - 1, by omega⟩
    have pu : f_X10_puts 95 (nI i) 0 (nI v) σ = some (bzSt σ 96 (52 + 4 * i + 0) (nI v)) := e_puts (w := 0) rfl (by omega)
    obtain ⟨κ, k1, k2⟩ := leans_m hs hz h102 h103 (md_set (p := 52 + 4 * i + 0) (nI v) h (by omega)) (pOk_vis hk hi (by decide) (show v ≤ 6 by omega) (fun c => absurd c (by decide))) (by omega)
    show ∃ ρ, fb_X10_which_55 (fl_X10_which_55 95 (nI s) (nI i) F) 95 (nI s) (nI i) x (nI v) σ = some ((if pUn t z 0 (upd f (52 + 4 * i + 0) (nI v)) = none then pWh f t z i m (v + 1) (x ||| (1 <<< (nI v &&& 31))) else pWh f t z i m (v + 1) x), ρ) ∧ _
    unfold fb_X10_which_55
    rw [if_neg (show ¬ (6 : Int32) < nI v from nI_nlt (a := 6) (by omega) (by decide)), pu, bzBdS, k1, bzBpS, bzLetS, bzLetS, bzLetS, bzLetS, nI_1, Int32.or_zero]
    by_cases hp : pUn t z 0 (upd f (52 + 4 * i + 0) (nI v)) = none
    · rw [if_pos hp, if_pos hp, if_neg one_ne]
      exact ih (v + 1) (by omega) F κ _ (by omega) k2
    · rw [if_neg hp, if_neg hp, if_pos rfl]
      exact ih (v + 1) (by omega) F κ _ (by omega) k2
theorem st_which : bzSt_which bzInv := by
  intro a1 a2 σ n hn hI
  obtain ⟨y, hy, hk⟩ := pOk_I hI
  rcases shOf a1 σ with ⟨h1, h2⟩ | ⟨s, hs, e1, b1, n1, h1, h2⟩
  · refine err1 hI ?_ (fun τ ht => ?_)
    · unfold f_X9_which; rw [g_0, h1, bzBdS, bzOp0]; rfl
    · unfold f_X10_which; rw [g_95, h2, bzBdS, if_pos rfl]; rfl
  obtain ⟨l1, l2, l3, l4, l5, l6⟩ := sh_l s hs
  obtain ⟨⟨q1, q2⟩, z, hz, q3, q4, q5⟩ := hI.2.2.2.2.2.1 s hs
  rcases hasV hI a2 with ⟨g1, g2⟩ | ⟨i, N, e2, hi, hN, s1, s2, b2, n2, g1, g2⟩
  · refine err1 hI ?_ (fun τ ht => ?_)
    · unfold f_X9_which; rw [g_0, h1, bzBdS, bzOp1, bzGdT l2, l_0_0, l_1_0, l_2_2, g1, bzBdS, if_pos rfl]; rfl
    · unfold f_X10_which; rw [g_95, h2, bzBdS, if_neg one_ne, g2 τ ht, bzBdS, if_pos rfl]; rfl
  by_cases m0 : σ 101 s = 0
  · have mi : f_X5_isMissing (83 + 3 * s) σ = some 1 := by unfold f_X5_isMissing; rw [bzGdT l2, q1, if_pos m0]
    refine err2 hI ?_ (fun τ ht => ?_)
    · unfold f_X9_which; rw [g_0, h1, bzBdS, bzOp1, bzGdT l2, l_0_0, l_1_0, l_2_2, g1, bzBdS, if_neg one_ne, mi, bzBdS, if_neg one_ne]; rfl
    · unfold f_X10_which; rw [g_95, h2, bzBdS, if_neg one_ne, g2 τ (by rw [ht 96 (by decide)]; exact s1), bzBdS, if_neg one_ne, bzGdT b1, l_95_16, n1, ht 101 (by decide), if_pos m0]; rfl
  have mi : f_X5_isMissing (83 + 3 * s) σ = some 0 := by unfold f_X5_isMissing; rw [bzGdT l2, q1, if_neg m0]
  have i8 : i < 8 := by omega
  obtain ⟨κ, k1, k2⟩ := wh_c (a1 := a1) (t := fun i => σ 103 (40 * s + i)) hI hy hk hs hz i8 q3 q5 7 0 rfl 2000 σ 0 (by decide) (fun k _ => rfl)
  obtain ⟨ρ, r1, r2⟩ := md_start hI k2
  obtain ⟨ω, w1, w2⟩ := wh_m (t := fun i => σ 103 (40 * s + i)) hy hk hs hz i8 (by rw [k2 102 (by decide)]; exact q4) (fun i _ => by rw [k2 103 (by decide)]) 7 0 rfl 2000 ρ 0 (by decide) r2
  refine ⟨pWh (σ 96) (fun i => σ 103 (40 * s + i)) z i 7 0 0, κ, ω, ?_, ?_, inv_th hI k2 w2⟩
  · unfold f_X9_which
    rw [g_0, h1, bzBdS, bzOp1, bzGdT l2, l_0_0, l_1_0, l_2_2, g1, bzBdS, if_neg one_ne, mi, bzBdS, if_pos rfl, e2]; exact k1
  · unfold f_X10_which
    rw [g_95, h2, bzBdS, if_neg one_ne, g2 κ (by rw [k2 96 (by decide)]; exact s1), bzBdS, if_neg one_ne, bzGdT b1, l_95_16, n1, k2 101 (by decide), if_neg m0, l_95_0, l_95_2, r1, bzBdS, e1, e2]; exact w1
/-! check -/
theorem ck_m {f : Nat → Int32} {σ1 : bzS} {t : Nat → Int32} {z : Nat} (hz : z ≤ 20) (ht : ∀ i, i < z → f (134 + i) = t i) :
    ∀ m i, i + m = z → ∀ (F : Nat) (σ : bzS) (g : Nat → Int32) (y : Nat), m + 1 < F → mdT (-1) f g σ1 σ → (∀ j, j < z → g (134 + j) = t j) → pOk g y → y + m < 20000 → ∃ τ, fl_X10_check_32 95 F (nI z) (nI i) 1 σ = some (pUnV (pUn t m i g) + 1, τ) ∧ mdT (-1) f f σ1 τ := by
  intro m
  induction m with
  | zero =>
    intro i hi F σ g y hF h hg hk hy
    obtain ⟨F, rfl⟩ : ∃ x, F = x + 1 := ⟨F - 1, by omega⟩
    have e : i = z := by omega
    obtain ⟨τ, t1, t2⟩ := md_back h
    refine ⟨τ, ?_, t2⟩
    show fb_X10_check_32 (fl_X10_check_32 95 F) 95 (nI z) (nI i) 1 σ = some (-1 + 1, τ)
    rw [show (-1 : Int32) + 1 = 0 from rfl]
    unfold fb_X10_check_32
    rw [e, if_pos (Int32.le_refl _), l_95_2, l_95_0, t1, bzBdS, if_neg one_ne]
  | succ m ih =>
    intro i hi F σ g y hF h hg hk hy
    obtain ⟨F, rfl⟩ : ∃ x, F = x + 2 := ⟨F - 2, by omega⟩
    obtain ⟨τ, t1, t2⟩ := md_year h hk
    have ep : 134 + nI i = nI (134 + i) := by rw [show (134 : Int32) = nI 134 from rfl, nI_add]
    have e4 : τ 96 4 = pYr (-1) g 4 := by rw [t2.1]
    have g' : ∀ j, j < z → pYr (-1) g (134 + j) = t j := fun j hj => by rw [pYr_o (by omega) (by omega) (by omega) (by omega)]; exact hg j hj
    have et : τ 96 (134 + i) = t i := by rw [t2.1]; exact g' i (by omega)
    have e0 : fl_X10_check_32 95 (F + 2) (nI z) (nI i) 1 σ = if pYr (-1) g 4 = t i then fl_X10_check_32 95 (F + 1) (nI z) (nI (i + 1)) 1 τ else fl_X10_check_32 95 (F + 1) (nI z) (nI i) 0 τ := by
      show fb_X10_check_32 (fl_X10_check_32 95 (F + 1)) 95 (nI z) (nI i) 1 σ = _
      unfold fb_X10_check_32
      rw [if_neg (nI_ge (show i < z by omega) (by omega)), if_neg one_ne, t1, bzBdS, ep, bzGdT (bzIn_nI (show 134 + i < 254 by omega) (by decide)), l_95_0, clN (show 134 + i < 2 ^ 31 by omega), et, e4, bzLetS, bzLetS, nI_1, Int32.add_zero]
    by_cases c : pYr (-1) g 4 = t i
    · have ec : pUn t (m + 1) i g = pUn t m (i + 1) (pYr (-1) g) := if_pos c
      rw [e0, if_pos c, ec]
      exact ih (i + 1) (by omega) (F + 1) τ (pYr (-1) g) (y + 1) (by omega) t2 g' (pYr_ok hk (by omega)) (by omega)
    · have ec : pUn t (m + 1) i g = some i := if_neg c
      rw [e0, if_neg c, ec]
      obtain ⟨ρ, r1, r2⟩ := md_back t2
      refine ⟨ρ, ?_, r2⟩
      show fb_X10_check_32 (fl_X10_check_32 95 F) 95 (nI z) (nI i) 0 τ = some (nI i + 1, ρ)
      unfold fb_X10_check_32
      rw [if_neg (nI_ge (show i < z by omega) (by omega)), if_pos rfl, l_95_2, l_95_0, r1, bzBdS, if_pos rfl, Int32.add_comm]
theorem st_check : bzSt_check bzInv := by
  intro σ n hn hI
  obtain ⟨y, hy, hk⟩ := pOk_I hI
  obtain ⟨z, hz, ez⟩ := hI.2.1.1.1 9 rfl (by decide) (by decide)
  have hz : z ≤ 20 := hz
  have z26 : σ 26 1 = nI z := (hI.1.1 9 rfl).trans ez
  have w27 : ∀ i, i < z → σ 27 i = σ 96 (134 + i) := fun i hi => hI.1.2.2.2.1 i (by omega) (by rw [ez]; exact nI_lt hi (by omega))
  obtain ⟨τ, t1, t2⟩ := th_new hI (σ := σ) (fun k _ => rfl)
  -- the row with nothing waiting
  have hk9 : pOk (upd (σ 96) 9 0) y := pOk_set hk (by decide) (by decide) (by decide) (by decide) (by decide) (fun _ => ⟨0, Nat.zero_le _, rfl⟩) (fun q hq e => absurd e (by omega))
  have t3 : thT (-1) (upd (σ 96) 9 0) σ τ := by
    obtain ⟨⟨x1, x2, x3⟩, x4, x5⟩ := t2
    refine ⟨⟨fun q hq => ?_, x2.ext rfl rfl rfl (pk_un (by decide)) (funext (fun j => pk_un (by omega))), x3.ext rfl rfl rfl (pk_un (by decide)) (funext (fun j => pk_un (by omega)))⟩, x4, x5⟩
    have h9 : q ≠ 9 := by rintro rfl; exact absurd hq (by decide)
    rw [pk_un h9]; exact x1 q hq
  obtain ⟨κ, k1, k2⟩ := fu_c (t := fun i => σ 96 (134 + i)) (R := 26) (Q := 27) (L := 20) rfl rfl rfl (by decide) hz (by decide) (by decide) z26 w27 t3 hk9 (by omega)
  have hc : f_X9_check 0 σ = some (pUnV (pUn (fun i => σ 96 (134 + i)) z 0 (upd (σ 96) 9 0)) + 1, bzSt κ 26 1 0) := by
    unfold f_X9_check
    have cl : f_X4_clear 26 κ = some (bzSt κ 26 1 0) := rfl
    rw [g_0, t1, bzBdS, l_0_0, l_1_3, k1, bzBpS, cl, bzBdS]
  have e96 : bzSt κ 26 1 0 96 = σ 96 := by rw [st_o (by decide)]; exact k2 96 (by decide)
  have e95 : bzSt κ 26 1 0 95 = σ 95 := by rw [st_o (by decide)]; exact k2 95 (by decide)
  obtain ⟨ρ, r1, r2⟩ := md_new (σ1 := bzSt κ 26 1 0) (σ := bzSt (bzSt κ 26 1 0) 96 9 0) (aw := -1) (f := upd (σ 96) 9 0) (by rw [st_s, e96]) (by rw [st_o (by decide), e95]; exact hI.2.2.1) (fun k hk => st_o hk)
  obtain ⟨ω, w1, w2⟩ := ck_m (t := fun i => σ 96 (134 + i)) hz (fun i hi => pk_un (by omega)) z 0 (by omega) 2000 ρ (upd (σ 96) 9 0) y (by omega) r2 (fun j hj => pk_un (by omega)) hk9 (by omega)
  have hm : f_X10_check 95 (bzSt κ 26 1 0) = some (pUnV (pUn (fun i => σ 96 (134 + i)) z 0 (upd (σ 96) 9 0)) + 1, ω) := by
    unfold f_X10_check
    rw [g_95, l_95_0, bzLetS, bzLetS, l_95_2, r1, bzBdS, e96, ez]; exact w1
  refine ⟨_, _, _, hc, hm, inv_mono _ _ ?_⟩
  obtain ⟨m1, m2, m3, m4, m5, m6⟩ := w2
  have fr : ∀ k, k ≠ 26 → (k < 55 ∨ 70 < k) → k ≠ 95 → k ≠ 96 → k ≠ 98 → ω k = σ k := fun k h1 h2 h3 h4 h5 => by rw [m4 k h3 h4 h5, st_o h1]; exact k2 k h2
  have x26 : ω 26 1 = 0 := by rw [m4 26 (by decide) (by decide) (by decide), st_s, pk_us]
  obtain ⟨i1, ⟨ia, ib⟩, i2, i3, i4⟩ := hI.1
  have fz : ∀ p, p ≠ 9 → ω 96 p = σ 96 p := fun p hp => by rw [m1]; exact pk_un hp
  have f9 : ω 96 9 = 0 := by rw [m1]; exact pk_us
  refine inv_now hI ⟨fun p hp => ?_, ⟨ia.ext ?_ ?_ ?_ ?_ ?_, ib.ext ?_ ?_ ?_ ?_ ?_⟩, fun i hi hf => ?_, fun i hi hf => ?_, ?_⟩ (by rw [m1]; exact hk9.1) ⟨y, hy, by rw [m1]; exact hk9.2.2.1⟩ (fun k h0 h1 h2 h3 h4 => ?_) (fun j hj => ?_)
  · have hpl := plB_lt hp
    have hm := mc_in p hpl.1 hp
    by_cases p9 : p = 9
    · subst p9; rw [f9]; exact x26
    · have key : ∀ p, p < 84 → plB p = true → mc p = 25 → p = 9 := by decide +kernel
      rw [fz p p9, fr _ (fun q => p9 (key p hpl.1 hp (by omega))) (by omega) (by omega) (by omega) (by omega)]
      exact i1 p hp
  · rw [fr _ (by decide) (by decide) (by decide) (by decide) (by decide)]
  · rw [fr _ (by decide) (by decide) (by decide) (by decide) (by decide)]
  · rw [fr _ (by decide) (by decide) (by decide) (by decide) (by decide)]
  · exact fz 10 (by decide)
  · funext j; exact fz _ (by omega)
  · rw [fr _ (by decide) (by decide) (by decide) (by decide) (by decide)]
  · rw [fr _ (by decide) (by decide) (by decide) (by decide) (by decide)]
  · rw [fr _ (by decide) (by decide) (by decide) (by decide) (by decide)]
  · exact fz 11 (by decide)
  · funext j; exact fz _ (by omega)
  · rw [fz 8 (by decide)] at hf
    rw [fz _ (by omega), fr _ (by decide) (by decide) (by decide) (by decide) (by decide)]
    exact i2 i hi hf
  · rw [f9] at hf
    exact absurd hf (nI_n0 (by omega))
  · rw [fr _ (by decide) (by decide) (by decide) (by decide) (by decide)]; exact i4
  · have kk : k < 55 ∨ 70 < k := by
      have key : ∀ q, 55 ≤ q → q ≤ 70 → frB q = true := fun q a b => decide_eq_true (by omega)
      by_cases c : 55 ≤ k ∧ k ≤ 70
      · rw [key k c.1 c.2] at h2; exact Bool.noConfusion h2
      · omega
    exact fr k (by omega) kk h3 h4 (fr_ne h2 rfl)
  · rcases hj with rfl | rfl | rfl | rfl
    · rw [m5 4 (by decide), e95]
    · rw [m5 5 (by decide), e95]
    · rw [m6, hI.2.2.1]
    · rw [m5 23 (by decide), e95]
