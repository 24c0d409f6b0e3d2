set_option linter.unusedVariables false
/-! what would be: then, falls, wet -/
theorem md_start {n : Nat} {σ κ : bzS} (hI : bzInv n σ) (h : ∀ k, (k < 55 ∨ 70 < k) → κ k = σ k) : ∃ ρ, f_X10_moveAll 95 96 98 κ = some ρ ∧ mdT (-1) (σ 96) (σ 96) κ ρ :=
  md_new (h 96 (by decide)) (by rw [h 95 (by decide)]; exact hI.2.2.1) (fun k _ => rfl)
theorem st_then : bzSt_then bzInv := by
  intro a1 a2 σ n hn hI
  obtain ⟨y, hy, hk⟩ := pOk_I hI
  rcases cutR a1 (n := 60) (lo := 0) (N := 60) rfl (Or.inl rfl) (by decide) with c1 | ⟨c1, c1', q, hq, rfl⟩
  · refine err1 hI ?_ (fun τ _ => ?_)
    · unfold f_X9_then; rw [g_0, wi_0 c1, bzBdS, if_pos rfl]; rfl
    · unfold f_X10_then; rw [g_95, in_0 c1, bzBdS, if_pos rfl]; rfl
  rcases cutR a2 (n := 2) (lo := 0) (N := 2) rfl (Or.inl rfl) (by decide) with c2 | ⟨c2, c2', w, hw, rfl⟩
  · refine err1 hI ?_ (fun τ _ => ?_)
    · unfold f_X9_then; rw [g_0, wi_1 c1 c1', bzBdS, if_neg one_ne, wi_0 c2, bzBdS, if_pos rfl]; rfl
    · unfold f_X10_then; rw [g_95, in_1 c1 c1', bzBdS, if_neg one_ne, in_0 c2, bzBdS, if_pos rfl]; rfl
  obtain ⟨τ, t1, t2⟩ := th_new hI (σ := σ) (fun k _ => rfl)
  obtain ⟨κ, k1, k2⟩ := th_pass hq t2 hk (by omega)
  obtain ⟨ρ, r1, r2⟩ := md_start hI k2.2.2
  obtain ⟨ω, w1, w2⟩ := md_behind (q := 3 + w) hq (by omega) r2 hk (by omega)
  refine ⟨pYrs (-1) q (σ 96) (3 + w), κ, ω, ?_, ?_, inv_th hI k2.2.2 w2⟩
  · unfold f_X9_then
    rw [g_0, wi_1 c1 c1', bzBdS, if_neg one_ne, wi_1 c2 c2', bzBdS, if_neg one_ne, t1, bzBdS, l_0_3, k1, bzBpS]
    rcases (show w = 0 ∨ w = 1 ∨ w = 2 by omega) with rfl | rfl | rfl
    · rw [if_pos (show nI 0 = 0 from rfl), show κ 55 5 = pYrs (-1) q (σ 96) 3 from k2.1.1 3 rfl]
    · rw [if_neg (show ¬ nI 1 = 0 by decide), if_pos (show nI 1 = 1 from rfl), show κ 55 6 = pYrs (-1) q (σ 96) 4 from k2.1.1 4 rfl]
    · rw [if_neg (show ¬ nI 2 = 0 by decide), if_neg (show ¬ nI 2 = 1 by decide), show κ 55 7 = pYrs (-1) q (σ 96) 5 from k2.1.1 5 rfl]
  · unfold f_X10_then
    rw [g_95, in_1 c1 c1', bzBdS, if_neg one_ne, in_1 c2 c2', bzBdS, if_neg one_ne, l_95_0, l_95_2, r1, bzBdS, show (3 : Int32) + nI w = nI (3 + w) from nI_add 3 w, w1, bzBpS]
def pFal : Nat → Nat → (Nat → Int32) → Option Nat
  | 0, _, _ => none
  | m + 1, v, g => if g 4 < 60 then pFal m (v + 1) (pYr (-1) g) else some v
theorem fal_c {σ0 : bzS} : ∀ m v, v + m = 61 → ∀ (F : Nat) (σ : bzS) (g : Nat → Int32) (y : Nat), m < F → thT (-1) g σ0 σ → pOk g y → y + m < 20000 →
    (∀ r, pFal m v g = some r → ∃ τ, fl_X9_falls_6 0 F (nI v) σ = some (nI r, τ) ∧ ∀ k, (k < 55 ∨ 70 < k) → τ k = σ0 k) ∧ (pFal m v g = none → ∃ τ, fl_X9_falls_6 0 F (nI v) σ = some (-1000000002, bzSt τ 82 2 (τ 82 2 + 1)) ∧ ∀ k, (k < 55 ∨ 70 < k) → τ k = σ0 k) := by
  intro m
  induction m with
  | zero =>
    intro v hv F σ g y hF h hk hy
    obtain ⟨F, rfl⟩ : ∃ x, F = x + 1 := ⟨F - 1, by omega⟩
    have e : v = 61 := by omega
    subst e
    refine ⟨fun r hr => no_some hr, fun _ => ⟨σ, ?_, h.2.2⟩⟩
    show fb_X9_falls_6 (fl_X9_falls_6 0 F) 0 (nI 61) σ = _
    unfold fb_X9_falls_6
    rw [if_pos (show (60 : Int32) < nI 61 by decide)]; rfl
  | succ m ih =>
    intro v hv F σ g y hF h hk hy
    obtain ⟨F, rfl⟩ : ∃ x, F = x + 1 := ⟨F - 1, by omega⟩
    have v60 : ¬ (60 : Int32) < nI v := nI_nlt (a := 60) (by omega) (by decide)
    have l6 : σ 55 6 = g 4 := h.1.1 4 rfl
    have e0 : fl_X9_falls_6 0 (F + 1) (nI v) σ = fb_X9_falls_6 (fl_X9_falls_6 0 F) 0 (nI v) σ := rfl
    by_cases c : g 4 < 60
    · have e : pFal (m + 1) v g = pFal m (v + 1) (pYr (-1) g) := if_pos c
      obtain ⟨τ, t1, t2⟩ := th_pass (n := 1) (by decide) h hk (by omega)
      have t1 : f_X0_pass 55 1 σ = _ := t1
      have e1 : fl_X9_falls_6 0 (F + 1) (nI v) σ = fl_X9_falls_6 0 F (nI (v + 1)) τ := by
        rw [e0]
        unfold fb_X9_falls_6
        rw [if_neg v60, l_0_3, l6, if_pos c, t1, bzBpS, bzLetS, nI_1]
      rw [e, e1]
      exact ih (v + 1) (by omega) F τ (pYr (-1) g) (y + 1) (by omega) t2 (pYr_ok hk (by omega)) (by omega)
    · have e : pFal (m + 1) v g = some v := if_neg c
      rw [e]
      refine ⟨fun r hr => ⟨σ, ?_, h.2.2⟩, fun hr => no_some hr.symm⟩
      obtain rfl := Option.some.inj hr
      rw [e0]
      unfold fb_X9_falls_6
      rw [if_neg v60, l_0_3, l6, if_neg c]
theorem fal_m {f : Nat → Int32} {σ1 : bzS} : ∀ m v, v + m = 61 → ∀ (F : Nat) (σ : bzS) (g : Nat → Int32) (y : Nat), m < F → mdT (-1) f g σ1 σ → pOk g y → y + m < 20000 →
    (∀ r, pFal m v g = some r → ∃ τ, fl_X10_falls_14 95 F (nI v) σ = some (nI r, τ) ∧ mdT (-1) f f σ1 τ) ∧ (pFal m v g = none → ∃ τ, fl_X10_falls_14 95 F (nI v) σ = some (-1000000002, bzSt τ 100 2 (τ 100 2 + 1)) ∧ mdT (-1) f f σ1 τ) := by
  intro m
  induction m with
  | zero =>
    intro v hv F σ g y hF h hk hy
    obtain ⟨F, rfl⟩ : ∃ x, F = x + 1 := ⟨F - 1, by omega⟩
    have e : v = 61 := by omega
    subst e
    obtain ⟨τ, t1, t2⟩ := md_back h
    refine ⟨fun r hr => no_some hr, fun _ => ⟨τ, ?_, t2⟩⟩
    show fb_X10_falls_14 (fl_X10_falls_14 95 F) 95 (nI 61) σ = _
    unfold fb_X10_falls_14
    rw [if_pos (show (60 : Int32) < nI 61 by decide), l_95_2, l_95_0, t1, bzBdS, if_neg (show ¬ nI 61 ≤ 60 by decide)]; rfl
  | succ m ih =>
    intro v hv F σ g y hF h hk hy
    obtain ⟨F, rfl⟩ : ∃ x, F = x + 1 := ⟨F - 1, by omega⟩
    have v60 : ¬ (60 : Int32) < nI v := nI_nlt (a := 60) (by omega) (by decide)
    have e0 : fl_X10_falls_14 95 (F + 1) (nI v) σ = fb_X10_falls_14 (fl_X10_falls_14 95 F) 95 (nI v) σ := rfl
    by_cases c : g 4 < 60
    · have e : pFal (m + 1) v g = pFal m (v + 1) (pYr (-1) g) := if_pos c
      obtain ⟨τ, t1, t2⟩ := md_year h hk
      have e1 : fl_X10_falls_14 95 (F + 1) (nI v) σ = fl_X10_falls_14 95 F (nI (v + 1)) τ := by
        rw [e0]
        unfold fb_X10_falls_14
        rw [if_neg v60, l_95_0, h.1, if_neg (Int32.not_le.mpr c), t1, bzBdS, bzLetS, nI_1]
      rw [e, e1]
      exact ih (v + 1) (by omega) F τ (pYr (-1) g) (y + 1) (by omega) t2 (pYr_ok hk (by omega)) (by omega)
    · have e : pFal (m + 1) v g = some v := if_neg c
      obtain ⟨τ, t1, t2⟩ := md_back h
      rw [e]
      refine ⟨fun r hr => ⟨τ, ?_, t2⟩, fun hr => no_some hr.symm⟩
      obtain rfl := Option.some.inj hr
      rw [e0]
      unfold fb_X10_falls_14
      rw [if_neg v60, l_95_0, h.1, if_pos (le_of_nlt c), l_95_2, t1, bzBdS, if_pos (show nI v ≤ 60 from nI_le (b := 60) (by omega) (by decide))]
theorem st_falls : bzSt_falls bzInv := by
  intro σ n hn hI
  obtain ⟨y, hy, hk⟩ := pOk_I hI
  obtain ⟨τ, t1, t2⟩ := th_new hI (σ := σ) (fun k _ => rfl)
  obtain ⟨fc1, fc2⟩ := fal_c 61 0 rfl 2000 τ (σ 96) y (by decide) t2 hk (by omega)
  have ec : f_X9_falls 0 σ = fl_X9_falls_6 0 2000 (nI 0) τ := by unfold f_X9_falls; rw [g_0, t1, bzBdS]; rfl
  have em : ∀ κ ρ, f_X10_moveAll 95 96 98 κ = some ρ → f_X10_falls 95 κ = fl_X10_falls_14 95 2000 (nI 0) ρ := fun κ ρ h => by unfold f_X10_falls; rw [g_95, l_95_0, l_95_2, h, bzBdS]; rfl
  cases hp : pFal 61 0 (σ 96) with
  | some r =>
    obtain ⟨κ, k1, k2⟩ := fc1 r hp
    obtain ⟨ρ, r1, r2⟩ := md_start hI k2
    obtain ⟨ω, w1, w2⟩ := (fal_m 61 0 rfl 2000 ρ (σ 96) y (by decide) r2 hk (by omega)).1 r hp
    exact ⟨nI r, κ, ω, ec.trans k1, (em κ ρ r1).trans w1, inv_th hI k2 w2⟩
  | none =>
    obtain ⟨κ, k1, k2⟩ := fc2 hp
    have k3 : ∀ k, (k < 55 ∨ 70 < k) → k ≠ 82 → bzSt κ 82 2 (κ 82 2 + 1) k = σ k := fun k h1 h2 => by rw [st_o h2]; exact k2 k h1
    obtain ⟨ρ, r1, r2⟩ := md_new (σ1 := bzSt κ 82 2 (κ 82 2 + 1)) (σ := bzSt κ 82 2 (κ 82 2 + 1)) (aw := -1) (k3 96 (by decide) (by decide)) (by rw [k3 95 (by decide) (by decide)]; exact hI.2.2.1) (fun k _ => rfl)
    obtain ⟨ω, w1, w2⟩ := (fal_m 61 0 rfl 2000 ρ (σ 96) y (by decide) r2 hk (by omega)).2 hp
    exact ⟨-1000000002, _, _, ec.trans k1, (em _ ρ r1).trans w1, inv_the (q := 2) hI k3 (by rw [st_s, k2 82 (by decide)]) w2⟩
def pWet (a2 : Int32) : Nat → Int32 → (Nat → Int32) → Int32
  | 0, c, _ => c
  | m + 1, c, g => if pYr (-1) g 5 < a2 then pWet a2 m c (pYr (-1) g) else pWet a2 m (c + 1) (pYr (-1) g)
theorem wet_c {σ0 : bzS} {a2 : Int32} {n : Nat} (hn : n ≤ 60) : ∀ m v, v + m = n → ∀ (F : Nat) (σ : bzS) (g : Nat → Int32) (y : Nat) (c : Int32), m < F → thT (-1) g σ0 σ → pOk g y → y + m < 20000 →
    ∃ τ, fl_X9_wet_36 0 (nI n) a2 F c (nI v) σ = some (pWet a2 m c g, τ) ∧ ∀ k, (k < 55 ∨ 70 < k) → τ k = σ0 k := by
  intro m
  induction m with
  | zero =>
    intro v hv F σ g y c hF h hk hy
    obtain ⟨F, rfl⟩ : ∃ x, F = x + 1 := ⟨F - 1, by omega⟩
    have e : v = n := by omega
    subst e
    refine ⟨σ, ?_, h.2.2⟩
    show fb_X9_wet_36 (fl_X9_wet_36 0 (nI v) a2 F) 0 (nI v) a2 c (nI v) σ = _
    unfold fb_X9_wet_36
    rw [if_pos (Int32.le_refl _)]; rfl
  | succ m ih =>
    intro v hv F σ g y c hF h hk hy
    obtain ⟨F, rfl⟩ : ∃ x, F = x + 1 := ⟨F - 1, by omega⟩
    obtain ⟨τ, t1, t2⟩ := th_pass (n := 1) (by decide) h hk (by omega)
    have t1 : f_X0_pass 55 1 σ = _ := t1
    have l7 : τ 55 7 = pYr (-1) g 5 := t2.1.1 5 rfl
    have go := fun c => ih (v + 1) (by omega) F τ (pYr (-1) g) (y + 1) c (by omega) t2 (pYr_ok hk (by omega)) (by omega)
    show ∃ ρ, fb_X9_wet_36 (fl_X9_wet_36 0 (nI n) a2 F) 0 (nI n) a2 c (nI v) σ = some ((if pYr (-1) g 5 < a2 then pWet a2 m c (pYr (-1) g) else pWet a2 m (c + 1) (pYr (-1) g)), ρ) ∧ _
    unfold fb_X9_wet_36
    rw [if_neg (nI_ge (by omega) (by omega)), l_0_3, t1, bzBpS, l7]
    by_cases q : pYr (-1) g 5 < a2
    · rw [if_pos q, if_pos q, bzLetS, nI_1]; exact go c
    · rw [if_neg q, if_neg q, bzLetS, bzLetS, nI_1]; exact go (c + 1)
theorem wet_m {f : Nat → Int32} {σ1 : bzS} {a2 : Int32} {n : Nat} (hn : n ≤ 60) : ∀ m v, v + m = n → ∀ (F : Nat) (σ : bzS) (g : Nat → Int32) (y : Nat) (c : Int32), m < F → mdT (-1) f g σ1 σ → pOk g y → y + m < 20000 →
    ∃ τ, fl_X10_wet_44 95 (nI n) a2 F c (nI v) σ = some (pWet a2 m c g, τ) ∧ mdT (-1) f f σ1 τ := by
  intro m
  induction m with
  | zero =>
    intro v hv F σ g y c hF h hk hy
    obtain ⟨F, rfl⟩ : ∃ x, F = x + 1 := ⟨F - 1, by omega⟩
    have e : v = n := by omega
    subst e
    obtain ⟨τ, t1, t2⟩ := md_back h
    refine ⟨τ, ?_, t2⟩
    show fb_X10_wet_44 (fl_X10_wet_44 95 (nI v) a2 F) 95 (nI v) a2 c (nI v) σ = _
    unfold fb_X10_wet_44
    rw [if_pos (Int32.le_refl _), l_95_2, l_95_0, t1, bzBdS]; rfl
  | succ m ih =>
    intro v hv F σ g y c hF h hk hy
    obtain ⟨F, rfl⟩ : ∃ x, F = x + 1 := ⟨F - 1, by omega⟩
    obtain ⟨τ, t1, t2⟩ := md_year h hk
    have l7 : τ 96 5 = pYr (-1) g 5 := by rw [t2.1]
    have go := fun c => ih (v + 1) (by omega) F τ (pYr (-1) g) (y + 1) c (by omega) t2 (pYr_ok hk (by omega)) (by omega)
    show ∃ ρ, fb_X10_wet_44 (fl_X10_wet_44 95 (nI n) a2 F) 95 (nI n) a2 c (nI v) σ = some ((if pYr (-1) g 5 < a2 then pWet a2 m c (pYr (-1) g) else pWet a2 m (c + 1) (pYr (-1) g)), ρ) ∧ _
    unfold fb_X10_wet_44
    rw [if_neg (nI_ge (by omega) (by omega)), t1, bzBdS, l_95_0, l7]
    by_cases q : pYr (-1) g 5 < a2
    · rw [if_pos q, if_pos q, bzLetS, bzLetS, nI_1, Int32.add_zero]; exact go c
    · rw [if_neg q, if_neg q, bzLetS, bzLetS, nI_1]; exact go (c + 1)
theorem st_wet : bzSt_wet bzInv := by
  intro a1 a2 σ n hn hI
  obtain ⟨y, hy, hk⟩ := pOk_I hI
  rcases cutR a1 (n := 60) (lo := 0) (N := 60) rfl (Or.inl rfl) (by decide) with c1 | ⟨c1, c1', q, hq, rfl⟩
  · refine err1 hI ?_ (fun τ _ => ?_)
    · unfold f_X9_wet; rw [g_0, wi_0 c1, bzBdS, if_pos rfl]; rfl
    · unfold f_X10_wet; rw [g_95, in_0 c1, bzBdS, if_pos rfl]; rfl
  rcases cutR a2 (n := 99) (lo := 1) (N := 99) rfl (Or.inr rfl) (by decide) with c2 | ⟨c2, c2', -⟩
  · refine err1 hI ?_ (fun τ _ => ?_)
    · unfold f_X9_wet; rw [g_0, wi_1 c1 c1', bzBdS, if_neg one_ne, wi_0 c2, bzBdS, if_pos rfl]; rfl
    · unfold f_X10_wet; rw [g_95, in_1 c1 c1', bzBdS, if_neg one_ne, in_0 c2, bzBdS, if_pos rfl]; rfl
  obtain ⟨τ, t1, t2⟩ := th_new hI (σ := σ) (fun k _ => rfl)
  obtain ⟨κ, k1, k2⟩ := wet_c (a2 := a2) hq q 0 (by omega) 2000 τ (σ 96) y 0 (by omega) t2 hk (by omega)
  obtain ⟨ρ, r1, r2⟩ := md_start hI k2
  obtain ⟨ω, w1, w2⟩ := wet_m (a2 := a2) hq q 0 (by omega) 2000 ρ (σ 96) y 0 (by omega) r2 hk (by omega)
  refine ⟨pWet a2 q 0 (σ 96), κ, ω, ?_, ?_, inv_th hI k2 w2⟩
  · unfold f_X9_wet
    rw [g_0, wi_1 c1 c1', bzBdS, if_neg one_ne, wi_1 c2 c2', bzBdS, if_neg one_ne, t1, bzBdS]; exact k1
  · unfold f_X10_wet
    rw [g_95, in_1 c1 c1', bzBdS, if_neg one_ne, in_1 c2 c2', bzBdS, if_neg one_ne, l_95_0, l_95_2, r1, bzBdS]; exact w1
