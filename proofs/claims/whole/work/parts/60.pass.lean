set_option linter.unusedVariables false
/-! YEARS: many of them; the step years -/
def pYrs (aw : Int32) : Nat → (Nat → Int32) → Nat → Int32
  | 0, f => f
  | n + 1, f => pYrs aw n (pYr aw f)
theorem pYrs_o {aw : Int32} {p : Nat} (h0 : p ≠ 0) (h3 : p ≠ 3) (h4 : p ≠ 4) (h5 : p ≠ 5) : ∀ n f, pYrs aw n f p = f p := by
  intro n
  induction n with
  | zero => intro f; rfl
  | succ n ih => intro f; exact (ih (pYr aw f)).trans (pYr_o h0 h3 h4 h5)
theorem pYrs_ok {aw : Int32} : ∀ n f y, pOk f y → y + n < 20000 → pOk (pYrs aw n f) (y + n) := by
  intro n
  induction n with
  | zero => intro f y h _; exact h
  | succ n ih =>
    intro f y h hy
    have := ih (pYr aw f) (y + 1) (pYr_ok h (by omega)) (by omega)
    rw [show y + (n + 1) = y + 1 + n by omega]; exact this
theorem pOk.lean {f : Nat → Int32} {y : Nat} (h : pOk f y) : ∃ k : Nat, k ≤ 99 ∧ f 4 = nI k := h.1.1 4 rfl (by decide) (by decide)
theorem ps_c {b : Nat} {aw : Int32} (hb : b = 1 ∨ b = 54) {n : Nat} (hn : n ≤ 60) : ∀ m v, v + m = n → ∀ (F : Nat) (σ : bzS) (f : Nat → Int32) (y : Nat), m < F → bzCR σ b f → pOk f y → y + m < 20000 → σ (b + 4) 5 = aw →
    ∃ τ, fl_X0_pass_2 (b + 1) (nI n) F (nI v) σ = some (pYrs aw m f 4, τ) ∧ bzCR τ b (pYrs aw m f) ∧ ∀ k, k ≠ b + 1 → k ≠ b + 12 → k ≠ b + 16 → τ k = σ k := by
  intro m
  induction m with
  | zero =>
    intro v hv F σ f y hF hC hk hy ha
    obtain ⟨F, rfl⟩ : ∃ x, F = x + 1 := ⟨F - 1, by omega⟩
    have e : v = n := by omega
    subst e
    refine ⟨σ, ?_, hC, fun k _ _ _ => rfl⟩
    show fb_X0_pass_2 (fl_X0_pass_2 (b + 1) (nI v) F) (b + 1) (nI v) (nI v) σ = _
    unfold fb_X0_pass_2
    rw [if_pos (Int32.le_refl _), show σ (b + 1) 6 = f 4 from hC.1 4 rfl]; rfl
  | succ m ih =>
    intro v hv F σ f y hF hC hk hy ha
    obtain ⟨F, rfl⟩ : ∃ x, F = x + 1 := ⟨F - 1, by omega⟩
    obtain ⟨τ, t1, t2, t3⟩ := yr_c hb hC hk
    rw [ha] at t2
    obtain ⟨ρ, r1, r2, r3⟩ := ih (v + 1) (by omega) F τ (pYr aw f) (y + 1) (by omega) t2 (pYr_ok hk (by omega)) (by omega) (by rw [t3 _ (by omega) (by omega) (by omega)]; exact ha)
    refine ⟨ρ, ?_, r2, fun k h1 h2 h3 => by rw [r3 k h1 h2 h3, t3 k h1 h2 h3]⟩
    show fb_X0_pass_2 (fl_X0_pass_2 (b + 1) (nI n) F) (b + 1) (nI n) (nI v) σ = _
    unfold fb_X0_pass_2
    rw [if_neg (nI_ge (by omega) (by omega)), t1, bzBdS, bzLetS, nI_1]
    exact r1
theorem pass_c {b n y : Nat} {f : Nat → Int32} {σ : bzS} (hb : b = 1 ∨ b = 54) (hn : n ≤ 60) (hC : bzCR σ b f) (hk : pOk f y) (hy : y + n < 20000) : ∃ τ, f_X0_pass (b + 1) (nI n) σ = some (pYrs (σ (b + 4) 5) n f 4, τ) ∧ bzCR τ b (pYrs (σ (b + 4) 5) n f) ∧ ∀ k, k ≠ b + 1 → k ≠ b + 12 → k ≠ b + 16 → τ k = σ k := by
  obtain ⟨τ, t1, t2, t3⟩ := ps_c hb hn n 0 (by omega) 2000 σ f y (by omega) hC hk hy rfl
  refine ⟨τ, ?_, t2, t3⟩
  unfold f_X0_pass
  rw [bzGdT (by rcases hb with rfl | rfl <;> rfl)]
  exact t1
theorem pm_m {aw : Int32} {n : Nat} (hn : n ≤ 60) : ∀ m v, v + m = n → ∀ (F : Nat) (σ : bzS) (y : Nat), m < F → pOk (σ 96) y → y + m < 20000 → σ 95 7 = aw →
    ∃ τ, fl_X10_passes_2 95 (nI n) F (nI v) σ = some τ ∧ τ 96 = pYrs aw m (σ 96) ∧ mdF σ τ := by
  intro m
  induction m with
  | zero =>
    intro v hv F σ y hF hk hy ha
    obtain ⟨F, rfl⟩ : ∃ x, F = x + 1 := ⟨F - 1, by omega⟩
    have e : v = n := by omega
    subst e
    exact ⟨σ, if_pos (Int32.le_refl _), rfl, mdF.refl σ⟩
  | succ m ih =>
    intro v hv F σ y hF hk hy ha
    obtain ⟨F, rfl⟩ : ∃ x, F = x + 1 := ⟨F - 1, by omega⟩
    obtain ⟨τ, t1, t2, t3⟩ := yr_m hk
    rw [ha] at t2
    obtain ⟨ρ, r1, r2, r3⟩ := ih (v + 1) (by omega) F τ (y + 1) (by omega) (by rw [t2]; exact pYr_ok hk (by omega)) (by omega) (by rw [t3.2 7 (by decide)]; exact ha)
    refine ⟨ρ, ?_, by rw [r2, t2]; rfl, t3.trans r3⟩
    show fb_X10_passes_2 (fl_X10_passes_2 95 (nI n) F) 95 (nI n) (nI v) σ = _
    unfold fb_X10_passes_2
    rw [if_neg (nI_ge (by omega) (by omega)), t1, bzBdS, bzLetS, nI_1]
    exact r1
theorem passes_m {n y : Nat} {σ : bzS} (hn : n ≤ 60) (hk : pOk (σ 96) y) (hy : y + n < 20000) : ∃ τ, f_X10_passes 95 (nI n) σ = some τ ∧ τ 96 = pYrs (σ 95 7) n (σ 96) ∧ mdF σ τ := pm_m hn n 0 (by omega) 2000 σ y (by omega) hk hy rfl
theorem pOk_I {n : Nat} {σ : bzS} (hI : bzInv n σ) : ∃ y : Nat, y ≤ 9999 ∧ pOk (σ 96) y := by
  obtain ⟨y, h1, h2⟩ := yearN hI
  exact ⟨y, h1, hI.2.1.1, lawsR hI, h2, by omega⟩
theorem sr_of_cr {σ τ : bzS} {b : Nat} {f g : Nat → Int32} (h : bzSR σ b f) (hC : bzCR τ b g) (hk : ∀ k, k ≠ b + 1 → k ≠ b + 12 → k ≠ b + 16 → τ k = σ k) (hg : ∀ p, p ≠ 0 → p ≠ 3 → p ≠ 4 → p ≠ 5 → g p = f p) : bzSR τ b g := by
  obtain ⟨i1, -, i2, i3, i4⟩ := h
  refine ⟨fun p hp => ?_, hC.2, fun i hi hf => ?_, fun i hi hf => ?_, ?_⟩
  · have hl := plB_lt hp
    cases hc : cpB p with
    | true => exact hC.1 p hc
    | false =>
      have key1 : ∀ p, p < 84 → plB p = true → cpB p = false → mc p ≠ 1 ∧ mc p ≠ 12 ∧ mc p ≠ 16 := by decide +kernel
      have key2 : ∀ p, p < 84 → plB p = true → cpB p = false → p ≠ 0 ∧ p ≠ 3 ∧ p ≠ 4 ∧ p ≠ 5 := by decide +kernel
      obtain ⟨q1, q2, q3⟩ := key1 p hl.1 hp hc
      obtain ⟨q4, q5, q6, q7⟩ := key2 p hl.1 hp hc
      rw [hg p q4 q5 q6 q7, hk _ (by omega) (by omega) (by omega)]
      exact i1 p hp
  · rw [hg 8 (by decide) (by decide) (by decide) (by decide)] at hf
    rw [hg _ (by omega) (by omega) (by omega) (by omega), hk _ (by omega) (by omega) (by omega)]; exact i2 i hi hf
  · rw [hg 9 (by decide) (by decide) (by decide) (by decide)] at hf
    rw [hg _ (by omega) (by omega) (by omega) (by omega), hk _ (by omega) (by omega) (by omega)]; exact i3 i hi hf
  · rw [hk _ (by omega) (by omega) (by omega)]; exact i4
/-- within lo .. n, or not (lo 0 or 1) -/
theorem cutR (x : Int32) {n : Nat} {lo N : Int32} (hN : nI n = N) (hlo : lo = 0 ∨ lo = 1) (hn : n < 2 ^ 31 - 1) : (x < lo ∨ N < x) ∨ (¬ x < lo ∧ ¬ N < x ∧ ∃ k : Nat, k ≤ n ∧ x = nI k) := by
  subst hN
  by_cases h : x < lo ∨ nI n < x
  · exact Or.inl h
  · right
    refine ⟨fun c => h (Or.inl c), fun c => h (Or.inr c), ?_⟩
    rcases rng x hn with h2 | h2 | h2
    · exact h2
    · exfalso
      rcases hlo with rfl | rfl
      · exact h (Or.inl h2)
      · exact h (Or.inl (Int32.lt_trans h2 (by decide)))
    · exact absurd (Or.inr h2) h
theorem st_years : bzSt_years bzInv := by
  intro a1 σ n hn hI
  obtain ⟨y, hy, hk⟩ := pOk_I hI
  rcases cutR a1 (n := 60) (lo := 1) (N := 60) rfl (Or.inr rfl) (by decide) with c1 | ⟨c1, c1', q, hq, rfl⟩
  · refine err1 hI ?_ (fun τ _ => ?_)
    · unfold f_X9_years; rw [g_0, wi_0 c1, bzBdS, if_pos rfl]; rfl
    · unfold f_X10_years; rw [g_95, in_0 c1, bzBdS, if_pos rfl]; rfl
  have y8 : σ 2 8 = nI y := (hI.1.1 0 rfl).trans hk.2.2.1
  by_cases c2 : y + q ≤ 9999
  · have c3 : nI y + nI q ≤ 9999 := by rw [nI_add]; exact nI_le (b := 9999) c2 (by decide)
    obtain ⟨τ, t1, t2, t3⟩ := pass_c (b := 1) (Or.inl rfl) hq (cr_of_sr hI.1) hk (by omega)
    have a5 : σ (1 + 4) 5 = -1 := hI.1.2.2.2.2
    rw [a5] at t1 t2
    have e96 : τ 96 = σ 96 := t3 96 (by decide) (by decide) (by decide)
    have e95 : τ 95 = σ 95 := t3 95 (by decide) (by decide) (by decide)
    obtain ⟨ρ, r1, r2, r3⟩ := passes_m (σ := τ) hq (by rw [e96]; exact hk) (by omega)
    rw [e96, e95, hI.2.2.1] at r2
    refine ⟨pYrs (-1) q (σ 96) 4, τ, ρ, ?_, ?_, inv_mono _ _ (inv_now hI ?_ ?_ ?_ (fun k h0 h1 h2 h3 h4 => ?_) (fun j hj => ?_))⟩
    · unfold f_X9_years
      rw [g_0, wi_1 c1 c1', bzBdS, if_neg one_ne, l_0_0, l_1_0, y8, if_pos c3, t1, bzBpS]
    · unfold f_X10_years
      rw [g_95, in_1 c1 c1', bzBdS, if_neg one_ne, l_95_0, e96, hk.2.2.1, if_pos c3, r1, bzBdS, r2]
    · rw [r2]
      refine (sr_of_cr hI.1 t2 t3 (fun p h0 h3 h4 h5 => pYrs_o h0 h3 h4 h5 _ _)).frame2 (fun k _ _ _ _ _ _ => r3.1 k (by omega) (by omega))
    · rw [r2]; exact (pYrs_ok q _ y hk (by omega)).1
    · rw [r2, (pYrs_ok q _ y hk (by omega)).2.2.1]; exact ⟨_, by omega, rfl⟩
    · rw [r3.1 k h3 h4, t3 k (by omega) (by omega) (by omega)]
    · rw [r3.2 j (by omega), e95]
  · have c3 : ¬ nI y + nI q ≤ 9999 := by rw [nI_add]; exact nI_ge (b := y + q) (a := 9999) (by omega) (by omega)
    refine err3 hI ?_ (fun τ ht => ?_)
    · unfold f_X9_years
      rw [g_0, wi_1 c1 c1', bzBdS, if_neg one_ne, l_0_0, l_1_0, y8, if_neg c3]; rfl
    · unfold f_X10_years
      rw [g_95, in_1 c1 c1', bzBdS, if_neg one_ne, l_95_0, ht 96 (by decide), hk.2.2.1, if_neg c3]; rfl
/-! thinking: the class -/
/-- the thought holds g, nobody (but aw) is away; else all stands -/
def thT (aw : Int32) (g : Nat → Int32) (σ0 σ : bzS) : Prop := bzCR σ 54 g ∧ σ 58 5 = aw ∧ ∀ k, (k < 55 ∨ 70 < k) → σ k = σ0 k
theorem th_new {n : Nat} {σ0 σ : bzS} (hI : bzInv n σ0) (h : ∀ k, (k < 55 ∨ 70 < k) → σ k = σ0 k) : ∃ τ, f_X9_thinkAfresh 0 σ = some τ ∧ thT (-1) (σ0 96) σ0 τ := by
  have hC : bzCR σ 1 (σ0 96) := cr_frame (cr_of_sr hI.1) (fun k _ _ _ => h k (by omega))
  obtain ⟨τ, t1, t2, t3, t4⟩ := cpc_54 hC
  refine ⟨τ, ?_, t3, ?_, fun k hk => by rw [t2 k hk, h k hk]⟩
  · unfold f_X9_thinkAfresh
    rw [g_0, l_0_3, l_0_0, l_1_0, t1, bzBdS]
  · rw [t4, h 5 (by decide)]; exact hI.1.2.2.2.2
theorem th_set {aw : Int32} {g : Nat → Int32} {σ0 σ : bzS} {p c j : Nat} (v : Int32) (h : thT aw g σ0 σ) (hp : cpB p = true) (hc : 54 + mc p = c) (hj : mj p = j) (h2 : p ≠ 2) : thT aw (upd g p v) σ0 (bzSt σ c j v) := by
  subst hc; subst hj
  have key : ∀ p, p < 84 → cpB p = true → p ≠ 2 → mc p ≠ 4 ∧ 1 ≤ mc p ∧ mc p ≤ 8 := by decide +kernel
  obtain ⟨k1, k2, k3⟩ := key p (cpB_lt hp) hp h2
  exact ⟨cr_set v h.1 hp, by rw [st_o (by omega)]; exact h.2.1, fun k hk => by rw [st_o (by omega)]; exact h.2.2 k hk⟩
theorem th_aw {aw : Int32} {g : Nat → Int32} {σ0 σ : bzS} (v : Int32) (h : thT aw g σ0 σ) : thT v g σ0 (bzSt σ 58 5 v) := by
  refine ⟨⟨fun q hq => ?_, h.1.2.1.ext ?_ ?_ ?_ rfl rfl, h.1.2.2.ext ?_ ?_ ?_ rfl rfl⟩, by rw [st_s, pk_us], fun k hk => by rw [st_o (by omega)]; exact h.2.2 k hk⟩
  · have key : ∀ p, p < 84 → cpB p = true → mc p = 4 → mj p = 4 := by decide +kernel
    by_cases c : mc q = 4
    · have hj := key q (cpB_lt hq) hq c
      rw [← h.1.1 q hq, c, st_s, pk_un (by omega)]
    · rw [st_o (by omega)]; exact h.1.1 q hq
  all_goals rw [st_o (by decide)]
theorem th_pass {aw : Int32} {g : Nat → Int32} {σ0 σ : bzS} {n y : Nat} (hn : n ≤ 60) (h : thT aw g σ0 σ) (hk : pOk g y) (hy : y + n < 20000) : ∃ τ, f_X0_pass 55 (nI n) σ = some (pYrs aw n g 4, τ) ∧ thT aw (pYrs aw n g) σ0 τ := by
  obtain ⟨τ, t1, t2, t3⟩ := pass_c (b := 54) (Or.inr rfl) hn h.1 hk hy
  have e : σ (54 + 4) 5 = aw := h.2.1
  rw [e] at t1 t2
  exact ⟨τ, t1, t2, by rw [t3 58 (by decide) (by decide) (by decide)]; exact h.2.1, fun k hk => by rw [t3 k (by omega) (by omega) (by omega)]; exact h.2.2 k hk⟩
/-! thinking: the reference -/
theorem mvAll2 {a b : Nat} (ka : kd a = 11) (kb : kd b = 11) (na : ln a = 254) (nb : ln b = 254) (hab : a ≠ b) : ∀ m v, m + v = 254 → ∀ (f : Nat) (σ : bzS), m < f → (∀ j, j < v → σ b j = σ a j) → ∃ τ, fl_X10_moveAll_2 95 a b f (nI v) σ = some τ ∧ (∀ k, k ≠ b → τ k = σ k) ∧ (∀ j, j < 254 → τ b j = σ a j) ∧ ∀ j, 254 ≤ j → τ b j = σ b j := by
  intro m
  induction m with
  | zero =>
    intro v hv f σ hf h
    obtain ⟨f, rfl⟩ : ∃ q, f = q + 1 := ⟨f - 1, by omega⟩
    have e : v = 254 := by omega
    subst e
    exact ⟨σ, by simp only [fl_X10_moveAll_2, fb_X10_moveAll_2, if_pos (show (254 : Int32) ≤ nI 254 by decide)], fun k _ => rfl, fun j hj => h j hj, fun j _ => rfl⟩
  | succ m ih =>
    intro v hv f σ hf h
    obtain ⟨f, rfl⟩ : ∃ q, f = q + 1 := ⟨f - 1, by omega⟩
    obtain ⟨τ, t1, t2, t3, t4⟩ := ih (v + 1) (by omega) f (bzSt σ b v (σ a v)) (by omega) (fun j hj => by
      rw [st_s, st_o hab]
      by_cases e : j = v
      · subst e; exact pk_us
      · rw [pk_un e]; exact h j (by omega))
    refine ⟨τ, ?_, fun k hk => by rw [t2 k hk, st_o hk], fun j hj => by rw [t3 j hj, st_o hab], fun j hj => by rw [t4 j hj, st_s, pk_un (by omega)]⟩
    have i254 : bzIn (nI v) 254 := bzIn_nI (by omega) (by decide)
    simp only [fl_X10_moveAll_2, fb_X10_moveAll_2, if_neg (show ¬ (254 : Int32) ≤ nI v from nI_ge (show v < 254 by omega) (by decide)), na, nb, bzGdT i254, bzLet, clN (show v < 2 ^ 31 by omega), nI_1]
    exact t1
/-- the row is g, what is tried f; else all stands -/
def mdT (aw : Int32) (f g : Nat → Int32) (σ1 σ : bzS) : Prop := σ 96 = g ∧ (∀ j, 254 ≤ j → g j = f j) ∧ (∀ j, j < 254 → σ 98 j = f j) ∧ (∀ k, k ≠ 95 → k ≠ 96 → k ≠ 98 → σ k = σ1 k) ∧ (∀ j, j < 7 ∨ 15 < j → σ 95 j = σ1 95 j) ∧ σ 95 7 = aw
theorem md_new {σ1 σ : bzS} {aw : Int32} {f : Nat → Int32} (h1 : σ 96 = f) (h7 : σ 95 7 = aw) (hk : ∀ k, k ≠ 96 → σ k = σ1 k) : ∃ τ, f_X10_moveAll 95 96 98 σ = some τ ∧ mdT aw f f σ1 τ := by
  obtain ⟨τ, t1, t2, t3, t4⟩ := mvAll2 (a := 96) (b := 98) rfl rfl rfl rfl (by decide) 254 0 rfl 2000 σ (by decide) (fun j hj => absurd hj (Nat.not_lt_zero _))
  exact ⟨τ, t1, by rw [t2 96 (by decide)]; exact h1, fun j _ => rfl, fun j hj => by rw [t3 j hj, h1], fun k a b c => by rw [t2 k c, hk k b], fun j hj => by rw [t2 95 (by decide), hk 95 (by decide)], by rw [t2 95 (by decide)]; exact h7⟩
theorem md_set {aw : Int32} {f g : Nat → Int32} {σ1 σ : bzS} {p : Nat} (v : Int32) (h : mdT aw f g σ1 σ) (hp : p < 254) : mdT aw f (upd g p v) σ1 (bzSt σ 96 p v) := by
  obtain ⟨h1, h2, h3, h4, h5, h6⟩ := h
  exact ⟨by rw [st_s, h1], fun j hj => by rw [pk_un (by omega)]; exact h2 j hj, fun j hj => by rw [st_o (by decide)]; exact h3 j hj, fun k a b c => by rw [st_o b]; exact h4 k a b c, fun j hj => by rw [st_o (by decide)]; exact h5 j hj, by rw [st_o (by decide)]; exact h6⟩
theorem md_aw {aw : Int32} {f g : Nat → Int32} {σ1 σ : bzS} (v : Int32) (h : mdT aw f g σ1 σ) : mdT v f g σ1 (bzSt σ 95 7 v) := by
  obtain ⟨h1, h2, h3, h4, h5, h6⟩ := h
  exact ⟨by rw [st_o (by decide)]; exact h1, h2, fun j hj => by rw [st_o (by decide)]; exact h3 j hj, fun k a b c => by rw [st_o a]; exact h4 k a b c, fun j hj => by rw [st_s, pk_un (by omega)]; exact h5 j hj, by rw [st_s, pk_us]⟩
theorem md_year {aw : Int32} {f g : Nat → Int32} {σ1 σ : bzS} {y : Nat} (h : mdT aw f g σ1 σ) (hk : pOk g y) : ∃ τ, f_X10_oneYear 95 σ = some τ ∧ mdT aw f (pYr aw g) σ1 τ := by
  obtain ⟨h1, h2, h3, h4, h5, h6⟩ := h
  obtain ⟨τ, t1, t2, t3⟩ := yr_m (σ := σ) (by rw [h1]; exact hk)
  rw [h1, h6] at t2
  exact ⟨τ, t1, t2, fun j hj => by rw [pYr_o (by omega) (by omega) (by omega) (by omega)]; exact h2 j hj, fun j hj => by rw [t3.1 98 (by decide) (by decide)]; exact h3 j hj, fun k a b c => by rw [t3.1 k a b]; exact h4 k a b c, fun j hj => by rw [t3.2 j (by omega)]; exact h5 j hj, by rw [t3.2 7 (by decide)]; exact h6⟩
theorem md_back {aw : Int32} {f g : Nat → Int32} {σ1 σ : bzS} (h : mdT aw f g σ1 σ) : ∃ τ, f_X10_moveAll 95 98 96 σ = some τ ∧ mdT aw f f σ1 τ := by
  obtain ⟨h1, h2, h3, h4, h5, h6⟩ := h
  obtain ⟨τ, t1, t2, t3, t4⟩ := mvAll2 (a := 98) (b := 96) rfl rfl rfl rfl (by decide) 254 0 rfl 2000 σ (by decide) (fun j hj => absurd hj (Nat.not_lt_zero _))
  refine ⟨τ, t1, ?_, fun j _ => rfl, fun j hj => by rw [t2 98 (by decide)]; exact h3 j hj, fun k a b c => by rw [t2 k b]; exact h4 k a b c, fun j hj => by rw [t2 95 (by decide)]; exact h5 j hj, by rw [t2 95 (by decide)]; exact h6⟩
  funext j
  by_cases hj : j < 254
  · rw [t3 j hj, h3 j hj]
  · rw [t4 j (by omega), h1, h2 j (by omega)]
theorem md_behind {aw : Int32} {f g : Nat → Int32} {σ1 σ : bzS} {n y q : Nat} (hn : n ≤ 60) (hq : q < 254) (h : mdT aw f g σ1 σ) (hk : pOk g y) (hy : y + n < 20000) : ∃ τ, f_X10_behind 95 (nI n) (nI q) σ = some (pYrs aw n g q, τ) ∧ mdT aw f f σ1 τ := by
  obtain ⟨h1, h2, h3, h4, h5, h6⟩ := h
  obtain ⟨τ, t1, t2, t3⟩ := passes_m (σ := σ) hn (by rw [h1]; exact hk) hy
  rw [h1, h6] at t2
  obtain ⟨ρ, r1, r2⟩ := md_back (aw := aw) (f := f) (g := pYrs aw n g) (σ1 := σ1) (σ := τ) ⟨t2, fun j hj => by rw [pYrs_o (by omega) (by omega) (by omega) (by omega)]; exact h2 j hj, fun j hj => by rw [t3.1 98 (by decide) (by decide)]; exact h3 j hj, fun k a b c => by rw [t3.1 k a b]; exact h4 k a b c, fun j hj => by rw [t3.2 j (by omega)]; exact h5 j hj, by rw [t3.2 7 (by decide)]; exact h6⟩
  refine ⟨ρ, ?_, r2⟩
  unfold f_X10_behind
  rw [g_95, t1, bzBdS, bzGdT (bzIn_nI hq (by decide)), bzLetS, l_95_0, l_95_2, r1, bzBdS, clN (by omega), t2]
/-- both are as they were -/
theorem inv_th {n : Nat} {σ σc σm : bzS} (hI : bzInv n σ) (h1 : ∀ k, (k < 55 ∨ 70 < k) → σc k = σ k) (h2 : mdT (-1) (σ 96) (σ 96) σc σm) : bzInv (n + 1) σm := by
  obtain ⟨m1, m2, m3, m4, m5, m6⟩ := h2
  refine inv_mono _ _ (inv_frame hI (fun k hk hf h95 => ?_) (fun j hj => ?_))
  · by_cases h96 : k = 96
    · subst h96; exact m1
    · rw [m4 k h95 h96 (fr_ne hf rfl), h1 k ?_]
      have key : ∀ q, 55 ≤ q → q ≤ 70 → frB q = true := fun q a b => decide_eq_true (by omega)
      by_cases c : 55 ≤ k ∧ k ≤ 70
      · rw [key k c.1 c.2] at hf; exact Bool.noConfusion hf
      · omega
  · rcases hj with rfl | rfl | rfl | rfl
    · rw [m5 4 (by decide), h1 95 (by decide)]
    · rw [m5 5 (by decide), h1 95 (by decide)]
    · rw [m6, hI.2.2.1]
    · rw [m5 23 (by decide), h1 95 (by decide)]
theorem inv_the {n q : Nat} {σ σc σm : bzS} (hI : bzInv n σ) (h1 : ∀ k, (k < 55 ∨ 70 < k) → k ≠ 82 → σc k = σ k) (h82 : σc 82 = upd (σ 82) q (σ 82 q + 1)) (h2 : mdT (-1) (σ 96) (σ 96) σc σm) : bzInv (n + 1) (bzSt σm 100 q (σm 100 q + 1)) := by
  obtain ⟨m1, m2, m3, m4, m5, m6⟩ := h2
  have e100 : σm 100 = σ 100 := by rw [m4 100 (by decide) (by decide) (by decide), h1 100 (by decide) (by decide)]
  have e95 : σc 95 = σ 95 := h1 95 (by decide) (by decide)
  refine inv_frame (inv_err hI q) (fun k hk hf h95 => ?_) (fun j hj => ?_)
  · by_cases h100 : k = 100
    · subst h100
      rw [st_s, st_s, e100, st_o (by decide)]
    · rw [st_o h100, st_o h100]
      by_cases h96 : k = 96
      · subst h96; rw [st_o (by decide)]; exact m1
      · rw [m4 k h95 h96 (fr_ne hf rfl)]
        by_cases h82k : k = 82
        · subst h82k; rw [h82, st_s]
        · rw [st_o h82k, h1 k ?_ h82k]
          have key : ∀ q, 55 ≤ q → q ≤ 70 → frB q = true := fun q a b => decide_eq_true (by omega)
          by_cases c : 55 ≤ k ∧ k ≤ 70
          · rw [key k c.1 c.2] at hf; exact Bool.noConfusion hf
          · omega
  · rw [st_o (by decide), st_o (by decide), st_o (by decide)]
    rcases hj with rfl | rfl | rfl | rfl
    · rw [m5 4 (by decide), e95]
    · rw [m5 5 (by decide), e95]
    · rw [m6, hI.2.2.1]
    · rw [m5 23 (by decide), e95]
