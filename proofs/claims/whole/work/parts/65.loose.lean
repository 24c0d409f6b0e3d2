set_option linter.unusedVariables false
/-! years by draws -/
def pDr (z : Int32) : Int32 := z * 1103515245 + 12345
def pDv (z : Int32) : Int32 := (z.toUInt32 >>> ((8 : Int32).toUInt32 &&& Int32.toUInt32 31)).toInt32
def pA (z : Int32) : Nat := z.toBitVec.toNat / 2 ^ 8
theorem pA_lt (z : Int32) : pA z < 2 ^ 24 := by
  have h : z.toBitVec.toNat < 2 ^ 32 := z.toBitVec.isLt
  have e : (2 : Nat) ^ 8 = 256 := rfl
  unfold pA
  rw [e]
  omega
theorem dv_n (z : Int32) : pDv z = nI (pA z) := by
  apply Int32.toBitVec_inj.mp
  apply BitVec.eq_of_toNat_eq
  unfold pDv
  rw [pk_ushr z 8 8 (by decide), pk_tn (by have := pA_lt z; omega)]
  rfl
theorem dv_6 (z : Int32) : pDv z - pDv z / 6 * 6 = nI (pA z % 6) := by
  rw [dv_n]; exact pk_rem (d := 6) (by have := pA_lt z; omega) (by decide) (by decide)
theorem dv_10 (z : Int32) : pDv z - pDv z / 10 * 10 = nI (pA z % 10) := by
  rw [dv_n]; exact pk_rem (d := 10) (by have := pA_lt z; omega) (by decide) (by decide)
def pLr (g : Nat → Int32) : Nat → Int32 := upd (upd (upd g 1 (pDr (g 1))) 1 (pDr (pDr (g 1)))) (13 + 2 * (pA (pDr (g 1)) % 6)) (nI (pA (pDr (pDr (g 1))) % 10))
def pLos : Nat → (Nat → Int32) → Nat → Int32
  | 0, g => g
  | m + 1, g => pLos m (pYr (-1) (pLr g))
theorem pLr_ok {g : Nat → Int32} {y : Nat} (h : pOk g y) : pOk (pLr g) y := by
  have key : ∀ i, i < 6 → mx (13 + 2 * i) = 9 := by decide +kernel
  have h6 : pA (pDr (g 1)) % 6 < 6 := Nat.mod_lt _ (by decide)
  have h10 : pA (pDr (pDr (g 1))) % 10 < 10 := Nat.mod_lt _ (by decide)
  unfold pLr
  refine pOk_set (pOk_set (pOk_set h (by decide) (by decide) (by decide) (by decide) (by decide) (fun c => absurd rfl c) (fun q hq e => absurd e (by omega))) (by decide) (by decide) (by decide) (by decide) (by decide) (fun c => absurd rfl c) (fun q hq e => absurd e (by omega))) (by omega) (by omega) (by omega) (by omega) (by omega) (fun _ => ?_) (fun q hq e => absurd e (by omega))
  rw [key _ h6]
  exact ⟨_, by omega, rfl⟩
theorem lr_c {σ : bzS} {g : Nat → Int32} (h : bzSR σ 1 g) : ∃ τ, f_X6_drawRain 1 σ = some τ ∧ bzSR τ 1 (pLr g) ∧ ∀ k, k ≠ 1 → k ≠ 4 → τ k = σ k := by
  have z4 : σ 1 4 = g 1 := h.1 1 rfl
  have h6 : pA (pDr (g 1)) % 6 < 6 := Nat.mod_lt _ (by decide)
  have d1 : f_X6_draw 1 σ = some (pDv (pDr (g 1)), bzSt σ 1 4 (pDr (g 1))) := by
    have u : f_X6_draw 1 σ = some (pDv (bzSt σ 1 4 (pDr (σ 1 4)) 1 4), bzSt σ 1 4 (pDr (σ 1 4))) := rfl
    rw [u, z4, st_s, pk_us]
  have d2 : f_X6_draw 1 (bzSt σ 1 4 (pDr (g 1))) = some (pDv (pDr (pDr (g 1))), bzSt (bzSt σ 1 4 (pDr (g 1))) 1 4 (pDr (pDr (g 1)))) := by
    have u : ∀ s : bzS, f_X6_draw 1 s = some (pDv (bzSt s 1 4 (pDr (s 1 4)) 1 4), bzSt s 1 4 (pDr (s 1 4))) := fun s => rfl
    have e : bzSt σ 1 4 (pDr (g 1)) 1 4 = pDr (g 1) := by rw [st_s, pk_us]
    rw [u, e, st_s, pk_us]
  have S1 : bzSR (bzSt σ 1 4 (pDr (g 1))) 1 (upd g 1 (pDr (g 1))) := h.set (p := 1) rfl (by decide) (by decide) (by decide) st_s (fun k _ hk => st_o hk)
  have S2 : bzSR (bzSt (bzSt σ 1 4 (pDr (g 1))) 1 4 (pDr (pDr (g 1)))) 1 (upd (upd g 1 (pDr (g 1))) 1 (pDr (pDr (g 1)))) := S1.set (p := 1) rfl (by decide) (by decide) (by decide) st_s (fun k _ hk => st_o hk)
  obtain ⟨p1, p2, p3, p4, p5, p6⟩ := sea_p (pA (pDr (g 1)) % 6) h6
  have S3 : bzSR (bzSt (bzSt (bzSt σ 1 4 (pDr (g 1))) 1 4 (pDr (pDr (g 1)))) 4 (pA (pDr (g 1)) % 6) (nI (pA (pDr (pDr (g 1))) % 10))) 1 (pLr g) := by
    refine S2.set (p := 13 + 2 * (pA (pDr (g 1)) % 6)) (cpB_pl _ (cpB_lt p2) p2) (by omega) (by omega) (by omega) ?_ (fun k _ hk => ?_)
    · rw [p4, p6]; exact st_s
    · rw [p4] at hk; exact st_o hk
  refine ⟨_, ?_, S3, fun k h1 h4 => by rw [st_o h4, st_o h1, st_o h1]⟩
  unfold f_X6_drawRain
  rw [g_1, d1, bzBpS, dv_6, bzLetS, d2, bzBpS, dv_10, bzLetS, l_1_0, l_2_1, ip_1 (i := pA (pDr (g 1)) % 6) (k := 4) h6 (by decide) (Or.inl rfl), bzBdS, if_neg one_ne, bzGdT (bzIn_nI h6 (by decide)), bzLetS, clN (by omega)]
theorem lo_c {n : Nat} (hn : n ≤ 40) : ∀ m v, v + m = n → ∀ (F : Nat) (σ : bzS) (g : Nat → Int32) (y : Nat), m < F → bzSR σ 1 g → pOk g y → y + m < 20000 → ∃ τ, fl_X9_loose_44 0 (nI n) F (nI v) σ = some (pLos m g 4, τ) ∧ bzSR τ 1 (pLos m g) ∧ pOk (pLos m g) (y + m) ∧ ∀ k, (k = 0 ∨ 28 ≤ k) → τ k = σ k := by
  intro m
  induction m with
  | zero =>
    intro v hv F σ g y hF h hk hy
    obtain ⟨F, rfl⟩ : ∃ x, F = x + 1 := ⟨F - 1, by omega⟩
    have e : v = n := by omega
    subst e
    refine ⟨σ, ?_, h, hk, fun k _ => rfl⟩
    show fb_X9_loose_44 (fl_X9_loose_44 0 (nI v) F) 0 (nI v) (nI v) σ = _
    unfold fb_X9_loose_44
    rw [if_pos (Int32.le_refl _), l_0_0, l_1_0, show σ 2 6 = g 4 from h.1 4 rfl]; rfl
  | succ m ih =>
    intro v hv F σ g y hF h hk hy
    obtain ⟨F, rfl⟩ : ∃ x, F = x + 1 := ⟨F - 1, by omega⟩
    obtain ⟨τ, t1, t2, t3⟩ := lr_c h
    obtain ⟨κ, k1, k2, k3⟩ := pass_c (b := 1) (n := 1) (Or.inl rfl) (by decide) (cr_of_sr t2) (pLr_ok hk) (by omega)
    have a5 : τ (1 + 4) 5 = -1 := t2.2.2.2.2
    rw [a5] at k1 k2
    have k1 : f_X0_pass 2 1 τ = some (pYr (-1) (pLr g) 4, κ) := k1
    have S : bzSR κ 1 (pYr (-1) (pLr g)) := sr_of_cr t2 k2 k3 (fun p h0 h3 h4 h5 => pYr_o h0 h3 h4 h5)
    obtain ⟨ω, w1, w2, w3, w4⟩ := ih (v + 1) (by omega) F κ _ (y + 1) (by omega) S (pYr_ok (pLr_ok hk) (by omega)) (by omega)
    refine ⟨ω, ?_, w2, by rw [show y + (m + 1) = y + 1 + m by omega]; exact w3, fun k hk => by rw [w4 k hk, k3 k (by omega) (by omega) (by omega), t3 k (by omega) (by omega)]⟩
    show fb_X9_loose_44 (fl_X9_loose_44 0 (nI n) F) 0 (nI n) (nI v) σ = _
    unfold fb_X9_loose_44
    rw [if_neg (nI_ge (by omega) (by omega)), l_0_0, l_1_0, t1, bzBdS, k1, bzBpS, bzLetS, nI_1]
    exact w1
theorem lo_m {n : Nat} (hn : n ≤ 40) : ∀ m v, v + m = n → ∀ (F : Nat) (σ : bzS) (y : Nat), m < F → pOk (σ 96) y → σ 95 7 = -1 → y + m < 20000 → ∃ τ, fl_X10_loose_40 95 (nI n) F (nI v) σ = some (pLos m (σ 96) 4, τ) ∧ τ 96 = pLos m (σ 96) ∧ mdF σ τ := by
  intro m
  induction m with
  | zero =>
    intro v hv F σ y hF hk ha hy
    obtain ⟨F, rfl⟩ : ∃ x, F = x + 1 := ⟨F - 1, by omega⟩
    have e : v = n := by omega
    subst e
    refine ⟨σ, ?_, rfl, mdF.refl σ⟩
    show fb_X10_loose_40 (fl_X10_loose_40 95 (nI v) F) 95 (nI v) (nI v) σ = _
    unfold fb_X10_loose_40
    rw [if_pos (Int32.le_refl _), l_95_0]; rfl
  | succ m ih =>
    intro v hv F σ y hF hk ha hy
    obtain ⟨F, rfl⟩ : ∃ x, F = x + 1 := ⟨F - 1, by omega⟩
    have h6 : pA (pDr (σ 96 1)) % 6 < 6 := Nat.mod_lt _ (by decide)
    have u : ∀ s : bzS, f_X10_drawn 95 s = some (pDv (bzSt s 96 1 (pDr (s 96 1)) 96 1), bzSt s 96 1 (pDr (s 96 1))) := fun s => rfl
    have d1 : f_X10_drawn 95 σ = some (pDv (pDr (σ 96 1)), bzSt σ 96 1 (pDr (σ 96 1))) := by rw [u, st_s, pk_us]
    have d2 : f_X10_drawn 95 (bzSt σ 96 1 (pDr (σ 96 1))) = some (pDv (pDr (pDr (σ 96 1))), bzSt (bzSt σ 96 1 (pDr (σ 96 1))) 96 1 (pDr (pDr (σ 96 1)))) := by
      have e : bzSt σ 96 1 (pDr (σ 96 1)) 96 1 = pDr (σ 96 1) := by rw [st_s, pk_us]
      rw [u, e, st_s, pk_us]
    have ep : (12 : Int32) + 2 * nI (pA (pDr (σ 96 1)) % 6) + 1 = nI (13 + 2 * (pA (pDr (σ 96 1)) % 6)) := by
      rw [show (12 : Int32) = nI 12 from rfl, show (2 : Int32) = nI 2 from rfl, pk_mul, nI_add, nI_1]
      congr 1
      omega
    have e96 : bzSt (bzSt (bzSt σ 96 1 (pDr (σ 96 1))) 96 1 (pDr (pDr (σ 96 1)))) 96 (13 + 2 * (pA (pDr (σ 96 1)) % 6)) (nI (pA (pDr (pDr (σ 96 1))) % 10)) 96 = pLr (σ 96) := by rw [st_s, st_s, st_s]; rfl
    obtain ⟨τ, t1, t2, t3⟩ := yr_m (σ := bzSt (bzSt (bzSt σ 96 1 (pDr (σ 96 1))) 96 1 (pDr (pDr (σ 96 1)))) 96 (13 + 2 * (pA (pDr (σ 96 1)) % 6)) (nI (pA (pDr (pDr (σ 96 1))) % 10))) (y := y) (by rw [e96]; exact pLr_ok hk)
    rw [e96, st_o (by decide), st_o (by decide), st_o (by decide), ha] at t2
    have fF := ((mdF.st (σ := σ) (p := 1) (v := pDr (σ 96 1))).trans (mdF.st (p := 1) (v := pDr (pDr (σ 96 1))))).trans ((mdF.st (p := 13 + 2 * (pA (pDr (σ 96 1)) % 6)) (v := nI (pA (pDr (pDr (σ 96 1))) % 10))).trans t3)
    obtain ⟨ω, w1, w2, w3⟩ := ih (v + 1) (by omega) F τ (y + 1) (by omega) (by rw [t2]; exact pYr_ok (pLr_ok hk) (by omega)) (by rw [fF.2 7 (by decide)]; exact ha) (by omega)
    rw [t2] at w1 w2
    refine ⟨ω, ?_, w2, fF.trans w3⟩
    show fb_X10_loose_40 (fl_X10_loose_40 95 (nI n) F) 95 (nI n) (nI v) σ = _
    unfold fb_X10_loose_40
    rw [if_neg (nI_ge (by omega) (by omega)), d1, bzBpS, dv_6, bzLetS, d2, bzBpS, dv_10, ep, bzGdT (bzIn_nI (show 13 + 2 * (pA (pDr (σ 96 1)) % 6) < 254 by omega) (by decide)), bzLetS, l_95_0, clN (show 13 + 2 * (pA (pDr (σ 96 1)) % 6) < 2 ^ 31 by omega), t1, bzBdS, bzLetS, nI_1]
    exact w1
theorem st_loose : bzSt_loose bzInv := by
  intro a1 σ n hn hI
  obtain ⟨y, hy, hk⟩ := pOk_I hI
  rcases cutR a1 (n := 40) (lo := 1) (N := 40) rfl (Or.inr rfl) (by decide) with c1 | ⟨c1, c1', q, hq, rfl⟩
  · refine err1 hI ?_ (fun τ _ => ?_)
    · unfold f_X9_loose; rw [g_0, wi_0 c1, bzBdS, if_pos rfl]; rfl
    · unfold f_X10_loose; rw [g_95, in_0 c1, bzBdS, if_pos rfl]; rfl
  have y8 : σ 2 8 = nI y := (hI.1.1 0 rfl).trans hk.2.2.1
  by_cases c2 : y + q ≤ 9999
  · have c3 : nI y + nI q ≤ 9999 := by rw [nI_add]; exact nI_le (b := 9999) c2 (by decide)
    obtain ⟨τ, t1, t2, t3, t4⟩ := lo_c hq q 0 (by omega) 2000 σ (σ 96) y (by omega) hI.1 hk (by omega)
    have e96 : τ 96 = σ 96 := t4 96 (by decide)
    have e95 : τ 95 = σ 95 := t4 95 (by decide)
    obtain ⟨ρ, r1, r2, r3⟩ := lo_m hq q 0 (by omega) 2000 τ y (by omega) (by rw [e96]; exact hk) (by rw [e95]; exact hI.2.2.1) (by omega)
    rw [e96] at r1 r2
    refine ⟨pLos q (σ 96) 4, τ, ρ, ?_, ?_, inv_mono _ _ (inv_now hI ?_ ?_ ?_ (fun k h0 h1 h2 h3 h4 => ?_) (fun j hj => ?_))⟩
    · unfold f_X9_loose
      rw [g_0, wi_1 c1 c1', bzBdS, if_neg one_ne, l_0_0, l_1_0, y8, if_pos c3]; exact t1
    · unfold f_X10_loose
      rw [g_95, in_1 c1 c1', bzBdS, if_neg one_ne, l_95_0, e96, hk.2.2.1, if_pos c3]; exact r1
    · rw [r2]
      exact t2.frame2 (fun k _ _ _ _ _ _ => r3.1 k (by omega) (by omega))
    · rw [r2]; exact t3.1
    · rw [r2, t3.2.2.1]; exact ⟨_, by omega, rfl⟩
    · rw [r3.1 k h3 h4, t4 k (by omega)]
    · rw [r3.2 j (by omega), e95]
  · have c3 : ¬ nI y + nI q ≤ 9999 := by rw [nI_add]; exact nI_ge (b := y + q) (a := 9999) (by omega) (by omega)
    refine err3 hI ?_ (fun τ ht => ?_)
    · unfold f_X9_loose
      rw [g_0, wi_1 c1 c1', bzBdS, if_neg one_ne, l_0_0, l_1_0, y8, if_neg c3]; rfl
    · unfold f_X10_loose
      rw [g_95, in_1 c1 c1', bzBdS, if_neg one_ne, l_95_0, ht 96 (by decide), hk.2.2.1, if_neg c3]; rfl
