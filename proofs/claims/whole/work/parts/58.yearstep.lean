set_option linter.unusedVariables false
/-! YEARS: both sides pass one, and many -/
/-- a visitor's every is above 0 -/
theorem ev_ne {f : Nat → Int32} (hR : bzRg f) {N : Nat} (h2 : f 2 = nI N) (hN : N ≤ 8) {i : Nat} (hi : i < N) : ¬ f (52 + 4 * i + 3) = 0 ∧ ¬ f (52 + 4 * i + 3) ≤ 0 := by
  have e := hR.2 i (by omega) (by rw [h2]; exact nI_lt hi (by omega))
  rw [show 55 + 4 * i = 52 + 4 * i + 3 by omega] at e
  obtain ⟨k, m, l, ee, k1, k2, k3, k4, k5, k6, k7, k8⟩ := vis_b hR (i := i) (by omega)
  refine ⟨e, ?_⟩
  rw [k8] at e ⊢
  have : ee ≠ 0 := fun c => e (by rw [c]; rfl)
  exact nI_nle (by omega) (by omega)
theorem vc_loop {b y N : Nat} {f : Nat → Int32} {aw h r : Int32} (hb : b = 1 ∨ b = 54) (hk : pOk f y) (h2 : f 2 = nI N) (hN : N ≤ 8) : ∀ m i, i + m = N → ∀ (F : Nat) (σ : bzS) (w : Int32), m < F → bzCR σ b (upd f 3 w) → σ (b + 4) 5 = aw →
    ∃ G τ, fl_X0_passYear_30 (b + 1) F h r (nI i) σ = fl_X0_passYear_30 (b + 1) (G + 1) h r (nI N) τ ∧ bzCR τ b (upd f 3 (pVisW aw f (nI y) r h m i w)) ∧ ∀ k, k ≠ b + 1 → τ k = σ k := by
  intro m
  induction m with
  | zero =>
    intro i hi F σ w hF hC ha
    obtain ⟨F, rfl⟩ : ∃ x, F = x + 1 := ⟨F - 1, by omega⟩
    have e : i = N := by omega
    subst e
    exact ⟨F, σ, rfl, hC, fun k _ => rfl⟩
  | succ m ih =>
    intro i hi F σ w hF hC ha
    obtain ⟨F, rfl⟩ : ∃ x, F = x + 1 := ⟨F - 1, by omega⟩
    have hV : b + 4 = 5 ∨ b + 4 = 58 := by omega
    have lV : ly (b + 1) 2 = b + 4 := by rcases hb with rfl | rfl <;> rfl
    have u3 : ∀ p, p ≠ 3 → upd f 3 w p = f p := fun p hp => pk_un hp
    have h4 : σ (b + 4) 4 = nI N := by
      have q : σ (b + 4) 4 = upd f 3 w 2 := hC.1 2 rfl
      rw [q, u3 2 (by decide), h2]
    have y8 : σ (b + 1) 8 = nI y := by
      have q : σ (b + 1) 8 = upd f 3 w 0 := hC.1 0 rfl
      rw [q, u3 0 (by decide), hk.2.2.1]
    have w5 : σ (b + 1) 5 = w := by
      have q : σ (b + 1) 5 = upd f 3 w 3 := hC.1 3 rfl
      rw [q, pk_us]
    have v0 : σ (b + 4 + 1) i = f (52 + 4 * i + 0) := (vis_c hC (i := i) (w := 0) (by omega) (by decide)).trans (u3 _ (by omega))
    have v1 : σ (b + 4 + 2) i = f (52 + 4 * i + 1) := (vis_c hC (i := i) (w := 1) (by omega) (by decide)).trans (u3 _ (by omega))
    have v2 : σ (b + 4 + 3) i = f (52 + 4 * i + 2) := (vis_c hC (i := i) (w := 2) (by omega) (by decide)).trans (u3 _ (by omega))
    have v3 : σ (b + 4 + 4) i = f (52 + 4 * i + 3) := (vis_c hC (i := i) (w := 3) (by omega) (by decide)).trans (u3 _ (by omega))
    obtain ⟨ev1, ev2⟩ := ev_ne hk.1 h2 hN (i := i) (by omega)
    have cut0 : ¬ nI N ≤ nI i := nI_ge (by omega) (by omega)
    have hf : fl_X0_passYear_30 (b + 1) (F + 1) h r (nI i) σ = fb_X0_passYear_30 (fl_X0_passYear_30 (b + 1) F) (b + 1) h r (nI i) σ := rfl
    have stay : fb_X0_passYear_30 (fl_X0_passYear_30 (b + 1) F) (b + 1) h r (nI i) σ = fl_X0_passYear_30 (b + 1) F h r (nI (i + 1)) σ → (if nI i = aw then w else if pComes (f (52 + 4 * i + 0)) (f (52 + 4 * i + 1)) (f (52 + 4 * i + 3)) (nI y) r = 0 then w else pMax0 (w - pKeeps (f (52 + 4 * i + 0)) (f (52 + 4 * i + 1)) (f (52 + 4 * i + 2)) w h)) = w → ∃ G τ, fl_X0_passYear_30 (b + 1) (F + 1) h r (nI i) σ = fl_X0_passYear_30 (b + 1) (G + 1) h r (nI N) τ ∧ bzCR τ b (upd f 3 (pVisW aw f (nI y) r h (m + 1) i w)) ∧ ∀ k, k ≠ b + 1 → τ k = σ k := by
      intro e1 e2
      obtain ⟨G, τ, t1, t2, t3⟩ := ih (i + 1) (by omega) F σ w (by omega) hC ha
      refine ⟨G, τ, (hf.trans e1).trans t1, ?_, t3⟩
      show bzCR τ b (upd f 3 (pVisW aw f (nI y) r h m (i + 1) _))
      rw [e2]; exact t2
    by_cases c1 : nI i = aw
    · refine stay ?_ (if_pos c1)
      unfold fb_X0_passYear_30
      rw [lV, h4, if_neg cut0, comes_aw hV (show i < N by omega) hN h4 (by rw [ha]; exact c1), bzBdS, if_pos rfl, bzLetS, nI_1]
    · have cc := comes_c (σ := σ) (V := b + 4) (i := i) (y := nI y) (r := r) hV (show i < N by omega) hN h4 (by rw [ha]; exact c1) (by rw [v3]; exact ev2)
      rw [v0, v1, v3] at cc
      by_cases c2 : pComes (f (52 + 4 * i + 0)) (f (52 + 4 * i + 1)) (f (52 + 4 * i + 3)) (nI y) r = 0
      · refine stay ?_ (by rw [if_neg c1, if_pos c2])
        unfold fb_X0_passYear_30
        rw [lV, h4, if_neg cut0, y8, cc, bzBdS, if_pos c2, bzLetS, nI_1]
      · have kc := keeps_c (σ := σ) (V := b + 4) (i := i) (w := w) (h := h) hV (show i < N by omega) hN h4
        rw [v0, v1, v2] at kc
        obtain ⟨G, τ, t1, t2, t3⟩ := ih (i + 1) (by omega) F (bzSt σ (b + 1) 5 (pMax0 (w - pKeeps (f (52 + 4 * i + 0)) (f (52 + 4 * i + 1)) (f (52 + 4 * i + 2)) w h))) _ (by omega) (by
          have q := cr_set (pMax0 (w - pKeeps (f (52 + 4 * i + 0)) (f (52 + 4 * i + 1)) (f (52 + 4 * i + 2)) w h)) hC (p := 3) rfl
          rw [upd2] at q; exact q) (by rw [st_o (by omega)]; exact ha)
        refine ⟨G, τ, ?_, ?_, fun k hk => by rw [t3 k hk, st_o hk]⟩
        · rw [hf]
          unfold fb_X0_passYear_30
          rw [lV, h4, if_neg cut0, y8, cc, bzBdS, if_neg c2, w5, kc, bzBdS, max_c, bzBdS, bzLetS, bzLetS, nI_1]
          exact t1
        · show bzCR τ b (upd f 3 (pVisW aw f (nI y) r h m (i + 1) _))
          rw [if_neg c1, if_neg c2]; exact t2
theorem yr_c {σ : bzS} {b y : Nat} {f : Nat → Int32} (hb : b = 1 ∨ b = 54) (h : bzCR σ b f) (hk : pOk f y) : ∃ τ, f_X0_passYear (b + 1) σ = some τ ∧ bzCR τ b (pYr (σ (b + 4) 5) f) ∧ ∀ k, k ≠ b + 1 → k ≠ b + 12 → k ≠ b + 16 → τ k = σ k := by
  obtain ⟨N, w, l, a, n1, w1, l1, a1, n2, w2, l2, a2⟩ := hk.n
  have k0 : kd (b + 1) = 0 := by rcases hb with rfl | rfl <;> rfl
  have lV : ly (b + 1) 2 = b + 4 := by rcases hb with rfl | rfl <;> rfl
  have y31 : y < 2 ^ 31 := by have := hk.2.2.2; omega
  have cy : (f 0).toNatClampNeg = y := by rw [hk.2.2.1]; exact clN y31
  have cN : (f 2).toNatClampNeg = N := by rw [n2]; exact clN (by omega)
  obtain ⟨σ3, s1, s2⟩ := yn_c hb h hk.2.2.1 y31
  have w5 : σ (b + 1) 5 = f 3 := h.1 3 rfl
  have C3 : bzCR σ3 b f := cr_frame h (fun k _ _ h3 => s2 k h3 (by omega))
  have C6 : bzCR (bzSt σ3 (b + 1) 5 (pW0 f y)) b (upd f 3 (pW0 f y)) := cr_set _ C3 (p := 3) rfl
  have e0 : upd f 3 (pW0 f y) 0 = nI y := by rw [pk_un (by decide)]; exact hk.2.2.1
  have uH : ∀ w, pHeat (upd f 3 w) y = pHeat f y := fun w => pk_un (by omega)
  have uR : ∀ w, pRain (upd f 3 w) y = pRain f y := fun w => pk_un (by omega)
  have hh := heat_c hb C6 e0 y31
  have hr := rain_c hb C6 e0 y31
  rw [uH] at hh
  rw [uR] at hr
  have hY : f_X0_passYear (b + 1) σ = fl_X0_passYear_30 (b + 1) 2000 (pHeat f y) (pRain f y) (nI 0) (bzSt σ3 (b + 1) 5 (pW0 f y)) := by
    unfold f_X0_passYear
    rw [bzGdT k0, s1, bzBpS, w5, min_c, bzBdS, bzLetS, show pMin 99 (f 3 + pLaw f 0 (f 3) (pHeat f y) (f 4)) = pW0 f y from rfl, hh, bzBdS, hr, bzBdS]; rfl
  obtain ⟨G, τ, t1, t2, t3⟩ := vc_loop (aw := σ (b + 4) 5) (h := pHeat f y) (r := pRain f y) hb hk n2 n1 N 0 (by omega) 2000 _ _ (by omega) C6 (by rw [st_o (by omega), s2 _ (by omega) (by omega)])
  have eW : pVisW (σ (b + 4) 5) f (nI y) (pRain f y) (pHeat f y) N 0 (pW0 f y) = pW (σ (b + 4) 5) f y := by unfold pW; rw [cN]
  rw [eW] at t2
  obtain ⟨ρ, r1, r2⟩ := sh_c hb t2 (y := y) (by rw [pk_un (by decide)]; exact hk.2.2.1) y31
  rw [uH, pk_us, pk_un (show 5 ≠ 3 by decide), pLaw_c (f := f) (pk_un (show 10 + 1 ≠ 3 by decide)) (fun j => pk_un (by omega))] at r1
  have q4 : τ (b + 1) 6 = f 4 := (show τ (b + 1) 6 = upd f 3 _ 4 from t2.1 4 rfl).trans (pk_un (by decide))
  have N4 : τ (b + 4) 4 = nI N := ((show τ (b + 4) 4 = upd f 3 _ 2 from t2.1 2 rfl).trans (pk_un (by decide))).trans n2
  have C7 : bzCR ρ b (upd f 3 (pW (σ (b + 4) 5) f y)) := cr_frame t2 (fun k _ _ h3 => r2 k h3 (by omega))
  have C8 := cr_set (pMin 99 (f 4 + pLaw f 1 (pW (σ (b + 4) 5) f y) (pHeat f y) (f 5))) C7 (p := 4) rfl
  have C9 := cr_set (pMin 99 (pMax0 (f 5 - pHeat f y) + pRain f y)) C8 (p := 5) rfl
  have C10 := cr_set (nI y + 1) C9 (p := 0) rfl
  have q7 : bzSt ρ (b + 1) 6 (pMin 99 (f 4 + pLaw f 1 (pW (σ (b + 4) 5) f y) (pHeat f y) (f 5))) (b + 1) 7 = f 5 := ((C8.1 5 rfl).trans (pk_un (by decide))).trans (pk_un (by decide))
  have q8 : bzSt (bzSt ρ (b + 1) 6 (pMin 99 (f 4 + pLaw f 1 (pW (σ (b + 4) 5) f y) (pHeat f y) (f 5)))) (b + 1) 7 (pMin 99 (pMax0 (f 5 - pHeat f y) + pRain f y)) (b + 1) 8 = nI y := ((((C9.1 0 rfl).trans (pk_un (by decide))).trans (pk_un (by decide))).trans (pk_un (by decide))).trans hk.2.2.1
  refine ⟨bzSt (bzSt (bzSt ρ (b + 1) 6 (pMin 99 (f 4 + pLaw f 1 (pW (σ (b + 4) 5) f y) (pHeat f y) (f 5)))) (b + 1) 7 (pMin 99 (pMax0 (f 5 - pHeat f y) + pRain f y))) (b + 1) 8 (nI y + 1), ?_, ?_, ?_⟩
  · rw [hY, t1]
    show fb_X0_passYear_30 (fl_X0_passYear_30 (b + 1) G) (b + 1) (pHeat f y) (pRain f y) (nI N) τ = _
    unfold fb_X0_passYear_30
    rw [lV, N4, if_pos (Int32.le_refl _), r1, bzBpS, q4, min_c, bzBdS, bzLetS, q7, max_c, bzBdS, min_c, bzBdS, bzLetS, bzLetS, q8]
  · unfold pYr
    rw [cy, hk.2.2.1]; exact C10
  · intro k h1 h2 h3
    rw [st_o h1, st_o h1, st_o h1, r2 k h2 h3, t3 k h1, st_o h1, s2 k h2 h3]
/-- the reference -/
abbrev mdF (σ τ : bzS) : Prop := (∀ k, k ≠ 95 → k ≠ 96 → τ k = σ k) ∧ ∀ j, (j < 8 ∨ 15 < j) → τ 95 j = σ 95 j
theorem mdF.refl (σ : bzS) : mdF σ σ := ⟨fun k _ _ => rfl, fun j _ => rfl⟩
theorem mdF.trans {σ τ ρ : bzS} (h : mdF σ τ) (h2 : mdF τ ρ) : mdF σ ρ := ⟨fun k a b => by rw [h2.1 k a b, h.1 k a b], fun j hj => by rw [h2.2 j hj, h.2 j hj]⟩
theorem mdF.of {σ τ : bzS} (h : wkF σ τ) : mdF σ τ := ⟨fun k a _ => h.1 k a, h.2⟩
theorem mdF.st {σ : bzS} {p : Nat} {v : Int32} : mdF σ (bzSt σ 96 p v) := ⟨fun k _ b => st_o b, fun j _ => by rw [st_o (by decide)]⟩
theorem vm_loop {y N : Nat} {f : Nat → Int32} {aw : Int32} (hk : pOk f y) (h2 : f 2 = nI N) (hN : N ≤ 8) : ∀ m i, i + m = N → ∀ (F : Nat) (σ : bzS) (w : Nat), m < F → w ≤ 99 → σ 96 = upd f 3 (nI w) → σ 95 7 = aw →
    ∃ G τ, fl_X10_oneYear_25 95 F (nI i) σ = fl_X10_oneYear_25 95 (G + 1) (nI N) τ ∧ τ 96 = upd f 3 (pVisW aw f (nI y) (pRain f y) (pHeat f y) m i (nI w)) ∧ ∀ k, k ≠ 96 → τ k = σ k := by
  intro m
  induction m with
  | zero =>
    intro i hi F σ w hF hw hC ha
    obtain ⟨F, rfl⟩ : ∃ x, F = x + 1 := ⟨F - 1, by omega⟩
    have e : i = N := by omega
    subst e
    exact ⟨F, σ, rfl, hC, fun k _ => rfl⟩
  | succ m ih =>
    intro i hi F σ w hF hw hC ha
    obtain ⟨F, rfl⟩ : ∃ x, F = x + 1 := ⟨F - 1, by omega⟩
    have y31 : y < 2 ^ 31 := by have := hk.2.2.2; omega
    have u3 : ∀ p, p ≠ 3 → σ 96 p = f p := fun p hp => by rw [hC]; exact pk_un hp
    have w3 : σ 96 3 = nI w := by rw [hC]; exact pk_us
    have y8 : σ 96 0 = nI y := (u3 0 (by decide)).trans hk.2.2.1
    have eH : pHeat (σ 96) y = pHeat f y := u3 _ (by omega)
    have eR : pRain (σ 96) y = pRain f y := u3 _ (by omega)
    obtain ⟨ev1, ev2⟩ := ev_ne hk.1 h2 hN (i := i) (by omega)
    have cut0 : ¬ nI N ≤ nI i := nI_ge (by omega) (by omega)
    have hf : fl_X10_oneYear_25 95 (F + 1) (nI i) σ = fb_X10_oneYear_25 (fl_X10_oneYear_25 95 F) 95 (nI i) σ := rfl
    have stay : fb_X10_oneYear_25 (fl_X10_oneYear_25 95 F) 95 (nI i) σ = fl_X10_oneYear_25 95 F (nI (i + 1)) σ → (if nI i = aw then nI w else if pComes (f (52 + 4 * i + 0)) (f (52 + 4 * i + 1)) (f (52 + 4 * i + 3)) (nI y) (pRain f y) = 0 then nI w else pMax0 (nI w - pKeeps (f (52 + 4 * i + 0)) (f (52 + 4 * i + 1)) (f (52 + 4 * i + 2)) (nI w) (pHeat f y))) = nI w → ∃ G τ, fl_X10_oneYear_25 95 (F + 1) (nI i) σ = fl_X10_oneYear_25 95 (G + 1) (nI N) τ ∧ τ 96 = upd f 3 (pVisW aw f (nI y) (pRain f y) (pHeat f y) (m + 1) i (nI w)) ∧ ∀ k, k ≠ 96 → τ k = σ k := by
      intro e1 e2
      obtain ⟨G, τ, t1, t2, t3⟩ := ih (i + 1) (by omega) F σ w (by omega) hw hC ha
      refine ⟨G, τ, (hf.trans e1).trans t1, ?_, t3⟩
      show τ 96 = upd f 3 (pVisW aw f (nI y) (pRain f y) (pHeat f y) m (i + 1) _)
      rw [e2]; exact t2
    have n96 : σ 96 2 = nI N := (u3 2 (by decide)).trans h2
    by_cases c1 : nI i = aw
    · refine stay ?_ (if_pos c1)
      unfold fb_X10_oneYear_25
      rw [l_95_0, n96, if_neg cut0, ha, if_pos c1, bzLetS, nI_1]
    · have cm := comes_m (σ := σ) (i := i) (y := y) (by omega) y8 y31 (by rw [u3 _ (by omega)]; exact ev1)
      rw [u3 _ (by omega), u3 _ (by omega), u3 _ (by omega), eR] at cm
      by_cases c2 : pComes (f (52 + 4 * i + 0)) (f (52 + 4 * i + 1)) (f (52 + 4 * i + 3)) (nI y) (pRain f y) = 0
      · refine stay ?_ (by rw [if_neg c1, if_pos c2])
        unfold fb_X10_oneYear_25
        rw [l_95_0, n96, if_neg cut0, ha, if_neg c1, cm, bzBdS, if_pos c2, bzLetS, nI_1]
      · have km := keeps_m (σ := σ) (i := i) (y := y) (by omega) y8 y31
        rw [u3 _ (by omega), u3 _ (by omega), u3 _ (by omega), w3, eH] at km
        obtain ⟨kk, mm, ll, ee, k1, k2, k3, k4, k5, k6, k7, k8⟩ := vis_b hk.1 (i := i) (by omega)
        obtain ⟨q, q1, q2⟩ := keeps_n (k := kk) k2 k3 (nI w) (pHeat f y)
        obtain ⟨x, x1, x2⟩ := pMax0_n (a := w) (b := q) (by omega) (by omega)
        have eq : nI w - pKeeps (f (52 + 4 * i + 0)) (f (52 + 4 * i + 1)) (f (52 + 4 * i + 2)) (nI w) (pHeat f y) = nI w - nI q := by rw [k5, k6, k7, q2]
        have hx : pHold 99 (nI w - nI q) = nI x := by
          rw [hold_max ?_, x2]
          rw [Int32.lt_iff_toInt_lt, pk_sub_toInt (by omega) (by omega)]
          have : (99 : Int32).toInt = 99 := rfl
          omega
        obtain ⟨G, τ, t1, t2, t3⟩ := ih (i + 1) (by omega) F (bzSt σ 96 3 (nI x)) x (by omega) (by omega) (by rw [st_s, hC, upd2]) (by rw [st_o (by decide)]; exact ha)
        refine ⟨G, τ, ?_, ?_, fun k hk => by rw [t3 k hk, st_o hk]⟩
        · rw [hf]
          unfold fb_X10_oneYear_25
          rw [l_95_0, n96, if_neg cut0, ha, if_neg c1, cm, bzBdS, if_neg c2, km, bzBdS, w3, eq, hold_m, hx, bzBdS, bzLetS, bzLetS, nI_1]
          exact t1
        · show τ 96 = upd f 3 (pVisW aw f (nI y) (pRain f y) (pHeat f y) m (i + 1) _)
          rw [if_neg c1, if_neg c2, eq, x2]; exact t2
theorem yr_m {σ : bzS} {y : Nat} (hk : pOk (σ 96) y) : ∃ τ, f_X10_oneYear 95 σ = some τ ∧ τ 96 = pYr (σ 95 7) (σ 96) ∧ mdF σ τ := by
  obtain ⟨N, w, l, a, n1, w1, l1, a1, n2, w2, l2, a2⟩ := hk.n
  have y31 : y < 2 ^ 31 := by have := hk.2.2.2; omega
  generalize hf : σ 96 = f at *
  have cy : (f 0).toNatClampNeg = y := by rw [hk.2.2.1]; exact clN y31
  have cN : (f 2).toNatClampNeg = N := by rw [n2]; exact clN (by omega)
  obtain ⟨σ3, s1, s2⟩ := yn_m (σ := σ) (y := y) (by rw [hf]; exact hk.2.1) (by rw [hf]; exact hk.2.2.1) y31
  rw [hf] at s1
  obtain ⟨k, q, k1, q1, k2, q2⟩ := pW0_n hk y
  have e3 : σ3 96 = f := by rw [s2.1 96 (by decide), hf]
  have hm : pHold 99 (f 3 + pLaw f 0 (f 3) (pHeat f y) (f 4)) = nI k := by
    rw [hold_min (by rw [q2]; exact nI_n0 (by omega))]
    exact k2
  have hY : f_X10_oneYear 95 σ = fl_X10_oneYear_25 95 2000 (nI 0) (bzSt σ3 96 3 (nI k)) := by
    unfold f_X10_oneYear
    rw [g_95, s1, bzBpS, l_95_0, hf, hold_m, hm, bzBdS, bzLetS]; rfl
  obtain ⟨G, τ, t1, t2, t3⟩ := vm_loop (aw := σ 95 7) hk n2 n1 N 0 (by omega) 2000 (bzSt σ3 96 3 (nI k)) k (by omega) k1 (by rw [st_s, e3]) (by rw [st_o (by decide)]; exact s2.2 7 (by decide))
  have eW : pVisW (σ 95 7) f (nI y) (pRain f y) (pHeat f y) N 0 (nI k) = pW (σ 95 7) f y := by unfold pW; rw [cN, k2]
  rw [eW] at t2
  obtain ⟨wk, wk1, wk2⟩ := pW_n (aw := σ 95 7) hk y
  have uf : ∀ p, p ≠ 3 → τ 96 p = f p := fun p hp => by rw [t2]; exact pk_un hp
  have uL : bzLw (τ 96) := fun u hu => by
    rw [uf _ (by omega), show (fun j => τ 96 (154 + 50 * u + j)) = fun j => f (154 + 50 * u + j) from funext (fun j => uf _ (by omega))]
    exact hk.2.1 u hu
  obtain ⟨ρ, r1, r2⟩ := sh_m (σ := τ) (y := y) uL ((uf 0 (by decide)).trans hk.2.2.1) y31
  have eH : ∀ g : Nat → Int32, (∀ p, 12 ≤ p → g p = f p) → pHeat g y = pHeat f y ∧ pRain g y = pRain f y := fun g hg => ⟨hg _ (by omega), hg _ (by omega)⟩
  rw [(eH (τ 96) (fun p hp => uf p (by omega))).1, uf 5 (by decide), pLaw_c (f := f) (uf (10 + 1) (by decide)) (fun j => uf _ (by omega)), t2, pk_us] at r1
  obtain ⟨lk, lk1, lk2⟩ := pLaw_n f 1 (pW (σ 95 7) f y) (pHeat f y) (f 5)
  obtain ⟨hh, rr, h1, rr1, h2, rr2⟩ := sea_n hk.1 y
  obtain ⟨m, m1, m2⟩ := pMax0_n (a := a) (b := hh) (by omega) (by omega)
  have L1 : pHold 99 (f 4 + pLaw f 1 (pW (σ 95 7) f y) (pHeat f y) (f 5)) = pMin 99 (f 4 + pLaw f 1 (pW (σ 95 7) f y) (pHeat f y) (f 5)) := hold_min (by rw [lk2, l2, nI_add]; exact nI_n0 (by omega))
  have H1 : pHold 99 (f 5 - pHeat f y) = pMax0 (f 5 - pHeat f y) := hold_max (by
    rw [h2, a2, Int32.lt_iff_toInt_lt, pk_sub_toInt (by omega) (by omega)]
    have : (99 : Int32).toInt = 99 := rfl
    omega)
  have H2 : pHold 99 (pMax0 (f 5 - pHeat f y) + pRain f y) = pMin 99 (pMax0 (f 5 - pHeat f y) + pRain f y) := hold_min (by rw [h2, rr2, a2, m2, nI_add]; exact nI_n0 (by omega))
  have e96 : ρ 96 = upd f 3 (pW (σ 95 7) f y) := by rw [r2.1 96 (by decide)]; exact t2
  have S1 : ∀ v, bzSt ρ 96 4 v 96 = upd (upd f 3 (pW (σ 95 7) f y)) 4 v := fun v => by rw [st_s, e96]
  have y1 : ∀ v, bzSt ρ 96 4 v 96 0 = nI y := fun v => by rw [S1, pk_un (by decide), pk_un (by decide)]; exact hk.2.2.1
  have f5 : ∀ v, bzSt ρ 96 4 v 96 5 = f 5 := fun v => by rw [S1, pk_un (by decide), pk_un (by decide)]
  have y2 : ∀ v u, bzSt (bzSt ρ 96 4 v) 96 5 u 96 0 = nI y := fun v u => by rw [st_s, pk_un (by decide)]; exact y1 v
  have hE : ∀ v, pHeat (bzSt ρ 96 4 v 96) y = pHeat f y ∧ pRain (bzSt ρ 96 4 v 96) y = pRain f y := fun v => eH _ (fun p hp => by rw [S1, pk_un (by omega), pk_un (by omega)])
  refine ⟨bzSt (bzSt (bzSt ρ 96 4 (pMin 99 (f 4 + pLaw f 1 (pW (σ 95 7) f y) (pHeat f y) (f 5)))) 96 5 (pMin 99 (pMax0 (f 5 - pHeat f y) + pRain f y))) 96 0 (nI y + 1), ?_, ?_, ?_⟩
  · rw [hY, t1]
    show fb_X10_oneYear_25 (fl_X10_oneYear_25 95 G) 95 (nI N) τ = _
    unfold fb_X10_oneYear_25
    rw [l_95_0, (uf 2 (by decide)).trans n2, if_pos (Int32.le_refl _), r1, bzBpS, uf 4 (by decide), hold_m, L1, bzBdS, bzLetS, heat_m (y1 _) y31, bzBdS, f5, (hE _).1, hold_m, H1, bzBdS, rain_m (y1 _) y31, bzBdS, (hE _).2, hold_m, H2, bzBdS, bzLetS, bzLetS, y2]
  · rw [st_s, st_s, S1]
    unfold pYr pYr4
    rw [cy, hk.2.2.1]
  · refine ((((mdF.of s2).trans mdF.st).trans ⟨fun k _ h2 => t3 k h2, fun j _ => by rw [t3 95 (by decide)]⟩).trans (mdF.of r2)).trans (((mdF.st).trans mdF.st).trans mdF.st)
