set_option linter.unusedVariables false
theorem ptNum_c {t t' : Nat → Int32} {e : Nat} (h : ptAt t e = ptAt t' e) : ∀ k v p, ptNum t e k v p = ptNum t' e k v p := by
  intro k
  induction k with
  | zero => intro v p; rfl
  | succ k ih => intro v p; simp only [ptNum, h, ih]
theorem ptMore_c {t t' : Nat → Int32} {e lv : Nat} {sub : Nat → ptRes} (h : ptAt t e = ptAt t' e) : ∀ k m p ok, ptMore t e lv sub k m p ok = ptMore t' e lv sub k m p ok := by
  intro k
  induction k with
  | zero => intro m p ok; rfl
  | succ k ih => intro m p ok; simp only [ptMore, h, ih]
theorem ptRead_c {t t' : Nat → Int32} {e u : Nat} (h : ptAt t e = ptAt t' e) : ∀ n lv op p, ptRead t e u n lv op p = ptRead t' e u n lv op p := by
  intro n
  induction n with
  | zero => intro lv op p; rfl
  | succ n ih => intro lv op p; simp only [ptRead, h, ih, ptNum_c h, ptMore_c h]
theorem bzLR.ext3 {th sz e e' : Int32} {mk t t' : Nat → Int32} {u : Nat} (h : bzLR th sz mk e t u) (he : e' = e) (ht : ∀ j, j < 50 → t' j = t j) : bzLR th sz mk e' t' u := by
  subst he
  rcases h with h | ⟨x1, k, m, x2, x3, x4, x5, ms, y1, y2, y3⟩
  · exact Or.inl h
  · refine Or.inr ⟨x1, k, m, x2, x3, x4, x5, ms, ?_, y2, y3⟩
    rw [← y1]
    refine ptRead_c ?_ _ _ _ _
    funext p
    unfold ptAt
    by_cases c : p < k
    · rw [if_pos c, if_pos c, ht p (by omega)]
    · rw [if_neg c, if_neg c]
theorem bzSR.ext3 {σ : bzS} {b : Nat} {f g : Nat → Int32} (h : bzSR σ b f) (e : ∀ j, j < 254 → g j = f j) : bzSR σ b g := by
  obtain ⟨i1, ⟨ia, ib⟩, i2, i3, i4⟩ := h
  refine ⟨fun p hp => by rw [e p (by have := plB_lt hp; omega)]; exact i1 p hp, ⟨ia.ext3 (e 10 (by decide)) (fun j hj => e _ (by omega)), ib.ext3 (e 11 (by decide)) (fun j hj => e _ (by omega))⟩, fun i hi hf => ?_, fun i hi hf => ?_, i4⟩
  · rw [e 8 (by decide)] at hf; rw [e _ (by omega)]; exact i2 i hi hf
  · rw [e 9 (by decide)] at hf; rw [e _ (by omega)]; exact i3 i hi hf
theorem bzRg.ext3 {f g : Nat → Int32} (h : bzRg f) (e : ∀ j, j < 254 → g j = f j) : bzRg g := by
  refine ⟨fun p hp h0 h1 => by rw [e p (by have := plB_lt hp; omega)]; exact h.1 p hp h0 h1, fun i hi hf => ?_⟩
  rw [e 2 (by decide)] at hf
  rw [e _ (by omega)]; exact h.2 i hi hf
theorem mvAll {a b : Nat} (ka : kd a = 11) (kb : kd b = 11) (na : ln a = 254) (nb : ln b = 254) (hab : a ≠ b) : ∀ m v, m + v = 254 → ∀ (f : Nat) (σ : bzS), m < f → (∀ j, j < v → σ b j = σ a j) → ∃ τ, fl_X10_moveAll_2 95 a b f (nI v) σ = some τ ∧ (∀ k, k ≠ b → τ k = σ k) ∧ ∀ j, j < 254 → τ b j = σ a j := by
  intro m
  induction m with
  | zero =>
    intro v hv f σ hf h
    obtain ⟨f, rfl⟩ : ∃ q, f = q + 1 := ⟨f - 1, by omega⟩
    have e : v = 254 := by omega
    subst e
    refine ⟨σ, ?_, fun k _ => rfl, fun j hj => h j hj⟩
    simp only [fl_X10_moveAll_2, fb_X10_moveAll_2, if_pos (show (254 : Int32) ≤ nI 254 by decide)]
  | succ m ih =>
    intro v hv f σ hf h
    obtain ⟨f, rfl⟩ : ∃ q, f = q + 1 := ⟨f - 1, by omega⟩
    obtain ⟨τ, t1, t2, t3⟩ := ih (v + 1) (by omega) f (bzSt σ b v (σ a v)) (by omega) (fun j hj => by
      rw [st_s, st_o hab]
      by_cases e : j = v
      · subst e; exact pk_us
      · rw [pk_un e]; exact h j (by omega))
    refine ⟨τ, ?_, fun k hk => by rw [t2 k hk, st_o hk], fun j hj => by rw [t3 j hj, st_o hab]⟩
    have i254 : bzIn (nI v) 254 := bzIn_nI (by omega) (by decide)
    simp only [fl_X10_moveAll_2, fb_X10_moveAll_2, if_neg (show ¬ (254 : Int32) ≤ nI v from nI_ge (show v < 254 by omega) (by decide)), na, nb, bzGdT i254, bzLet, clN (show v < 2 ^ 31 by omega), nI_1]
    exact t1
theorem st_image : bzSt_image bzInv := by
  intro σ n hn hI
  obtain ⟨i1, ⟨i2, i3⟩, i4, ⟨k, hk, k1, k2, -⟩, i6, i7, i8⟩ := hI
  obtain ⟨τ, t1, t2, t3⟩ := cps_28 i1 i2
  have h0 : τ 0 2 = nI k := by rw [t2 0 (by decide)]; exact k1
  have c1 : f_X9_image 0 σ = some (nI (k + 1), bzSt τ 0 2 (nI (k + 1))) := by
    have u : f_X9_image 0 σ = bzBd (f_X6_copyFrom 28 1 σ) (fun s => some (bzSt s 0 2 (s 0 2 + 1) 0 2, bzSt s 0 2 (s 0 2 + 1))) := rfl
    rw [u, t1, bzBdS, h0, nI_1, st_s, pk_us]
  obtain ⟨ρ, r1, r2, r3⟩ := mvAll (a := 96) (b := 97) rfl rfl rfl rfl (by decide) 254 0 rfl 2000 (bzSt τ 0 2 (nI (k + 1))) (by decide) (fun j hj => absurd hj (Nat.not_lt_zero _))
  have h5 : bzSt ρ 95 4 1 95 5 = nI k := by
    rw [st_s, pk_un (by decide), r2 95 (by decide), st_o (by decide), t2 95 (by decide)]; exact k2
  have m1 : f_X10_image 95 (bzSt τ 0 2 (nI (k + 1))) = some (nI (k + 1), bzSt (bzSt ρ 95 4 1) 95 5 (nI (k + 1))) := by
    have u : f_X10_image 95 (bzSt τ 0 2 (nI (k + 1))) = bzBd (fl_X10_moveAll_2 95 96 97 2000 0 (bzSt τ 0 2 (nI (k + 1)))) (fun s => some (bzSt (bzSt s 95 4 1) 95 5 (bzSt s 95 4 1 95 5 + 1) 95 5, bzSt (bzSt s 95 4 1) 95 5 (bzSt s 95 4 1 95 5 + 1))) := rfl
    rw [u, show (0 : Int32) = nI 0 from rfl, r1, bzBdS, h5, nI_1, st_s, pk_us]
  refine ⟨_, _, _, c1, m1, ?_⟩
  have eo : ∀ q, q ≠ 0 → q ≠ 95 → q ≠ 97 → (q < 28 ∨ 54 < q) → bzSt (bzSt ρ 95 4 1) 95 5 (nI (k + 1)) q = σ q := fun q h1 h2 h3 h4 => by rw [st_o h2, st_o h2, r2 q h3, st_o h1, t2 q (by omega)]
  have e97 : ∀ j, j < 254 → bzSt (bzSt ρ 95 4 1) 95 5 (nI (k + 1)) 97 j = σ 96 j := fun j hj => by rw [st_o (by decide), st_o (by decide), r3 j hj, st_o (by decide), t2 96 (by decide)]
  have e95 : ∀ j, j ≠ 4 → j ≠ 5 → bzSt (bzSt ρ 95 4 1) 95 5 (nI (k + 1)) 95 j = σ 95 j := fun j h1 h2 => by rw [st_s, pk_un h2, st_s, pk_un h1, r2 95 (by decide), st_o (by decide), t2 95 (by decide)]
  have e28 : ∀ q, 28 ≤ q → q ≤ 54 → bzSt (bzSt ρ 95 4 1) 95 5 (nI (k + 1)) q = τ q := fun q h1 h2 => by rw [st_o (by omega), st_o (by omega), r2 q (by omega), st_o (by omega)]
  have x0 : bzSt (bzSt ρ 95 4 1) 95 5 (nI (k + 1)) 0 2 = nI (k + 1) := by rw [st_o (by decide), st_o (by decide), r2 0 (by decide), st_s, pk_us]
  have x5 : bzSt (bzSt ρ 95 4 1) 95 5 (nI (k + 1)) 95 5 = nI (k + 1) := by rw [st_s, pk_us]
  have x4 : bzSt (bzSt ρ 95 4 1) 95 5 (nI (k + 1)) 95 4 = 1 := by rw [st_s, pk_un (by decide), st_s, pk_us]
  generalize bzSt (bzSt ρ 95 4 1) 95 5 (nI (k + 1)) = ω at eo e97 e95 e28 x0 x5 x4
  have e96 : ω 96 = σ 96 := eo 96 (by decide) (by decide) (by decide) (by decide)
  refine ⟨by rw [e96]; exact i1.frame (fun q h1 h2 => eo q (by omega) (by omega) (by omega) (by omega)), ⟨by rw [e96]; exact i2, by rw [e96]; exact i3⟩, by rw [e95 7 (by decide) (by decide)]; exact i4, ⟨k + 1, by omega, x0, x5, Or.inr ⟨by omega, x4, ?_, i2.ext3 e97, by rw [e97 0 (by decide)]; exact i3⟩⟩, ?_, ?_, ?_⟩
  · exact (t3.frame (fun q h1 h2 => e28 q h1 (by omega))).ext3 e97
  · intro q h1 h2
    rw [eo 82 (by decide) (by decide) (by decide) (by decide), eo 100 (by decide) (by decide) (by decide) (by decide)]; exact i6 q h1 h2
  · intro s hs
    rw [eo (83 + 3 * s) (by omega) (by omega) (by omega) (by omega), eo (84 + 3 * s) (by omega) (by omega) (by omega) (by omega), eo (85 + 3 * s) (by omega) (by omega) (by omega) (by omega), eo 101 (by decide) (by decide) (by decide) (by decide), eo 102 (by decide) (by decide) (by decide) (by decide), eo 103 (by decide) (by decide) (by decide) (by decide)]
    exact i7 s hs
  · rw [eo 80 (by decide) (by decide) (by decide) (by decide), eo 81 (by decide) (by decide) (by decide) (by decide), e95 23 (by decide) (by decide), eo 107 (by decide) (by decide) (by decide) (by decide)]
    exact i8
