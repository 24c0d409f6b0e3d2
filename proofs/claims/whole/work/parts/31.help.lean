set_option linter.unusedVariables false
theorem st_o {σ : bzS} {c j k : Nat} {v : Int32} (h : k ≠ c) : bzSt σ c j v k = σ k := if_neg h
theorem st_s {σ : bzS} {c j : Nat} {v : Int32} : bzSt σ c j v c = upd (σ c) j v := if_pos rfl
theorem sa_o {σ : bzS} {c k : Nat} {f : Nat → Int32} (h : k ≠ c) : bzSa σ c f k = σ k := if_neg h
theorem sa_s {σ : bzS} {c : Nat} {f : Nat → Int32} : bzSa σ c f c = f := if_pos rfl
theorem mc_in : ∀ p, p < 84 → plB p = true → (mc p ≤ 8 ∨ (17 ≤ mc p ∧ mc p ≤ 20) ∨ mc p = 23 ∨ mc p = 25) ∧ (mc p = 4 → p = 2) := by decide +kernel
theorem bzLR.ext {th th' sz sz' e e' : Int32} {mk mk' t t' : Nat → Int32} {u : Nat} (h : bzLR th sz mk e t u) (h1 : th' = th) (h2 : sz' = sz) (h3 : mk' = mk) (h4 : e' = e) (h5 : t' = t) : bzLR th' sz' mk' e' t' u := by
  subst h1; subst h2; subst h3; subst h4; subst h5; exact h
theorem bzSR.frame {σ τ : bzS} {b : Nat} {f : Nat → Int32} (h : bzSR σ b f) (hk : ∀ k, b ≤ k → k ≤ b + 26 → τ k = σ k) : bzSR τ b f := by
  obtain ⟨h1, ⟨h2, h3⟩, h4, h5, h6⟩ := h
  refine ⟨fun p hp => ?_, ⟨h2.ext ?_ ?_ ?_ rfl rfl, h3.ext ?_ ?_ ?_ rfl rfl⟩, fun i hi hf => ?_, fun i hi hf => ?_, ?_⟩
  · have := (mc_in p (plB_lt hp).1 hp).1
    rw [hk _ (by omega) (by omega)]; exact h1 p hp
  all_goals (rw [hk _ (by omega) (by omega)])
  · exact h4 i hi hf
  · exact h5 i hi hf
  · exact h6
/-- a place of the row is set, on both sides -/
theorem bzSR.set {σ τ : bzS} {p : Nat} {v : Int32} {f : Nat → Int32} (h : bzSR σ 1 f) (hp : plB p = true) (h8 : p ≠ 8) (h9 : p ≠ 9) (h2 : p ≠ 2) (ec : τ (1 + mc p) = upd (σ (1 + mc p)) (mj p) v) (eo : ∀ k, k ≤ 27 → k ≠ 1 + mc p → τ k = σ k) : bzSR τ 1 (upd f p v) := by
  obtain ⟨h1, ⟨ha, hb⟩, h4, h5, h6⟩ := h
  have hpl := plB_lt hp
  have hm := mc_in p hpl.1 hp
  refine ⟨fun q hq => ?_, ⟨ha.ext ?_ ?_ ?_ ?_ ?_, hb.ext ?_ ?_ ?_ ?_ ?_⟩, fun i hi hf => ?_, fun i hi hf => ?_, ?_⟩
  · have hql := plB_lt hq
    have hmq := mc_in q hql.1 hq
    by_cases hqp : q = p
    · subst hqp
      rw [ec, pk_us, pk_us]
    · rw [pk_un hqp]
      by_cases hc : mc q = mc p
      · have hj := mp_inj q hql.1 p hpl.1 hqp
        rw [hc, ec, pk_un (by rcases hj with hj | hj; exact absurd hc hj; exact hj), ← hc]
        exact h1 q hq
      · rw [eo _ (by omega) (by omega)]
        exact h1 q hq
  · rw [eo _ (by omega) (by omega)]
  · rw [eo _ (by omega) (by omega)]
  · rw [eo _ (by omega) (by omega)]
  · exact pk_un (by omega)
  · funext j; exact pk_un (by omega)
  · rw [eo _ (by omega) (by omega)]
  · rw [eo _ (by omega) (by omega)]
  · rw [eo _ (by omega) (by omega)]
  · exact pk_un (by omega)
  · funext j; exact pk_un (by omega)
  · rw [pk_un (by omega)] at hf
    rw [pk_un (by omega), eo _ (by omega) (by omega)]
    exact h4 i hi hf
  · rw [pk_un (by omega)] at hf
    rw [pk_un (by omega), eo _ (by omega) (by omega)]
    exact h5 i hi hf
  · rw [eo _ (by omega) (by intro e; exact h2 (hm.2 (by omega)))]
    exact h6
theorem bzRg.set {p : Nat} {v : Int32} {f : Nat → Int32} (h : bzRg f) (h2 : p ≠ 2) (hv : p ≠ 0 → p ≠ 1 → bzUp (mx p) v) (he : ∀ i, i < 8 → p = 55 + 4 * i → v ≠ 0) : bzRg (upd f p v) := by
  refine ⟨fun q hq h0 h1 => ?_, fun i hi hf => ?_⟩
  · by_cases hqp : q = p
    · subst hqp; rw [pk_us]; exact hv h0 h1
    · rw [pk_un hqp]; exact h.1 q hq h0 h1
  · rw [pk_un (by omega)] at hf
    by_cases hqp : 55 + 4 * i = p
    · rw [hqp, pk_us]; exact he i hi hqp.symm
    · rw [pk_un hqp]; exact h.2 i hi hf
theorem inv_set {n p : Nat} {σ : bzS} {v : Int32} (hI : bzInv n σ) (hp : plB p = true) (h8 : p ≠ 8) (h9 : p ≠ 9) (h2 : p ≠ 2) (hv : p ≠ 1 → bzUp (mx p) v) (he : ∀ i, i < 8 → p = 55 + 4 * i → v ≠ 0) : bzInv n (bzSt (bzSt σ (1 + mc p) (mj p) v) 96 p v) := by
  obtain ⟨i1, ⟨i2, i3⟩, i4, i5, i6, i7, i8⟩ := hI
  have hm := mc_in p (plB_lt hp).1 hp
  have eo : ∀ k, k ≠ 1 + mc p → k ≠ 96 → bzSt (bzSt σ (1 + mc p) (mj p) v) 96 p v k = σ k := fun k h1 h2 => by rw [st_o h2, st_o h1]
  have e96 : bzSt (bzSt σ (1 + mc p) (mj p) v) 96 p v 96 = upd (σ 96) p v := by rw [st_s, st_o (by omega)]
  generalize hτ : bzSt (bzSt σ (1 + mc p) (mj p) v) 96 p v = τ at eo e96
  have ec : τ (1 + mc p) = upd (σ (1 + mc p)) (mj p) v := by rw [← hτ, st_o (by omega), st_s]
  refine ⟨?_, ⟨?_, ?_⟩, ?_, ?_, ?_, ?_, ?_⟩
  · rw [e96]
    exact i1.set hp h8 h9 h2 ec (fun k h1 h2 => eo k h2 (by omega))
  · rw [e96]
    exact i2.set h2 (fun _ => hv) he
  · rw [e96]
    by_cases h0 : p = 0
    · subst h0; rw [pk_us]; exact hv (by decide)
    · rw [pk_un (Ne.symm h0)]; exact i3
  · rw [eo _ (by omega) (by omega)]; exact i4
  · rw [eo 0 (by omega) (by omega), eo 95 (by omega) (by omega), eo 97 (by omega) (by omega)]
    obtain ⟨k, k1, k2, k3, k4⟩ := i5
    refine ⟨k, k1, k2, k3, ?_⟩
    rcases k4 with k4 | ⟨k4, k5, k6, k7⟩
    · exact Or.inl k4
    · exact Or.inr ⟨k4, k5, k6.frame (fun k h1 h2 => eo k (by omega) (by omega)), k7⟩
  · intro k h1 h2
    rw [eo _ (by omega) (by omega), eo _ (by omega) (by omega)]; exact i6 k h1 h2
  · intro s hs
    rw [eo (83 + 3 * s) (by omega) (by omega), eo (84 + 3 * s) (by omega) (by omega), eo (85 + 3 * s) (by omega) (by omega), eo 101 (by omega) (by omega), eo 102 (by omega) (by omega), eo 103 (by omega) (by omega)]
    exact i7 s hs
  · rw [eo 80 (by omega) (by omega), eo 81 (by omega) (by omega), eo 95 (by omega) (by omega), eo 107 (by omega) (by omega)]
    exact i8
/-- cells that the invariant doesn't read -/
def frB (k : Nat) : Bool := decide (k = 13 ∨ k = 17 ∨ k = 22 ∨ k = 23 ∨ k = 40 ∨ k = 44 ∨ k = 49 ∨ k = 50 ∨ (55 ≤ k ∧ k ≤ 78) ∨ k = 98 ∨ k = 99 ∨ k = 104 ∨ k = 105 ∨ k = 106)
theorem bzSR.frame2 {σ τ : bzS} {b : Nat} {f : Nat → Int32} (h : bzSR σ b f) (hk : ∀ k, b ≤ k → k ≤ b + 26 → k ≠ b + 12 → k ≠ b + 16 → k ≠ b + 21 → k ≠ b + 22 → τ k = σ k) : bzSR τ b f := by
  obtain ⟨h1, ⟨h2, h3⟩, h4, h5, h6⟩ := h
  refine ⟨fun p hp => ?_, ⟨h2.ext ?_ ?_ ?_ rfl rfl, h3.ext ?_ ?_ ?_ rfl rfl⟩, fun i hi hf => ?_, fun i hi hf => ?_, ?_⟩
  · have := (mc_in p (plB_lt hp).1 hp).1
    rw [hk _ (by omega) (by omega) (by omega) (by omega) (by omega) (by omega)]; exact h1 p hp
  all_goals (rw [hk _ (by omega) (by omega) (by omega) (by omega) (by omega) (by omega)])
  · exact h4 i hi hf
  · exact h5 i hi hf
  · exact h6
/-- two states that agree where the invariant reads (and in the fields of the reference's object that it reads) -/
theorem inv_frame {n : Nat} {σ τ : bzS} (hI : bzInv n σ) (hk : ∀ k, k < 108 → frB k = false → k ≠ 95 → τ k = σ k) (h95 : ∀ j, j = 4 ∨ j = 5 ∨ j = 7 ∨ j = 23 → τ 95 j = σ 95 j) : bzInv n τ := by
  have hk : ∀ k, k < 108 → ¬ (k = 13 ∨ k = 17 ∨ k = 22 ∨ k = 23 ∨ k = 40 ∨ k = 44 ∨ k = 49 ∨ k = 50 ∨ (55 ≤ k ∧ k ≤ 78) ∨ k = 98 ∨ k = 99 ∨ k = 104 ∨ k = 105 ∨ k = 106) → k ≠ 95 → τ k = σ k := fun k h1 h2 h3 => hk k h1 (decide_eq_false h2) h3
  obtain ⟨i1, ⟨i2, i3⟩, i4, i5, i6, i7, i8⟩ := hI
  refine ⟨?_, ⟨?_, ?_⟩, ?_, ?_, ?_, ?_, ?_⟩
  · rw [hk 96 (by omega) (by omega) (by omega)]
    exact i1.frame2 (fun k _ _ _ _ _ _ => hk k (by omega) (by omega) (by omega))
  · rw [hk 96 (by omega) (by omega) (by omega)]; exact i2
  · rw [hk 96 (by omega) (by omega) (by omega)]; exact i3
  · rw [h95 7 (by omega)]; exact i4
  · obtain ⟨k, k1, k2, k3, k4⟩ := i5
    rw [hk 0 (by omega) (by omega) (by omega), h95 4 (by omega), h95 5 (by omega), hk 97 (by omega) (by omega) (by omega)]
    refine ⟨k, k1, k2, k3, ?_⟩
    rcases k4 with k4 | ⟨k4, k5, k6, k7⟩
    · exact Or.inl k4
    · exact Or.inr ⟨k4, k5, k6.frame2 (fun k _ _ _ _ _ _ => hk k (by omega) (by omega) (by omega)), k7⟩
  · intro k h1 h2
    rw [hk 82 (by omega) (by omega) (by omega), hk 100 (by omega) (by omega) (by omega)]; exact i6 k h1 h2
  · intro s hs
    rw [hk (83 + 3 * s) (by omega) (by omega) (by omega), hk (84 + 3 * s) (by omega) (by omega) (by omega), hk (85 + 3 * s) (by omega) (by omega) (by omega), hk 101 (by omega) (by omega) (by omega), hk 102 (by omega) (by omega) (by omega), hk 103 (by omega) (by omega) (by omega)]
    exact i7 s hs
  · rw [hk 80 (by omega) (by omega) (by omega), hk 81 (by omega) (by omega) (by omega), h95 23 (by omega), hk 107 (by omega) (by omega) (by omega)]
    exact i8
theorem inv_mono (n : Nat) (σ : bzS) (hI : bzInv n σ) : bzInv (n + 1) σ := by
  obtain ⟨i1, i2, i4, ⟨k, k1, k2⟩, i6⟩ := hI
  exact ⟨i1, i2, i4, ⟨k, by omega, k2⟩, i6⟩
theorem inv_err {n : Nat} {σ : bzS} (hI : bzInv n σ) (k : Nat) : bzInv (n + 1) (bzSt (bzSt σ 82 k (σ 82 k + 1)) 100 k (bzSt σ 82 k (σ 82 k + 1) 100 k + 1)) := by
  apply inv_mono
  by_cases hk5 : 1 ≤ k ∧ k ≤ 5
  · obtain ⟨i1, ⟨i2, i3⟩, i4, i5, i6, i7, i8⟩ := hI
    have eo : ∀ q, q ≠ 82 → q ≠ 100 → bzSt (bzSt σ 82 k (σ 82 k + 1)) 100 k (bzSt σ 82 k (σ 82 k + 1) 100 k + 1) q = σ q := fun q h1 h2 => by rw [st_o h2, st_o h1]
    have e82 : bzSt (bzSt σ 82 k (σ 82 k + 1)) 100 k (bzSt σ 82 k (σ 82 k + 1) 100 k + 1) 82 = upd (σ 82) k (σ 82 k + 1) := by rw [st_o (by omega), st_s]
    have e100 : bzSt (bzSt σ 82 k (σ 82 k + 1)) 100 k (bzSt σ 82 k (σ 82 k + 1) 100 k + 1) 100 = upd (σ 100) k (σ 100 k + 1) := by rw [st_s, st_o (by omega)]
    generalize bzSt (bzSt σ 82 k (σ 82 k + 1)) 100 k (bzSt σ 82 k (σ 82 k + 1) 100 k + 1) = τ at eo e82 e100
    refine ⟨?_, ⟨?_, ?_⟩, ?_, ?_, ?_, ?_, ?_⟩
    · rw [eo 96 (by omega) (by omega)]
      exact i1.frame (fun q h1 h2 => eo q (by omega) (by omega))
    · rw [eo 96 (by omega) (by omega)]; exact i2
    · rw [eo 96 (by omega) (by omega)]; exact i3
    · rw [eo 95 (by omega) (by omega)]; exact i4
    · rw [eo 0 (by omega) (by omega), eo 95 (by omega) (by omega), eo 97 (by omega) (by omega)]
      obtain ⟨q, k1, k2, k3, k4⟩ := i5
      refine ⟨q, k1, k2, k3, ?_⟩
      rcases k4 with k4 | ⟨k4, k5, k6, k7⟩
      · exact Or.inl k4
      · exact Or.inr ⟨k4, k5, k6.frame (fun q h1 h2 => eo q (by omega) (by omega)), k7⟩
    · intro q h1 h2
      rw [e82, e100]
      by_cases e : q = k
      · subst e; rw [pk_us, pk_us, i6 q h1 h2]
      · rw [pk_un e, pk_un e]; exact i6 q h1 h2
    · intro s hs
      rw [eo (83 + 3 * s) (by omega) (by omega), eo (84 + 3 * s) (by omega) (by omega), eo (85 + 3 * s) (by omega) (by omega), eo 101 (by omega) (by omega), eo 102 (by omega) (by omega), eo 103 (by omega) (by omega)]
      exact i7 s hs
    · rw [eo 80 (by omega) (by omega), eo 81 (by omega) (by omega), eo 95 (by omega) (by omega), eo 107 (by omega) (by omega)]
      exact i8
  · obtain ⟨i1, ⟨i2, i3⟩, i4, i5, i6, i7, i8⟩ := hI
    have eo : ∀ q, q ≠ 82 → q ≠ 100 → bzSt (bzSt σ 82 k (σ 82 k + 1)) 100 k (bzSt σ 82 k (σ 82 k + 1) 100 k + 1) q = σ q := fun q h1 h2 => by rw [st_o h2, st_o h1]
    have e82 : bzSt (bzSt σ 82 k (σ 82 k + 1)) 100 k (bzSt σ 82 k (σ 82 k + 1) 100 k + 1) 82 = upd (σ 82) k (σ 82 k + 1) := by rw [st_o (by omega), st_s]
    have e100 : bzSt (bzSt σ 82 k (σ 82 k + 1)) 100 k (bzSt σ 82 k (σ 82 k + 1) 100 k + 1) 100 = upd (σ 100) k (σ 100 k + 1) := by rw [st_s, st_o (by omega)]
    generalize bzSt (bzSt σ 82 k (σ 82 k + 1)) 100 k (bzSt σ 82 k (σ 82 k + 1) 100 k + 1) = τ at eo e82 e100
    refine ⟨?_, ⟨?_, ?_⟩, ?_, ?_, ?_, ?_, ?_⟩
    · rw [eo 96 (by omega) (by omega)]
      exact i1.frame (fun q h1 h2 => eo q (by omega) (by omega))
    · rw [eo 96 (by omega) (by omega)]; exact i2
    · rw [eo 96 (by omega) (by omega)]; exact i3
    · rw [eo 95 (by omega) (by omega)]; exact i4
    · rw [eo 0 (by omega) (by omega), eo 95 (by omega) (by omega), eo 97 (by omega) (by omega)]
      obtain ⟨q, k1, k2, k3, k4⟩ := i5
      refine ⟨q, k1, k2, k3, ?_⟩
      rcases k4 with k4 | ⟨k4, k5, k6, k7⟩
      · exact Or.inl k4
      · exact Or.inr ⟨k4, k5, k6.frame (fun q h1 h2 => eo q (by omega) (by omega)), k7⟩
    · intro q h1 h2
      rw [e82, e100, pk_un (by omega), pk_un (by omega)]; exact i6 q h1 h2
    · intro s hs
      rw [eo (83 + 3 * s) (by omega) (by omega), eo (84 + 3 * s) (by omega) (by omega), eo (85 + 3 * s) (by omega) (by omega), eo 101 (by omega) (by omega), eo 102 (by omega) (by omega), eo 103 (by omega) (by omega)]
      exact i7 s hs
    · rw [eo 80 (by omega) (by omega), eo 81 (by omega) (by omega), eo 95 (by omega) (by omega), eo 107 (by omega) (by omega)]
      exact i8
-- the small functions
theorem e_f1 (σ : bzS) : f_X9_fails 0 (-1000000001) σ = some (-1000000001, bzSt σ 82 1 (σ 82 1 + 1)) := rfl
theorem e_f2 (σ : bzS) : f_X9_fails 0 (-1000000002) σ = some (-1000000002, bzSt σ 82 2 (σ 82 2 + 1)) := rfl
theorem e_f3 (σ : bzS) : f_X9_fails 0 (-1000000003) σ = some (-1000000003, bzSt σ 82 3 (σ 82 3 + 1)) := rfl
theorem e_f4 (σ : bzS) : f_X9_fails 0 (-1000000004) σ = some (-1000000004, bzSt σ 82 4 (σ 82 4 + 1)) := rfl
theorem e_f5 (σ : bzS) : f_X9_fails 0 (-1000000005) σ = some (-1000000005, bzSt σ 82 5 (σ 82 5 + 1)) := rfl
theorem e_e1 (σ : bzS) : f_X10_errs 95 (-1000000001) σ = some (-1000000001, bzSt σ 100 1 (σ 100 1 + 1)) := rfl
theorem e_e2 (σ : bzS) : f_X10_errs 95 (-1000000002) σ = some (-1000000002, bzSt σ 100 2 (σ 100 2 + 1)) := rfl
theorem e_e3 (σ : bzS) : f_X10_errs 95 (-1000000003) σ = some (-1000000003, bzSt σ 100 3 (σ 100 3 + 1)) := rfl
theorem e_e4 (σ : bzS) : f_X10_errs 95 (-1000000004) σ = some (-1000000004, bzSt σ 100 4 (σ 100 4 + 1)) := rfl
theorem e_e5 (σ : bzS) : f_X10_errs 95 (-1000000005) σ = some (-1000000005, bzSt σ 100 5 (σ 100 5 + 1)) := rfl
/-- within 0 .. n, or not -/
theorem rng (a : Int32) {n : Nat} (hn : n < 2 ^ 31 - 1) : (∃ k : Nat, k ≤ n ∧ a = nI k) ∨ (a < 0 ∨ nI n < a) := by
  rcases pk_ix a (n := n + 1) (by omega) with h | h | ⟨j, h1, h2⟩
  · exact Or.inr (Or.inl h)
  · right; right
    rw [Int32.le_iff_toInt_le, nI_toInt (by omega)] at h
    rw [Int32.lt_iff_toInt_lt, nI_toInt (by omega)]
    omega
  · exact Or.inl ⟨j, by omega, h2⟩
theorem wi_1 {a lo hi : Int32} (h1 : ¬ a < lo) (h2 : ¬ hi < a) : f_X9_within a lo hi = some 1 := by
  unfold f_X9_within; rw [if_neg h1, if_neg h2]
theorem wi_0 {a lo hi : Int32} (h : a < lo ∨ hi < a) : f_X9_within a lo hi = some 0 := by
  unfold f_X9_within
  by_cases h1 : a < lo
  · rw [if_pos h1]
  · rw [if_neg h1, if_pos (h.resolve_left h1)]
theorem in_1 {a lo hi : Int32} (h1 : ¬ a < lo) (h2 : ¬ hi < a) : f_X10_in a lo hi = some 1 := by
  unfold f_X10_in; rw [if_neg h1, if_neg h2]
theorem in_0 {a lo hi : Int32} (h : a < lo ∨ hi < a) : f_X10_in a lo hi = some 0 := by
  unfold f_X10_in
  by_cases h1 : a < lo
  · rw [if_pos h1]
  · rw [if_neg h1, if_pos (h.resolve_left h1)]
theorem nI_n0 {k : Nat} (h : k < 2 ^ 31) : ¬ nI k < 0 := nI_pos h
theorem nI_nL {k n : Nat} {N : Int32} (hN : nI n = N) (h : k ≤ n) (hn : n < 2 ^ 31) : ¬ N < nI k := by rw [← hN]; exact nI_nlt h (by omega)
