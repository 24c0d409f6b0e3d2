set_option linter.unusedVariables false
theorem cp7_54 (σ : bzS) : ∃ τ, f_X7_copyFrom 58 5 σ = some τ ∧ (∀ k, (k < 58 ∨ 62 < k) → τ k = σ k) ∧ τ 58 4 = σ 5 4 ∧ τ 58 5 = σ 5 5 ∧ ∀ j, j < 8 → τ 59 j = σ 6 j ∧ τ 60 j = σ 7 j ∧ τ 61 j = σ 8 j ∧ τ 62 j = σ 9 j := by
  refine ⟨bzSt (bzSt (bzSa (bzSa (bzSa (bzSa σ 59 (va_cpy (σ 6) (σ 59) 0 0 8)) 60 (va_cpy (σ 7) (σ 60) 0 0 8)) 61 (va_cpy (σ 8) (σ 61) 0 0 8)) 62 (va_cpy (σ 9) (σ 62) 0 0 8)) 58 4 (σ 5 4)) 58 5 (σ 5 5), rfl, fun k hk => ?_, ?_, ?_, fun j hj => ⟨?_, ?_, ?_, ?_⟩⟩
  · rw [st_o (by omega), st_o (by omega), sa_o (by omega), sa_o (by omega), sa_o (by omega), sa_o (by omega)]
  · rw [st_s, pk_un (by decide), st_s, pk_us]
  · rw [st_s, pk_us]
  · rw [st_o (by decide), st_o (by decide), sa_o (by decide), sa_o (by decide), sa_o (by decide), sa_s, pk_cpy_in (Nat.zero_le _) (by omega), Nat.zero_add, Nat.sub_zero]
  · rw [st_o (by decide), st_o (by decide), sa_o (by decide), sa_o (by decide), sa_s, pk_cpy_in (Nat.zero_le _) (by omega), Nat.zero_add, Nat.sub_zero]
  · rw [st_o (by decide), st_o (by decide), sa_o (by decide), sa_s, pk_cpy_in (Nat.zero_le _) (by omega), Nat.zero_add, Nat.sub_zero]
  · rw [st_o (by decide), st_o (by decide), sa_s, pk_cpy_in (Nat.zero_le _) (by omega), Nat.zero_add, Nat.sub_zero]
theorem cp2_54_9 (σ : bzS) (h : σ 10 2 = 0 ∨ σ 10 2 = 1) : ∃ τ, f_X2_copyFrom 63 10 σ = some τ ∧ (∀ k, (k < 63 ∨ 65 < k) → τ k = σ k) ∧ τ 63 2 = σ 10 2 ∧ ∀ n, σ 11 1 = nI n → n ≤ 50 → τ 64 1 = nI n ∧ ∀ j, j < n → τ 65 j = σ 12 j := by
  obtain ⟨τ, t1, t2, t3, t4⟩ := cp4 (o := 64) (s := 11) (qo := 65) (qs := 12) (L := 50) σ rfl rfl rfl rfl rfl rfl (by decide) (by decide) (by decide) (by decide)
  have e : τ 10 2 = σ 10 2 := by rw [t2 _ (by decide) (by decide)]
  refine ⟨bzSt τ 63 2 (σ 10 2), ?_, fun k hk => by rw [st_o (by omega), t2 k (by omega) (by omega)], by rw [st_s, pk_us], fun n q1 q2 => ?_⟩
  · have u : f_X2_copyFrom 63 10 σ = bzBd (f_X4_copyFrom 64 11 σ) (fun σ2 => bzGd ((σ2 10 2) = 0 ∨ (σ2 10 2) = 1) (bzLet (bzSt σ2 63 2 (σ2 10 2)) (fun σ4 => some σ4))) := rfl
    rw [u, t1, bzBdS, e, bzGdT h]; rfl
  · rw [st_o (by decide), st_o (by decide)]; exact t4 n q1 q2
theorem cp2_54_13 (σ : bzS) (h : σ 14 2 = 0 ∨ σ 14 2 = 1) : ∃ τ, f_X2_copyFrom 67 14 σ = some τ ∧ (∀ k, (k < 67 ∨ 69 < k) → τ k = σ k) ∧ τ 67 2 = σ 14 2 ∧ ∀ n, σ 15 1 = nI n → n ≤ 50 → τ 68 1 = nI n ∧ ∀ j, j < n → τ 69 j = σ 16 j := by
  obtain ⟨τ, t1, t2, t3, t4⟩ := cp4 (o := 68) (s := 15) (qo := 69) (qs := 16) (L := 50) σ rfl rfl rfl rfl rfl rfl (by decide) (by decide) (by decide) (by decide)
  have e : τ 14 2 = σ 14 2 := by rw [t2 _ (by decide) (by decide)]
  refine ⟨bzSt τ 67 2 (σ 14 2), ?_, fun k hk => by rw [st_o (by omega), t2 k (by omega) (by omega)], by rw [st_s, pk_us], fun n q1 q2 => ?_⟩
  · have u : f_X2_copyFrom 67 14 σ = bzBd (f_X4_copyFrom 68 15 σ) (fun σ2 => bzGd ((σ2 14 2) = 0 ∨ (σ2 14 2) = 1) (bzLet (bzSt σ2 67 2 (σ2 14 2)) (fun σ4 => some σ4))) := rfl
    rw [u, t1, bzBdS, e, bzGdT h]; rfl
  · rw [st_o (by decide), st_o (by decide)]; exact t4 n q1 q2
/-- the thought copies now -/
theorem cpc_54 {σ : bzS} {f : Nat → Int32} (h : bzCR σ 1 f) : ∃ τ, f_X0_copyFrom 55 2 σ = some τ ∧ (∀ k, (k < 55 ∨ 70 < k) → τ k = σ k) ∧ bzCR τ 54 f ∧ τ 58 5 = σ 5 5 := by
  obtain ⟨i1, ia, ib⟩ := h
  have th : ∀ {th sz : Int32} {mk : Nat → Int32} {e : Int32} {t : Nat → Int32} {u : Nat}, bzLR th sz mk e t u → th = 0 ∨ th = 1 := fun h => h.elim (fun h => Or.inl h.2) (fun h => Or.inr h.1)
  let σ1 := bzSa (bzSa σ 56 (va_cpy (σ 3) (σ 56) 0 0 6)) 57 (va_cpy (σ 4) (σ 57) 0 0 6)
  have f1 : ∀ k, k ≠ 56 → k ≠ 57 → σ1 k = σ k := fun k k1 k2 => by show bzSa (bzSa σ _ _) _ _ k = _; rw [sa_o k2, sa_o k1]
  have v1 : ∀ j, j < 6 → σ1 56 j = σ 3 j ∧ σ1 57 j = σ 4 j := fun j hj => by
    constructor
    · show bzSa (bzSa σ _ _) _ _ 56 j = _
      rw [sa_o (by decide), sa_s, pk_cpy_in (Nat.zero_le _) (by omega), Nat.zero_add, Nat.sub_zero]
    · show bzSa (bzSa σ _ _) _ _ 57 j = _
      rw [sa_s, pk_cpy_in (Nat.zero_le _) (by omega), Nat.zero_add, Nat.sub_zero]
  obtain ⟨σ2, e2, f2, a2, b2, v2⟩ := cp7_54 σ1
  obtain ⟨σ3, e3, f3, a3, v3⟩ := cp2_54_9 σ2 (by rw [f2 _ (by decide), f1 _ (by decide) (by decide)]; exact th ia)
  obtain ⟨σ4, e4, f4, a4, v4⟩ := cp2_54_13 σ3 (by rw [f3 _ (by decide), f2 _ (by decide), f1 _ (by decide) (by decide)]; exact th ib)
  let σ5 := bzSt (bzSt (bzSt (bzSt σ4 55 5 (σ4 2 5)) 55 6 (σ4 2 6)) 55 7 (σ4 2 7)) 55 8 (σ4 2 8)
  have f5 : ∀ k, k ≠ 55 → σ5 k = σ4 k := fun k k1 => by show bzSt (bzSt (bzSt (bzSt σ4 _ _ _) _ _ _) _ _ _) _ _ _ k = _; rw [st_o k1, st_o k1, st_o k1, st_o k1]
  have v5 : ∀ j, 5 ≤ j → j ≤ 8 → σ5 55 j = σ4 2 j := fun j h1 h2 => by
    rcases (show j = 5 ∨ j = 6 ∨ j = 7 ∨ j = 8 by omega) with rfl | rfl | rfl | rfl <;> rfl
  have e5 : f_X0_copyFrom 55 2 σ = some σ5 := by
    have u : f_X0_copyFrom 55 2 σ = bzBd (f_X7_copyFrom 58 5 σ1) (fun s => bzBd (f_X2_copyFrom 63 10 s) (fun s => bzBd (f_X2_copyFrom 67 14 s) (fun s => some (bzSt (bzSt (bzSt (bzSt s 55 5 (s 2 5)) 55 6 (s 2 6)) 55 7 (s 2 7)) 55 8 (s 2 8))))) := rfl
    rw [u, e2, bzBdS, e3, bzBdS, e4]; rfl
  have gA : ∀ k, (k < 55 ∨ 70 < k) → σ1 k = σ k ∧ σ2 k = σ k ∧ σ3 k = σ k ∧ σ4 k = σ k ∧ σ5 k = σ k := fun k hk => by
    have h1 := f1 k (by omega) (by omega)
    have h2 := (f2 k (by omega)).trans h1
    have h3 := (f3 k (by omega)).trans h2
    have h4 := (f4 k (by omega)).trans h3
    have h5 := (f5 k (by omega)).trans h4
    exact ⟨h1, h2, h3, h4, h5⟩
  have u3 : ∀ k, k ≠ 55 → (k < 67 ∨ 69 < k) → σ5 k = σ3 k := fun k h1 h2 => by rw [f5 k h1, f4 k h2]
  have u2 : ∀ k, k ≠ 55 → (k < 63 ∨ 69 < k) → σ5 k = σ2 k := fun k h1 h2 => by rw [u3 k h1 (by omega), f3 k (by omega)]
  have u1 : ∀ k, k ≠ 55 → (k < 58 ∨ 69 < k) → σ5 k = σ1 k := fun k h1 h2 => by rw [u2 k h1 (by omega), f2 k (by omega)]
  refine ⟨σ5, e5, fun k hk => (gA k hk).2.2.2.2, ⟨fun p hp => ?_, ?_, ?_⟩, ?_⟩
  · have hl := cpB_lt hp
    refine Eq.trans ?_ (i1 p hp)
    have hc := clsE (clsD p hl (cpB_pl p hl hp))
    have hm := cp_in p hl hp
    have h0 : mc p ≠ 0 := by
      have key : ∀ p, p < 84 → cpB p = true → mc p ≠ 0 := by decide +kernel
      exact key p hl hp
    generalize mc p = c at hc hm h0
    generalize mj p = j at hc
    rcases hc with ⟨rfl, hj⟩ | ⟨rfl, hj⟩ | ⟨rfl, hj⟩ | ⟨rfl, hj⟩ | ⟨rfl, hj⟩ | ⟨rfl, hj⟩ | ⟨rfl, rfl⟩ | ⟨rfl, hj, hj2⟩ | ⟨rfl, hj⟩ | ⟨rfl, hj⟩ | ⟨rfl, hj⟩ | ⟨rfl, rfl | rfl⟩ | ⟨rfl, rfl⟩ | ⟨rfl, rfl⟩ | ⟨rfl, rfl⟩
    · rw [u1 56 (by decide) (by decide)]; exact (v1 j hj).1
    · rw [u1 57 (by decide) (by decide)]; exact (v1 j hj).2
    · rw [u2 59 (by decide) (by decide), (v2 j hj).1, (gA 6 (by decide)).1]
    · rw [u2 60 (by decide) (by decide), (v2 j hj).2.1, (gA 7 (by decide)).1]
    · rw [u2 61 (by decide) (by decide), (v2 j hj).2.2.1, (gA 8 (by decide)).1]
    · rw [u2 62 (by decide) (by decide), (v2 j hj).2.2.2, (gA 9 (by decide)).1]
    · rw [u2 58 (by decide) (by decide), a2, (gA 5 (by decide)).1]
    · rw [v5 j hj hj2, (gA 2 (by decide)).2.2.2.1]
    all_goals omega
  · show bzLR (σ5 63 2) (σ5 64 1) (σ5 65) _ _ _
    rw [u3 63 (by decide) (by decide), u3 64 (by decide) (by decide), u3 65 (by decide) (by decide), a3, (gA 10 (by decide)).2.1]
    rcases ia with ⟨x1, x2⟩ | ⟨x1, k, m, x2, x3, x4, x5, ms, y1, y2, y3⟩
    · exact Or.inl ⟨x1, x2⟩
    · obtain ⟨c1, c2⟩ := v3 m (by rw [(gA 11 (by decide)).2.1]; exact x5) x4
      exact Or.inr ⟨x1, k, m, x2, x3, x4, c1, ms, y1, y2, fun i hi => by rw [c2 i hi, (gA 12 (by decide)).2.1]; exact y3 i hi⟩
  · show bzLR (σ5 67 2) (σ5 68 1) (σ5 69) _ _ _
    rw [f5 67 (by decide), f5 68 (by decide), f5 69 (by decide), a4, (gA 14 (by decide)).2.2.1]
    rcases ib with ⟨x1, x2⟩ | ⟨x1, k, m, x2, x3, x4, x5, ms, y1, y2, y3⟩
    · exact Or.inl ⟨x1, x2⟩
    · obtain ⟨c1, c2⟩ := v4 m (by rw [(gA 15 (by decide)).2.2.1]; exact x5) x4
      exact Or.inr ⟨x1, k, m, x2, x3, x4, c1, ms, y1, y2, fun i hi => by rw [c2 i hi, (gA 16 (by decide)).2.2.1]; exact y3 i hi⟩
  · rw [u2 58 (by decide) (by decide), b2, (gA 5 (by decide)).1]
