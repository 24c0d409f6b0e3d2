set_option linter.unusedVariables false
def clsB (c j : Nat) : Bool := decide (c = 2 ∧ j < 6) || (decide (c = 3 ∧ j < 6) || (decide (c = 5 ∧ j < 8) || (decide (c = 6 ∧ j < 8) || (decide (c = 7 ∧ j < 8) || (decide (c = 8 ∧ j < 8) || (decide (c = 4 ∧ j = 4) || (decide (c = 1 ∧ 5 ≤ j ∧ j ≤ 8) || (decide (c = 18 ∧ j < 10) || (decide (c = 19 ∧ j < 10) || (decide (c = 20 ∧ j < 8) || (decide (c = 17 ∧ (j = 5 ∨ j = 6)) || (decide (c = 23 ∧ j = 1) || (decide (c = 25 ∧ j = 1) || (decide (c = 0 ∧ j = 4)))))))))))))))
theorem clsE {c j : Nat} (h : clsB c j = true) : (c = 2 ∧ j < 6) ∨ (c = 3 ∧ j < 6) ∨ (c = 5 ∧ j < 8) ∨ (c = 6 ∧ j < 8) ∨ (c = 7 ∧ j < 8) ∨ (c = 8 ∧ j < 8) ∨ (c = 4 ∧ j = 4) ∨ (c = 1 ∧ 5 ≤ j ∧ j ≤ 8) ∨ (c = 18 ∧ j < 10) ∨ (c = 19 ∧ j < 10) ∨ (c = 20 ∧ j < 8) ∨ (c = 17 ∧ (j = 5 ∨ j = 6)) ∨ (c = 23 ∧ j = 1) ∨ (c = 25 ∧ j = 1) ∨ (c = 0 ∧ j = 4) := by
  simp only [clsB, Bool.or_eq_true, decide_eq_true_eq] at h
  exact h
theorem clsD : ∀ p, p < 84 → plB p = true → clsB (mc p) (mj p) = true := by decide +kernel

theorem cp7_28 (σ : bzS) : ∃ τ, f_X7_copyFrom 32 5 σ = some τ ∧ (∀ k, (k < 32 ∨ 36 < k) → τ k = σ k) ∧ τ 32 4 = σ 5 4 ∧ τ 32 5 = σ 5 5 ∧ ∀ j, j < 8 → τ 33 j = σ 6 j ∧ τ 34 j = σ 7 j ∧ τ 35 j = σ 8 j ∧ τ 36 j = σ 9 j := by
  refine ⟨bzSt (bzSt (bzSa (bzSa (bzSa (bzSa σ 33 (va_cpy (σ 6) (σ 33) 0 0 8)) 34 (va_cpy (σ 7) (σ 34) 0 0 8)) 35 (va_cpy (σ 8) (σ 35) 0 0 8)) 36 (va_cpy (σ 9) (σ 36) 0 0 8)) 32 4 (σ 5 4)) 32 5 (σ 5 5), rfl, fun k hk => ?_, ?_, ?_, fun j hj => ⟨?_, ?_, ?_, ?_⟩⟩
  · rw [st_o (by omega), st_o (by omega), sa_o (by omega), sa_o (by omega), sa_o (by omega), sa_o (by omega)]
  · rw [st_s, pk_un (by decide), st_s, pk_us]
  · rw [st_s, pk_us]
  · rw [st_o (by decide), st_o (by decide), sa_o (by decide), sa_o (by decide), sa_o (by decide), sa_s, pk_cpy_in (Nat.zero_le _) (by omega), Nat.zero_add, Nat.sub_zero]
  · rw [st_o (by decide), st_o (by decide), sa_o (by decide), sa_o (by decide), sa_s, pk_cpy_in (Nat.zero_le _) (by omega), Nat.zero_add, Nat.sub_zero]
  · rw [st_o (by decide), st_o (by decide), sa_o (by decide), sa_s, pk_cpy_in (Nat.zero_le _) (by omega), Nat.zero_add, Nat.sub_zero]
  · rw [st_o (by decide), st_o (by decide), sa_s, pk_cpy_in (Nat.zero_le _) (by omega), Nat.zero_add, Nat.sub_zero]
theorem cp1_28 (σ : bzS) : ∃ τ, f_X1_copyFrom 45 18 σ = some τ ∧ (∀ k, (k < 45 ∨ 48 < k) → τ k = σ k) ∧ τ 45 5 = σ 18 5 ∧ τ 45 6 = σ 18 6 ∧ (∀ j, j < 10 → τ 46 j = σ 19 j ∧ τ 47 j = σ 20 j) ∧ ∀ j, j < 8 → τ 48 j = σ 21 j := by
  refine ⟨bzSt (bzSt (bzSa (bzSa (bzSa σ 46 (va_cpy (σ 19) (σ 46) 0 0 10)) 47 (va_cpy (σ 20) (σ 47) 0 0 10)) 48 (va_cpy (σ 21) (σ 48) 0 0 8)) 45 5 (σ 18 5)) 45 6 (σ 18 6), rfl, fun k hk => ?_, ?_, ?_, fun j hj => ⟨?_, ?_⟩, fun j hj => ?_⟩
  · rw [st_o (by omega), st_o (by omega), sa_o (by omega), sa_o (by omega), sa_o (by omega)]
  · rw [st_s, pk_un (by decide), st_s, pk_us]
  · rw [st_s, pk_us]
  · rw [st_o (by decide), st_o (by decide), sa_o (by decide), sa_o (by decide), sa_s, pk_cpy_in (Nat.zero_le _) (by omega), Nat.zero_add, Nat.sub_zero]
  · rw [st_o (by decide), st_o (by decide), sa_o (by decide), sa_s, pk_cpy_in (Nat.zero_le _) (by omega), Nat.zero_add, Nat.sub_zero]
  · rw [st_o (by decide), st_o (by decide), sa_s, pk_cpy_in (Nat.zero_le _) (by omega), Nat.zero_add, Nat.sub_zero]
theorem cp2_28_9 (σ : bzS) (h : σ 10 2 = 0 ∨ σ 10 2 = 1) : ∃ τ, f_X2_copyFrom 37 10 σ = some τ ∧ (∀ k, (k < 37 ∨ 39 < k) → τ k = σ k) ∧ τ 37 2 = σ 10 2 ∧ ∀ n, σ 11 1 = nI n → n ≤ 50 → τ 38 1 = nI n ∧ ∀ j, j < n → τ 39 j = σ 12 j := by
  obtain ⟨τ, t1, t2, t3, t4⟩ := cp4 (o := 38) (s := 11) (qo := 39) (qs := 12) (L := 50) σ rfl rfl rfl rfl rfl rfl (by decide) (by decide) (by decide) (by decide)
  have e : τ 10 2 = σ 10 2 := by rw [t2 _ (by decide) (by decide)]
  refine ⟨bzSt τ 37 2 (σ 10 2), ?_, fun k hk => by rw [st_o (by omega), t2 k (by omega) (by omega)], by rw [st_s, pk_us], fun n q1 q2 => ?_⟩
  · have u : f_X2_copyFrom 37 10 σ = bzBd (f_X4_copyFrom 38 11 σ) (fun σ2 => bzGd ((σ2 10 2) = 0 ∨ (σ2 10 2) = 1) (bzLet (bzSt σ2 37 2 (σ2 10 2)) (fun σ4 => some σ4))) := rfl
    rw [u, t1, bzBdS, e, bzGdT h]; rfl
  · rw [st_o (by decide), st_o (by decide)]; exact t4 n q1 q2
theorem cp2_28_13 (σ : bzS) (h : σ 14 2 = 0 ∨ σ 14 2 = 1) : ∃ τ, f_X2_copyFrom 41 14 σ = some τ ∧ (∀ k, (k < 41 ∨ 43 < k) → τ k = σ k) ∧ τ 41 2 = σ 14 2 ∧ ∀ n, σ 15 1 = nI n → n ≤ 50 → τ 42 1 = nI n ∧ ∀ j, j < n → τ 43 j = σ 16 j := by
  obtain ⟨τ, t1, t2, t3, t4⟩ := cp4 (o := 42) (s := 15) (qo := 43) (qs := 16) (L := 50) σ rfl rfl rfl rfl rfl rfl (by decide) (by decide) (by decide) (by decide)
  have e : τ 14 2 = σ 14 2 := by rw [t2 _ (by decide) (by decide)]
  refine ⟨bzSt τ 41 2 (σ 14 2), ?_, fun k hk => by rw [st_o (by omega), t2 k (by omega) (by omega)], by rw [st_s, pk_us], fun n q1 q2 => ?_⟩
  · have u : f_X2_copyFrom 41 14 σ = bzBd (f_X4_copyFrom 42 15 σ) (fun σ2 => bzGd ((σ2 14 2) = 0 ∨ (σ2 14 2) = 1) (bzLet (bzSt σ2 41 2 (σ2 14 2)) (fun σ4 => some σ4))) := rfl
    rw [u, t1, bzBdS, e, bzGdT h]; rfl
  · rw [st_o (by decide), st_o (by decide)]; exact t4 n q1 q2
/-- a State copies another -/
theorem cps_28 {σ : bzS} {f : Nat → Int32} (h : bzSR σ 1 f) (hR : bzRg f) : ∃ τ, f_X6_copyFrom 28 1 σ = some τ ∧ (∀ k, (k < 28 ∨ 54 < k) → τ k = σ k) ∧ bzSR τ 28 f := by
  obtain ⟨i1, ⟨ia, ib⟩, i2, i3, i4⟩ := h
  have th : ∀ {th sz : Int32} {mk : Nat → Int32} {e : Int32} {t : Nat → Int32} {u : Nat}, bzLR th sz mk e t u → th = 0 ∨ th = 1 := fun h => h.elim (fun h => Or.inl h.2) (fun h => Or.inr h.1)
  let σ1 := bzSa (bzSa σ 30 (va_cpy (σ 3) (σ 30) 0 0 6)) 31 (va_cpy (σ 4) (σ 31) 0 0 6)
  have f1 : ∀ k, k ≠ 30 → k ≠ 31 → σ1 k = σ k := fun k k1 k2 => by show bzSa (bzSa σ _ _) _ _ k = _; rw [sa_o k2, sa_o k1]
  have v1 : ∀ j, j < 6 → σ1 30 j = σ 3 j ∧ σ1 31 j = σ 4 j := fun j hj => by
    constructor
    · show bzSa (bzSa σ _ _) _ _ 30 j = _
      rw [sa_o (by decide), sa_s, pk_cpy_in (Nat.zero_le _) (by omega), Nat.zero_add, Nat.sub_zero]
    · show bzSa (bzSa σ _ _) _ _ 31 j = _
      rw [sa_s, pk_cpy_in (Nat.zero_le _) (by omega), Nat.zero_add, Nat.sub_zero]
  obtain ⟨σ2, e2, f2, a2, b2, v2⟩ := cp7_28 σ1
  obtain ⟨σ3, e3, f3, a3, v3⟩ := cp2_28_9 σ2 (by rw [f2 _ (by decide), f1 _ (by decide) (by decide)]; exact th ia)
  obtain ⟨σ4, e4, f4, a4, v4⟩ := cp2_28_13 σ3 (by rw [f3 _ (by decide), f2 _ (by decide), f1 _ (by decide) (by decide)]; exact th ib)
  let σ5 := bzSt (bzSt (bzSt (bzSt σ4 29 5 (σ4 2 5)) 29 6 (σ4 2 6)) 29 7 (σ4 2 7)) 29 8 (σ4 2 8)
  have f5 : ∀ k, k ≠ 29 → σ5 k = σ4 k := fun k k1 => by show bzSt (bzSt (bzSt (bzSt σ4 _ _ _) _ _ _) _ _ _) _ _ _ k = _; rw [st_o k1, st_o k1, st_o k1, st_o k1]
  have v5 : ∀ j, 5 ≤ j → j ≤ 8 → σ5 29 j = σ4 2 j := fun j h1 h2 => by
    rcases (show j = 5 ∨ j = 6 ∨ j = 7 ∨ j = 8 by omega) with rfl | rfl | rfl | rfl <;> rfl
  have e5 : f_X0_copyFrom 29 2 σ = some σ5 := by
    have u : f_X0_copyFrom 29 2 σ = bzBd (f_X7_copyFrom 32 5 σ1) (fun s => bzBd (f_X2_copyFrom 37 10 s) (fun s => bzBd (f_X2_copyFrom 41 14 s) (fun s => some (bzSt (bzSt (bzSt (bzSt s 29 5 (s 2 5)) 29 6 (s 2 6)) 29 7 (s 2 7)) 29 8 (s 2 8))))) := rfl
    rw [u, e2, bzBdS, e3, bzBdS, e4]; rfl
  obtain ⟨σ6, e6, f6, a6, b6, v6, w6⟩ := cp1_28 σ5
  obtain ⟨σ7, e7, f7, -, v7⟩ := cp4 (o := 51) (s := 24) (qo := 52) (qs := 25) (L := 50) σ6 rfl rfl rfl rfl rfl rfl (by decide) (by decide) (by decide) (by decide)
  obtain ⟨σ8, e8, f8, -, v8⟩ := cp4 (o := 53) (s := 26) (qo := 54) (qs := 27) (L := 20) σ7 rfl rfl rfl rfl rfl rfl (by decide) (by decide) (by decide) (by decide)
  have e9 : f_X6_copyFrom 28 1 σ = some (bzSt σ8 28 4 (σ8 1 4)) := by
    have u : f_X6_copyFrom 28 1 σ = bzBd (f_X0_copyFrom 29 2 σ) (fun s => bzBd (f_X1_copyFrom 45 18 s) (fun s => bzBd (f_X4_copyFrom 51 24 s) (fun s => bzBd (f_X4_copyFrom 53 26 s) (fun s => some (bzSt s 28 4 (s 1 4)))))) := rfl
    rw [u, e5, bzBdS, e6, bzBdS, e7, bzBdS, e8]; rfl
  have gA : ∀ k, (k < 28 ∨ 54 < k) → σ1 k = σ k ∧ σ2 k = σ k ∧ σ3 k = σ k ∧ σ4 k = σ k ∧ σ5 k = σ k ∧ σ6 k = σ k ∧ σ7 k = σ k ∧ σ8 k = σ k := fun k hk => by
    have h1 := f1 k (by omega) (by omega)
    have h2 := (f2 k (by omega)).trans h1
    have h3 := (f3 k (by omega)).trans h2
    have h4 := (f4 k (by omega)).trans h3
    have h5 := (f5 k (by omega)).trans h4
    have h6 := (f6 k (by omega)).trans h5
    have h7 := (f7 k (by omega) (by omega)).trans h6
    have h8 := (f8 k (by omega) (by omega)).trans h7
    exact ⟨h1, h2, h3, h4, h5, h6, h7, h8⟩
  have u7 : ∀ k, k ≠ 28 → k ≠ 53 → k ≠ 54 → bzSt σ8 28 4 (σ8 1 4) k = σ7 k := fun k h1 h2 h3 => by rw [st_o h1, f8 k h2 h3]
  have u6 : ∀ k, k ≠ 28 → (k < 51 ∨ 54 < k) → bzSt σ8 28 4 (σ8 1 4) k = σ6 k := fun k h1 h2 => by rw [u7 k h1 (by omega) (by omega), f7 k (by omega) (by omega)]
  have u5 : ∀ k, k ≠ 28 → (k < 45 ∨ 54 < k) → bzSt σ8 28 4 (σ8 1 4) k = σ5 k := fun k h1 h2 => by rw [u6 k h1 (by omega), f6 k (by omega)]
  have u4 : ∀ k, k ≠ 28 → k ≠ 29 → (k < 45 ∨ 54 < k) → bzSt σ8 28 4 (σ8 1 4) k = σ4 k := fun k h1 h2 h3 => by rw [u5 k h1 h3, f5 k h2]
  have u3 : ∀ k, k ≠ 28 → k ≠ 29 → (k < 41 ∨ 54 < k) → bzSt σ8 28 4 (σ8 1 4) k = σ3 k := fun k h1 h2 h3 => by rw [u4 k h1 h2 (by omega), f4 k (by omega)]
  have u2 : ∀ k, k ≠ 28 → k ≠ 29 → (k < 37 ∨ 54 < k) → bzSt σ8 28 4 (σ8 1 4) k = σ2 k := fun k h1 h2 h3 => by rw [u3 k h1 h2 (by omega), f3 k (by omega)]
  have u1 : ∀ k, k ≠ 28 → k ≠ 29 → (k < 32 ∨ 54 < k) → bzSt σ8 28 4 (σ8 1 4) k = σ1 k := fun k h1 h2 h3 => by rw [u2 k h1 h2 (by omega), f2 k (by omega)]
  obtain ⟨z8, hz8, ez8⟩ := hR.1 8 rfl (by decide) (by decide)
  have hz8 : z8 ≤ 50 := hz8
  have s23 : σ 24 1 = nI z8 := (i1 8 rfl).trans ez8
  obtain ⟨w7a, w7b⟩ := v7 z8 (by rw [(gA 24 (by decide)).2.2.2.2.2.1]; exact s23) hz8
  obtain ⟨z9, hz9, ez9⟩ := hR.1 9 rfl (by decide) (by decide)
  have hz9 : z9 ≤ 20 := hz9
  have s25 : σ 26 1 = nI z9 := (i1 9 rfl).trans ez9
  obtain ⟨w8a, w8b⟩ := v8 z9 (by rw [(gA 26 (by decide)).2.2.2.2.2.2.1]; exact s25) hz9
  have cell : ∀ p, plB p = true → bzSt σ8 28 4 (σ8 1 4) (28 + mc p) (mj p) = σ (1 + mc p) (mj p) := by
    intro p hp
    have hc := clsE (clsD p (plB_lt hp).1 hp)
    generalize mc p = c at hc
    generalize mj p = j at hc
    rcases hc with ⟨rfl, hj⟩ | ⟨rfl, hj⟩ | ⟨rfl, hj⟩ | ⟨rfl, hj⟩ | ⟨rfl, hj⟩ | ⟨rfl, hj⟩ | ⟨rfl, rfl⟩ | ⟨rfl, hj, hj2⟩ | ⟨rfl, hj⟩ | ⟨rfl, hj⟩ | ⟨rfl, hj⟩ | ⟨rfl, rfl | rfl⟩ | ⟨rfl, rfl⟩ | ⟨rfl, rfl⟩ | ⟨rfl, rfl⟩
    · rw [u1 30 (by decide) (by decide) (by decide)]; exact (v1 j hj).1
    · rw [u1 31 (by decide) (by decide) (by decide)]; exact (v1 j hj).2
    · rw [u2 33 (by decide) (by decide) (by decide), (v2 j hj).1, (gA 6 (by decide)).1]
    · rw [u2 34 (by decide) (by decide) (by decide), (v2 j hj).2.1, (gA 7 (by decide)).1]
    · rw [u2 35 (by decide) (by decide) (by decide), (v2 j hj).2.2.1, (gA 8 (by decide)).1]
    · rw [u2 36 (by decide) (by decide) (by decide), (v2 j hj).2.2.2, (gA 9 (by decide)).1]
    · rw [u2 32 (by decide) (by decide) (by decide), a2, (gA 5 (by decide)).1]
    · rw [u5 29 (by decide) (by decide), v5 j hj hj2, (gA 2 (by decide)).2.2.2.1]
    · rw [u6 46 (by decide) (by decide), (v6 j hj).1, (gA 19 (by decide)).2.2.2.2.1]
    · rw [u6 47 (by decide) (by decide), (v6 j hj).2, (gA 20 (by decide)).2.2.2.2.1]
    · rw [u6 48 (by decide) (by decide), w6 j hj, (gA 21 (by decide)).2.2.2.2.1]
    · rw [u6 45 (by decide) (by decide), a6, (gA 18 (by decide)).2.2.2.2.1]
    · rw [u6 45 (by decide) (by decide), b6, (gA 18 (by decide)).2.2.2.2.1]
    · rw [u7 51 (by decide) (by decide) (by decide), w7a]; exact s23.symm
    · show bzSt σ8 28 4 (σ8 1 4) 53 1 = _
      rw [st_o (by decide), w8a]; exact s25.symm
    · show bzSt σ8 28 4 (σ8 1 4) 28 4 = σ 1 4
      rw [st_s, pk_us, (gA 1 (by decide)).2.2.2.2.2.2.2]
  refine ⟨_, e9, fun k hk => by rw [st_o (by omega), (gA k hk).2.2.2.2.2.2.2], fun p hp => (cell p hp).trans (i1 p hp), ⟨?_, ?_⟩, fun i hi hf => ?_, fun i hi hf => ?_, ?_⟩
  · show bzLR (bzSt σ8 28 4 (σ8 1 4) 37 2) (bzSt σ8 28 4 (σ8 1 4) 38 1) (bzSt σ8 28 4 (σ8 1 4) 39) _ _ _
    rw [u3 37 (by decide) (by decide) (by decide), u3 38 (by decide) (by decide) (by decide), u3 39 (by decide) (by decide) (by decide), a3, (gA 10 (by decide)).2.1]
    rcases ia with ⟨x1, x2⟩ | ⟨x1, k, m, x2, x3, x4, x5, ms, y1, y2, y3⟩
    · exact Or.inl ⟨x1, x2⟩
    · obtain ⟨c1, c2⟩ := v3 m (by rw [(gA 11 (by decide)).2.1]; exact x5) x4
      exact Or.inr ⟨x1, k, m, x2, x3, x4, c1, ms, y1, y2, fun i hi => by rw [c2 i hi, (gA 12 (by decide)).2.1]; exact y3 i hi⟩
  · show bzLR (bzSt σ8 28 4 (σ8 1 4) 41 2) (bzSt σ8 28 4 (σ8 1 4) 42 1) (bzSt σ8 28 4 (σ8 1 4) 43) _ _ _
    rw [u4 41 (by decide) (by decide) (by decide), u4 42 (by decide) (by decide) (by decide), u4 43 (by decide) (by decide) (by decide), a4, (gA 14 (by decide)).2.2.1]
    rcases ib with ⟨x1, x2⟩ | ⟨x1, k, m, x2, x3, x4, x5, ms, y1, y2, y3⟩
    · exact Or.inl ⟨x1, x2⟩
    · obtain ⟨c1, c2⟩ := v4 m (by rw [(gA 15 (by decide)).2.2.1]; exact x5) x4
      exact Or.inr ⟨x1, k, m, x2, x3, x4, c1, ms, y1, y2, fun i hi => by rw [c2 i hi, (gA 16 (by decide)).2.2.1]; exact y3 i hi⟩
  · show bzSt σ8 28 4 (σ8 1 4) 52 i = _
    rw [ez8] at hf
    rw [u7 52 (by decide) (by decide) (by decide), w7b i ((nI_ltI (a := i) (b := z8) (by omega) (by omega)).mp hf), (gA 25 (by decide)).2.2.2.2.2.1]
    exact i2 i hi (by rw [ez8]; exact hf)
  · show bzSt σ8 28 4 (σ8 1 4) 54 i = _
    rw [ez9] at hf
    rw [st_o (by decide), w8b i ((nI_ltI (a := i) (b := z9) (by omega) (by omega)).mp hf), (gA 27 (by decide)).2.2.2.2.2.2.1]
    exact i3 i hi (by rw [ez9]; exact hf)
  · show bzSt σ8 28 4 (σ8 1 4) 32 5 = -1
    rw [u2 32 (by decide) (by decide) (by decide), b2, (gA 5 (by decide)).1]; exact i4

theorem cp7_1 (σ : bzS) : ∃ τ, f_X7_copyFrom 5 32 σ = some τ ∧ (∀ k, (k < 5 ∨ 9 < k) → τ k = σ k) ∧ τ 5 4 = σ 32 4 ∧ τ 5 5 = σ 32 5 ∧ ∀ j, j < 8 → τ 6 j = σ 33 j ∧ τ 7 j = σ 34 j ∧ τ 8 j = σ 35 j ∧ τ 9 j = σ 36 j := by
  refine ⟨bzSt (bzSt (bzSa (bzSa (bzSa (bzSa σ 6 (va_cpy (σ 33) (σ 6) 0 0 8)) 7 (va_cpy (σ 34) (σ 7) 0 0 8)) 8 (va_cpy (σ 35) (σ 8) 0 0 8)) 9 (va_cpy (σ 36) (σ 9) 0 0 8)) 5 4 (σ 32 4)) 5 5 (σ 32 5), rfl, fun k hk => ?_, ?_, ?_, fun j hj => ⟨?_, ?_, ?_, ?_⟩⟩
  · rw [st_o (by omega), st_o (by omega), sa_o (by omega), sa_o (by omega), sa_o (by omega), sa_o (by omega)]
  · rw [st_s, pk_un (by decide), st_s, pk_us]
  · rw [st_s, pk_us]
  · rw [st_o (by decide), st_o (by decide), sa_o (by decide), sa_o (by decide), sa_o (by decide), sa_s, pk_cpy_in (Nat.zero_le _) (by omega), Nat.zero_add, Nat.sub_zero]
  · rw [st_o (by decide), st_o (by decide), sa_o (by decide), sa_o (by decide), sa_s, pk_cpy_in (Nat.zero_le _) (by omega), Nat.zero_add, Nat.sub_zero]
  · rw [st_o (by decide), st_o (by decide), sa_o (by decide), sa_s, pk_cpy_in (Nat.zero_le _) (by omega), Nat.zero_add, Nat.sub_zero]
  · rw [st_o (by decide), st_o (by decide), sa_s, pk_cpy_in (Nat.zero_le _) (by omega), Nat.zero_add, Nat.sub_zero]
theorem cp1_1 (σ : bzS) : ∃ τ, f_X1_copyFrom 18 45 σ = some τ ∧ (∀ k, (k < 18 ∨ 21 < k) → τ k = σ k) ∧ τ 18 5 = σ 45 5 ∧ τ 18 6 = σ 45 6 ∧ (∀ j, j < 10 → τ 19 j = σ 46 j ∧ τ 20 j = σ 47 j) ∧ ∀ j, j < 8 → τ 21 j = σ 48 j := by
  refine ⟨bzSt (bzSt (bzSa (bzSa (bzSa σ 19 (va_cpy (σ 46) (σ 19) 0 0 10)) 20 (va_cpy (σ 47) (σ 20) 0 0 10)) 21 (va_cpy (σ 48) (σ 21) 0 0 8)) 18 5 (σ 45 5)) 18 6 (σ 45 6), rfl, fun k hk => ?_, ?_, ?_, fun j hj => ⟨?_, ?_⟩, fun j hj => ?_⟩
  · rw [st_o (by omega), st_o (by omega), sa_o (by omega), sa_o (by omega), sa_o (by omega)]
  · rw [st_s, pk_un (by decide), st_s, pk_us]
  · rw [st_s, pk_us]
  · rw [st_o (by decide), st_o (by decide), sa_o (by decide), sa_o (by decide), sa_s, pk_cpy_in (Nat.zero_le _) (by omega), Nat.zero_add, Nat.sub_zero]
  · rw [st_o (by decide), st_o (by decide), sa_o (by decide), sa_s, pk_cpy_in (Nat.zero_le _) (by omega), Nat.zero_add, Nat.sub_zero]
  · rw [st_o (by decide), st_o (by decide), sa_s, pk_cpy_in (Nat.zero_le _) (by omega), Nat.zero_add, Nat.sub_zero]
theorem cp2_1_9 (σ : bzS) (h : σ 37 2 = 0 ∨ σ 37 2 = 1) : ∃ τ, f_X2_copyFrom 10 37 σ = some τ ∧ (∀ k, (k < 10 ∨ 12 < k) → τ k = σ k) ∧ τ 10 2 = σ 37 2 ∧ ∀ n, σ 38 1 = nI n → n ≤ 50 → τ 11 1 = nI n ∧ ∀ j, j < n → τ 12 j = σ 39 j := by
  obtain ⟨τ, t1, t2, t3, t4⟩ := cp4 (o := 11) (s := 38) (qo := 12) (qs := 39) (L := 50) σ rfl rfl rfl rfl rfl rfl (by decide) (by decide) (by decide) (by decide)
  have e : τ 37 2 = σ 37 2 := by rw [t2 _ (by decide) (by decide)]
  refine ⟨bzSt τ 10 2 (σ 37 2), ?_, fun k hk => by rw [st_o (by omega), t2 k (by omega) (by omega)], by rw [st_s, pk_us], fun n q1 q2 => ?_⟩
  · have u : f_X2_copyFrom 10 37 σ = bzBd (f_X4_copyFrom 11 38 σ) (fun σ2 => bzGd ((σ2 37 2) = 0 ∨ (σ2 37 2) = 1) (bzLet (bzSt σ2 10 2 (σ2 37 2)) (fun σ4 => some σ4))) := rfl
    rw [u, t1, bzBdS, e, bzGdT h]; rfl
  · rw [st_o (by decide), st_o (by decide)]; exact t4 n q1 q2
theorem cp2_1_13 (σ : bzS) (h : σ 41 2 = 0 ∨ σ 41 2 = 1) : ∃ τ, f_X2_copyFrom 14 41 σ = some τ ∧ (∀ k, (k < 14 ∨ 16 < k) → τ k = σ k) ∧ τ 14 2 = σ 41 2 ∧ ∀ n, σ 42 1 = nI n → n ≤ 50 → τ 15 1 = nI n ∧ ∀ j, j < n → τ 16 j = σ 43 j := by
  obtain ⟨τ, t1, t2, t3, t4⟩ := cp4 (o := 15) (s := 42) (qo := 16) (qs := 43) (L := 50) σ rfl rfl rfl rfl rfl rfl (by decide) (by decide) (by decide) (by decide)
  have e : τ 41 2 = σ 41 2 := by rw [t2 _ (by decide) (by decide)]
  refine ⟨bzSt τ 14 2 (σ 41 2), ?_, fun k hk => by rw [st_o (by omega), t2 k (by omega) (by omega)], by rw [st_s, pk_us], fun n q1 q2 => ?_⟩
  · have u : f_X2_copyFrom 14 41 σ = bzBd (f_X4_copyFrom 15 42 σ) (fun σ2 => bzGd ((σ2 41 2) = 0 ∨ (σ2 41 2) = 1) (bzLet (bzSt σ2 14 2 (σ2 41 2)) (fun σ4 => some σ4))) := rfl
    rw [u, t1, bzBdS, e, bzGdT h]; rfl
  · rw [st_o (by decide), st_o (by decide)]; exact t4 n q1 q2
/-- a State copies another -/
theorem cps_1 {σ : bzS} {f : Nat → Int32} (h : bzSR σ 28 f) (hR : bzRg f) : ∃ τ, f_X6_copyFrom 1 28 σ = some τ ∧ (∀ k, (k < 1 ∨ 27 < k) → τ k = σ k) ∧ bzSR τ 1 f := by
  obtain ⟨i1, ⟨ia, ib⟩, i2, i3, i4⟩ := h
  have th : ∀ {th sz : Int32} {mk : Nat → Int32} {e : Int32} {t : Nat → Int32} {u : Nat}, bzLR th sz mk e t u → th = 0 ∨ th = 1 := fun h => h.elim (fun h => Or.inl h.2) (fun h => Or.inr h.1)
  let σ1 := bzSa (bzSa σ 3 (va_cpy (σ 30) (σ 3) 0 0 6)) 4 (va_cpy (σ 31) (σ 4) 0 0 6)
  have f1 : ∀ k, k ≠ 3 → k ≠ 4 → σ1 k = σ k := fun k k1 k2 => by show bzSa (bzSa σ _ _) _ _ k = _; rw [sa_o k2, sa_o k1]
  have v1 : ∀ j, j < 6 → σ1 3 j = σ 30 j ∧ σ1 4 j = σ 31 j := fun j hj => by
    constructor
    · show bzSa (bzSa σ _ _) _ _ 3 j = _
      rw [sa_o (by decide), sa_s, pk_cpy_in (Nat.zero_le _) (by omega), Nat.zero_add, Nat.sub_zero]
    · show bzSa (bzSa σ _ _) _ _ 4 j = _
      rw [sa_s, pk_cpy_in (Nat.zero_le _) (by omega), Nat.zero_add, Nat.sub_zero]
  obtain ⟨σ2, e2, f2, a2, b2, v2⟩ := cp7_1 σ1
  obtain ⟨σ3, e3, f3, a3, v3⟩ := cp2_1_9 σ2 (by rw [f2 _ (by decide), f1 _ (by decide) (by decide)]; exact th ia)
  obtain ⟨σ4, e4, f4, a4, v4⟩ := cp2_1_13 σ3 (by rw [f3 _ (by decide), f2 _ (by decide), f1 _ (by decide) (by decide)]; exact th ib)
  let σ5 := bzSt (bzSt (bzSt (bzSt σ4 2 5 (σ4 29 5)) 2 6 (σ4 29 6)) 2 7 (σ4 29 7)) 2 8 (σ4 29 8)
  have f5 : ∀ k, k ≠ 2 → σ5 k = σ4 k := fun k k1 => by show bzSt (bzSt (bzSt (bzSt σ4 _ _ _) _ _ _) _ _ _) _ _ _ k = _; rw [st_o k1, st_o k1, st_o k1, st_o k1]
  have v5 : ∀ j, 5 ≤ j → j ≤ 8 → σ5 2 j = σ4 29 j := fun j h1 h2 => by
    rcases (show j = 5 ∨ j = 6 ∨ j = 7 ∨ j = 8 by omega) with rfl | rfl | rfl | rfl <;> rfl
  have e5 : f_X0_copyFrom 2 29 σ = some σ5 := by
    have u : f_X0_copyFrom 2 29 σ = bzBd (f_X7_copyFrom 5 32 σ1) (fun s => bzBd (f_X2_copyFrom 10 37 s) (fun s => bzBd (f_X2_copyFrom 14 41 s) (fun s => some (bzSt (bzSt (bzSt (bzSt s 2 5 (s 29 5)) 2 6 (s 29 6)) 2 7 (s 29 7)) 2 8 (s 29 8))))) := rfl
    rw [u, e2, bzBdS, e3, bzBdS, e4]; rfl
  obtain ⟨σ6, e6, f6, a6, b6, v6, w6⟩ := cp1_1 σ5
  obtain ⟨σ7, e7, f7, -, v7⟩ := cp4 (o := 24) (s := 51) (qo := 25) (qs := 52) (L := 50) σ6 rfl rfl rfl rfl rfl rfl (by decide) (by decide) (by decide) (by decide)
  obtain ⟨σ8, e8, f8, -, v8⟩ := cp4 (o := 26) (s := 53) (qo := 27) (qs := 54) (L := 20) σ7 rfl rfl rfl rfl rfl rfl (by decide) (by decide) (by decide) (by decide)
  have e9 : f_X6_copyFrom 1 28 σ = some (bzSt σ8 1 4 (σ8 28 4)) := by
    have u : f_X6_copyFrom 1 28 σ = bzBd (f_X0_copyFrom 2 29 σ) (fun s => bzBd (f_X1_copyFrom 18 45 s) (fun s => bzBd (f_X4_copyFrom 24 51 s) (fun s => bzBd (f_X4_copyFrom 26 53 s) (fun s => some (bzSt s 1 4 (s 28 4)))))) := rfl
    rw [u, e5, bzBdS, e6, bzBdS, e7, bzBdS, e8]; rfl
  have gA : ∀ k, (k < 1 ∨ 27 < k) → σ1 k = σ k ∧ σ2 k = σ k ∧ σ3 k = σ k ∧ σ4 k = σ k ∧ σ5 k = σ k ∧ σ6 k = σ k ∧ σ7 k = σ k ∧ σ8 k = σ k := fun k hk => by
    have h1 := f1 k (by omega) (by omega)
    have h2 := (f2 k (by omega)).trans h1
    have h3 := (f3 k (by omega)).trans h2
    have h4 := (f4 k (by omega)).trans h3
    have h5 := (f5 k (by omega)).trans h4
    have h6 := (f6 k (by omega)).trans h5
    have h7 := (f7 k (by omega) (by omega)).trans h6
    have h8 := (f8 k (by omega) (by omega)).trans h7
    exact ⟨h1, h2, h3, h4, h5, h6, h7, h8⟩
  have u7 : ∀ k, k ≠ 1 → k ≠ 26 → k ≠ 27 → bzSt σ8 1 4 (σ8 28 4) k = σ7 k := fun k h1 h2 h3 => by rw [st_o h1, f8 k h2 h3]
  have u6 : ∀ k, k ≠ 1 → (k < 24 ∨ 27 < k) → bzSt σ8 1 4 (σ8 28 4) k = σ6 k := fun k h1 h2 => by rw [u7 k h1 (by omega) (by omega), f7 k (by omega) (by omega)]
  have u5 : ∀ k, k ≠ 1 → (k < 18 ∨ 27 < k) → bzSt σ8 1 4 (σ8 28 4) k = σ5 k := fun k h1 h2 => by rw [u6 k h1 (by omega), f6 k (by omega)]
  have u4 : ∀ k, k ≠ 1 → k ≠ 2 → (k < 18 ∨ 27 < k) → bzSt σ8 1 4 (σ8 28 4) k = σ4 k := fun k h1 h2 h3 => by rw [u5 k h1 h3, f5 k h2]
  have u3 : ∀ k, k ≠ 1 → k ≠ 2 → (k < 14 ∨ 27 < k) → bzSt σ8 1 4 (σ8 28 4) k = σ3 k := fun k h1 h2 h3 => by rw [u4 k h1 h2 (by omega), f4 k (by omega)]
  have u2 : ∀ k, k ≠ 1 → k ≠ 2 → (k < 10 ∨ 27 < k) → bzSt σ8 1 4 (σ8 28 4) k = σ2 k := fun k h1 h2 h3 => by rw [u3 k h1 h2 (by omega), f3 k (by omega)]
  have u1 : ∀ k, k ≠ 1 → k ≠ 2 → (k < 5 ∨ 27 < k) → bzSt σ8 1 4 (σ8 28 4) k = σ1 k := fun k h1 h2 h3 => by rw [u2 k h1 h2 (by omega), f2 k (by omega)]
  obtain ⟨z8, hz8, ez8⟩ := hR.1 8 rfl (by decide) (by decide)
  have hz8 : z8 ≤ 50 := hz8
  have s23 : σ 51 1 = nI z8 := (i1 8 rfl).trans ez8
  obtain ⟨w7a, w7b⟩ := v7 z8 (by rw [(gA 51 (by decide)).2.2.2.2.2.1]; exact s23) hz8
  obtain ⟨z9, hz9, ez9⟩ := hR.1 9 rfl (by decide) (by decide)
  have hz9 : z9 ≤ 20 := hz9
  have s25 : σ 53 1 = nI z9 := (i1 9 rfl).trans ez9
  obtain ⟨w8a, w8b⟩ := v8 z9 (by rw [(gA 53 (by decide)).2.2.2.2.2.2.1]; exact s25) hz9
  have cell : ∀ p, plB p = true → bzSt σ8 1 4 (σ8 28 4) (1 + mc p) (mj p) = σ (28 + mc p) (mj p) := by
    intro p hp
    have hc := clsE (clsD p (plB_lt hp).1 hp)
    generalize mc p = c at hc
    generalize mj p = j at hc
    rcases hc with ⟨rfl, hj⟩ | ⟨rfl, hj⟩ | ⟨rfl, hj⟩ | ⟨rfl, hj⟩ | ⟨rfl, hj⟩ | ⟨rfl, hj⟩ | ⟨rfl, rfl⟩ | ⟨rfl, hj, hj2⟩ | ⟨rfl, hj⟩ | ⟨rfl, hj⟩ | ⟨rfl, hj⟩ | ⟨rfl, rfl | rfl⟩ | ⟨rfl, rfl⟩ | ⟨rfl, rfl⟩ | ⟨rfl, rfl⟩
    · rw [u1 3 (by decide) (by decide) (by decide)]; exact (v1 j hj).1
    · rw [u1 4 (by decide) (by decide) (by decide)]; exact (v1 j hj).2
    · rw [u2 6 (by decide) (by decide) (by decide), (v2 j hj).1, (gA 33 (by decide)).1]
    · rw [u2 7 (by decide) (by decide) (by decide), (v2 j hj).2.1, (gA 34 (by decide)).1]
    · rw [u2 8 (by decide) (by decide) (by decide), (v2 j hj).2.2.1, (gA 35 (by decide)).1]
    · rw [u2 9 (by decide) (by decide) (by decide), (v2 j hj).2.2.2, (gA 36 (by decide)).1]
    · rw [u2 5 (by decide) (by decide) (by decide), a2, (gA 32 (by decide)).1]
    · rw [u5 2 (by decide) (by decide), v5 j hj hj2, (gA 29 (by decide)).2.2.2.1]
    · rw [u6 19 (by decide) (by decide), (v6 j hj).1, (gA 46 (by decide)).2.2.2.2.1]
    · rw [u6 20 (by decide) (by decide), (v6 j hj).2, (gA 47 (by decide)).2.2.2.2.1]
    · rw [u6 21 (by decide) (by decide), w6 j hj, (gA 48 (by decide)).2.2.2.2.1]
    · rw [u6 18 (by decide) (by decide), a6, (gA 45 (by decide)).2.2.2.2.1]
    · rw [u6 18 (by decide) (by decide), b6, (gA 45 (by decide)).2.2.2.2.1]
    · rw [u7 24 (by decide) (by decide) (by decide), w7a]; exact s23.symm
    · show bzSt σ8 1 4 (σ8 28 4) 26 1 = _
      rw [st_o (by decide), w8a]; exact s25.symm
    · show bzSt σ8 1 4 (σ8 28 4) 1 4 = σ 28 4
      rw [st_s, pk_us, (gA 28 (by decide)).2.2.2.2.2.2.2]
  refine ⟨_, e9, fun k hk => by rw [st_o (by omega), (gA k hk).2.2.2.2.2.2.2], fun p hp => (cell p hp).trans (i1 p hp), ⟨?_, ?_⟩, fun i hi hf => ?_, fun i hi hf => ?_, ?_⟩
  · show bzLR (bzSt σ8 1 4 (σ8 28 4) 10 2) (bzSt σ8 1 4 (σ8 28 4) 11 1) (bzSt σ8 1 4 (σ8 28 4) 12) _ _ _
    rw [u3 10 (by decide) (by decide) (by decide), u3 11 (by decide) (by decide) (by decide), u3 12 (by decide) (by decide) (by decide), a3, (gA 37 (by decide)).2.1]
    rcases ia with ⟨x1, x2⟩ | ⟨x1, k, m, x2, x3, x4, x5, ms, y1, y2, y3⟩
    · exact Or.inl ⟨x1, x2⟩
    · obtain ⟨c1, c2⟩ := v3 m (by rw [(gA 38 (by decide)).2.1]; exact x5) x4
      exact Or.inr ⟨x1, k, m, x2, x3, x4, c1, ms, y1, y2, fun i hi => by rw [c2 i hi, (gA 39 (by decide)).2.1]; exact y3 i hi⟩
  · show bzLR (bzSt σ8 1 4 (σ8 28 4) 14 2) (bzSt σ8 1 4 (σ8 28 4) 15 1) (bzSt σ8 1 4 (σ8 28 4) 16) _ _ _
    rw [u4 14 (by decide) (by decide) (by decide), u4 15 (by decide) (by decide) (by decide), u4 16 (by decide) (by decide) (by decide), a4, (gA 41 (by decide)).2.2.1]
    rcases ib with ⟨x1, x2⟩ | ⟨x1, k, m, x2, x3, x4, x5, ms, y1, y2, y3⟩
    · exact Or.inl ⟨x1, x2⟩
    · obtain ⟨c1, c2⟩ := v4 m (by rw [(gA 42 (by decide)).2.2.1]; exact x5) x4
      exact Or.inr ⟨x1, k, m, x2, x3, x4, c1, ms, y1, y2, fun i hi => by rw [c2 i hi, (gA 43 (by decide)).2.2.1]; exact y3 i hi⟩
  · show bzSt σ8 1 4 (σ8 28 4) 25 i = _
    rw [ez8] at hf
    rw [u7 25 (by decide) (by decide) (by decide), w7b i ((nI_ltI (a := i) (b := z8) (by omega) (by omega)).mp hf), (gA 52 (by decide)).2.2.2.2.2.1]
    exact i2 i hi (by rw [ez8]; exact hf)
  · show bzSt σ8 1 4 (σ8 28 4) 27 i = _
    rw [ez9] at hf
    rw [st_o (by decide), w8b i ((nI_ltI (a := i) (b := z9) (by omega) (by omega)).mp hf), (gA 54 (by decide)).2.2.2.2.2.2.1]
    exact i3 i hi (by rw [ez9]; exact hf)
  · show bzSt σ8 1 4 (σ8 28 4) 5 5 = -1
    rw [u2 5 (by decide) (by decide) (by decide), b2, (gA 32 (by decide)).1]; exact i4
