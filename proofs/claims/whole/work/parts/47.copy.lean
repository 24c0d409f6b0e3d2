set_option linter.unusedVariables false
theorem hr_0 {o L n : Nat} {σ : bzS} (ko : kd o = 4) (h : ¬ σ o 1 < nI n) (hn : n < 2 ^ 31) (h0 : ¬ σ o 1 < 0) : f_X4_hasRun o 0 (nI n) σ = some 1 := by
  simp only [f_X4_hasRun, bzGdT ko, if_neg (show ¬ (0 : Int32) < 0 by decide), if_neg (nI_n0 hn), if_neg h0, Int32.sub_zero, if_neg h]
theorem cp4_n {o s qo qs L n : Nat} {σ : bzS} (ko : kd o = 4) (ks : kd s = 4) (lo : ly o 0 = qo) (ls : ly s 0 = qs) (no : ln qo = L) (ns : ln qs = L) (hL : L ≤ 50) (hn : n ≤ L) (d1 : o ≠ s) (h1 : f_J_min (σ s 1) (Int32.ofNat L) = some (nI n)) (h2 : ¬ σ s 1 < nI n) (h3 : ¬ σ s 1 < 0) : f_X4_copyFrom o s σ = some (bzSa (bzSt σ o 1 (nI n)) qo (va_cpy (bzSt σ o 1 (nI n) qs) (bzSt σ o 1 (nI n) qo) 0 0 n)) := by
  have e : bzSt σ o 1 (nI n) o 1 = nI n := by rw [st_s, pk_us]
  have es : bzSt σ o 1 (nI n) s = σ s := st_o (Ne.symm d1)
  have r1 : f_X4_hasRun s 0 (nI n) (bzSt σ o 1 (nI n)) = some 1 := hr_0 (L := L) ks (by rw [es]; exact h2) (by omega) (by rw [es]; exact h3)
  have r2 : f_X4_hasRun o 0 (nI n) (bzSt σ o 1 (nI n)) = some 1 := hr_0 (L := L) ko (by rw [e]; exact nI_nlt (by omega) (by omega)) (by omega) (by rw [e]; exact nI_n0 (by omega))
  have cp : bzCp 0 0 (nI n) L L := by
    unfold bzCp
    rw [nI_toInt (by omega)]
    have : (0 : Int32).toInt = 0 := rfl
    omega
  simp only [f_X4_copyFrom, bzGdT ko, bzGdT ks, lo, no, h1, bzBd, bzLet, e, f_X4_takeRun, r1, r2, if_neg one_ne, ls, ns, bzGdT cp, clN (show n < 2 ^ 31 by omega)]
  rfl
/-- a row of numbers copies another: it always answers -/
theorem cp4 {o s qo qs L : Nat} (σ : bzS) (ko : kd o = 4) (ks : kd s = 4) (lo : ly o 0 = qo) (ls : ly s 0 = qs) (no : ln qo = L) (ns : ln qs = L) (hL : L ≤ 50) (d1 : o ≠ s) (d2 : o ≠ qo) (d3 : o ≠ qs) : ∃ τ, f_X4_copyFrom o s σ = some τ ∧ (∀ k, k ≠ o → k ≠ qo → τ k = σ k) ∧ (∀ j, j ≠ 1 → τ o j = σ o j) ∧ ∀ n, σ s 1 = nI n → n ≤ L → τ o 1 = nI n ∧ ∀ j, j < n → τ qo j = σ qs j := by
  have fin : ∀ n, n ≤ L → f_J_min (σ s 1) (Int32.ofNat L) = some (nI n) → ¬ σ s 1 < nI n → ¬ σ s 1 < 0 → (∀ q, σ s 1 = nI q → q ≤ L → q = n) → ∃ τ, f_X4_copyFrom o s σ = some τ ∧ (∀ k, k ≠ o → k ≠ qo → τ k = σ k) ∧ (∀ j, j ≠ 1 → τ o j = σ o j) ∧ ∀ n, σ s 1 = nI n → n ≤ L → τ o 1 = nI n ∧ ∀ j, j < n → τ qo j = σ qs j := by
    intro n hn h1 h2 h3 h4
    refine ⟨_, cp4_n ko ks lo ls no ns hL hn d1 h1 h2 h3, fun k k1 k2 => by rw [sa_o k2, st_o k1], fun j hj => by rw [sa_o d2, st_s, pk_un hj], fun q q1 q2 => ?_⟩
    have e := h4 q q1 q2
    subst e
    refine ⟨by rw [sa_o d2, st_s, pk_us], fun j hj => ?_⟩
    rw [sa_s, pk_cpy_in (Nat.zero_le _) (by omega), st_o (Ne.symm d3), Nat.zero_add, Nat.sub_zero]
  rcases pk_ix (σ s 1) (n := L + 1) (by omega) with c | c | ⟨n, hn, en⟩
  · have c' : ¬ nI L < σ s 1 := fun h => absurd (Int32.lt_trans h c) (nI_n0 (by omega))
    have mn : f_J_min (σ s 1) (Int32.ofNat L) = some (σ s 1) := by
      unfold f_J_min; exact if_neg c'
    refine ⟨bzSt σ o 1 (σ s 1), ?_, fun k k1 k2 => st_o k1, fun j hj => by rw [st_s, pk_un hj], fun n q1 q2 => absurd c (by rw [q1]; exact nI_n0 (by omega))⟩
    have e : bzSt σ o 1 (σ s 1) o 1 = σ s 1 := by rw [st_s, pk_us]
    have r1 : f_X4_hasRun s 0 (σ s 1) (bzSt σ o 1 (σ s 1)) = some 0 := by
      simp only [f_X4_hasRun, bzGdT ks, if_neg (show ¬ (0 : Int32) < 0 by decide), if_pos c]
    simp only [f_X4_copyFrom, bzGdT ko, bzGdT ks, lo, no, mn, bzBd, bzLet, e, f_X4_takeRun, r1, if_true]
  · have g : nI L < σ s 1 := by
      rw [Int32.le_iff_toInt_le, nI_toInt (by omega)] at c
      rw [Int32.lt_iff_toInt_lt, nI_toInt (by omega)]
      omega
    refine fin L (Nat.le_refl _) (by unfold f_J_min; exact if_pos g) (fun h => Int32.lt_irrefl (Int32.lt_trans h g)) (fun h => absurd (Int32.lt_trans g h) (nI_n0 (by omega))) (fun q q1 q2 => ?_)
    rw [q1] at g
    exact absurd g (nI_nlt (by omega) (by omega))
  · refine fin n (by omega) ?_ ?_ ?_ (fun q q1 q2 => ?_)
    · rw [en]; unfold f_J_min; exact if_neg (nI_nlt (by omega) (by omega))
    · rw [en]; exact nI_nlt (by omega) (by omega)
    · rw [en]; exact nI_n0 (by omega)
    · exact (nI_eq (by omega) (by omega)).mp (q1.symm.trans en)
