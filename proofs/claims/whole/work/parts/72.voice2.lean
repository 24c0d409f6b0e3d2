set_option linter.unusedVariables false
/-! voice: the reference -/
def vmS (N M : Int32) (K : Nat) (σ : bzS) (L : List Int32) : Prop := σ 95 25 = N ∧ σ 95 24 = nI K ∧ σ 95 26 = M ∧ σ 95 23 = nI L.length ∧ ∀ i, i < L.length → σ 107 i = L.getD i 0
abbrev vmF (σ τ : bzS) : Prop := (∀ k, k ≠ 95 → k ≠ 107 → τ k = σ k) ∧ ∀ j, j ≠ 23 → τ 95 j = σ 95 j
theorem vmF.trans {σ τ ρ : bzS} (h : vmF σ τ) (h2 : vmF τ ρ) : vmF σ ρ := ⟨fun k a b => by rw [h2.1 k a b, h.1 k a b], fun j hj => by rw [h2.2 j hj, h.2 j hj]⟩
def meX (N M : Int32) (K : Nat) (σ : bzS) (L : List Int32) (R : Option (Int32 × bzS)) (r : vR) : Prop := ∃ τ, R = some (r.1, τ) ∧ vmS N M K τ (L ++ r.2) ∧ vmF σ τ
section
variable {N M : Int32} {K : Nat}
theorem ran_m {σ : bzS} {L : List Int32} (B : Int32) (h : vmS N M K σ L) (hl : L.length < 40) : ∃ τ, f_X10_ran 95 B σ = some τ ∧ vmS N M K τ (L ++ [B]) ∧ vmF σ τ := by
  obtain ⟨h1, h2, h3, h4, h5⟩ := h
  have e0 : bzSt σ 107 L.length B 95 23 = nI L.length := by rw [st_o (by decide)]; exact h4
  refine ⟨bzSt (bzSt σ 107 L.length B) 95 23 (nI (L.length + 1)), ?_, ⟨?_, ?_, ?_, ?_, ?_⟩, fun k a b => by rw [st_o a, st_o b], fun j hj => by rw [st_s, pk_un hj, st_o (by decide)]⟩
  · unfold f_X10_ran
    rw [g_95, h4, if_neg (show ¬ (40 : Int32) ≤ nI L.length from nI_ge (b := 40) hl (by decide)), bzGdT (bzIn_nI hl (by decide)), l_95_22, clN (show L.length < 2 ^ 31 by omega), bzLetS, e0, nI_1, bzLetS]
  · rw [st_s, pk_un (by decide), st_o (by decide)]; exact h1
  · rw [st_s, pk_un (by decide), st_o (by decide)]; exact h2
  · rw [st_s, pk_un (by decide), st_o (by decide)]; exact h3
  · rw [st_s, pk_us, List.length_append, List.length_singleton]
  · intro i hi
    rw [List.length_append, List.length_singleton] at hi
    rw [st_o (by decide), st_s]
    by_cases c : i = L.length
    · subst c; rw [pk_us, gd_app2]
    · rw [pk_un c, gd_app1 (by omega)]; exact h5 i (by omega)
theorem mC0 {F : Nat} {x : Int32} {σ : bzS} {L : List Int32} (hS : vmS N M K σ L) (hL : L.length < 40) : meX N M K σ L (fr_X10_callsIn (F + 1) 95 0 x σ) (x + N, [10]) := by
  obtain ⟨τ, t1, t2, t3⟩ := ran_m 10 hS hL
  refine ⟨τ, ?_, t2, t3⟩
  show fm_X10_callsIn (fr_X10_callsIn F) 95 0 x σ = _
  unfold fm_X10_callsIn
  rw [g_95, if_pos rfl, t1, bzBdS, t2.1]
theorem mC1 {F : Nat} {x : Int32} {σ : bzS} {L : List Int32} (hS : vmS N M K σ L) (hL : L.length + 1 < 40) : meX N M K σ L (fr_X10_callsIn (F + 2) 95 1 x σ) ((x + N) * 3, [20, 10]) := by
  obtain ⟨s, s1, s2, s3⟩ := ran_m 20 hS (by omega)
  obtain ⟨τ, t1, t2, t3⟩ := mC0 (F := F) (x := x) s2 (by rw [List.length_append, List.length_singleton]; exact hL)
  refine ⟨τ, ?_, by rw [List.append_assoc] at t2; exact t2, s3.trans t3⟩
  show fm_X10_callsIn (fr_X10_callsIn (F + 1)) 95 1 x σ = _
  unfold fm_X10_callsIn
  rw [g_95, if_neg one_ne, if_pos rfl, s1, bzBdS, t1, bzBpS]
theorem mCu {F k u : Nat} {x : Int32} {σ : bzS} (h0 : ¬ nI k = 0) (h1 : ¬ nI k = 1) (hu : f_X10_above (nI k) = some (nI u)) : fr_X10_callsIn (F + 1) 95 (nI k) x σ = fr_X10_callsIn F 95 (nI u) x σ := by
  show fm_X10_callsIn (fr_X10_callsIn F) 95 (nI k) x σ = _
  unfold fm_X10_callsIn
  rw [g_95, if_neg h0, if_neg h1, hu, bzBdS, vpE]
theorem mC {k : Nat} {x : Int32} {σ : bzS} {L : List Int32} (hS : vmS N M K σ L) (hL : L.length + 1 < 40) (hk : k ≤ 6) : meX N M K σ L (f_X10_callsIn 95 (nI k) x σ) (vC N k x) := by
  show meX N M K σ L (fr_X10_callsIn 60 95 (nI k) x σ) (vC N k x)
  rcases (show k = 0 ∨ k = 1 ∨ k = 2 ∨ k = 3 ∨ k = 4 ∨ k = 5 ∨ k = 6 by omega) with rfl | rfl | rfl | rfl | rfl | rfl | rfl
  · exact mC0 (F := 59) hS (by omega)
  · exact mC1 (F := 58) hS hL
  · rw [mCu (F := 59) (k := 2) (u := 0) (by decide) (by decide) rfl]; exact mC0 (F := 58) hS (by omega)
  · rw [mCu (F := 59) (k := 3) (u := 0) (by decide) (by decide) rfl]; exact mC0 (F := 58) hS (by omega)
  · rw [mCu (F := 59) (k := 4) (u := 1) (by decide) (by decide) rfl]; exact mC1 (F := 57) hS hL
  · rw [mCu (F := 59) (k := 5) (u := 2) (by decide) (by decide) rfl, mCu (F := 58) (k := 2) (u := 0) (by decide) (by decide) rfl]; exact mC0 (F := 57) hS (by omega)
  · rw [mCu (F := 59) (k := 6) (u := 3) (by decide) (by decide) rfl, mCu (F := 58) (k := 3) (u := 0) (by decide) (by decide) rfl]; exact mC0 (F := 57) hS (by omega)
theorem mD0 {F : Nat} {x : Int32} {σ : bzS} {L : List Int32} (hS : vmS N M K σ L) (hL : L.length < 40) : meX N M K σ L (fr_X10_nodsIn (F + 1) 95 0 x σ) (x - M, [12]) := by
  obtain ⟨τ, t1, t2, t3⟩ := ran_m 12 hS hL
  refine ⟨τ, ?_, t2, t3⟩
  show fm_X10_nodsIn (fr_X10_nodsIn F) 95 0 x σ = _
  unfold fm_X10_nodsIn
  rw [g_95, if_pos rfl, t1, bzBdS, t2.2.2.1]
theorem mD3 {F : Nat} {x : Int32} {σ : bzS} {L : List Int32} (hS : vmS N M K σ L) (hL : L.length + 1 < 40) : meX N M K σ L (fr_X10_nodsIn (F + 2) 95 3 x σ) (-(x - M), [40, 12]) := by
  obtain ⟨s, s1, s2, s3⟩ := ran_m 40 hS (by omega)
  obtain ⟨τ, t1, t2, t3⟩ := mD0 (F := F) (x := x) s2 (by rw [List.length_append, List.length_singleton]; exact hL)
  refine ⟨τ, ?_, by rw [List.append_assoc] at t2; exact t2, s3.trans t3⟩
  show fm_X10_nodsIn (fr_X10_nodsIn (F + 1)) 95 3 x σ = _
  unfold fm_X10_nodsIn
  rw [g_95, if_neg (by decide), if_pos rfl, s1, bzBdS, t1, bzBpS]
theorem mD6 {F : Nat} {x : Int32} {σ : bzS} {L : List Int32} (hS : vmS N M K σ L) (hL : L.length + 2 < 40) : meX N M K σ L (fr_X10_nodsIn (F + 3) 95 6 x σ) (-(x - M) ^^^ N, [70, 40, 12]) := by
  obtain ⟨s, s1, s2, s3⟩ := ran_m 70 hS (by omega)
  obtain ⟨τ, t1, t2, t3⟩ := mD3 (F := F) (x := x) s2 (by rw [List.length_append, List.length_singleton]; omega)
  refine ⟨τ, ?_, by rw [List.append_assoc] at t2; exact t2, s3.trans t3⟩
  show fm_X10_nodsIn (fr_X10_nodsIn (F + 2)) 95 6 x σ = _
  unfold fm_X10_nodsIn
  rw [g_95, if_neg (by decide), if_neg (by decide), if_pos rfl, s1, bzBdS, t1, bzBpS, t2.1]
theorem mDu {F k u : Nat} {x : Int32} {σ : bzS} (h0 : ¬ nI k = 0) (h3 : ¬ nI k = 3) (h6 : ¬ nI k = 6) (hu : f_X10_above (nI k) = some (nI u)) : fr_X10_nodsIn (F + 1) 95 (nI k) x σ = fr_X10_nodsIn F 95 (nI u) x σ := by
  show fm_X10_nodsIn (fr_X10_nodsIn F) 95 (nI k) x σ = _
  unfold fm_X10_nodsIn
  rw [g_95, if_neg h0, if_neg h3, if_neg h6, hu, bzBdS, vpE]
theorem mD {k : Nat} {x : Int32} {σ : bzS} {L : List Int32} (hS : vmS N M K σ L) (hL : L.length + 2 < 40) (hk : k ≤ 6) : meX N M K σ L (f_X10_nodsIn 95 (nI k) x σ) (vD N M k x) := by
  show meX N M K σ L (fr_X10_nodsIn 60 95 (nI k) x σ) (vD N M k x)
  rcases (show k = 0 ∨ k = 1 ∨ k = 2 ∨ k = 3 ∨ k = 4 ∨ k = 5 ∨ k = 6 by omega) with rfl | rfl | rfl | rfl | rfl | rfl | rfl
  · exact mD0 (F := 59) hS (by omega)
  · rw [mDu (F := 59) (k := 1) (u := 0) (by decide) (by decide) (by decide) rfl]; exact mD0 (F := 58) hS (by omega)
  · rw [mDu (F := 59) (k := 2) (u := 0) (by decide) (by decide) (by decide) rfl]; exact mD0 (F := 58) hS (by omega)
  · exact mD3 (F := 58) hS (by omega)
  · rw [mDu (F := 59) (k := 4) (u := 1) (by decide) (by decide) (by decide) rfl, mDu (F := 58) (k := 1) (u := 0) (by decide) (by decide) (by decide) rfl]; exact mD0 (F := 57) hS (by omega)
  · rw [mDu (F := 59) (k := 5) (u := 2) (by decide) (by decide) (by decide) rfl, mDu (F := 58) (k := 2) (u := 0) (by decide) (by decide) (by decide) rfl]; exact mD0 (F := 57) hS (by omega)
  · exact mD6 (F := 57) hS hL
theorem mH0 {F : Nat} {x : Int32} {σ : bzS} {L : List Int32} (hK : K ≤ 6) (hS : vmS N M K σ L) (hL : L.length + 2 < 40) : meX N M K σ L (fr_X10_holdsIn (F + 1) 95 0 x σ) (vH0 N M K x) := by
  obtain ⟨s, s1, s2, s3⟩ := ran_m 11 hS (by omega)
  obtain ⟨τ, t1, t2, t3⟩ := mC (k := K) (x := x) s2 (by rw [List.length_append, List.length_singleton]; omega) hK
  refine ⟨τ, ?_, by rw [List.append_assoc] at t2; exact t2, s3.trans t3⟩
  show fm_X10_holdsIn (fr_X10_holdsIn F) 95 0 x σ = _
  unfold fm_X10_holdsIn
  rw [g_95, if_pos rfl, s1, bzBdS, s2.2.1, t1, bzBpS]; rfl
theorem mH2 {F : Nat} {x : Int32} {σ : bzS} {L : List Int32} (hK : K ≤ 6) (hS : vmS N M K σ L) (hL : L.length + 7 < 40) : meX N M K σ L (fr_X10_holdsIn (F + 2) 95 2 x σ) (vH2 N M K x) := by
  obtain ⟨s, s1, s2, s3⟩ := ran_m 30 hS (by omega)
  obtain ⟨τ, t1, t2, t3⟩ := mH0 (F := F) (x := x) hK s2 (by rw [List.length_append, List.length_singleton]; omega)
  have l0 := vH0_l N M K x
  obtain ⟨ρ, r1, r2, r3⟩ := mD (k := K) (x := 1) t2 (by rw [List.length_append, List.length_append, List.length_singleton]; omega) hK
  refine ⟨ρ, ?_, by rw [List.append_assoc, List.append_assoc] at r2; exact r2, (s3.trans t3).trans r3⟩
  show fm_X10_holdsIn (fr_X10_holdsIn (F + 1)) 95 2 x σ = _
  unfold fm_X10_holdsIn
  rw [g_95, if_neg (by decide), if_pos rfl, s1, bzBdS, t1, bzBpS, t2.2.1, r1, bzBpS]; rfl
theorem mH5 {F : Nat} {x : Int32} {σ : bzS} {L : List Int32} (hK : K ≤ 6) (hS : vmS N M K σ L) (hL : L.length + 8 < 40) : meX N M K σ L (fr_X10_holdsIn (F + 3) 95 5 x σ) ((vH2 N M K (x + 1)).1, 60 :: (vH2 N M K (x + 1)).2) := by
  obtain ⟨s, s1, s2, s3⟩ := ran_m 60 hS (by omega)
  obtain ⟨τ, t1, t2, t3⟩ := mH2 (F := F) (x := x + 1) hK s2 (by rw [List.length_append, List.length_singleton]; omega)
  refine ⟨τ, ?_, by rw [List.append_assoc] at t2; exact t2, s3.trans t3⟩
  show fm_X10_holdsIn (fr_X10_holdsIn (F + 2)) 95 5 x σ = _
  unfold fm_X10_holdsIn
  rw [g_95, if_neg (by decide), if_neg (by decide), if_pos rfl, s1, bzBdS, t1, bzBpS]
theorem mHu {F k u : Nat} {x : Int32} {σ : bzS} (h0 : ¬ nI k = 0) (h3 : ¬ nI k = 2) (h6 : ¬ nI k = 5) (hu : f_X10_above (nI k) = some (nI u)) : fr_X10_holdsIn (F + 1) 95 (nI k) x σ = fr_X10_holdsIn F 95 (nI u) x σ := by
  show fm_X10_holdsIn (fr_X10_holdsIn F) 95 (nI k) x σ = _
  unfold fm_X10_holdsIn
  rw [g_95, if_neg h0, if_neg h3, if_neg h6, hu, bzBdS, vpE]
theorem mH {k : Nat} {x : Int32} {σ : bzS} {L : List Int32} (hK : K ≤ 6) (hS : vmS N M K σ L) (hL : L.length + 8 < 40) (hk : k ≤ 6) : meX N M K σ L (f_X10_holdsIn 95 (nI k) x σ) (vH N M K k x) := by
  show meX N M K σ L (fr_X10_holdsIn 60 95 (nI k) x σ) (vH N M K k x)
  rcases (show k = 0 ∨ k = 1 ∨ k = 2 ∨ k = 3 ∨ k = 4 ∨ k = 5 ∨ k = 6 by omega) with rfl | rfl | rfl | rfl | rfl | rfl | rfl
  · exact mH0 (F := 59) hK hS (by omega)
  · rw [mHu (F := 59) (k := 1) (u := 0) (by decide) (by decide) (by decide) rfl]; exact mH0 (F := 58) hK hS (by omega)
  · exact mH2 (F := 58) hK hS (by omega)
  · rw [mHu (F := 59) (k := 3) (u := 0) (by decide) (by decide) (by decide) rfl]; exact mH0 (F := 58) hK hS (by omega)
  · rw [mHu (F := 59) (k := 4) (u := 1) (by decide) (by decide) (by decide) rfl, mHu (F := 58) (k := 1) (u := 0) (by decide) (by decide) (by decide) rfl]; exact mH0 (F := 57) hK hS (by omega)
  · exact mH5 (F := 57) hK hS hL
  · rw [mHu (F := 59) (k := 6) (u := 3) (by decide) (by decide) (by decide) rfl, mHu (F := 58) (k := 3) (u := 0) (by decide) (by decide) (by decide) rfl]; exact mH0 (F := 57) hK hS (by omega)
theorem mT0 {F : Nat} {x : Int32} {σ : bzS} {L : List Int32} (hK : K ≤ 6) (hS : vmS N M K σ L) (hL : L.length + 12 < 40) : meX N M K σ L (fr_X10_tellsIn (F + 1) 95 0 x σ) (vT0 N M K x) := by
  obtain ⟨s, s1, s2, s3⟩ := ran_m 13 hS (by omega)
  obtain ⟨τ, t1, t2, t3⟩ := mH (k := K) (x := x) hK s2 (by rw [List.length_append, List.length_singleton]; omega) hK
  have l0 := vH_l N M K K x
  obtain ⟨ρ, r1, r2, r3⟩ := mD (k := K) (x := x) t2 (by rw [List.length_append, List.length_append, List.length_singleton]; omega) hK
  refine ⟨ρ, ?_, by rw [List.append_assoc, List.append_assoc] at r2; exact r2, (s3.trans t3).trans r3⟩
  show fm_X10_tellsIn (fr_X10_tellsIn F) 95 0 x σ = _
  unfold fm_X10_tellsIn
  rw [g_95, if_pos rfl, s1, bzBdS, s2.2.1, t1, bzBpS, t2.2.1, r1, bzBpS]; rfl
theorem mTu {F k u : Nat} {x : Int32} {σ : bzS} (h0 : ¬ nI k = 0) (h3 : ¬ nI k = 4) (h6 : ¬ nI k = 6) (hu : f_X10_above (nI k) = some (nI u)) : fr_X10_tellsIn (F + 1) 95 (nI k) x σ = fr_X10_tellsIn F 95 (nI u) x σ := by
  show fm_X10_tellsIn (fr_X10_tellsIn F) 95 (nI k) x σ = _
  unfold fm_X10_tellsIn
  rw [g_95, if_neg h0, if_neg h3, if_neg h6, hu, bzBdS, vpE]
theorem mT4 {F : Nat} {x : Int32} {σ : bzS} {L : List Int32} (hK : K ≤ 6) (hS : vmS N M K σ L) (hL : L.length + 15 < 40) : meX N M K σ L (fr_X10_tellsIn (F + 3) 95 4 x σ) ((vT0 N M K x).1 - (vC N K 2).1, 50 :: ((vT0 N M K x).2 ++ (vC N K 2).2)) := by
  obtain ⟨s, s1, s2, s3⟩ := ran_m 50 hS (by omega)
  obtain ⟨τ, t1, t2, t3⟩ := mT0 (F := F) (x := x) hK s2 (by rw [List.length_append, List.length_singleton]; omega)
  have u1 : fr_X10_tellsIn (F + 2) 95 1 x s = fr_X10_tellsIn (F + 1) 95 0 x s := mTu (F := F + 1) (k := 1) (u := 0) (by decide) (by decide) (by decide) rfl
  have l0 := vT0_l N M K x
  obtain ⟨ρ, r1, r2, r3⟩ := mC (k := K) (x := 2) t2 (by rw [List.length_append, List.length_append, List.length_singleton]; omega) hK
  refine ⟨ρ, ?_, by rw [List.append_assoc, List.append_assoc] at r2; exact r2, (s3.trans t3).trans r3⟩
  show fm_X10_tellsIn (fr_X10_tellsIn (F + 2)) 95 4 x σ = _
  unfold fm_X10_tellsIn
  rw [g_95, if_neg (by decide), if_pos rfl, s1, bzBdS, u1, t1, bzBpS, t2.2.1, r1, bzBpS]
theorem mT6 {F : Nat} {x : Int32} {σ : bzS} {L : List Int32} (hK : K ≤ 6) (hS : vmS N M K σ L) (hL : L.length + 21 < 40) : meX N M K σ L (fr_X10_tellsIn (F + 3) 95 6 x σ) ((vH N M K K x).1 - (vT0 N M K x).1, 71 :: ((vH N M K K x).2 ++ (vT0 N M K x).2)) := by
  obtain ⟨s, s1, s2, s3⟩ := ran_m 71 hS (by omega)
  obtain ⟨τ, t1, t2, t3⟩ := mH (k := K) (x := x) hK s2 (by rw [List.length_append, List.length_singleton]; omega) hK
  have l0 := vH_l N M K K x
  obtain ⟨ρ, r1, r2, r3⟩ := mT0 (F := F) (x := x) hK t2 (by rw [List.length_append, List.length_append, List.length_singleton]; omega)
  have u1 : fr_X10_tellsIn (F + 2) 95 3 x τ = fr_X10_tellsIn (F + 1) 95 0 x τ := mTu (F := F + 1) (k := 3) (u := 0) (by decide) (by decide) (by decide) rfl
  refine ⟨ρ, ?_, by rw [List.append_assoc, List.append_assoc] at r2; exact r2, (s3.trans t3).trans r3⟩
  show fm_X10_tellsIn (fr_X10_tellsIn (F + 2)) 95 6 x σ = _
  unfold fm_X10_tellsIn
  rw [g_95, if_neg (by decide), if_neg (by decide), if_pos rfl, s1, bzBdS, s2.2.1, t1, bzBpS, u1, r1, bzBpS]
theorem mT {k : Nat} {x : Int32} {σ : bzS} {L : List Int32} (hK : K ≤ 6) (hS : vmS N M K σ L) (hL : L.length + 21 < 40) (hk : k ≤ 6) : meX N M K σ L (f_X10_tellsIn 95 (nI k) x σ) (vT N M K k x) := by
  show meX N M K σ L (fr_X10_tellsIn 60 95 (nI k) x σ) (vT N M K k x)
  rcases (show k = 0 ∨ k = 1 ∨ k = 2 ∨ k = 3 ∨ k = 4 ∨ k = 5 ∨ k = 6 by omega) with rfl | rfl | rfl | rfl | rfl | rfl | rfl
  · exact mT0 (F := 59) hK hS (by omega)
  · rw [mTu (F := 59) (k := 1) (u := 0) (by decide) (by decide) (by decide) rfl]; exact mT0 (F := 58) hK hS (by omega)
  · rw [mTu (F := 59) (k := 2) (u := 0) (by decide) (by decide) (by decide) rfl]; exact mT0 (F := 58) hK hS (by omega)
  · rw [mTu (F := 59) (k := 3) (u := 0) (by decide) (by decide) (by decide) rfl]; exact mT0 (F := 58) hK hS (by omega)
  · exact mT4 (F := 57) hK hS (by omega)
  · rw [mTu (F := 59) (k := 5) (u := 2) (by decide) (by decide) (by decide) rfl, mTu (F := 58) (k := 2) (u := 0) (by decide) (by decide) (by decide) rfl]; exact mT0 (F := 57) hK hS (by omega)
  · exact mT6 (F := 57) hK hS hL
end
/-- what is said of an act -/
def vA (N M : Int32) (K a : Nat) (x : Int32) : vR := if a = 0 then vC N K x else if a = 1 then vH N M K K x else if a = 2 then vD N M K x else vT N M K K x
theorem vA_l (N M : Int32) (K a : Nat) (x : Int32) : (vA N M K a x).2.length ≤ 21 := by
  unfold vA
  split
  · have := vC_l N K x; omega
  · split
    · have := vH_l N M K K x; omega
    · split
      · have := vD_l N M K x; omega
      · exact vT_l N M K K x
theorem st_voice : bzSt_voice bzInv := by
  intro a1 a2 a3 σ n hn hI
  rcases hasV hI a1 with ⟨h1, h2⟩ | ⟨i, Nv, e1, hi, hN, s1, s2, b1, n1, h1, h2⟩
  · refine err1 hI ?_ (fun τ ht => ?_)
    · unfold f_X9_voice; rw [g_0, l_0_0, l_1_0, l_2_2, h1, bzBdS, if_pos rfl]; rfl
    · unfold f_X10_voice; rw [g_95, h2 τ ht, bzBdS, if_pos rfl]; rfl
  have hv : ∀ τ : bzS, (∀ q, q ≠ 82 → τ q = σ q) → f_X10_isVisitor 95 a1 τ = some 1 := fun τ ht => h2 τ (by rw [ht 96 (by decide)]; exact s1)
  rcases cutR a2 (n := 3) (lo := 0) (N := 3) rfl (Or.inl rfl) (by decide) with c2 | ⟨c2, c2', a, ha, rfl⟩
  · refine err1 hI ?_ (fun τ ht => ?_)
    · unfold f_X9_voice; rw [g_0, l_0_0, l_1_0, l_2_2, h1, bzBdS, if_neg one_ne, wi_0 c2, bzBdS, if_pos rfl]; rfl
    · unfold f_X10_voice; rw [g_95, hv τ ht, bzBdS, if_neg one_ne, in_0 c2, bzBdS, if_pos rfl]; rfl
  have i8 : i < 8 := by omega
  have hC := cr_of_sr hI.1
  have v0 : σ 6 i = σ 96 (52 + 4 * i + 0) := vis_c hC (i := i) (w := 0) i8 (by decide)
  have v1 : σ 7 i = σ 96 (52 + 4 * i + 1) := vis_c hC (i := i) (w := 1) i8 (by decide)
  obtain ⟨K, m, l, ee, k1, k2, k3, k4, k5, k6, k7, k8⟩ := vis_b hI.2.1.1 i8
  rw [k5] at v0
  rw [k6] at v1
  -- the class
  let s5 := bzSt (bzSt (bzSt (bzSt σ 79 1 a1) 79 2 (nI K)) 79 3 (nI m)) 80 1 0
  have hs5 : vcS a1 (nI m) K s5 [] := ⟨rfl, rfl, rfl, rfl, fun i hi => absurd hi (Nat.not_lt_zero _)⟩
  have cls : seX a1 (nI m) K s5 [] ((fr_X8_say 60).1 79 (nI a) (nI K) a3 (nI 0) s5) (vA a1 (nI m) K a a3) := by
    rcases (show a = 0 ∨ a = 1 ∨ a = 2 ∨ a = 3 by omega) with rfl | rfl | rfl | rfl
    · exact sayC (by decide) hs5 (by decide) (by decide) k1
    · exact sayH (by decide) k1 hs5 (by decide) (by decide) k1
    · exact sayD (by decide) hs5 (by decide) (by decide) k1
    · exact sayT (by decide) k1 hs5 (by decide) (by decide) k1
  obtain ⟨τ, t1, t2, t3⟩ := cls
  have hc : f_X9_voice 0 a1 (nI a) a3 σ = some ((vA a1 (nI m) K a a3).1, τ) := by
    have t1 : f_X8_say 79 (nI a) (nI K) a3 0 s5 = _ := t1
    have ra : f_X8_raise 79 a1 (nI K) (nI m) (nI a) a3 σ = some ((vA a1 (nI m) K a a3).1, τ) := by
      have u : f_X8_raise 79 a1 (nI K) (nI m) (nI a) a3 σ = bzBp (f_X8_say 79 (nI a) (nI K) a3 0 s5) (fun x7 σ8 => some (x7, σ8)) := rfl
      rw [u, t1, bzBpS]
    unfold f_X9_voice
    rw [g_0, l_0_0, l_1_0, l_2_2, h1, bzBdS, if_neg one_ne, wi_1 c2 c2', bzBdS, if_neg one_ne, bzGdT b1, bzGdT b1, l_0_6, l_5_0, l_5_1, n1, v0, v1, ra, bzBpS]
  -- the reference
  have fc : ∀ k, k ≠ 79 → k ≠ 80 → k ≠ 81 → τ k = σ k := fun k x1 x2 x3 => by
    rw [t3 k x2 x3]
    show bzSt (bzSt (bzSt (bzSt σ 79 1 a1) 79 2 (nI K)) 79 3 (nI m)) 80 1 0 k = _
    rw [st_o x2, st_o x1, st_o x1, st_o x1]
  have e96 : τ 96 = σ 96 := fc 96 (by decide) (by decide) (by decide)
  have e95 : τ 95 = σ 95 := fc 95 (by decide) (by decide) (by decide)
  let r5 := bzSt (bzSt (bzSt (bzSt τ 95 23 0) 95 24 (nI K)) 95 25 a1) 95 26 (nI m)
  have hr5 : vmS a1 (nI m) K r5 [] := ⟨rfl, rfl, rfl, rfl, fun i hi => absurd hi (Nat.not_lt_zero _)⟩
  have its0 : ∀ ρ : bzS, ρ 96 = σ 96 → f_X10_its 95 a1 0 ρ = some (nI K) := fun ρ hρ => by rw [e1, its_m (w := 0) (W := 0) rfl i8 (by decide), hρ, k5]
  have its1 : ∀ ρ : bzS, ρ 96 = σ 96 → f_X10_its 95 a1 1 ρ = some (nI m) := fun ρ hρ => by rw [e1, its_m (w := 1) (W := 1) rfl i8 (by decide), hρ, k6]
  have mdl : ∃ ρ, f_X10_voice 95 a1 (nI a) a3 τ = some ((vA a1 (nI m) K a a3).1, ρ) ∧ vmS a1 (nI m) K ρ ([] ++ (vA a1 (nI m) K a a3).2) ∧ vmF r5 ρ := by
    have r24 : r5 95 24 = nI K := rfl
    have hd : f_X10_voice 95 a1 (nI a) a3 τ = (if nI a = 0 then f_X10_callsIn 95 (nI K) a3 r5 else if nI a = 1 then f_X10_holdsIn 95 (nI K) a3 r5 else if nI a = 2 then f_X10_nodsIn 95 (nI K) a3 r5 else f_X10_tellsIn 95 (nI K) a3 r5) := by
      unfold f_X10_voice
      rw [g_95, h2 τ (by rw [e96]; exact s1), bzBdS, if_neg one_ne, in_1 c2 c2', bzBdS, if_neg one_ne, bzLetS, its0 _ (by rw [st_o (by decide)]; exact e96), bzBdS, bzLetS, bzLetS, its1 _ (by rw [st_o (by decide), st_o (by decide), st_o (by decide)]; exact e96), bzBdS, bzLetS, vpE, vpE, vpE, vpE]
      rfl
    rw [hd]
    rcases (show a = 0 ∨ a = 1 ∨ a = 2 ∨ a = 3 by omega) with rfl | rfl | rfl | rfl
    · obtain ⟨ρ, x1, x2, x3⟩ := mC (k := K) (x := a3) hr5 (by decide) k1
      exact ⟨ρ, x1, x2, x3⟩
    · obtain ⟨ρ, x1, x2, x3⟩ := mH (k := K) (x := a3) k1 hr5 (by decide) k1
      exact ⟨ρ, x1, x2, x3⟩
    · obtain ⟨ρ, x1, x2, x3⟩ := mD (k := K) (x := a3) hr5 (by decide) k1
      exact ⟨ρ, x1, x2, x3⟩
    · obtain ⟨ρ, x1, x2, x3⟩ := mT (k := K) (x := a3) k1 hr5 (by decide) k1
      exact ⟨ρ, x1, x2, x3⟩
  obtain ⟨ρ, r1, r2, r3⟩ := mdl
  refine ⟨_, _, _, hc, r1, inv_mono _ _ ?_⟩
  have lv := vA_l a1 (nI m) K a a3
  rw [List.nil_append] at t2 r2
  have eo : ∀ k, k ≠ 79 → k ≠ 80 → k ≠ 81 → k ≠ 95 → k ≠ 107 → ρ k = σ k := fun k x1 x2 x3 x4 x5 => by
    rw [r3.1 k x4 x5]
    show bzSt (bzSt (bzSt (bzSt τ 95 23 0) 95 24 (nI K)) 95 25 a1) 95 26 (nI m) k = _
    rw [st_o x4, st_o x4, st_o x4, st_o x4, fc k x1 x2 x3]
  have e9 : ∀ j, j ≤ 7 → ρ 95 j = σ 95 j := fun j hj => by
    rw [r3.2 j (by omega)]
    show bzSt (bzSt (bzSt (bzSt τ 95 23 0) 95 24 (nI K)) 95 25 a1) 95 26 (nI m) 95 j = _
    rw [st_s, pk_un (by omega), st_s, pk_un (by omega), st_s, pk_un (by omega), st_s, pk_un (by omega), e95]
  have e8 : ∀ k, k = 80 ∨ k = 81 → ρ k = τ k := fun k hk => by
    rw [r3.1 k (by omega) (by omega)]
    show bzSt (bzSt (bzSt (bzSt τ 95 23 0) 95 24 (nI K)) 95 25 a1) 95 26 (nI m) k = _
    rw [st_o (by omega), st_o (by omega), st_o (by omega), st_o (by omega)]
  obtain ⟨i1, ⟨i2, i3⟩, i4, i5, i6, i7, i9⟩ := hI
  have q96 : ρ 96 = σ 96 := eo 96 (by decide) (by decide) (by decide) (by decide) (by decide)
  refine ⟨?_, ⟨by rw [q96]; exact i2, by rw [q96]; exact i3⟩, by rw [e9 7 (by decide)]; exact i4, ?_, ?_, ?_, ?_⟩
  · rw [q96]; exact i1.frame (fun q x1 x2 => eo q (by omega) (by omega) (by omega) (by omega) (by omega))
  · obtain ⟨q, y1, y2, y3, y4⟩ := i5
    rw [eo 0 (by decide) (by decide) (by decide) (by decide) (by decide), e9 5 (by decide), e9 4 (by decide), eo 97 (by decide) (by decide) (by decide) (by decide) (by decide)]
    refine ⟨q, y1, y2, y3, ?_⟩
    rcases y4 with y4 | ⟨y4, y5, y6, y7⟩
    · exact Or.inl y4
    · exact Or.inr ⟨y4, y5, y6.frame (fun q x1 x2 => eo q (by omega) (by omega) (by omega) (by omega) (by omega)), y7⟩
  · intro q x1 x2
    rw [eo 82 (by decide) (by decide) (by decide) (by decide) (by decide), eo 100 (by decide) (by decide) (by decide) (by decide) (by decide)]; exact i6 q x1 x2
  · intro s hs
    rw [eo (83 + 3 * s) (by omega) (by omega) (by omega) (by omega) (by omega), eo (84 + 3 * s) (by omega) (by omega) (by omega) (by omega) (by omega), eo (85 + 3 * s) (by omega) (by omega) (by omega) (by omega) (by omega), eo 101 (by decide) (by decide) (by decide) (by decide) (by decide), eo 102 (by decide) (by decide) (by decide) (by decide) (by decide), eo 103 (by decide) (by decide) (by decide) (by decide) (by decide)]
    exact i7 s hs
  · refine ⟨(vA a1 (nI m) K a a3).2.length, by omega, by rw [e8 80 (Or.inl rfl)]; exact t2.2.2.2.1, r2.2.2.2.1, fun j hj => ?_⟩
    rw [e8 81 (Or.inr rfl), t2.2.2.2.2 j hj, r2.2.2.2.2 j hj]
