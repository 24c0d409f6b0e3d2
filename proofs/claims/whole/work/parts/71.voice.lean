set_option linter.unusedVariables false
/-! voice -/
theorem vpE (X : Option (Int32 × bzS)) : bzBp X (fun a s => some (a, s)) = X := by cases X <;> rfl
abbrev vR : Type := Int32 × List Int32
def vC (N : Int32) (k : Nat) (x : Int32) : vR := if k = 1 ∨ k = 4 then ((x + N) * 3, [20, 10]) else (x + N, [10])
def vD (N M : Int32) (k : Nat) (x : Int32) : vR := if k = 3 then (-(x - M), [40, 12]) else if k = 6 then (-(x - M) ^^^ N, [70, 40, 12]) else (x - M, [12])
def vH0 (N M : Int32) (K : Nat) (x : Int32) : vR := ((vC N K x).1 * 2, 11 :: (vC N K x).2)
def vH2 (N M : Int32) (K : Nat) (x : Int32) : vR := ((vH0 N M K x).1 - (vD N M K 1).1, 30 :: ((vH0 N M K x).2 ++ (vD N M K 1).2))
def vH (N M : Int32) (K k : Nat) (x : Int32) : vR := if k = 2 then vH2 N M K x else if k = 5 then ((vH2 N M K (x + 1)).1, 60 :: (vH2 N M K (x + 1)).2) else vH0 N M K x
def vT0 (N M : Int32) (K : Nat) (x : Int32) : vR := ((vH N M K K x).1 ^^^ (vD N M K x).1, 13 :: ((vH N M K K x).2 ++ (vD N M K x).2))
def vT (N M : Int32) (K k : Nat) (x : Int32) : vR := if k = 4 then ((vT0 N M K x).1 - (vC N K 2).1, 50 :: ((vT0 N M K x).2 ++ (vC N K 2).2)) else if k = 6 then ((vH N M K K x).1 - (vT0 N M K x).1, 71 :: ((vH N M K K x).2 ++ (vT0 N M K x).2)) else vT0 N M K x
theorem vC_l (N : Int32) (k : Nat) (x : Int32) : (vC N k x).2.length ≤ 2 := by
  unfold vC; split
  · exact (show 2 ≤ 2 by decide)
  · exact (show 1 ≤ 2 by decide)
theorem vD_l (N M : Int32) (k : Nat) (x : Int32) : (vD N M k x).2.length ≤ 3 := by
  unfold vD; split
  · exact (show 2 ≤ 3 by decide)
  · split
    · exact (show 3 ≤ 3 by decide)
    · exact (show 1 ≤ 3 by decide)
theorem vH0_l (N M : Int32) (K : Nat) (x : Int32) : (vH0 N M K x).2.length ≤ 3 := by
  have := vC_l N K x
  show (11 :: (vC N K x).2).length ≤ 3
  rw [List.length_cons]; omega
theorem vH2_l (N M : Int32) (K : Nat) (x : Int32) : (vH2 N M K x).2.length ≤ 7 := by
  have := vH0_l N M K x
  have := vD_l N M K 1
  show (30 :: ((vH0 N M K x).2 ++ (vD N M K 1).2)).length ≤ 7
  rw [List.length_cons, List.length_append]; omega
theorem vH_l (N M : Int32) (K k : Nat) (x : Int32) : (vH N M K k x).2.length ≤ 8 := by
  unfold vH
  split
  · have := vH2_l N M K x; omega
  · split
    · have := vH2_l N M K (x + 1)
      show (60 :: (vH2 N M K (x + 1)).2).length ≤ 8
      rw [List.length_cons]; omega
    · have := vH0_l N M K x; omega
theorem vT0_l (N M : Int32) (K : Nat) (x : Int32) : (vT0 N M K x).2.length ≤ 12 := by
  have := vH_l N M K K x
  have := vD_l N M K x
  show (13 :: ((vH N M K K x).2 ++ (vD N M K x).2)).length ≤ 12
  rw [List.length_cons, List.length_append]; omega
theorem vT_l (N M : Int32) (K k : Nat) (x : Int32) : (vT N M K k x).2.length ≤ 21 := by
  have h1 := vT0_l N M K x
  have h2 := vC_l N K 2
  have h3 := vH_l N M K K x
  unfold vT
  split
  · show (50 :: ((vT0 N M K x).2 ++ (vC N K 2).2)).length ≤ 21
    rw [List.length_cons, List.length_append]; omega
  · split
    · show (71 :: ((vH N M K K x).2 ++ (vT0 N M K x).2)).length ≤ 21
      rw [List.length_cons, List.length_append]; omega
    · omega
/-! the class -/
def vcS (N M : Int32) (K : Nat) (σ : bzS) (L : List Int32) : Prop := σ 79 1 = N ∧ σ 79 2 = nI K ∧ σ 79 3 = M ∧ σ 80 1 = nI L.length ∧ ∀ i, i < L.length → σ 81 i = L.getD i 0
def seX (N M : Int32) (K : Nat) (σ : bzS) (L : List Int32) (R : Option (Int32 × bzS)) (r : vR) : Prop := ∃ τ, R = some (r.1, τ) ∧ vcS N M K τ (L ++ r.2) ∧ ∀ k, k ≠ 80 → k ≠ 81 → τ k = σ k
section
variable {N M : Int32} {K : Nat}
theorem say_add {σ : bzS} {L : List Int32} (B : Int32) (h : vcS N M K σ L) (hl : L.length < 40) : ∃ τ, f_X4_add 80 B σ = some (1, τ) ∧ vcS N M K τ (L ++ [B]) ∧ ∀ k, k ≠ 80 → k ≠ 81 → τ k = σ k := by
  obtain ⟨h1, h2, h3, h4, h5⟩ := h
  have e0 : bzSt σ 81 L.length B 80 1 = nI L.length := by rw [st_o (by decide)]; exact h4
  refine ⟨bzSt (bzSt σ 81 L.length B) 80 1 (nI (L.length + 1)), ?_, ⟨?_, ?_, ?_, ?_, ?_⟩, fun k a b => by rw [st_o a, st_o b]⟩
  · unfold f_X4_add
    rw [g_80, l_80_0, h4, n_81, ofN, if_pos (nI_lt hl (by decide)), bzGdT (bzIn_nI hl (by decide)), clN (show L.length < 2 ^ 31 by omega), bzLetS, e0, nI_1, bzLetS]
  · rw [st_o (by decide), st_o (by decide)]; exact h1
  · rw [st_o (by decide), st_o (by decide)]; exact h2
  · rw [st_o (by decide), st_o (by decide)]; exact h3
  · rw [st_s, pk_us, List.length_append, List.length_singleton]
  · intro i hi
    rw [List.length_append, List.length_singleton] at hi
    rw [st_o (by decide), st_s]
    by_cases c : i = L.length
    · subst c; rw [pk_us, gd_app2]
    · rw [pk_un c, gd_app1 (by omega)]; exact h5 i (by omega)
theorem say_go {F o : Nat} {A Kd W U B x : Int32} {σ : bzS} {L : List Int32} (hS : vcS N M K σ L) (hL : L.length < 40) (ho : o ≤ 40) (hO : ∀ s, f_X8_ownerOf A Kd s = some W) (hW : ¬ W < 0) (hB : ∀ s, f_X8_bodyOf A W s = some B) (hU : ∀ s, f_X7_kindAbove W s = some U) :
    ∃ s9, vcS N M K s9 (L ++ [B]) ∧ (∀ k, k ≠ 80 → k ≠ 81 → s9 k = σ k) ∧ (fr_X8_say (F + 1)).1 79 A Kd x (nI o) σ = if 20 ≤ B then (fr_X8_say F).2.2 79 B U x (nI (o + 1)) s9 else (fr_X8_say F).2.1 79 B x (nI (o + 1)) s9 := by
  obtain ⟨τ, t1, t2, t3⟩ := say_add B hS hL
  refine ⟨τ, t2, t3, ?_⟩
  show fm_X8_say (fr_X8_say F).1 (fr_X8_say F).2.1 (fr_X8_say F).2.2 79 A Kd x (nI o) σ = _
  unfold fm_X8_say
  rw [g_79, hO, bzBdS, if_neg hW, if_pos (show nI o ≤ 40 from nI_le (b := 40) ho (by decide)), hB, bzBdS, l_79_0, t1, bzBpS, hU, bzBdS, nI_1, vpE, vpE]
theorem sayC0 {F o : Nat} {Kd x : Int32} {σ : bzS} {L : List Int32} (hS : vcS N M K σ L) (hL : L.length < 40) (ho : o ≤ 40) (hO : ∀ s, f_X8_ownerOf 0 Kd s = some 0) : seX N M K σ L ((fr_X8_say (F + 2)).1 79 0 Kd x (nI o) σ) (x + N, [10]) := by
  obtain ⟨s9, h1, h2, h3⟩ := say_go (o := o) (F := F + 1) (B := 10) (U := -1) (x := x) hS hL ho hO (by decide) (fun s => rfl) (fun s => rfl)
  refine ⟨s9, ?_, h1, h2⟩
  rw [h3, if_neg (by decide)]
  show fm_X8_sayPlain (fr_X8_say F).1 (fr_X8_say F).2.1 (fr_X8_say F).2.2 79 10 x (nI (o + 1)) s9 = _
  unfold fm_X8_sayPlain
  rw [g_79, if_pos rfl, h1.1]
theorem sayC1 {F o : Nat} {Kd x : Int32} {σ : bzS} {L : List Int32} (hS : vcS N M K σ L) (hL : L.length + 1 < 40) (ho : o + 1 ≤ 40) (hO : ∀ s, f_X8_ownerOf 0 Kd s = some 1) : seX N M K σ L ((fr_X8_say (F + 4)).1 79 0 Kd x (nI o) σ) ((x + N) * 3, [20, 10]) := by
  obtain ⟨s9, h1, h2, h3⟩ := say_go (o := o) (F := F + 3) (B := 20) (U := 0) (x := x) hS (by omega) (by omega) hO (by decide) (fun s => rfl) (fun s => rfl)
  obtain ⟨τ, t1, t2, t3⟩ := sayC0 (F := F) (Kd := 0) (x := x) h1 (by rw [List.length_append, List.length_singleton]; exact hL) ho (fun s => rfl)
  refine ⟨τ, ?_, by rw [List.append_assoc] at t2; exact t2, fun k a b => by rw [t3 k a b, h2 k a b]⟩
  rw [h3, if_pos (by decide)]
  show fm_X8_saySpecial (fr_X8_say (F + 2)).1 (fr_X8_say (F + 2)).2.1 (fr_X8_say (F + 2)).2.2 79 20 0 x (nI (o + 1)) s9 = _
  unfold fm_X8_saySpecial
  rw [g_79, if_pos rfl, t1, bzBpS]
theorem sayC {F o k : Nat} {x : Int32} {σ : bzS} {L : List Int32} (hF : 4 ≤ F) (hS : vcS N M K σ L) (hL : L.length + 1 < 40) (ho : o + 1 ≤ 40) (hk : k ≤ 6) : seX N M K σ L ((fr_X8_say F).1 79 0 (nI k) x (nI o) σ) (vC N k x) := by
  obtain ⟨F, rfl⟩ : ∃ y, F = y + 4 := ⟨F - 4, by omega⟩
  rcases (show k = 0 ∨ k = 1 ∨ k = 2 ∨ k = 3 ∨ k = 4 ∨ k = 5 ∨ k = 6 by omega) with rfl | rfl | rfl | rfl | rfl | rfl | rfl
  · exact sayC0 (F := F + 2) hS (by omega) (by omega) (fun s => rfl)
  · exact sayC1 hS hL ho (fun s => rfl)
  · exact sayC0 (F := F + 2) hS (by omega) (by omega) (fun s => rfl)
  · exact sayC0 (F := F + 2) hS (by omega) (by omega) (fun s => rfl)
  · exact sayC1 hS hL ho (fun s => rfl)
  · exact sayC0 (F := F + 2) hS (by omega) (by omega) (fun s => rfl)
  · exact sayC0 (F := F + 2) hS (by omega) (by omega) (fun s => rfl)
theorem sayD0 {F o : Nat} {Kd x : Int32} {σ : bzS} {L : List Int32} (hS : vcS N M K σ L) (hL : L.length < 40) (ho : o ≤ 40) (hO : ∀ s, f_X8_ownerOf 2 Kd s = some 0) : seX N M K σ L ((fr_X8_say (F + 2)).1 79 2 Kd x (nI o) σ) (x - M, [12]) := by
  obtain ⟨s9, h1, h2, h3⟩ := say_go (o := o) (F := F + 1) (B := 12) (U := -1) (x := x) hS hL ho hO (by decide) (fun s => rfl) (fun s => rfl)
  refine ⟨s9, ?_, h1, h2⟩
  rw [h3, if_neg (by decide)]
  show fm_X8_sayPlain (fr_X8_say F).1 (fr_X8_say F).2.1 (fr_X8_say F).2.2 79 12 x (nI (o + 1)) s9 = _
  unfold fm_X8_sayPlain
  rw [g_79, if_neg (by decide), if_neg (by decide), if_pos rfl, h1.2.2.1]
theorem sayD3 {F o : Nat} {Kd x : Int32} {σ : bzS} {L : List Int32} (hS : vcS N M K σ L) (hL : L.length + 1 < 40) (ho : o + 1 ≤ 40) (hO : ∀ s, f_X8_ownerOf 2 Kd s = some 3) : seX N M K σ L ((fr_X8_say (F + 4)).1 79 2 Kd x (nI o) σ) (-(x - M), [40, 12]) := by
  obtain ⟨s9, h1, h2, h3⟩ := say_go (o := o) (F := F + 3) (B := 40) (U := 0) (x := x) hS (by omega) (by omega) hO (by decide) (fun s => rfl) (fun s => rfl)
  obtain ⟨τ, t1, t2, t3⟩ := sayD0 (F := F) (Kd := 0) (x := x) h1 (by rw [List.length_append, List.length_singleton]; exact hL) ho (fun s => rfl)
  refine ⟨τ, ?_, by rw [List.append_assoc] at t2; exact t2, fun k a b => by rw [t3 k a b, h2 k a b]⟩
  rw [h3, if_pos (by decide)]
  show fm_X8_saySpecial (fr_X8_say (F + 2)).1 (fr_X8_say (F + 2)).2.1 (fr_X8_say (F + 2)).2.2 79 40 0 x (nI (o + 1)) s9 = _
  unfold fm_X8_saySpecial
  rw [g_79, if_neg (by decide), if_neg (by decide), if_pos rfl, t1, bzBpS]
theorem sayD6 {F o : Nat} {Kd x : Int32} {σ : bzS} {L : List Int32} (hS : vcS N M K σ L) (hL : L.length + 2 < 40) (ho : o + 2 ≤ 40) (hO : ∀ s, f_X8_ownerOf 2 Kd s = some 6) : seX N M K σ L ((fr_X8_say (F + 6)).1 79 2 Kd x (nI o) σ) (-(x - M) ^^^ N, [70, 40, 12]) := by
  obtain ⟨s9, h1, h2, h3⟩ := say_go (o := o) (F := F + 5) (B := 70) (U := 3) (x := x) hS (by omega) (by omega) hO (by decide) (fun s => rfl) (fun s => rfl)
  obtain ⟨τ, t1, t2, t3⟩ := sayD3 (F := F) (Kd := 3) (x := x) h1 (by rw [List.length_append, List.length_singleton]; omega) ho (fun s => rfl)
  refine ⟨τ, ?_, by rw [List.append_assoc] at t2; exact t2, fun k a b => by rw [t3 k a b, h2 k a b]⟩
  rw [h3, if_pos (by decide)]
  show fm_X8_saySpecial (fr_X8_say (F + 4)).1 (fr_X8_say (F + 4)).2.1 (fr_X8_say (F + 4)).2.2 79 70 3 x (nI (o + 1)) s9 = _
  unfold fm_X8_saySpecial
  rw [g_79, if_neg (by decide), if_neg (by decide), if_neg (by decide), if_neg (by decide), if_neg (by decide), if_pos rfl, t1, bzBpS, t2.1]
theorem sayD {F o k : Nat} {x : Int32} {σ : bzS} {L : List Int32} (hF : 6 ≤ F) (hS : vcS N M K σ L) (hL : L.length + 2 < 40) (ho : o + 2 ≤ 40) (hk : k ≤ 6) : seX N M K σ L ((fr_X8_say F).1 79 2 (nI k) x (nI o) σ) (vD N M k x) := by
  obtain ⟨F, rfl⟩ : ∃ y, F = y + 6 := ⟨F - 6, by omega⟩
  rcases (show k = 0 ∨ k = 1 ∨ k = 2 ∨ k = 3 ∨ k = 4 ∨ k = 5 ∨ k = 6 by omega) with rfl | rfl | rfl | rfl | rfl | rfl | rfl
  · exact sayD0 (F := F + 4) hS (by omega) (by omega) (fun s => rfl)
  · exact sayD0 (F := F + 4) hS (by omega) (by omega) (fun s => rfl)
  · exact sayD0 (F := F + 4) hS (by omega) (by omega) (fun s => rfl)
  · exact sayD3 (F := F + 2) hS (by omega) (by omega) (fun s => rfl)
  · exact sayD0 (F := F + 4) hS (by omega) (by omega) (fun s => rfl)
  · exact sayD0 (F := F + 4) hS (by omega) (by omega) (fun s => rfl)
  · exact sayD6 hS hL ho (fun s => rfl)
theorem sayH0 {F o : Nat} {Kd x : Int32} {σ : bzS} {L : List Int32} (hK : K ≤ 6) (hS : vcS N M K σ L) (hL : L.length + 2 < 40) (ho : o + 2 ≤ 40) (hO : ∀ s, f_X8_ownerOf 1 Kd s = some 0) : seX N M K σ L ((fr_X8_say (F + 6)).1 79 1 Kd x (nI o) σ) (vH0 N M K x) := by
  obtain ⟨s9, h1, h2, h3⟩ := say_go (o := o) (F := F + 5) (B := 11) (U := -1) (x := x) hS (by omega) (by omega) hO (by decide) (fun s => rfl) (fun s => rfl)
  obtain ⟨τ, t1, t2, t3⟩ := sayC (F := F + 4) (o := o + 1) (k := K) (x := x) (by omega) h1 (by rw [List.length_append, List.length_singleton]; omega) (by omega) hK
  refine ⟨τ, ?_, by rw [List.append_assoc] at t2; exact t2, fun k a b => by rw [t3 k a b, h2 k a b]⟩
  rw [h3, if_neg (by decide)]
  show fm_X8_sayPlain (fr_X8_say (F + 4)).1 (fr_X8_say (F + 4)).2.1 (fr_X8_say (F + 4)).2.2 79 11 x (nI (o + 1)) s9 = _
  unfold fm_X8_sayPlain
  rw [g_79, if_neg (by decide), if_pos rfl, h1.2.1, t1, bzBpS]; rfl
theorem sayH2 {F o : Nat} {Kd x : Int32} {σ : bzS} {L : List Int32} (hK : K ≤ 6) (hS : vcS N M K σ L) (hL : L.length + 7 < 40) (ho : o + 3 ≤ 40) (hO : ∀ s, f_X8_ownerOf 1 Kd s = some 2) : seX N M K σ L ((fr_X8_say (F + 8)).1 79 1 Kd x (nI o) σ) (vH2 N M K x) := by
  obtain ⟨s9, h1, h2, h3⟩ := say_go (o := o) (F := F + 7) (B := 30) (U := 0) (x := x) hS (by omega) (by omega) hO (by decide) (fun s => rfl) (fun s => rfl)
  obtain ⟨τ, t1, t2, t3⟩ := sayH0 (F := F) (o := o + 1) (Kd := 0) (x := x) hK h1 (by rw [List.length_append, List.length_singleton]; omega) (by omega) (fun s => rfl)
  have l0 := vH0_l N M K x
  obtain ⟨ρ, r1, r2, r3⟩ := sayD (F := F + 6) (o := o + 1) (k := K) (x := 1) (by omega) t2 (by rw [List.length_append, List.length_append, List.length_singleton]; omega) (by omega) hK
  refine ⟨ρ, ?_, ?_, fun k a b => by rw [r3 k a b, t3 k a b, h2 k a b]⟩
  · rw [h3, if_pos (by decide)]
    show fm_X8_saySpecial (fr_X8_say (F + 6)).1 (fr_X8_say (F + 6)).2.1 (fr_X8_say (F + 6)).2.2 79 30 0 x (nI (o + 1)) s9 = _
    unfold fm_X8_saySpecial
    rw [g_79, if_neg (by decide), if_pos rfl, t1, bzBpS, t2.2.1, r1, bzBpS]; rfl
  · rw [List.append_assoc, List.append_assoc] at r2; exact r2
theorem sayH5 {F o : Nat} {Kd x : Int32} {σ : bzS} {L : List Int32} (hK : K ≤ 6) (hS : vcS N M K σ L) (hL : L.length + 8 < 40) (ho : o + 4 ≤ 40) (hO : ∀ s, f_X8_ownerOf 1 Kd s = some 5) : seX N M K σ L ((fr_X8_say (F + 10)).1 79 1 Kd x (nI o) σ) ((vH2 N M K (x + 1)).1, 60 :: (vH2 N M K (x + 1)).2) := by
  obtain ⟨s9, h1, h2, h3⟩ := say_go (o := o) (F := F + 9) (B := 60) (U := 2) (x := x) hS (by omega) (by omega) hO (by decide) (fun s => rfl) (fun s => rfl)
  obtain ⟨τ, t1, t2, t3⟩ := sayH2 (F := F) (o := o + 1) (Kd := 2) (x := x + 1) hK h1 (by rw [List.length_append, List.length_singleton]; omega) (by omega) (fun s => rfl)
  refine ⟨τ, ?_, by rw [List.append_assoc] at t2; exact t2, fun k a b => by rw [t3 k a b, h2 k a b]⟩
  rw [h3, if_pos (by decide)]
  show fm_X8_saySpecial (fr_X8_say (F + 8)).1 (fr_X8_say (F + 8)).2.1 (fr_X8_say (F + 8)).2.2 79 60 2 x (nI (o + 1)) s9 = _
  unfold fm_X8_saySpecial
  rw [g_79, if_neg (by decide), if_neg (by decide), if_neg (by decide), if_neg (by decide), if_pos rfl, t1, bzBpS]
theorem sayH {F o k : Nat} {x : Int32} {σ : bzS} {L : List Int32} (hF : 10 ≤ F) (hK : K ≤ 6) (hS : vcS N M K σ L) (hL : L.length + 8 < 40) (ho : o + 4 ≤ 40) (hk : k ≤ 6) : seX N M K σ L ((fr_X8_say F).1 79 1 (nI k) x (nI o) σ) (vH N M K k x) := by
  obtain ⟨F, rfl⟩ : ∃ y, F = y + 10 := ⟨F - 10, by omega⟩
  rcases (show k = 0 ∨ k = 1 ∨ k = 2 ∨ k = 3 ∨ k = 4 ∨ k = 5 ∨ k = 6 by omega) with rfl | rfl | rfl | rfl | rfl | rfl | rfl
  · exact sayH0 (F := F + 4) hK hS (by omega) (by omega) (fun s => rfl)
  · exact sayH0 (F := F + 4) hK hS (by omega) (by omega) (fun s => rfl)
  · exact sayH2 (F := F + 2) hK hS (by omega) (by omega) (fun s => rfl)
  · exact sayH0 (F := F + 4) hK hS (by omega) (by omega) (fun s => rfl)
  · exact sayH0 (F := F + 4) hK hS (by omega) (by omega) (fun s => rfl)
  · exact sayH5 hK hS hL ho (fun s => rfl)
  · exact sayH0 (F := F + 4) hK hS (by omega) (by omega) (fun s => rfl)
theorem sayT0 {F o : Nat} {Kd x : Int32} {σ : bzS} {L : List Int32} (hK : K ≤ 6) (hS : vcS N M K σ L) (hL : L.length + 12 < 40) (ho : o + 5 ≤ 40) (hO : ∀ s, f_X8_ownerOf 3 Kd s = some 0) : seX N M K σ L ((fr_X8_say (F + 12)).1 79 3 Kd x (nI o) σ) (vT0 N M K x) := by
  obtain ⟨s9, h1, h2, h3⟩ := say_go (o := o) (F := F + 11) (B := 13) (U := -1) (x := x) hS (by omega) (by omega) hO (by decide) (fun s => rfl) (fun s => rfl)
  obtain ⟨τ, t1, t2, t3⟩ := sayH (F := F + 10) (o := o + 1) (k := K) (x := x) (by omega) hK h1 (by rw [List.length_append, List.length_singleton]; omega) (by omega) hK
  have l0 := vH_l N M K K x
  obtain ⟨ρ, r1, r2, r3⟩ := sayD (F := F + 10) (o := o + 1) (k := K) (x := x) (by omega) t2 (by rw [List.length_append, List.length_append, List.length_singleton]; omega) (by omega) hK
  refine ⟨ρ, ?_, ?_, fun k a b => by rw [r3 k a b, t3 k a b, h2 k a b]⟩
  · rw [h3, if_neg (by decide)]
    show fm_X8_sayPlain (fr_X8_say (F + 10)).1 (fr_X8_say (F + 10)).2.1 (fr_X8_say (F + 10)).2.2 79 13 x (nI (o + 1)) s9 = _
    unfold fm_X8_sayPlain
    rw [g_79, if_neg (by decide), if_neg (by decide), if_neg (by decide), h1.2.1, t1, bzBpS, t2.2.1, r1, bzBpS]; rfl
  · rw [List.append_assoc, List.append_assoc] at r2; exact r2
theorem sayT4 {F o : Nat} {Kd x : Int32} {σ : bzS} {L : List Int32} (hK : K ≤ 6) (hS : vcS N M K σ L) (hL : L.length + 15 < 40) (ho : o + 6 ≤ 40) (hO : ∀ s, f_X8_ownerOf 3 Kd s = some 4) : seX N M K σ L ((fr_X8_say (F + 14)).1 79 3 Kd x (nI o) σ) ((vT0 N M K x).1 - (vC N K 2).1, 50 :: ((vT0 N M K x).2 ++ (vC N K 2).2)) := by
  obtain ⟨s9, h1, h2, h3⟩ := say_go (o := o) (F := F + 13) (B := 50) (U := 1) (x := x) hS (by omega) (by omega) hO (by decide) (fun s => rfl) (fun s => rfl)
  obtain ⟨τ, t1, t2, t3⟩ := sayT0 (F := F) (o := o + 1) (Kd := 1) (x := x) hK h1 (by rw [List.length_append, List.length_singleton]; omega) (by omega) (fun s => rfl)
  have l0 := vT0_l N M K x
  obtain ⟨ρ, r1, r2, r3⟩ := sayC (F := F + 12) (o := o + 1) (k := K) (x := 2) (by omega) t2 (by rw [List.length_append, List.length_append, List.length_singleton]; omega) (by omega) hK
  refine ⟨ρ, ?_, ?_, fun k a b => by rw [r3 k a b, t3 k a b, h2 k a b]⟩
  · rw [h3, if_pos (by decide)]
    show fm_X8_saySpecial (fr_X8_say (F + 12)).1 (fr_X8_say (F + 12)).2.1 (fr_X8_say (F + 12)).2.2 79 50 1 x (nI (o + 1)) s9 = _
    unfold fm_X8_saySpecial
    rw [g_79, if_neg (by decide), if_neg (by decide), if_neg (by decide), if_pos rfl, t1, bzBpS, t2.2.1, r1, bzBpS]
  · rw [List.append_assoc, List.append_assoc] at r2; exact r2
theorem sayT6 {F o : Nat} {Kd x : Int32} {σ : bzS} {L : List Int32} (hK : K ≤ 6) (hS : vcS N M K σ L) (hL : L.length + 21 < 40) (ho : o + 6 ≤ 40) (hO : ∀ s, f_X8_ownerOf 3 Kd s = some 6) : seX N M K σ L ((fr_X8_say (F + 14)).1 79 3 Kd x (nI o) σ) ((vH N M K K x).1 - (vT0 N M K x).1, 71 :: ((vH N M K K x).2 ++ (vT0 N M K x).2)) := by
  obtain ⟨s9, h1, h2, h3⟩ := say_go (o := o) (F := F + 13) (B := 71) (U := 3) (x := x) hS (by omega) (by omega) hO (by decide) (fun s => rfl) (fun s => rfl)
  obtain ⟨τ, t1, t2, t3⟩ := sayH (F := F + 12) (o := o + 1) (k := K) (x := x) (by omega) hK h1 (by rw [List.length_append, List.length_singleton]; omega) (by omega) hK
  have l0 := vH_l N M K K x
  obtain ⟨ρ, r1, r2, r3⟩ := sayT0 (F := F) (o := o + 1) (Kd := 3) (x := x) hK t2 (by rw [List.length_append, List.length_append, List.length_singleton]; omega) (by omega) (fun s => rfl)
  refine ⟨ρ, ?_, ?_, fun k a b => by rw [r3 k a b, t3 k a b, h2 k a b]⟩
  · rw [h3, if_pos (by decide)]
    show fm_X8_saySpecial (fr_X8_say (F + 12)).1 (fr_X8_say (F + 12)).2.1 (fr_X8_say (F + 12)).2.2 79 71 3 x (nI (o + 1)) s9 = _
    unfold fm_X8_saySpecial
    rw [g_79, if_neg (by decide), if_neg (by decide), if_neg (by decide), if_neg (by decide), if_neg (by decide), if_neg (by decide), h1.2.1, t1, bzBpS, r1, bzBpS]
  · rw [List.append_assoc, List.append_assoc] at r2; exact r2
theorem sayT {F o k : Nat} {x : Int32} {σ : bzS} {L : List Int32} (hF : 14 ≤ F) (hK : K ≤ 6) (hS : vcS N M K σ L) (hL : L.length + 21 < 40) (ho : o + 6 ≤ 40) (hk : k ≤ 6) : seX N M K σ L ((fr_X8_say F).1 79 3 (nI k) x (nI o) σ) (vT N M K k x) := by
  obtain ⟨F, rfl⟩ : ∃ y, F = y + 14 := ⟨F - 14, by omega⟩
  rcases (show k = 0 ∨ k = 1 ∨ k = 2 ∨ k = 3 ∨ k = 4 ∨ k = 5 ∨ k = 6 by omega) with rfl | rfl | rfl | rfl | rfl | rfl | rfl
  · exact sayT0 (F := F + 2) hK hS (by omega) (by omega) (fun s => rfl)
  · exact sayT0 (F := F + 2) hK hS (by omega) (by omega) (fun s => rfl)
  · exact sayT0 (F := F + 2) hK hS (by omega) (by omega) (fun s => rfl)
  · exact sayT0 (F := F + 2) hK hS (by omega) (by omega) (fun s => rfl)
  · exact sayT4 hK hS (by omega) (by omega) (fun s => rfl)
  · exact sayT0 (F := F + 2) hK hS (by omega) (by omega) (fun s => rfl)
  · exact sayT6 hK hS (by omega) (by omega) (fun s => rfl)
end
