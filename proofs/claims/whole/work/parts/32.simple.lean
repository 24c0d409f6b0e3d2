set_option linter.unusedVariables false
theorem bzGdT {α : Type} {c : Prop} [Decidable c] {k : Option α} (h : c) : bzGd c k = k := if_pos h
theorem bzBdS {α β : Type} {a : α} {k : α → Option β} : bzBd (some a) k = k a := rfl
theorem bzBpS {α β : Type} {a : α} {s : bzS} {k : α → bzS → Option β} : bzBp (some (a, s)) k = k a s := rfl
theorem bzLetS {α β : Type} {a : α} {k : α → β} : bzLet a k = k a := rfl
theorem bzOp1 {β : Type} {A : β} {B : Nat → β} {k : Nat} : bzOp (some k) A B = B k := rfl
theorem bzOp0 {β : Type} {A : β} {B : Nat → β} : bzOp none A B = A := rfl
theorem bzIn_nI {i n : Nat} (h : i < n) (hn : n < 2 ^ 31) : bzIn (nI i) n := by
  show 0 ≤ (nI i).toInt ∧ (nI i).toInt < n
  rw [nI_toInt (by omega)]
  omega
theorem ip_1 {i k : Nat} (h : i < ln k) (hn : ln k < 2 ^ 31) (hk : kd k = 11 ∨ kd k = 13) : f_X9_isPlace (nI i) k = some 1 := by
  unfold f_X9_isPlace
  rw [bzGdT hk, if_neg (nI_n0 (by omega)), if_neg (show ¬ Int32.ofNat (ln k) ≤ nI i from nI_ge h hn)]
theorem ip_0 {a : Int32} {k : Nat} (h : a < 0 ∨ nI (ln k) ≤ a) (hk : kd k = 11 ∨ kd k = 13) : f_X9_isPlace a k = some 0 := by
  unfold f_X9_isPlace
  rw [bzGdT hk]
  by_cases h1 : a < 0
  · rw [if_pos h1]
  · rw [if_neg h1, if_pos (show Int32.ofNat (ln k) ≤ a from h.resolve_left h1)]
theorem k9 : kd 0 = 9 := rfl
theorem k10 : kd 95 = 10 := rfl
theorem gk9 {α : Type} {k : Option α} : bzGd (kd 0 = 9) k = k := bzGdT k9
theorem gk10 {α : Type} {k : Option α} : bzGd (kd 95 = 10) k = k := bzGdT k10
theorem k0 : kd (ly (ly 0 0) 0) = 0 := rfl
theorem out_ge {a : Int32} {n : Nat} (hn : n < 2 ^ 31 - 1) (h : a < 0 ∨ nI n < a) : a < 0 ∨ nI (n + 1) ≤ a := by
  rcases h with h | h
  · exact Or.inl h
  · right
    rw [Int32.lt_iff_toInt_lt, nI_toInt (by omega)] at h
    rw [Int32.le_iff_toInt_le, nI_toInt (by omega)]
    omega
theorem out_ne {a : Int32} {n k : Nat} (hk : k ≤ n) (hn : n < 2 ^ 31) (h : a < 0 ∨ nI n < a) : ¬ a = nI k := by
  rintro rfl
  rcases h with h | h
  · exact nI_pos (by omega) h
  · exact nI_nlt hk hn h
theorem one_ne : ¬ (1 : Int32) = 0 := by decide
/-- x lies in 0 .. N, in three ways -/
theorem cut (x : Int32) {n m : Nat} {N M : Int32} (hN : nI n = N) (hM : nI m = M) (hm : n + 1 = m) (hn : n < 2 ^ 31 - 1) : (x < 0) ∨ (¬ x < 0 ∧ N < x ∧ M ≤ x) ∨ (¬ x < 0 ∧ ¬ N < x ∧ ¬ M ≤ x ∧ ∃ k : Nat, k ≤ n ∧ x = nI k ∧ bzIn x m ∧ x.toNatClampNeg = k) := by
  subst hN; subst hM; subst hm
  by_cases h : x < 0
  · exact Or.inl h
  · right
    rcases rng x hn with ⟨k, hk, rfl⟩ | h1
    · exact Or.inr ⟨h, nI_nlt hk (by omega), nI_ge (by omega) (by omega), k, hk, rfl, bzIn_nI (by omega) (by omega), nI_clamp (by omega)⟩
    · exact Or.inl ⟨h, h1.resolve_left h, (out_ge hn h1).resolve_left h⟩
theorem out_lit {x : Int32} {N : Int32} {n k : Nat} {K : Int32} (hN : nI n = N) (hK : nI k = K) (hk : k ≤ n) (hn : n < 2 ^ 31) (h : x < 0 ∨ N < x) : ¬ x = K := by
  subst hN; subst hK; exact out_ne hk hn h
theorem err1 {n : Nat} {σ : bzS} (hI : bzInv n σ) {X : Option (Int32 × bzS)} {Y : bzS → Option (Int32 × bzS)} (h1 : X = some (-1000000001, bzSt σ 82 1 (σ 82 1 + 1))) (h2 : ∀ τ, (∀ q, q ≠ 82 → τ q = σ q) → Y τ = some (-1000000001, bzSt τ 100 1 (τ 100 1 + 1))) : ∃ (r : Int32) (σ1 σ2 : bzS), X = some (r, σ1) ∧ Y σ1 = some (r, σ2) ∧ bzInv (n + 1) σ2 := ⟨_, _, _, h1, h2 _ (fun q hq => st_o hq), inv_err hI 1⟩
theorem err2 {n : Nat} {σ : bzS} (hI : bzInv n σ) {X : Option (Int32 × bzS)} {Y : bzS → Option (Int32 × bzS)} (h1 : X = some (-1000000002, bzSt σ 82 2 (σ 82 2 + 1))) (h2 : ∀ τ, (∀ q, q ≠ 82 → τ q = σ q) → Y τ = some (-1000000002, bzSt τ 100 2 (τ 100 2 + 1))) : ∃ (r : Int32) (σ1 σ2 : bzS), X = some (r, σ1) ∧ Y σ1 = some (r, σ2) ∧ bzInv (n + 1) σ2 := ⟨_, _, _, h1, h2 _ (fun q hq => st_o hq), inv_err hI 2⟩
theorem err3 {n : Nat} {σ : bzS} (hI : bzInv n σ) {X : Option (Int32 × bzS)} {Y : bzS → Option (Int32 × bzS)} (h1 : X = some (-1000000003, bzSt σ 82 3 (σ 82 3 + 1))) (h2 : ∀ τ, (∀ q, q ≠ 82 → τ q = σ q) → Y τ = some (-1000000003, bzSt τ 100 3 (τ 100 3 + 1))) : ∃ (r : Int32) (σ1 σ2 : bzS), X = some (r, σ1) ∧ Y σ1 = some (r, σ2) ∧ bzInv (n + 1) σ2 := ⟨_, _, _, h1, h2 _ (fun q hq => st_o hq), inv_err hI 3⟩
theorem err4 {n : Nat} {σ : bzS} (hI : bzInv n σ) {X : Option (Int32 × bzS)} {Y : bzS → Option (Int32 × bzS)} (h1 : X = some (-1000000004, bzSt σ 82 4 (σ 82 4 + 1))) (h2 : ∀ τ, (∀ q, q ≠ 82 → τ q = σ q) → Y τ = some (-1000000004, bzSt τ 100 4 (τ 100 4 + 1))) : ∃ (r : Int32) (σ1 σ2 : bzS), X = some (r, σ1) ∧ Y σ1 = some (r, σ2) ∧ bzInv (n + 1) σ2 := ⟨_, _, _, h1, h2 _ (fun q hq => st_o hq), inv_err hI 4⟩
theorem err5 {n : Nat} {σ : bzS} (hI : bzInv n σ) {X : Option (Int32 × bzS)} {Y : bzS → Option (Int32 × bzS)} (h1 : X = some (-1000000005, bzSt σ 82 5 (σ 82 5 + 1))) (h2 : ∀ τ, (∀ q, q ≠ 82 → τ q = σ q) → Y τ = some (-1000000005, bzSt τ 100 5 (τ 100 5 + 1))) : ∃ (r : Int32) (σ1 σ2 : bzS), X = some (r, σ1) ∧ Y σ1 = some (r, σ2) ∧ bzInv (n + 1) σ2 := ⟨_, _, _, h1, h2 _ (fun q hq => st_o hq), inv_err hI 5⟩
theorem ofN (n : Nat) : Int32.ofNat n = nI n := rfl

theorem le_of_nlt {a b : Int32} (h : ¬ a < b) : b ≤ a := Int32.not_lt.mp h
theorem clN {i : Nat} (h : i < 2 ^ 31) : (nI i).toNatClampNeg = i := nI_clamp h
theorem bzInT {i n : Nat} (h : i < n) (hn : n < 2 ^ 31) : (0 ≤ (nI i).toInt ∧ (nI i).toInt < (n : Int)) = True := eq_true (bzIn_nI h hn)
theorem e_becomes {p : Nat} {v : Int32} {τ : bzS} (hp : p < 254) : f_X10_becomes 95 (nI p) v τ = some (τ 96 p, bzSt τ 96 p v) := by
  unfold f_X10_becomes
  rw [bzGdT k10, bzGdT (bzIn_nI hp (by decide)), bzLetS, bzGdT (bzIn_nI hp (by decide)), bzLetS, clN (by omega)]
  rfl
theorem e_puts {k w : Nat} {W v : Int32} {τ : bzS} (hW : nI w = W) (h : 52 + 4 * k + w < 254) : f_X10_puts 95 (nI k) W v τ = some (bzSt τ 96 (52 + 4 * k + w) v) := by
  subst hW
  have e : 52 + 4 * nI k + nI w = nI (52 + 4 * k + w) := by rw [show (52 : Int32) = nI 52 from rfl, show (4 : Int32) = nI 4 from rfl, pk_mul, nI_add, nI_add]
  unfold f_X10_puts
  rw [bzGdT k10, e, bzGdT (bzIn_nI h (by decide)), bzLetS, clN (by omega)]
  rfl
theorem e_its {k w : Nat} {W : Int32} {τ : bzS} (hW : nI w = W) (h : 52 + 4 * k + w < 254) : f_X10_its 95 (nI k) W τ = some (τ 96 (52 + 4 * k + w)) := by
  subst hW
  have e : 52 + 4 * nI k + nI w = nI (52 + 4 * k + w) := by rw [show (52 : Int32) = nI 52 from rfl, show (4 : Int32) = nI 4 from rfl, pk_mul, nI_add, nI_add]
  unfold f_X10_its
  rw [bzGdT k10, e, bzGdT (bzIn_nI h (by decide)), clN (by omega)]
  rfl
theorem ok_set {n p : Nat} {σ : bzS} {v : Int32} (hI : bzInv n σ) {X : Option (Int32 × bzS)} {Y : bzS → Option (Int32 × bzS)} {c j : Nat} (hp : plB p = true) (h8 : p ≠ 8) (h9 : p ≠ 9) (h2 : p ≠ 2) (hv : p ≠ 1 → bzUp (mx p) v) (he : ∀ i, i < 8 → p = 55 + 4 * i → v ≠ 0) (hc : 1 + mc p = c) (hj : mj p = j)
    (h1 : X = some (σ c j, bzSt σ c j v)) (hY : ∀ τ, Y τ = some (τ 96 p, bzSt τ 96 p v)) : ∃ (r : Int32) (σ1 σ2 : bzS), X = some (r, σ1) ∧ Y σ1 = some (r, σ2) ∧ bzInv (n + 1) σ2 := by
  subst hc; subst hj
  have hr := hI.1.1 p hp
  have hm := mc_in p (plB_lt hp).1 hp
  refine ⟨_, _, _, h1, ?_, inv_mono _ _ (inv_set hI hp h8 h9 h2 hv he)⟩
  rw [hY, st_o (by omega), hr]
theorem ok_get {n p : Nat} {σ : bzS} (hI : bzInv n σ) {X : Option (Int32 × bzS)} {Y : bzS → Option (Int32 × bzS)} {c j : Nat} (hp : plB p = true) (hc : 1 + mc p = c) (hj : mj p = j)
    (h1 : X = some (σ c j, σ)) (hY : ∀ τ, Y τ = some (τ 96 p, τ)) : ∃ (r : Int32) (σ1 σ2 : bzS), X = some (r, σ1) ∧ Y σ1 = some (r, σ2) ∧ bzInv (n + 1) σ2 := by
  subst hc; subst hj
  have hr := hI.1.1 p hp
  refine ⟨_, _, _, h1, ?_, inv_mono _ _ hI⟩
  rw [hY, hr]
theorem row_none (o : Nat) {a : Int32} {σ : bzS} (h : kd o = 0) (h0 : ¬ a = 0) (h1 : ¬ a = 1) : f_X0_rowOfSeasons o a σ = some none := by
  unfold f_X0_rowOfSeasons; rw [bzGdT h, if_neg h0, if_neg h1]
theorem row_none1 (o : Nat) {a : Int32} {σ : bzS} (h : kd o = 1) (h0 : ¬ a = 0) (h1 : ¬ a = 1) : f_X1_rowOfSteps o a σ = some none := by
  unfold f_X1_rowOfSteps; rw [bzGdT h, if_neg h0, if_neg h1]
theorem st_season : bzSt_season bzInv := by
  intro a1 a2 a3 σ n hn hI
  rcases cut a2 (n := 1) (m := 2) (N := 1) (M := 2) rfl rfl rfl (by decide) with c2 | ⟨c2, c2', -⟩ | ⟨c2, c2', -, w, hw, e2, b2, n2⟩
  · have q0 := out_lit (x := a2) (N := 1) (n := 1) (k := 0) (K := 0) rfl rfl (by decide) (by decide) (Or.inl c2)
    have q1 := out_lit (x := a2) (N := 1) (n := 1) (k := 1) (K := 1) rfl rfl (by decide) (by decide) (Or.inl c2)
    refine err1 hI ?_ (fun τ _ => ?_)
    · simp [f_X9_season, gk9, gk10, bzBd, bzBp, bzLet, bzOp, f_X10_in, f_X9_within, e_f1, e_f2, e_f3, e_f4, e_f5, e_e1, e_e2, e_e3, e_e4, e_e5, row_none _ k0 q0 q1]
    · by_cases c1 : a1 < 0
      · simp [f_X10_season, gk9, gk10, bzBd, bzBp, bzLet, bzOp, f_X10_in, f_X9_within, e_f1, e_f2, e_f3, e_f4, e_f5, e_e1, e_e2, e_e3, e_e4, e_e5, c1]
      · by_cases c1' : 5 < a1 <;> simp [f_X10_season, gk9, gk10, bzBd, bzBp, bzLet, bzOp, f_X10_in, f_X9_within, e_f1, e_f2, e_f3, e_f4, e_f5, e_e1, e_e2, e_e3, e_e4, e_e5, c1, c1', c2]
  · have q0 := out_lit (x := a2) (N := 1) (n := 1) (k := 0) (K := 0) rfl rfl (by decide) (by decide) (Or.inr c2')
    have q1 := out_lit (x := a2) (N := 1) (n := 1) (k := 1) (K := 1) rfl rfl (by decide) (by decide) (Or.inr c2')
    refine err1 hI ?_ (fun τ _ => ?_)
    · simp [f_X9_season, gk9, gk10, bzBd, bzBp, bzLet, bzOp, f_X10_in, f_X9_within, e_f1, e_f2, e_f3, e_f4, e_f5, e_e1, e_e2, e_e3, e_e4, e_e5, row_none _ k0 q0 q1]
    · by_cases c1 : a1 < 0
      · simp [f_X10_season, gk9, gk10, bzBd, bzBp, bzLet, bzOp, f_X10_in, f_X9_within, e_f1, e_f2, e_f3, e_f4, e_f5, e_e1, e_e2, e_e3, e_e4, e_e5, c1]
      · by_cases c1' : 5 < a1 <;> simp [f_X10_season, gk9, gk10, bzBd, bzBp, bzLet, bzOp, f_X10_in, f_X9_within, e_f1, e_f2, e_f3, e_f4, e_f5, e_e1, e_e2, e_e3, e_e4, e_e5, c1, c1', c2, c2']
  · obtain ⟨k, r0, kk, lk, hk⟩ : ∃ k, f_X0_rowOfSeasons (ly (ly 0 0) 0) a2 σ = some (some k) ∧ kd k = 11 ∧ ln k = 6 ∧ k = 3 + w := by
      subst e2
      rcases (show w = 0 ∨ w = 1 by omega) with rfl | rfl
      · exact ⟨3, rfl, rfl, rfl, rfl⟩
      · exact ⟨4, rfl, rfl, rfl, rfl⟩
    rcases cut a1 (n := 5) (m := 6) (N := 5) (M := 6) rfl rfl rfl (by decide) with c1 | ⟨c1, c1', c1''⟩ | ⟨c1, c1', c1'', i, hi, e1, b1, n1⟩
    · refine err1 hI ?_ (fun τ _ => ?_)
      · simp [f_X9_season, gk9, gk10, bzBd, bzBp, bzLet, bzOp, f_X10_in, f_X9_within, e_f1, e_f2, e_f3, e_f4, e_f5, e_e1, e_e2, e_e3, e_e4, e_e5, r0, f_X9_isPlace, c1, bzGdT kk, bzGdT (show kd k = 11 ∨ kd k = 13 from Or.inl kk)]
      · simp [f_X10_season, gk9, gk10, bzBd, bzBp, bzLet, bzOp, f_X10_in, f_X9_within, e_f1, e_f2, e_f3, e_f4, e_f5, e_e1, e_e2, e_e3, e_e4, e_e5, c1]
    · refine err1 hI ?_ (fun τ _ => ?_)
      · simp [f_X9_season, gk9, gk10, bzBd, bzBp, bzLet, bzOp, f_X10_in, f_X9_within, e_f1, e_f2, e_f3, e_f4, e_f5, e_e1, e_e2, e_e3, e_e4, e_e5, r0, f_X9_isPlace, c1, c1'', bzGdT kk, bzGdT (show kd k = 11 ∨ kd k = 13 from Or.inl kk), lk, show Int32.ofNat 6 = 6 from rfl]
      · simp [f_X10_season, gk9, gk10, bzBd, bzBp, bzLet, bzOp, f_X10_in, f_X9_within, e_f1, e_f2, e_f3, e_f4, e_f5, e_e1, e_e2, e_e3, e_e4, e_e5, c1, c1']
    · rcases cut a3 (n := 9) (m := 10) (N := 9) (M := 10) rfl rfl rfl (by decide) with c3 | ⟨c3, c3', -⟩ | ⟨c3, c3', -, v, hv, e3, b3, n3⟩
      · refine err1 hI ?_ (fun τ _ => ?_)
        · simp [f_X9_season, gk9, gk10, bzBd, bzBp, bzLet, bzOp, f_X10_in, f_X9_within, e_f1, e_f2, e_f3, e_f4, e_f5, e_e1, e_e2, e_e3, e_e4, e_e5, r0, f_X9_isPlace, c1, c1'', bzGdT kk, bzGdT (show kd k = 11 ∨ kd k = 13 from Or.inl kk), lk, show Int32.ofNat 6 = 6 from rfl, c3]
        · simp [f_X10_season, gk9, gk10, bzBd, bzBp, bzLet, bzOp, f_X10_in, f_X9_within, e_f1, e_f2, e_f3, e_f4, e_f5, e_e1, e_e2, e_e3, e_e4, e_e5, c1, c1', c2, c2', c3]
      · refine err1 hI ?_ (fun τ _ => ?_)
        · simp [f_X9_season, gk9, gk10, bzBd, bzBp, bzLet, bzOp, f_X10_in, f_X9_within, e_f1, e_f2, e_f3, e_f4, e_f5, e_e1, e_e2, e_e3, e_e4, e_e5, r0, f_X9_isPlace, c1, c1'', bzGdT kk, bzGdT (show kd k = 11 ∨ kd k = 13 from Or.inl kk), lk, show Int32.ofNat 6 = 6 from rfl, c3, c3']
        · simp [f_X10_season, gk9, gk10, bzBd, bzBp, bzLet, bzOp, f_X10_in, f_X9_within, e_f1, e_f2, e_f3, e_f4, e_f5, e_e1, e_e2, e_e3, e_e4, e_e5, c1, c1', c2, c2', c3, c3']
      · have key : ∀ i, i ≤ 5 → ∀ w, w ≤ 1 → mc (12 + 2 * i + w) = 2 + w ∧ mj (12 + 2 * i + w) = i ∧ mx (12 + 2 * i + w) = 9 := by decide +kernel
        obtain ⟨y1, y2, y3⟩ := key i hi w hw
        have ea : 12 + 2 * a1 + a2 = nI (12 + 2 * i + w) := by
          rw [e1, e2, show (12 : Int32) = nI 12 from rfl, show (2 : Int32) = nI 2 from rfl, pk_mul, nI_add, nI_add]
        refine ok_set (p := 12 + 2 * i + w) (v := a3) (c := k) (j := i) hI (decide_eq_true (by omega)) (by omega) (by omega) (by omega) (fun _ => by rw [y3]; exact ⟨v, hv, e3⟩) (fun q hq e => absurd e (by omega)) (by rw [y1]; omega) y2 ?_ (fun τ => ?_)
        · simp [f_X9_season, gk9, gk10, bzBd, bzBp, bzLet, bzOp, f_X10_in, f_X9_within, e_f1, e_f2, e_f3, e_f4, e_f5, e_e1, e_e2, e_e3, e_e4, e_e5, r0, f_X9_isPlace, c1, c1'', bzGdT kk, bzGdT (show kd k = 11 ∨ kd k = 13 from Or.inl kk), lk, show Int32.ofNat 6 = 6 from rfl, c3, c3', bzGdT b1, n1]
        · simp [f_X10_season, gk9, gk10, bzBd, bzBp, bzLet, bzOp, f_X10_in, f_X9_within, e_f1, e_f2, e_f3, e_f4, e_f5, e_e1, e_e2, e_e3, e_e4, e_e5, c1, c1', c2, c2', c3, c3', ea, e_becomes (show 12 + 2 * i + w < 254 by omega)]

theorem st_ofSeason : bzSt_ofSeason bzInv := by
  intro a1 a2 σ n hn hI
  rcases cut a2 (n := 1) (m := 2) (N := 1) (M := 2) rfl rfl rfl (by decide) with c2 | ⟨c2, c2', -⟩ | ⟨c2, c2', -, w, hw, e2, b2, n2⟩
  · have q0 := out_lit (x := a2) (N := 1) (n := 1) (k := 0) (K := 0) rfl rfl (by decide) (by decide) (Or.inl c2)
    have q1 := out_lit (x := a2) (N := 1) (n := 1) (k := 1) (K := 1) rfl rfl (by decide) (by decide) (Or.inl c2)
    refine err1 hI ?_ (fun τ _ => ?_)
    · simp [f_X9_ofSeason, gk9, gk10, bzBd, bzBp, bzLet, bzOp, f_X10_in, f_X9_within, e_f1, e_f2, e_f3, e_f4, e_f5, e_e1, e_e2, e_e3, e_e4, e_e5, row_none _ k0 q0 q1]
    · by_cases c1 : a1 < 0
      · simp [f_X10_ofSeason, gk9, gk10, bzBd, bzBp, bzLet, bzOp, f_X10_in, f_X9_within, e_f1, e_f2, e_f3, e_f4, e_f5, e_e1, e_e2, e_e3, e_e4, e_e5, c1]
      · by_cases c1' : 5 < a1 <;> simp [f_X10_ofSeason, gk9, gk10, bzBd, bzBp, bzLet, bzOp, f_X10_in, f_X9_within, e_f1, e_f2, e_f3, e_f4, e_f5, e_e1, e_e2, e_e3, e_e4, e_e5, c1, c1', c2]
  · have q0 := out_lit (x := a2) (N := 1) (n := 1) (k := 0) (K := 0) rfl rfl (by decide) (by decide) (Or.inr c2')
    have q1 := out_lit (x := a2) (N := 1) (n := 1) (k := 1) (K := 1) rfl rfl (by decide) (by decide) (Or.inr c2')
    refine err1 hI ?_ (fun τ _ => ?_)
    · simp [f_X9_ofSeason, gk9, gk10, bzBd, bzBp, bzLet, bzOp, f_X10_in, f_X9_within, e_f1, e_f2, e_f3, e_f4, e_f5, e_e1, e_e2, e_e3, e_e4, e_e5, row_none _ k0 q0 q1]
    · by_cases c1 : a1 < 0
      · simp [f_X10_ofSeason, gk9, gk10, bzBd, bzBp, bzLet, bzOp, f_X10_in, f_X9_within, e_f1, e_f2, e_f3, e_f4, e_f5, e_e1, e_e2, e_e3, e_e4, e_e5, c1]
      · by_cases c1' : 5 < a1 <;> simp [f_X10_ofSeason, gk9, gk10, bzBd, bzBp, bzLet, bzOp, f_X10_in, f_X9_within, e_f1, e_f2, e_f3, e_f4, e_f5, e_e1, e_e2, e_e3, e_e4, e_e5, c1, c1', c2, c2']
  · obtain ⟨k, r0, kk, lk, hk⟩ : ∃ k, f_X0_rowOfSeasons (ly (ly 0 0) 0) a2 σ = some (some k) ∧ kd k = 11 ∧ ln k = 6 ∧ k = 3 + w := by
      subst e2
      rcases (show w = 0 ∨ w = 1 by omega) with rfl | rfl
      · exact ⟨3, rfl, rfl, rfl, rfl⟩
      · exact ⟨4, rfl, rfl, rfl, rfl⟩
    rcases cut a1 (n := 5) (m := 6) (N := 5) (M := 6) rfl rfl rfl (by decide) with c1 | ⟨c1, c1', c1''⟩ | ⟨c1, c1', c1'', i, hi, e1, b1, n1⟩
    · refine err1 hI ?_ (fun τ _ => ?_)
      · simp [f_X9_ofSeason, gk9, gk10, bzBd, bzBp, bzLet, bzOp, f_X10_in, f_X9_within, e_f1, e_f2, e_f3, e_f4, e_f5, e_e1, e_e2, e_e3, e_e4, e_e5, r0, f_X9_isPlace, c1, bzGdT kk, bzGdT (show kd k = 11 ∨ kd k = 13 from Or.inl kk)]
      · simp [f_X10_ofSeason, gk9, gk10, bzBd, bzBp, bzLet, bzOp, f_X10_in, f_X9_within, e_f1, e_f2, e_f3, e_f4, e_f5, e_e1, e_e2, e_e3, e_e4, e_e5, c1]
    · refine err1 hI ?_ (fun τ _ => ?_)
      · simp [f_X9_ofSeason, gk9, gk10, bzBd, bzBp, bzLet, bzOp, f_X10_in, f_X9_within, e_f1, e_f2, e_f3, e_f4, e_f5, e_e1, e_e2, e_e3, e_e4, e_e5, r0, f_X9_isPlace, c1, c1'', bzGdT kk, bzGdT (show kd k = 11 ∨ kd k = 13 from Or.inl kk), lk, show Int32.ofNat 6 = 6 from rfl]
      · simp [f_X10_ofSeason, gk9, gk10, bzBd, bzBp, bzLet, bzOp, f_X10_in, f_X9_within, e_f1, e_f2, e_f3, e_f4, e_f5, e_e1, e_e2, e_e3, e_e4, e_e5, c1, c1']
    · have key : ∀ i, i ≤ 5 → ∀ w, w ≤ 1 → mc (12 + 2 * i + w) = 2 + w ∧ mj (12 + 2 * i + w) = i := by decide +kernel
      obtain ⟨y1, y2⟩ := key i hi w hw
      have ea : 12 + 2 * a1 + a2 = nI (12 + 2 * i + w) := by
        rw [e1, e2, show (12 : Int32) = nI 12 from rfl, show (2 : Int32) = nI 2 from rfl, pk_mul, nI_add, nI_add]
      refine ok_get (p := 12 + 2 * i + w) (c := k) (j := i) hI (decide_eq_true (by omega)) (by rw [y1]; omega) y2 ?_ (fun τ => ?_)
      · simp [f_X9_ofSeason, gk9, gk10, bzBd, bzBp, bzLet, bzOp, f_X10_in, f_X9_within, e_f1, e_f2, e_f3, e_f4, e_f5, e_e1, e_e2, e_e3, e_e4, e_e5, r0, f_X9_isPlace, c1, c1'', bzGdT kk, bzGdT (show kd k = 11 ∨ kd k = 13 from Or.inl kk), lk, show Int32.ofNat 6 = 6 from rfl, bzGdT b1, n1]
      · simp [f_X10_ofSeason, gk9, gk10, bzBd, bzBp, bzLet, bzOp, f_X10_in, f_X9_within, e_f1, e_f2, e_f3, e_f4, e_f5, e_e1, e_e2, e_e3, e_e4, e_e5, c1, c1', c2, c2', ea, bzGdT (bzIn_nI (show 12 + 2 * i + w < 254 by omega) (by decide)), clN (show 12 + 2 * i + w < 2 ^ 31 by omega), show ly 95 0 = 96 from rfl]
theorem k1 : kd (ly (ly 0 0) 1) = 1 := rfl
theorem st_step : bzSt_step bzInv := by
  intro a1 a2 a3 σ n hn hI
  rcases cut a2 (n := 1) (m := 2) (N := 1) (M := 2) rfl rfl rfl (by decide) with c2 | ⟨c2, c2', -⟩ | ⟨c2, c2', -, w, hw, e2, b2, n2⟩
  · have q0 := out_lit (x := a2) (N := 1) (n := 1) (k := 0) (K := 0) rfl rfl (by decide) (by decide) (Or.inl c2)
    have q1 := out_lit (x := a2) (N := 1) (n := 1) (k := 1) (K := 1) rfl rfl (by decide) (by decide) (Or.inl c2)
    refine err1 hI ?_ (fun τ _ => ?_)
    · simp [f_X9_step, gk9, gk10, bzBd, bzBp, bzLet, bzOp, f_X10_in, f_X9_within, e_f1, e_f2, e_f3, e_f4, e_f5, e_e1, e_e2, e_e3, e_e4, e_e5, row_none1 _ k1 q0 q1]
    · by_cases c1 : a1 < 0
      · simp [f_X10_step, fb_X10_step_32, gk9, gk10, bzBd, bzBp, bzLet, bzOp, f_X10_in, f_X9_within, e_f1, e_f2, e_f3, e_f4, e_f5, e_e1, e_e2, e_e3, e_e4, e_e5, c1]
      · by_cases c1' : 9 < a1 <;> simp [f_X10_step, fb_X10_step_32, gk9, gk10, bzBd, bzBp, bzLet, bzOp, f_X10_in, f_X9_within, e_f1, e_f2, e_f3, e_f4, e_f5, e_e1, e_e2, e_e3, e_e4, e_e5, c1, c1', c2]
  · have q0 := out_lit (x := a2) (N := 1) (n := 1) (k := 0) (K := 0) rfl rfl (by decide) (by decide) (Or.inr c2')
    have q1 := out_lit (x := a2) (N := 1) (n := 1) (k := 1) (K := 1) rfl rfl (by decide) (by decide) (Or.inr c2')
    refine err1 hI ?_ (fun τ _ => ?_)
    · simp [f_X9_step, gk9, gk10, bzBd, bzBp, bzLet, bzOp, f_X10_in, f_X9_within, e_f1, e_f2, e_f3, e_f4, e_f5, e_e1, e_e2, e_e3, e_e4, e_e5, row_none1 _ k1 q0 q1]
    · by_cases c1 : a1 < 0
      · simp [f_X10_step, fb_X10_step_32, gk9, gk10, bzBd, bzBp, bzLet, bzOp, f_X10_in, f_X9_within, e_f1, e_f2, e_f3, e_f4, e_f5, e_e1, e_e2, e_e3, e_e4, e_e5, c1]
      · by_cases c1' : 9 < a1 <;> simp [f_X10_step, fb_X10_step_32, gk9, gk10, bzBd, bzBp, bzLet, bzOp, f_X10_in, f_X9_within, e_f1, e_f2, e_f3, e_f4, e_f5, e_e1, e_e2, e_e3, e_e4, e_e5, c1, c1', c2, c2']
  · obtain ⟨k, r0, kk, lk, hk⟩ : ∃ k, f_X1_rowOfSteps (ly (ly 0 0) 1) a2 σ = some (some k) ∧ kd k = 11 ∧ ln k = 10 ∧ k = 19 + w := by
      subst e2
      rcases (show w = 0 ∨ w = 1 by omega) with rfl | rfl
      · exact ⟨19, rfl, rfl, rfl, rfl⟩
      · exact ⟨20, rfl, rfl, rfl, rfl⟩
    rcases cut a1 (n := 9) (m := 10) (N := 9) (M := 10) rfl rfl rfl (by decide) with c1 | ⟨c1, c1', c1''⟩ | ⟨c1, c1', c1'', i, hi, e1, b1, n1⟩
    · refine err1 hI ?_ (fun τ _ => ?_)
      · simp [f_X9_step, gk9, gk10, bzBd, bzBp, bzLet, bzOp, f_X10_in, f_X9_within, e_f1, e_f2, e_f3, e_f4, e_f5, e_e1, e_e2, e_e3, e_e4, e_e5, r0, f_X9_isPlace, c1, bzGdT kk, bzGdT (show kd k = 11 ∨ kd k = 13 from Or.inl kk)]
      · simp [f_X10_step, fb_X10_step_32, gk9, gk10, bzBd, bzBp, bzLet, bzOp, f_X10_in, f_X9_within, e_f1, e_f2, e_f3, e_f4, e_f5, e_e1, e_e2, e_e3, e_e4, e_e5, c1]
    · refine err1 hI ?_ (fun τ _ => ?_)
      · simp [f_X9_step, gk9, gk10, bzBd, bzBp, bzLet, bzOp, f_X10_in, f_X9_within, e_f1, e_f2, e_f3, e_f4, e_f5, e_e1, e_e2, e_e3, e_e4, e_e5, r0, f_X9_isPlace, c1, c1'', bzGdT kk, bzGdT (show kd k = 11 ∨ kd k = 13 from Or.inl kk), lk, show Int32.ofNat 10 = 10 from rfl]
      · simp [f_X10_step, fb_X10_step_32, gk9, gk10, bzBd, bzBp, bzLet, bzOp, f_X10_in, f_X9_within, e_f1, e_f2, e_f3, e_f4, e_f5, e_e1, e_e2, e_e3, e_e4, e_e5, c1, c1']
    · have key : ∀ i, i ≤ 9 → ∀ w, w ≤ 1 → mc (24 + 2 * i + w) = 18 + w ∧ mj (24 + 2 * i + w) = i ∧ mx (24 + 2 * i + w) = if w = 0 then 9 else 99 := by decide +kernel
      obtain ⟨y1, y2, y3⟩ := key i hi w hw
      have ea : 24 + 2 * a1 + a2 = nI (24 + 2 * i + w) := by
        rw [e1, e2, show (24 : Int32) = nI 24 from rfl, show (2 : Int32) = nI 2 from rfl, pk_mul, nI_add, nI_add]
      by_cases qw : a2 = 0
      · have hw0 : w = 0 := by rw [qw] at e2; exact ((nI_eq (a := 0) (b := w) (by decide) (by omega)).mp e2).symm
        have r0' := r0
        rw [qw] at r0' ea
        rcases cut a3 (n := 9) (m := 10) (N := 9) (M := 10) rfl rfl rfl (by decide) with c3 | ⟨c3, c3', -⟩ | ⟨c3, c3', -, v, hv, e3, b3, n3⟩
        · refine err1 hI ?_ (fun τ _ => ?_)
          · simp [f_X9_step, gk9, gk10, bzBd, bzBp, bzLet, bzOp, f_X10_in, f_X9_within, e_f1, e_f2, e_f3, e_f4, e_f5, e_e1, e_e2, e_e3, e_e4, e_e5, r0', f_X9_isPlace, c1, c1'', bzGdT kk, bzGdT (show kd k = 11 ∨ kd k = 13 from Or.inl kk), lk, show Int32.ofNat 10 = 10 from rfl, c3, qw]
          · simp [f_X10_step, fb_X10_step_32, gk9, gk10, bzBd, bzBp, bzLet, bzOp, f_X10_in, f_X9_within, e_f1, e_f2, e_f3, e_f4, e_f5, e_e1, e_e2, e_e3, e_e4, e_e5, c1, c1', c2, c2', c3, qw]
        · refine err1 hI ?_ (fun τ _ => ?_)
          · simp [f_X9_step, gk9, gk10, bzBd, bzBp, bzLet, bzOp, f_X10_in, f_X9_within, e_f1, e_f2, e_f3, e_f4, e_f5, e_e1, e_e2, e_e3, e_e4, e_e5, r0', f_X9_isPlace, c1, c1'', bzGdT kk, bzGdT (show kd k = 11 ∨ kd k = 13 from Or.inl kk), lk, show Int32.ofNat 10 = 10 from rfl, c3, c3', qw]
          · simp [f_X10_step, fb_X10_step_32, gk9, gk10, bzBd, bzBp, bzLet, bzOp, f_X10_in, f_X9_within, e_f1, e_f2, e_f3, e_f4, e_f5, e_e1, e_e2, e_e3, e_e4, e_e5, c1, c1', c2, c2', c3, c3', qw]
        · refine ok_set (p := 24 + 2 * i + w) (v := a3) (c := k) (j := i) hI (decide_eq_true (by omega)) (by omega) (by omega) (by omega) (fun _ => by rw [y3, if_pos hw0]; exact ⟨v, hv, e3⟩) (fun q hq e => absurd e (by omega)) (by rw [y1]; omega) y2 ?_ (fun τ => ?_)
          · simp [f_X9_step, gk9, gk10, bzBd, bzBp, bzLet, bzOp, f_X10_in, f_X9_within, e_f1, e_f2, e_f3, e_f4, e_f5, e_e1, e_e2, e_e3, e_e4, e_e5, r0', f_X9_isPlace, c1, c1'', bzGdT kk, bzGdT (show kd k = 11 ∨ kd k = 13 from Or.inl kk), lk, show Int32.ofNat 10 = 10 from rfl, c3, c3', bzGdT b1, n1, qw]
          · simp [f_X10_step, fb_X10_step_32, gk9, gk10, bzBd, bzBp, bzLet, bzOp, f_X10_in, f_X9_within, e_f1, e_f2, e_f3, e_f4, e_f5, e_e1, e_e2, e_e3, e_e4, e_e5, c1, c1', c2, c2', c3, c3', ea, e_becomes (show 24 + 2 * i + w < 254 by omega), qw]
      · have hw1 : w = 1 := by rcases (show w = 0 ∨ w = 1 by omega) with h | h; exact absurd (by rw [e2, h]; rfl) qw; exact h
        rcases cut a3 (n := 99) (m := 100) (N := 99) (M := 100) rfl rfl rfl (by decide) with c3 | ⟨c3, c3', -⟩ | ⟨c3, c3', -, v, hv, e3, b3, n3⟩
        · refine err1 hI ?_ (fun τ _ => ?_)
          · simp [f_X9_step, gk9, gk10, bzBd, bzBp, bzLet, bzOp, f_X10_in, f_X9_within, e_f1, e_f2, e_f3, e_f4, e_f5, e_e1, e_e2, e_e3, e_e4, e_e5, r0, f_X9_isPlace, c1, c1'', bzGdT kk, bzGdT (show kd k = 11 ∨ kd k = 13 from Or.inl kk), lk, show Int32.ofNat 10 = 10 from rfl, c3, qw]
          · simp [f_X10_step, fb_X10_step_32, gk9, gk10, bzBd, bzBp, bzLet, bzOp, f_X10_in, f_X9_within, e_f1, e_f2, e_f3, e_f4, e_f5, e_e1, e_e2, e_e3, e_e4, e_e5, c1, c1', c2, c2', c3, qw]
        · refine err1 hI ?_ (fun τ _ => ?_)
          · simp [f_X9_step, gk9, gk10, bzBd, bzBp, bzLet, bzOp, f_X10_in, f_X9_within, e_f1, e_f2, e_f3, e_f4, e_f5, e_e1, e_e2, e_e3, e_e4, e_e5, r0, f_X9_isPlace, c1, c1'', bzGdT kk, bzGdT (show kd k = 11 ∨ kd k = 13 from Or.inl kk), lk, show Int32.ofNat 10 = 10 from rfl, c3, c3', qw]
          · simp [f_X10_step, fb_X10_step_32, gk9, gk10, bzBd, bzBp, bzLet, bzOp, f_X10_in, f_X9_within, e_f1, e_f2, e_f3, e_f4, e_f5, e_e1, e_e2, e_e3, e_e4, e_e5, c1, c1', c2, c2', c3, c3', qw]
        · refine ok_set (p := 24 + 2 * i + w) (v := a3) (c := k) (j := i) hI (decide_eq_true (by omega)) (by omega) (by omega) (by omega) (fun _ => by rw [y3, if_neg (by omega)]; exact ⟨v, hv, e3⟩) (fun q hq e => absurd e (by omega)) (by rw [y1]; omega) y2 ?_ (fun τ => ?_)
          · simp [f_X9_step, gk9, gk10, bzBd, bzBp, bzLet, bzOp, f_X10_in, f_X9_within, e_f1, e_f2, e_f3, e_f4, e_f5, e_e1, e_e2, e_e3, e_e4, e_e5, r0, f_X9_isPlace, c1, c1'', bzGdT kk, bzGdT (show kd k = 11 ∨ kd k = 13 from Or.inl kk), lk, show Int32.ofNat 10 = 10 from rfl, c3, c3', bzGdT b1, n1, qw]
          · simp [f_X10_step, fb_X10_step_32, gk9, gk10, bzBd, bzBp, bzLet, bzOp, f_X10_in, f_X9_within, e_f1, e_f2, e_f3, e_f4, e_f5, e_e1, e_e2, e_e3, e_e4, e_e5, c1, c1', c2, c2', c3, c3', ea, e_becomes (show 24 + 2 * i + w < 254 by omega), qw]
