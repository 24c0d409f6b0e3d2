set_option linter.unusedVariables false
/-! THE LAWS: what they give -/
def pvBot (l : List Int32) : Int32 := l.getD (l.length - 1) 0
def skS (f : Nat → Int32) (st : List Int32) : Prop := ∀ j, j < st.length → f j = st.getD (st.length - 1 - j) 0
theorem op_some (m a b c : Int32) : f_X2_operand m a b c = some (pvOp m a b c) := by
  have : ∃ r, f_X2_operand m a b c = some r := by
    unfold f_X2_operand
    repeat' split
    all_goals exact ⟨_, rfl⟩
  obtain ⟨r, hr⟩ := this
  unfold pvOp; rw [hr]; rfl
theorem if_some {α : Type} {c : Prop} [Decidable c] {A B : Option α} (hA : c → ∃ r, A = some r) (hB : ¬ c → ∃ r, B = some r) : ∃ r, (if c then A else B) = some r := by
  by_cases h : c
  · obtain ⟨r, hr⟩ := hA h; exact ⟨r, by rw [if_pos h]; exact hr⟩
  · obtain ⟨r, hr⟩ := hB h; exact ⟨r, by rw [if_neg h]; exact hr⟩
theorem gd_some {α : Type} {c : Prop} [Decidable c] {a : α} (h : c) : ∃ r, bzGd c (some a) = some r := ⟨a, bzGdT h⟩
theorem jo_some (s p q : Int32) : f_X2_joined s p q = some (pvJoin s p q) := by
  have : ∃ r, f_X2_joined s p q = some r := by
    unfold f_X2_joined
    refine if_some (fun _ => if_some (fun _ => ⟨_, rfl⟩) (fun h => gd_some h)) (fun _ => ?_)
    refine if_some (fun _ => if_some (fun _ => ⟨_, rfl⟩) (fun _ => if_some (fun _ => ⟨_, rfl⟩) (fun _ => ⟨_, rfl⟩))) (fun _ => ?_)
    refine if_some (fun _ => ⟨_, rfl⟩) (fun _ => ?_)
    refine if_some (fun _ => ⟨_, rfl⟩) (fun _ => ?_)
    refine if_some (fun _ => ⟨_, rfl⟩) (fun _ => ?_)
    refine if_some (fun _ => if_some (fun _ => ⟨_, rfl⟩) (fun h => gd_some h)) (fun _ => ?_)
    refine if_some (fun _ => if_some (fun _ => ⟨_, rfl⟩) (fun _ => ⟨_, rfl⟩)) (fun _ => ?_)
    refine if_some (fun _ => if_some (fun _ => ⟨_, rfl⟩) (fun _ => ⟨_, rfl⟩)) (fun _ => ?_)
    refine if_some (fun _ => if_some (fun _ => ⟨_, rfl⟩) (fun _ => ⟨_, rfl⟩)) (fun _ => ?_)
    exact if_some (fun _ => if_some (fun _ => if_some (fun _ => ⟨_, rfl⟩) (fun _ => ⟨_, rfl⟩)) (fun _ => ⟨_, rfl⟩)) (fun _ => ⟨_, rfl⟩)
  obtain ⟨r, hr⟩ := this
  unfold pvJoin; rw [hr]; rfl
theorem at_c {σ : bzS} {R Q i n L : Nat} (kR : kd R = 4) (lQ : ly R 0 = Q) (nQ : ln Q = L) (h : σ R 1 = nI n) (hi : i < n) (hn : n ≤ L) (hL : L ≤ 50) : f_X4_at R (nI i) σ = some (σ Q i) := by
  unfold f_X4_at
  rw [bzGdT kR, if_neg (nI_n0 (show i < 2 ^ 31 by omega)), h, if_neg (nI_ge hi (by omega)), lQ, nQ, ofN, if_neg (nI_ge (show i < L by omega) (by omega)), bzGdT (bzIn_nI (show i < L by omega) (by omega)), clN (by omega)]
theorem sk_set {f : Nat → Int32} {st : List Int32} {x : Int32} (h : skS f st) : skS (upd f st.length x) (x :: st) := by
  intro j hj
  rw [List.length_cons] at hj
  by_cases c : j = st.length
  · subst c
    rw [pk_us, List.length_cons, show st.length + 1 - 1 - st.length = 0 by omega]; rfl
  · rw [pk_un c, h j (by omega), List.length_cons, show st.length + 1 - 1 - j = (st.length - 1 - j) + 1 by omega, List.getD_cons_succ]
theorem sk_tail {f : Nat → Int32} {st : List Int32} {x : Int32} (h : skS f (x :: st)) : skS f st := by
  intro j hj
  rw [h j (by rw [List.length_cons]; omega), List.length_cons, show st.length + 1 - 1 - j = (st.length - 1 - j) + 1 by omega, List.getD_cons_succ]
theorem sk_top {f : Nat → Int32} {st : List Int32} {x : Int32} (h : skS f (x :: st)) : f st.length = x := by
  rw [h st.length (by rw [List.length_cons]; omega), List.length_cons, show st.length + 1 - 1 - st.length = 0 by omega]; rfl
theorem pv_a {a b c x : Int32} {st : List Int32} (h : ¬ x < -3) : pvStep a b c st x = pvOp x a b c :: st := by unfold pvStep; rw [if_neg h]
theorem pv_b0 {a b c x : Int32} (h : x < -3) : pvStep a b c [] x = [] := by
  unfold pvStep; rw [if_pos h]
  by_cases h2 : x = -33
  · rw [if_pos h2]
  · rw [if_neg h2]
theorem pv_b1 {a b c x y : Int32} {r : List Int32} (h : x < -3) (h2 : x = -33) : pvStep a b c (y :: r) x = (if y = 0 then 1 else 0) :: r := by unfold pvStep; rw [if_pos h, if_pos h2]
theorem pv_c1 {a b c x y : Int32} (h : x < -3) (h2 : ¬ x = -33) : pvStep a b c [y] x = [y] := by unfold pvStep; rw [if_pos h, if_neg h2]
theorem pv_c2 {a b c x y z : Int32} {r : List Int32} (h : x < -3) (h2 : ¬ x = -33) : pvStep a b c (y :: z :: r) x = pvJoin (-x) z y :: r := by unfold pvStep; rw [if_pos h, if_neg h2]
section
variable {o R S : Nat} {a b c x : Int32} {K : Int32 → Int32 → bzS → Option (Int32 × bzS)} {σ : bzS} {i L : Nat}
theorem wo_a (lR : ly o 0 = R) (lS : ly o 1 = S) (h : ¬ σ R 1 ≤ nI i) (ea : f_X4_at R (nI i) σ = some x) (h3 : ¬ x < -3) (hL : L < 50) : fb_X2_workOut_6 K o a b c (nI L) (nI i) σ = K (nI (L + 1)) (nI (i + 1)) (bzSt σ S L (pvOp x a b c)) := by
  unfold fb_X2_workOut_6
  rw [lR, if_neg h, ea, bzBdS, if_neg h3, if_neg (show ¬ 50 ≤ nI L from nI_ge hL (by decide)), op_some, bzBdS, bzGdT (bzIn_nI hL (by decide)), lS, clN (by omega)]
  simp only [bzLet, nI_1]
theorem wo_b (lR : ly o 0 = R) (lS : ly o 1 = S) (h : ¬ σ R 1 ≤ nI i) (ea : f_X4_at R (nI i) σ = some x) (h3 : x < -3) (h33 : x = -33) (hL : L < 50) : fb_X2_workOut_6 K o a b c (nI (L + 1)) (nI i) σ = K (nI (L + 1)) (nI (i + 1)) (bzSt σ S L (if σ S L = 0 then 1 else 0)) := by
  unfold fb_X2_workOut_6
  have g1 : ¬ nI (L + 1) < nI 1 := nI_nlt (by omega) (by omega)
  have g2 : ¬ nI 50 < nI (L + 1) := nI_nlt (by omega) (by decide)
  rw [lR, if_neg h, ea, bzBdS, if_pos h3, if_pos h33, if_neg (show ¬ nI (L + 1) < 1 from g1), if_neg (show ¬ 50 < nI (L + 1) from g2), nI_pred, bzGdT (bzIn_nI hL (by decide)), lS, clN (by omega)]
  by_cases hy : σ S L = 0
  · rw [if_pos hy, if_pos hy, bzGdT (bzIn_nI hL (by decide))]
    simp only [bzLet, nI_1]
  · rw [if_neg hy, if_neg hy, bzGdT (bzIn_nI hL (by decide))]
    simp only [bzLet, nI_1]
theorem wo_b0 (lR : ly o 0 = R) (h : ¬ σ R 1 ≤ nI i) (ea : f_X4_at R (nI i) σ = some x) (h3 : x < -3) : fb_X2_workOut_6 K o a b c (nI 0) (nI i) σ = K (nI 0) (nI (i + 1)) σ := by
  unfold fb_X2_workOut_6
  rw [lR, if_neg h, ea, bzBdS, if_pos h3, if_pos (show nI 0 < 1 by decide), if_pos (show nI 0 < 2 by decide)]
  simp only [bzLet, nI_1, ite_self]
theorem wo_c1 (lR : ly o 0 = R) (h : ¬ σ R 1 ≤ nI i) (ea : f_X4_at R (nI i) σ = some x) (h3 : x < -3) (h33 : ¬ x = -33) : fb_X2_workOut_6 K o a b c (nI 1) (nI i) σ = K (nI 1) (nI (i + 1)) σ := by
  unfold fb_X2_workOut_6
  rw [lR, if_neg h, ea, bzBdS, if_pos h3, if_neg h33, if_pos (show nI 1 < 2 by decide)]
  simp only [bzLet, nI_1]
theorem wo_c2 (lR : ly o 0 = R) (lS : ly o 1 = S) (h : ¬ σ R 1 ≤ nI i) (ea : f_X4_at R (nI i) σ = some x) (h3 : x < -3) (h33 : ¬ x = -33) (hL : L + 1 < 50) : fb_X2_workOut_6 K o a b c (nI (L + 1 + 1)) (nI i) σ = K (nI (L + 1)) (nI (i + 1)) (bzSt σ S L (pvJoin (-x) (σ S L) (σ S (L + 1)))) := by
  unfold fb_X2_workOut_6
  have g1 : ¬ nI (L + 1 + 1) < nI 2 := nI_nlt (by omega) (by omega)
  have g2 : ¬ nI 50 < nI (L + 1 + 1) := nI_nlt (by omega) (by decide)
  rw [lR, if_neg h, ea, bzBdS, if_pos h3, if_neg h33, if_neg (show ¬ nI (L + 1 + 1) < 2 from g1), if_neg (show ¬ 50 < nI (L + 1 + 1) from g2)]
  rw [bzLetS, pk_m1, nI_pred, bzGdT (bzIn_nI (show L < 50 by omega) (by decide)), bzGdT (bzIn_nI hL (by decide)), lS, clN (show L < 2 ^ 31 by omega), clN (show L + 1 < 2 ^ 31 by omega), jo_some, bzBdS, bzGdT (bzIn_nI (show L < 50 by omega) (by decide)), bzLetS, bzLetS, nI_1]
end
theorem wo_c {o R S Q : Nat} {a b c : Int32} (ko : kd o = 2) (lR : ly o 0 = R) (lS : ly o 1 = S) (kR : kd R = 4) (lQ : ly R 0 = Q) (nQ : ln Q = 50) (dR : R ≠ S) (dQ : Q ≠ S) {n : Nat} (hn : n ≤ 50) : ∀ (rs : List Int32) (i : Nat), i + rs.length = n → ∀ (F : Nat) (st : List Int32) (σ : bzS), rs.length < F → st.length ≤ i → σ R 1 = nI n → (∀ j, j < rs.length → σ Q (i + j) = rs.getD j 0) → skS (σ S) st → ∃ τ, fl_X2_workOut_6 o a b c F (nI st.length) (nI i) σ = some (pvBot (rs.foldl (pvStep a b c) st), τ) ∧ ∀ k, k ≠ S → τ k = σ k := by
  intro rs
  induction rs with
  | nil =>
    intro i hi F st σ hF hst h1 hq hs
    rw [List.length_nil] at hi hF
    obtain ⟨F, rfl⟩ : ∃ x, F = x + 1 := ⟨F - 1, by omega⟩
    have ei : i = n := by omega
    refine ⟨σ, ?_, fun k _ => rfl⟩
    show fb_X2_workOut_6 (fl_X2_workOut_6 o a b c F) o a b c (nI st.length) (nI i) σ = _
    unfold fb_X2_workOut_6
    rw [lR, h1, ei, if_pos (Int32.le_refl _), lS, List.foldl_nil]
    cases st with
    | nil => rw [List.length_nil, if_pos (show nI 0 ≤ 0 by decide)]; rfl
    | cons x r =>
      have h0 := hs 0 (by rw [List.length_cons]; omega)
      rw [Nat.sub_zero] at h0
      rw [List.length_cons] at hst
      rw [if_neg (nI_nle (by rw [List.length_cons]; omega) (by rw [List.length_cons]; omega)), h0]; rfl
  | cons x xs ih =>
    intro i hi F st σ hF hst h1 hq hs
    rw [List.length_cons] at hi hF
    obtain ⟨F, rfl⟩ : ∃ x, F = x + 1 := ⟨F - 1, by omega⟩
    have hx : σ Q i = x := hq 0 (by rw [List.length_cons]; omega)
    have ea : f_X4_at R (nI i) σ = some x := by rw [at_c kR lQ nQ h1 (by omega) hn (by omega), hx]
    have hq2 : ∀ j, j < xs.length → σ Q (i + 1 + j) = xs.getD j 0 := fun j hj => by
      rw [show i + 1 + j = i + (j + 1) by omega, hq (j + 1) (by rw [List.length_cons]; omega), List.getD_cons_succ]
    have cut0 : ¬ σ R 1 ≤ nI i := by rw [h1]; exact nI_ge (show i < n by omega) (by omega)
    have go : ∀ (st' : List Int32) (σ' : bzS), pvStep a b c st x = st' → fb_X2_workOut_6 (fl_X2_workOut_6 o a b c F) o a b c (nI st.length) (nI i) σ = fl_X2_workOut_6 o a b c F (nI st'.length) (nI (i + 1)) σ' → st'.length ≤ i + 1 → (∀ k, k ≠ S → σ' k = σ k) → skS (σ' S) st' → ∃ τ, fl_X2_workOut_6 o a b c (F + 1) (nI st.length) (nI i) σ = some (pvBot ((x :: xs).foldl (pvStep a b c) st), τ) ∧ ∀ k, k ≠ S → τ k = σ k := by
      intro st' σ' h0 hb h2 h3 h4
      obtain ⟨τ, t1, t2⟩ := ih (i + 1) (by omega) F st' σ' (by omega) h2 (by rw [h3 R dR]; exact h1) (fun j hj => by rw [h3 Q dQ]; exact hq2 j hj) h4
      refine ⟨τ, ?_, fun k hk => by rw [t2 k hk, h3 k hk]⟩
      rw [List.foldl_cons, h0]
      exact hb.trans t1
    by_cases c3 : x < -3
    · cases st with
      | nil => exact go [] σ (pv_b0 c3) (wo_b0 lR cut0 ea c3) (Nat.zero_le _) (fun k _ => rfl) hs
      | cons y r =>
        have hy : σ S r.length = y := sk_top hs
        rw [List.length_cons] at hst
        by_cases c33 : x = -33
        · refine go ((if y = 0 then 1 else 0) :: r) (bzSt σ S r.length (if y = 0 then 1 else 0)) (pv_b1 c3 c33) ?_ (by rw [List.length_cons]; omega) (fun k hk => st_o hk) (by rw [st_s]; exact sk_set (sk_tail hs))
          rw [List.length_cons, List.length_cons, wo_b lR lS cut0 ea c3 c33 (by omega), hy]
        · cases r with
          | nil => exact go [y] σ (pv_c1 c3 c33) (wo_c1 lR cut0 ea c3 c33) (by rw [List.length_singleton]; omega) (fun k _ => rfl) hs
          | cons z r =>
            have hz : σ S r.length = z := sk_top (sk_tail hs)
            rw [List.length_cons] at hst hy
            refine go (pvJoin (-x) z y :: r) (bzSt σ S r.length (pvJoin (-x) z y)) (pv_c2 c3 c33) ?_ (by rw [List.length_cons]; omega) (fun k hk => st_o hk) (by rw [st_s]; exact sk_set (sk_tail (sk_tail hs)))
            rw [List.length_cons, List.length_cons, List.length_cons, wo_c2 lR lS cut0 ea c3 c33 (by omega), hy, hz]
    · refine go (pvOp x a b c :: st) (bzSt σ S st.length (pvOp x a b c)) (pv_a c3) ?_ (by rw [List.length_cons]; omega) (fun k hk => st_o hk) (by rw [st_s]; exact sk_set hs)
      rw [List.length_cons, wo_a lR lS cut0 ea c3 (by omega)]
/-- what a text gives -/
def pvVal (t : Nat → Int32) (e u : Nat) (a b c : Int32) : Int32 := match ptRead t e u ptFuel 0 0 0 with
  | some r => pvBot (r.1.foldl (pvStep a b c) [])
  | none => 0
theorem pvVal_of {t : Nat → Int32} {e u : Nat} {a b c : Int32} {r : List Int32 × Nat × Bool} (h : ptRead t e u ptFuel 0 0 0 = some r) : pvVal t e u a b c = pvBot (r.1.foldl (pvStep a b c) []) := by
  unfold pvVal; rw [h]
theorem law_c {σ : bzS} {o u : Nat} {e a b c : Int32} {t : Nat → Int32} (h : bzLR (σ o 2) (σ (o + 1) 1) (σ (o + 2)) e t u) (ho : kd o = 2 ∧ ly o 0 = o + 1 ∧ ly o 1 = o + 3 ∧ kd (o + 1) = 4 ∧ ly (o + 1) 0 = o + 2 ∧ ln (o + 2) = 50) :
    (σ o 2 = 0 ∧ e = -1) ∨ (¬ σ o 2 = 0 ∧ ¬ e < 0 ∧ ∃ τ, f_X2_workOut o a b c σ = some (pvVal t e.toNatClampNeg u a b c, τ) ∧ ∀ k, k ≠ o + 3 → τ k = σ k) := by
  rcases h with ⟨h1, h2⟩ | ⟨h1, k, n, hk, rfl, hn, h4, ms, h5, h6, h7⟩
  · exact Or.inl ⟨h2, h1⟩
  · obtain ⟨o1, o2, o3, o4, o5, o6⟩ := ho
    right
    refine ⟨by rw [h1]; exact one_ne, nI_n0 (by omega), ?_⟩
    obtain ⟨τ, t1, t2⟩ := wo_c (a := a) (b := b) (c := c) o1 o2 o3 o4 o5 o6 (by omega) (by omega) hn ms 0 (by omega) 2000 [] σ (by omega) (Nat.le_refl _) h4 (fun j hj => by rw [Nat.zero_add]; exact h7 j (by omega)) (fun j hj => absurd hj (Nat.not_lt_zero _))
    refine ⟨τ, ?_, t2⟩
    unfold f_X2_workOut
    rw [bzGdT o1, nI_clamp (show k < 2 ^ 31 by omega), pvVal_of h5]
    exact t1
def pHold (n x : Int32) : Int32 := if x < 0 then 0 else if n < x then n else x
theorem hold_c {n x : Int32} (hn : 0 < n) (s : bzS) : bzBd (f_J_min n x) (fun y => bzBd (f_J_max 0 y) (fun z => some (z, s))) = some (pHold n x, s) := by
  unfold f_J_min f_J_max pHold
  by_cases h1 : x < n
  · rw [if_pos h1]
    simp only [bzBd]
    have h4 : ¬ n < x := fun h => Int32.lt_irrefl (Int32.lt_trans h h1)
    by_cases h2 : 0 < x
    · have h3 : ¬ x < 0 := fun h => Int32.lt_irrefl (Int32.lt_trans h h2)
      rw [if_pos h2, if_neg h3, if_neg h4]
    · rw [if_neg h2]
      by_cases h3 : x < 0
      · rw [if_pos h3]
      · rw [if_neg h3, if_neg h4, Int32.le_antisymm (le_of_nlt h2) (le_of_nlt h3)]
  · rw [if_neg h1]
    simp only [bzBd]
    have h3 : ¬ x < 0 := fun h => h1 (Int32.lt_trans h hn)
    rw [if_pos hn, if_neg h3]
    by_cases h4 : n < x
    · rw [if_pos h4]
    · rw [if_neg h4, Int32.le_antisymm (le_of_nlt h1) (le_of_nlt h4)]
theorem hold_m {n x : Int32} : f_X10_held x 0 n = some (pHold n x) := by
  unfold f_X10_held pHold
  by_cases h1 : x < 0
  · rw [if_neg (Int32.not_le.mpr h1), if_pos h1]
  · rw [if_pos (le_of_nlt h1), if_neg h1]
    by_cases h2 : n < x
    · rw [if_neg (Int32.not_le.mpr h2), if_pos h2]
    · rw [if_pos (le_of_nlt h2), if_neg h2]
/-- what a use gives, by the row -/
def pLaw (f : Nat → Int32) (u : Nat) (a b c : Int32) : Int32 :=
  if f (10 + u) < 0 then (if u = 0 then pHold 20 b else pHold 9 (a / 10)) else pHold (if u = 0 then 20 else 9) (pvVal (fun j => f (154 + 50 * u + j)) (f (10 + u)).toNatClampNeg u a b c)
def bzLw (f : Nat → Int32) : Prop := ∀ u, u = 0 ∨ u = 1 → f (10 + u) = -1 ∨ ∃ k : Nat, k ≤ 50 ∧ f (10 + u) = nI k ∧ ∃ ms, ptRead (fun j => f (154 + 50 * u + j)) k u ptFuel 0 0 0 = some (ms, k, true)
theorem lw_of_cr {σ : bzS} {b : Nat} {f : Nat → Int32} (h : bzCR σ b f) : bzLw f := by
  intro u hu
  have g : ∀ {th sz e : Int32} {mk t : Nat → Int32}, bzLR th sz mk e t u → e = -1 ∨ ∃ k : Nat, k ≤ 50 ∧ e = nI k ∧ ∃ ms, ptRead t k u ptFuel 0 0 0 = some (ms, k, true) := by
    rintro th sz e mk t (⟨h1, -⟩ | ⟨-, k, n, hk, he, -, -, ms, h5, -, -⟩)
    · exact Or.inl h1
    · exact Or.inr ⟨k, hk, he, ms, h5⟩
  rcases hu with rfl | rfl
  · exact g h.2.1
  · exact g h.2.2
theorem gv_c {σ : bzS} {b : Nat} {f : Nat → Int32} (hb : b = 1 ∨ b = 54) (h : bzCR σ b f) {u : Nat} (hu : u = 0 ∨ u = 1) (a1 a2 a3 : Int32) : ∃ τ, f_X0_given (b + 1) (nI u) a1 a2 a3 σ = some (pLaw f u a1 a2 a3, τ) ∧ ∀ k, k ≠ b + 12 → k ≠ b + 16 → τ k = σ k := by
  have e0 : ¬ (nI 1 : Int32) = 0 := by decide
  have m1 : (-1 : Int32) < 0 := by decide
  rcases hu with rfl | rfl
  · have w := law_c (o := b + 9) (a := a1) (b := a2) (c := a3) h.2.1 (by rcases hb with rfl | rfl <;> exact ⟨rfl, rfl, rfl, rfl, rfl, rfl⟩)
    have kk : kd (b + 1) = 0 ∧ ly (b + 1) 3 = b + 9 ∧ kd (b + 9) = 2 := by rcases hb with rfl | rfl <;> exact ⟨rfl, rfl, rfl⟩
    rcases w with ⟨w1, w2⟩ | ⟨w1, w2, τ, t1, t2⟩
    · refine ⟨σ, ?_, fun k _ _ => rfl⟩
      have ep : pLaw f 0 a1 a2 a3 = pHold 20 a2 := by
        unfold pLaw; rw [if_pos (show f (10 + 0) < 0 by rw [show f (10 + 0) = -1 from w2]; exact m1), if_pos rfl]
      rw [ep]
      simp only [f_X0_given, f_X0_lawOf, bzGdT kk.1, bzBdS, if_pos (show (nI 0 : Int32) = 0 from rfl), kk.2.1, bzOp, bzGdT kk.2.2, w1, if_true]
      exact hold_c (by decide) σ
    · refine ⟨τ, ?_, fun k hk _ => t2 k (by omega)⟩
      have ep : pLaw f 0 a1 a2 a3 = pHold 20 (pvVal (fun j => f (154 + j)) (f 10).toNatClampNeg 0 a1 a2 a3) := by
        unfold pLaw; rw [if_neg (show ¬ f (10 + 0) < 0 from w2), if_pos rfl]
      rw [ep]
      simp only [f_X0_given, f_X0_lawOf, bzGdT kk.1, bzBdS, if_pos (show (nI 0 : Int32) = 0 from rfl), kk.2.1, bzOp, bzGdT kk.2.2, if_neg w1, t1, bzBpS]
      exact hold_c (by decide) τ
  · have w := law_c (o := b + 13) (a := a1) (b := a2) (c := a3) h.2.2 (by rcases hb with rfl | rfl <;> exact ⟨rfl, rfl, rfl, rfl, rfl, rfl⟩)
    have kk : kd (b + 1) = 0 ∧ ly (b + 1) 4 = b + 13 ∧ kd (b + 13) = 2 := by rcases hb with rfl | rfl <;> exact ⟨rfl, rfl, rfl⟩
    rcases w with ⟨w1, w2⟩ | ⟨w1, w2, τ, t1, t2⟩
    · refine ⟨σ, ?_, fun k _ _ => rfl⟩
      have ep : pLaw f 1 a1 a2 a3 = pHold 9 (a1 / 10) := by
        unfold pLaw; rw [if_pos (show f (10 + 1) < 0 by rw [show f (10 + 1) = -1 from w2]; exact m1), if_neg (by decide)]
      rw [ep]
      simp only [f_X0_given, f_X0_lawOf, bzGdT kk.1, bzBdS, if_neg e0, kk.2.1, bzOp, bzGdT kk.2.2, w1, if_true]
      exact hold_c (by decide) σ
    · refine ⟨τ, ?_, fun k _ hk => t2 k (by omega)⟩
      have ep : pLaw f 1 a1 a2 a3 = pHold 9 (pvVal (fun j => f (204 + j)) (f 11).toNatClampNeg 1 a1 a2 a3) := by
        unfold pLaw; rw [if_neg (show ¬ f (10 + 1) < 0 from w2), if_neg (by decide)]
      rw [ep]
      simp only [f_X0_given, f_X0_lawOf, bzGdT kk.1, bzBdS, if_neg e0, kk.2.1, bzOp, bzGdT kk.2.2, if_neg w1, t1, bzBpS]
      exact hold_c (by decide) τ
/-- the reference's walk over a text of the row -/
theorem walks_m {σ : bzS} {u e : Nat} {a b c : Int32} {t : Nat → Int32} {r : List Int32 × Nat × Bool} (hu : u = 0 ∨ u = 1) (he : e ≤ 50) (h10 : σ 96 (10 + u) = nI e) (ht : ∀ i, i < e → σ 96 (154 + 50 * u + i) = t i) (hr : ptRead t e u ptFuel 0 0 0 = some r) :
    ∃ v τ, f_X10_walks 95 (nI u) a b c σ = some (v, τ) ∧ wkF σ τ ∧ τ 95 9 = nI r.2.1 ∧ τ 95 15 = (if r.2.2 = true ∧ r.2.1 = e then 1 else 0) ∧ (r.2.2 = true → v = pvBot (r.1.foldl (pvStep a b c) [])) := by
  have i10 : (10 : Int32) + nI u = nI (10 + u) := by rw [show (10 : Int32) = nI 10 from rfl, nI_add]
  have hin : bzIn (nI (10 + u)) 254 := bzIn_nI (by rcases hu with rfl | rfl <;> decide) (by decide)
  have ec : (nI (10 + u)).toNatClampNeg = 10 + u := clN (by omega)
  have s96 : bzSt (bzSt σ 95 8 (nI u)) 95 9 0 96 (10 + u) = nI e := by rw [st_o (by decide), st_o (by decide)]; exact h10
  let ω := bzSt (bzSt (bzSt (bzSt (bzSt (bzSt (bzSt (bzSt σ 95 8 (nI u)) 95 9 0) 95 10 (nI e)) 95 11 0) 95 15 1) 95 12 a) 95 13 b) 95 14 c
  have hω : wkS ω t u e 0 0 true a b c := ⟨rfl, rfl, rfl, rfl, rfl, rfl, rfl, rfl, ht⟩
  have fω : wkF σ ω := ((((((((wkF.st (by decide) (by decide)).trans (wkF.st (by decide) (by decide))).trans (wkF.st (by decide) (by decide))).trans (wkF.st (by decide) (by decide))).trans (wkF.st (by decide) (by decide))).trans (wkF.st (by decide) (by decide))).trans (wkF.st (by decide) (by decide))).trans (wkF.st (by decide) (by decide)))
  obtain ⟨v, τ, t1, t2, t3, t4⟩ := wk_main he hu 60 0 0 0 r (by decide) (by decide) (Nat.zero_le _) hr 60 (by decide) ω hω
  have t1 : f_X10_whole 95 ω = some (v, τ) := t1
  obtain ⟨b1, b2, b3, b4⟩ := ptRead_b _ _ _ _ _ (Nat.zero_le _) hr
  obtain ⟨s1, s2, s3⟩ := wstop t2
  have s10 : τ 95 10 = nI e := t2.2.2.1
  have hv : r.2.2 = true → v = pvBot (r.1.foldl (pvStep a b c) []) := fun h => by rw [t4 h]; rfl
  have hw : f_X10_walks 95 (nI u) a b c σ = bzBp (f_X10_whole 95 ω) (fun x11 σ12 => if (σ12 95 15) = 0 then (bzLet (bzSt σ12 95 15 0) (fun σ14 => some (x11, σ14))) else (if (σ12 95 9) = (σ12 95 10) then (bzLet (bzSt σ12 95 15 1) (fun σ17 => some (x11, σ17))) else (bzLet (bzSt σ12 95 15 0) (fun σ16 => some (x11, σ16))))) := by
    unfold f_X10_walks
    rw [g_95]
    simp only [bzLet, l_95_0]
    rw [i10, bzGdT hin, ec, s96]
  rw [hw, t1, bzBpS]
  by_cases c1 : r.2.2 = true
  · rw [if_neg (s2 c1), s3, s10]
    by_cases c2 : r.2.1 = e
    · rw [if_pos (by rw [c2])]
      refine ⟨v, _, rfl, (fω.trans t3).trans (wkF.st (by decide) (by decide)), ?_, ?_, hv⟩
      · rw [st_s, pk_un (by decide)]; exact s3
      · rw [st_s, pk_us, if_pos ⟨c1, c2⟩]
    · rw [if_neg (fun q => c2 ((nI_eq (by omega) (by omega)).mp q))]
      refine ⟨v, _, rfl, (fω.trans t3).trans (wkF.st (by decide) (by decide)), ?_, ?_, hv⟩
      · rw [st_s, pk_un (by decide)]; exact s3
      · rw [st_s, pk_us, if_neg (fun q => c2 q.2)]
  · rw [if_pos (s1 (by cases hx : r.2.2 with | false => rfl | true => exact absurd hx c1))]
    refine ⟨v, _, rfl, (fω.trans t3).trans (wkF.st (by decide) (by decide)), ?_, ?_, hv⟩
    · rw [st_s, pk_un (by decide)]; exact s3
    · rw [st_s, pk_us, if_neg (fun q => c1 q.1)]
theorem lw_m {σ : bzS} (hl : bzLw (σ 96)) {u : Nat} (hu : u = 0 ∨ u = 1) (a b c : Int32) : ∃ τ, f_X10_lawOf 95 (nI u) a b c σ = some (pLaw (σ 96) u a b c, τ) ∧ wkF σ τ := by
  have i10 : (10 : Int32) + nI u = nI (10 + u) := by rw [show (10 : Int32) = nI 10 from rfl, nI_add]
  have hin : bzIn (nI (10 + u)) 254 := bzIn_nI (by rcases hu with rfl | rfl <;> decide) (by decide)
  have ec : (nI (10 + u)).toNatClampNeg = 10 + u := clN (by omega)
  have e0 : ¬ (nI 1 : Int32) = 0 := by decide
  have hd : f_X10_lawOf 95 (nI u) a b c σ = if σ 96 (10 + u) < 0 then (if nI u = 0 then some (pHold 20 b, σ) else some (pHold 9 (a / 10), σ)) else bzBp (f_X10_walks 95 (nI u) a b c σ) (fun x s => if nI u = 0 then some (pHold 20 x, s) else some (pHold 9 x, s)) := by
    unfold f_X10_lawOf
    rw [g_95]
    simp only [bzLet, l_95_0]
    rw [i10, bzGdT hin, ec]
    simp only [hold_m, bzBdS]
    by_cases h0 : nI u = 0
    · simp only [if_pos h0]
    · simp only [if_neg h0]
  rw [hd]
  rcases hl u hu with h1 | ⟨k, hk, h1, ms, h2⟩
  · rw [if_pos (by rw [h1]; decide)]
    refine ⟨σ, ?_, wkF.refl σ⟩
    unfold pLaw
    rw [if_pos (show σ 96 (10 + u) < 0 by rw [h1]; decide)]
    rcases hu with rfl | rfl
    · rw [if_pos (show nI 0 = 0 from rfl), if_pos rfl]
    · rw [if_neg e0, if_neg (by decide)]
  · have n0 : ¬ σ 96 (10 + u) < 0 := by rw [h1]; exact nI_n0 (by omega)
    obtain ⟨v, τ, t1, t2, t3, t4, t5⟩ := walks_m (a := a) (b := b) (c := c) hu hk h1 (fun i _ => rfl) h2
    rw [if_neg n0, t1, bzBpS, t5 rfl]
    refine ⟨τ, ?_, t2⟩
    unfold pLaw
    rw [if_neg n0, h1, nI_clamp (by omega), pvVal_of h2]
    rcases hu with rfl | rfl
    · rw [if_pos (show nI 0 = 0 from rfl), if_pos rfl]
    · rw [if_neg e0, if_neg (by decide)]
