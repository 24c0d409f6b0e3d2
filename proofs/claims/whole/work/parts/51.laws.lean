set_option linter.unusedVariables false
/-! THE LAWS: what is read, purely -/
theorem no_some {α : Type} {a : α} {P : Prop} (h : none = some a) : P := by cases h
theorem ptAt_lt {t : Nat → Int32} {e p : Nat} (h : ¬ ptAt t e p = -1) : p < e := by
  by_cases c : p < e
  · exact c
  · exact absurd (show ptAt t e p = -1 from if_neg c) h
theorem ptAt_out {t : Nat → Int32} {e p : Nat} (h : e ≤ p) : ptAt t e p = -1 := if_neg (by omega)
theorem ptLv_in {t : Nat → Int32} {e p : Nat} (h : ptLv (ptAt t e p) < 5) : p < e := by
  refine ptAt_lt (t := t) (fun c => ?_)
  rw [c] at h
  exact absurd h (by decide)
theorem ptLv_cs {c : Int32} {lv : Nat} (h : ptLv c = lv) (h5 : lv < 5) : (lv = 0 ∧ c = 124) ∨ (lv = 1 ∧ c = 38) ∨ (lv = 2 ∧ (c = 60 ∨ c = 61 ∨ c = 62)) ∨ (lv = 3 ∧ (c = 43 ∨ c = 45)) ∨ (lv = 4 ∧ (c = 42 ∨ c = 47 ∨ c = 37)) := by
  unfold ptLv at h
  by_cases c0 : c = 124
  · rw [if_pos c0] at h; exact Or.inl ⟨h.symm, c0⟩
  rw [if_neg c0] at h
  by_cases c1 : c = 38
  · rw [if_pos c1] at h; exact Or.inr (Or.inl ⟨h.symm, c1⟩)
  rw [if_neg c1] at h
  by_cases c2 : c = 60 ∨ c = 61 ∨ c = 62
  · rw [if_pos c2] at h; exact Or.inr (Or.inr (Or.inl ⟨h.symm, c2⟩))
  rw [if_neg c2] at h
  by_cases c3 : c = 43 ∨ c = 45
  · rw [if_pos c3] at h; exact Or.inr (Or.inr (Or.inr (Or.inl ⟨h.symm, c3⟩)))
  rw [if_neg c3] at h
  by_cases c4 : c = 42 ∨ c = 47 ∨ c = 37
  · rw [if_pos c4] at h; exact Or.inr (Or.inr (Or.inr (Or.inr ⟨h.symm, c4⟩)))
  rw [if_neg c4] at h
  omega
theorem lv_c (c : Int32) : f_X3_levelOf c = some (nI (ptLv c)) := by
  by_cases h0 : c = 124
  · subst h0; rfl
  by_cases h1 : c = 38
  · subst h1; rfl
  by_cases h2 : c = 60
  · subst h2; rfl
  by_cases h3 : c = 61
  · subst h3; rfl
  by_cases h4 : c = 62
  · subst h4; rfl
  by_cases h5 : c = 43
  · subst h5; rfl
  by_cases h6 : c = 45
  · subst h6; rfl
  by_cases h7 : c = 42
  · subst h7; rfl
  by_cases h8 : c = 47
  · subst h8; rfl
  by_cases h9 : c = 37
  · subst h9; rfl
  simp only [f_X3_levelOf, ptLv, h0, h1, h2, h3, h4, h5, h6, h7, h8, h9, if_false, or_self]
  rfl
theorem dg_of {c : Int32} (h : ptDg c = true) : ∃ d : Nat, d ≤ 9 ∧ c = nI (48 + d) := by
  obtain ⟨h1, h2⟩ := of_decide_eq_true h
  rw [Int32.le_iff_toInt_le] at h1 h2
  have e1 : (48 : Int32).toInt = 48 := rfl
  have e2 : (57 : Int32).toInt = 57 := rfl
  refine ⟨c.toInt.toNat - 48, by omega, ?_⟩
  apply Int32.toInt_inj.mp
  rw [nI_toInt (by omega)]
  omega
theorem dg_in {t : Nat → Int32} {e p : Nat} (h : ptDg (ptAt t e p) = true) : p < e := by
  refine ptAt_lt (t := t) (fun c => ?_)
  rw [c] at h
  exact absurd h (by decide)
theorem dg_v (v d : Nat) : nI v * 10 + nI (48 + d) - 48 = nI (v * 10 + d) := by
  rw [show (10 : Int32) = nI 10 from rfl, show (48 : Int32) = nI 48 from rfl, pk_mul, nI_add, pk_sub (by omega)]
  congr 1
  omega
theorem ptNum_b (t : Nat → Int32) (e : Nat) : ∀ k (v : Nat) p, p ≤ e → ∃ v' q : Nat, ptNum t e k (nI v) p = (nI v', q) ∧ p ≤ q ∧ q ≤ e ∧ v' + 1 ≤ (v + 1) * 10 ^ k := by
  intro k
  induction k with
  | zero => intro v p hp; exact ⟨v, p, rfl, Nat.le_refl _, hp, by simp⟩
  | succ k ih =>
    intro v p hp
    by_cases h : ptDg (ptAt t e p) = true
    · obtain ⟨d, hd, ed⟩ := dg_of h
      obtain ⟨v', q, h1, h2, h3, h4⟩ := ih (v * 10 + d) (p + 1) (dg_in h)
      refine ⟨v', q, ?_, by omega, h3, ?_⟩
      · show (if ptDg (ptAt t e p) = true then _ else _) = _
        rw [if_pos h, ed, dg_v]; exact h1
      · have e1 : (v * 10 + d + 1) * 10 ^ k ≤ ((v + 1) * 10) * 10 ^ k := Nat.mul_le_mul_right _ (by omega)
        have e2 : (v + 1) * 10 ^ (k + 1) = ((v + 1) * 10) * 10 ^ k := by rw [Nat.pow_succ, Nat.mul_comm (10 ^ k) 10, ← Nat.mul_assoc]
        omega
    · refine ⟨v, p, ?_, Nat.le_refl _, hp, ?_⟩
      · show (if ptDg (ptAt t e p) = true then _ else _) = _
        rw [if_neg h]
      · have : 1 ≤ 10 ^ (k + 1) := Nat.pow_pos (by decide)
        have := Nat.mul_le_mul_left (v + 1) this
        omega
theorem ptNum_4 {t : Nat → Int32} {e p : Nat} (h : ptDg (ptAt t e p) = true) : ∃ v q : Nat, ptNum t e 4 0 p = (nI v, q) ∧ p < q ∧ q ≤ e ∧ v ≤ 9999 := by
  obtain ⟨d, hd, ed⟩ := dg_of h
  obtain ⟨v', q, h1, h2, h3, h4⟩ := ptNum_b t e 3 d (p + 1) (dg_in h)
  refine ⟨v', q, ?_, by omega, h3, ?_⟩
  · show (if ptDg (ptAt t e p) = true then _ else _) = _
    rw [if_pos h, ed, show (0 : Int32) = nI 0 from rfl, dg_v, Nat.zero_mul, Nat.zero_add]; exact h1
  · have : (10 : Nat) ^ 3 = 1000 := rfl
    rw [this] at h4
    omega
/-- what a reading keeps: place, marks, progress -/
def ptOk (e p L : Nat) (r : List Int32 × Nat × Bool) : Prop := p ≤ r.2.1 ∧ r.2.1 ≤ e ∧ r.1.length + p ≤ L + r.2.1 ∧ (r.2.2 = true → p < r.2.1)
theorem ptMore_f {t : Nat → Int32} {e lv : Nat} {sub : Nat → ptRes} (k : Nat) (m : List Int32) (p : Nat) : ptMore t e lv sub k m p false = some (m, p, false) := by
  cases k with
  | zero => rfl
  | succ k => exact if_neg (fun h => Bool.noConfusion h.1)
theorem ptMore_n {t : Nat → Int32} {e lv : Nat} {sub : Nat → ptRes} (k : Nat) (m : List Int32) (p : Nat) (ok : Bool) (h : ¬ ptLv (ptAt t e p) = lv) : ptMore t e lv sub k m p ok = some (m, p, ok) := by
  cases k with
  | zero => rfl
  | succ k => exact if_neg (fun h2 => h h2.2)
theorem ptMore_s {t : Nat → Int32} {e lv : Nat} {sub : Nat → ptRes} {k : Nat} {m : List Int32} {p : Nat} (h : ptLv (ptAt t e p) = lv) {r : List Int32 × Nat × Bool} (hs : sub (p + 1) = some r) : ptMore t e lv sub (k + 1) m p true = ptMore t e lv sub k (m ++ (r.1 ++ [-(ptAt t e p)])) r.2.1 r.2.2 := by
  show (if true = true ∧ ptLv (ptAt t e p) = lv then _ else _) = _
  rw [if_pos ⟨rfl, h⟩, hs]
theorem ptMore_z {t : Nat → Int32} {e lv : Nat} {sub : Nat → ptRes} {k : Nat} {m : List Int32} {p : Nat} (h : ptLv (ptAt t e p) = lv) (hs : sub (p + 1) = none) : ptMore t e lv sub (k + 1) m p true = none := by
  show (if true = true ∧ ptLv (ptAt t e p) = lv then _ else _) = _
  rw [if_pos ⟨rfl, h⟩, hs]
theorem ptMore_b {t : Nat → Int32} {e lv p0 L0 : Nat} {sub : Nat → ptRes} (h5 : lv < 5) (hs : ∀ p r, p ≤ e → sub p = some r → ptOk e p 0 r) : ∀ k m p ok r, ptOk e p0 L0 (m, p, ok) → ptMore t e lv sub k m p ok = some r → ptOk e p0 L0 r := by
  intro k
  induction k with
  | zero => intro m p ok r h h2; exact Option.some.inj h2 ▸ h
  | succ k ih =>
    intro m p ok r h h2
    cases ok with
    | false => rw [ptMore_f] at h2; exact Option.some.inj h2 ▸ h
    | true =>
      by_cases hl : ptLv (ptAt t e p) = lv
      · have hp : p < e := ptLv_in (t := t) (by omega)
        cases hsb : sub (p + 1) with
        | none => rw [ptMore_z hl hsb] at h2; exact no_some h2
        | some q =>
          rw [ptMore_s hl hsb] at h2
          obtain ⟨a1, a2, a3, a4⟩ := hs _ _ hp hsb
          obtain ⟨b1, b2, b3, b4⟩ := h
          refine ih (m ++ (q.1 ++ [-(ptAt t e p)])) q.2.1 q.2.2 r ⟨?_, a2, ?_, ?_⟩ h2
          · show p0 ≤ q.2.1
            have b1 : p0 ≤ p := b1
            omega
          · show (m ++ (q.1 ++ [-(ptAt t e p)])).length + p0 ≤ L0 + q.2.1
            have b3 : m.length + p0 ≤ L0 + p := b3
            rw [List.length_append, List.length_append, List.length_singleton]
            omega
          · intro _
            show p0 < q.2.1
            have b1 : p0 ≤ p := b1
            omega
      · rw [ptMore_n _ _ _ _ hl] at h2; exact Option.some.inj h2 ▸ h
theorem ptNm_in {t : Nat → Int32} {e p u : Nat} {k : Int32} (h : ptNm u (ptAt t e p) = some k) : p < e := by
  refine ptAt_lt (t := t) (fun c => ?_)
  rw [c] at h
  unfold ptNm at h
  rw [if_neg (by decide), if_neg (by decide)] at h
  by_cases hu : u = 0
  · rw [if_pos hu, if_neg (by decide)] at h; exact no_some h
  · rw [if_neg hu, if_neg (by decide)] at h; exact no_some h
/-- the unit of level 5, case by case -/
def ptUn (t : Nat → Int32) (e u n op p : Nat) : ptRes :=
  if ptDg (ptAt t e p) = true then some ([(ptNum t e 4 0 p).1], (ptNum t e 4 0 p).2, true)
      else match ptNm u (ptAt t e p) with
        | some k => some ([k], p + 1, true)
        | none =>
          if ptAt t e p = 33 ∧ op < 5 then
            match ptRead t e u n 5 (op + 1) (p + 1) with
            | none => none
            | some (m, q, ok) => some (m ++ [-33], q, ok)
          else if ptAt t e p = 40 ∧ op < 5 then
            match ptRead t e u n 0 (op + 1) (p + 1) with
            | none => none
            | some (m, q, ok) => if ok = true ∧ ptAt t e q = 41 then some (m, q + 1, true) else some (m, q, false)
          else some ([], p, false)
theorem ptRead_5 {t : Nat → Int32} {e u n lv op p : Nat} (h : ¬ lv < 5) : ptRead t e u (n + 1) lv op p = ptUn t e u n op p := if_neg h
theorem ptRead_l {t : Nat → Int32} {e u n lv op p : Nat} (h : lv < 5) : ptRead t e u (n + 1) lv op p = (match ptRead t e u n (lv + 1) op p with
      | none => none
      | some (m, q, ok) => ptMore t e lv (fun q => ptRead t e u n (lv + 1) op q) (if lv = 2 then 1 else 50) m q ok) := if_pos h
theorem ptUn_cs {t : Nat → Int32} {e u n op p : Nat} {r : List Int32 × Nat × Bool} (h : ptUn t e u n op p = some r) :
    (ptDg (ptAt t e p) = true ∧ r = ([(ptNum t e 4 0 p).1], (ptNum t e 4 0 p).2, true)) ∨
    (ptDg (ptAt t e p) = false ∧ ∃ k, ptNm u (ptAt t e p) = some k ∧ r = ([k], p + 1, true)) ∨
    (ptDg (ptAt t e p) = false ∧ ptNm u (ptAt t e p) = none ∧ ptAt t e p = 33 ∧ op < 5 ∧ ∃ s, ptRead t e u n 5 (op + 1) (p + 1) = some s ∧ r = (s.1 ++ [-33], s.2.1, s.2.2)) ∨
    (ptDg (ptAt t e p) = false ∧ ptNm u (ptAt t e p) = none ∧ ptAt t e p = 40 ∧ op < 5 ∧ ∃ s, ptRead t e u n 0 (op + 1) (p + 1) = some s ∧ ((s.2.2 = true ∧ ptAt t e s.2.1 = 41 ∧ r = (s.1, s.2.1 + 1, true)) ∨ (¬ (s.2.2 = true ∧ ptAt t e s.2.1 = 41) ∧ r = (s.1, s.2.1, false)))) ∨
    (ptDg (ptAt t e p) = false ∧ ptNm u (ptAt t e p) = none ∧ ¬ (ptAt t e p = 33 ∧ op < 5) ∧ ¬ (ptAt t e p = 40 ∧ op < 5) ∧ r = ([], p, false)) := by
  unfold ptUn at h
  by_cases hd : ptDg (ptAt t e p) = true
  · rw [if_pos hd] at h; exact Or.inl ⟨hd, (Option.some.inj h).symm⟩
  have hd' : ptDg (ptAt t e p) = false := by cases hx : ptDg (ptAt t e p) with | false => rfl | true => exact absurd hx hd
  rw [if_neg hd] at h
  right
  cases hn : ptNm u (ptAt t e p) with
  | some k =>
    rw [hn] at h
    exact Or.inl ⟨hd', k, rfl, (Option.some.inj h).symm⟩
  | none =>
    rw [hn] at h
    right
    have h : (if ptAt t e p = 33 ∧ op < 5 then _ else _) = some r := h
    by_cases h33 : ptAt t e p = 33 ∧ op < 5
    · rw [if_pos h33] at h
      left
      cases hs : ptRead t e u n 5 (op + 1) (p + 1) with
      | none => rw [hs] at h; exact no_some h
      | some s => rw [hs] at h; exact ⟨hd', rfl, h33.1, h33.2, s, rfl, (Option.some.inj h).symm⟩
    rw [if_neg h33] at h
    right
    by_cases h40 : ptAt t e p = 40 ∧ op < 5
    · rw [if_pos h40] at h
      left
      cases hs : ptRead t e u n 0 (op + 1) (p + 1) with
      | none => rw [hs] at h; exact no_some h
      | some s =>
        rw [hs] at h
        refine ⟨hd', rfl, h40.1, h40.2, s, rfl, ?_⟩
        have h : (if s.2.2 = true ∧ ptAt t e s.2.1 = 41 then some (s.1, s.2.1 + 1, true) else some (s.1, s.2.1, false)) = some r := h
        by_cases hc : s.2.2 = true ∧ ptAt t e s.2.1 = 41
        · rw [if_pos hc] at h; exact Or.inl ⟨hc.1, hc.2, (Option.some.inj h).symm⟩
        · rw [if_neg hc] at h; exact Or.inr ⟨hc, (Option.some.inj h).symm⟩
    · rw [if_neg h40] at h
      exact Or.inr ⟨hd', rfl, h33, h40, (Option.some.inj h).symm⟩
theorem ptRead_b {t : Nat → Int32} {e u : Nat} : ∀ n lv op p r, p ≤ e → ptRead t e u n lv op p = some r → ptOk e p 0 r := by
  intro n
  induction n with
  | zero => intro lv op p r _ h; exact no_some h
  | succ n ih =>
    intro lv op p r hp h
    by_cases hl : lv < 5
    · rw [ptRead_l hl] at h
      cases hs : ptRead t e u n (lv + 1) op p with
      | none => rw [hs] at h; exact no_some h
      | some s =>
        rw [hs] at h
        exact ptMore_b hl (fun p r hp h => ih _ _ _ _ hp h) _ _ _ _ _ (ih _ _ _ _ hp hs) h
    · rw [ptRead_5 hl] at h
      rcases ptUn_cs h with ⟨hd, rfl⟩ | ⟨hd, k, hk, rfl⟩ | ⟨hd, hk, h33, ho, s, hs, rfl⟩ | ⟨hd, hk, h40, ho, s, hs, h2⟩ | ⟨hd, hk, h33, h40, rfl⟩
      · obtain ⟨v, q, h1, h2, h3, h4⟩ := ptNum_4 hd
        rw [h1]
        exact ⟨by show p ≤ q; omega, h3, by show 1 + p ≤ 0 + q; omega, fun _ => h2⟩
      · have := ptNm_in hk
        exact ⟨by show p ≤ p + 1; omega, this, by show 1 + p ≤ 0 + (p + 1); omega, fun _ => Nat.lt_succ_self p⟩
      · have hp1 : p < e := ptAt_lt (by rw [h33]; decide)
        obtain ⟨a1, a2, a3, a4⟩ := ih _ _ _ _ hp1 hs
        refine ⟨by show p ≤ s.2.1; omega, a2, ?_, fun h => by show p < s.2.1; omega⟩
        show (s.1 ++ [-33]).length + p ≤ 0 + s.2.1
        rw [List.length_append, List.length_singleton]
        omega
      · have hp1 : p < e := ptAt_lt (by rw [h40]; decide)
        obtain ⟨a1, a2, a3, a4⟩ := ih _ _ _ _ hp1 hs
        rcases h2 with ⟨c1, c2, rfl⟩ | ⟨c1, rfl⟩
        · have hq : s.2.1 < e := ptAt_lt (by rw [c2]; decide)
          exact ⟨by show p ≤ s.2.1 + 1; omega, hq, by show s.1.length + p ≤ 0 + (s.2.1 + 1); omega, fun _ => by show p < s.2.1 + 1; omega⟩
        · exact ⟨by show p ≤ s.2.1; omega, a2, by show s.1.length + p ≤ 0 + s.2.1; omega, fun h => Bool.noConfusion h⟩
      · exact ⟨Nat.le_refl _, hp, by show 0 + p ≤ 0 + p; omega, fun h => Bool.noConfusion h⟩
theorem ptMore_t {t : Nat → Int32} {e lv : Nat} {sub : Nat → ptRes} (hs : ∀ p, ∃ r, sub p = some r) : ∀ k m p ok, ∃ r, ptMore t e lv sub k m p ok = some r := by
  intro k
  induction k with
  | zero => intro m p ok; exact ⟨_, rfl⟩
  | succ k ih =>
    intro m p ok
    cases ok with
    | false => exact ⟨_, ptMore_f _ _ _⟩
    | true =>
      by_cases hl : ptLv (ptAt t e p) = lv
      · obtain ⟨s, hs1⟩ := hs (p + 1)
        rw [ptMore_s hl hs1]; exact ih _ _ _
      · exact ⟨_, ptMore_n _ _ _ _ hl⟩
theorem ptRead_t {t : Nat → Int32} {e u : Nat} : ∀ n lv op p, lv ≤ 5 → (5 - lv) + 1 + 6 * (5 - op) ≤ n → ∃ r, ptRead t e u n lv op p = some r := by
  intro n
  induction n with
  | zero => intro lv op p _ h; omega
  | succ n ih =>
    intro lv op p h5 h
    by_cases hl : lv < 5
    · rw [ptRead_l hl]
      obtain ⟨s, hs⟩ := ih (lv + 1) op p (by omega) (by omega)
      rw [hs]
      exact ptMore_t (fun p => ih (lv + 1) op p (by omega) (by omega)) _ _ _ _
    · rw [ptRead_5 hl]
      unfold ptUn
      by_cases hd : ptDg (ptAt t e p) = true
      · rw [if_pos hd]; exact ⟨_, rfl⟩
      rw [if_neg hd]
      cases hn : ptNm u (ptAt t e p) with
      | some k => exact ⟨_, rfl⟩
      | none =>
        show ∃ r, (if ptAt t e p = 33 ∧ op < 5 then _ else _) = some r
        by_cases h33 : ptAt t e p = 33 ∧ op < 5
        · rw [if_pos h33]
          obtain ⟨s, hs⟩ := ih 5 (op + 1) (p + 1) (by omega) (by omega)
          rw [hs]; exact ⟨_, rfl⟩
        rw [if_neg h33]
        by_cases h40 : ptAt t e p = 40 ∧ op < 5
        · rw [if_pos h40]
          obtain ⟨s, hs⟩ := ih 0 (op + 1) (p + 1) (by omega) (by omega)
          rw [hs]
          by_cases hc : s.2.2 = true ∧ ptAt t e s.2.1 = 41
          · exact ⟨_, if_pos hc⟩
          · exact ⟨_, if_neg hc⟩
        · rw [if_neg h40]; exact ⟨_, rfl⟩
