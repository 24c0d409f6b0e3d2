set_option linter.unusedVariables false
/-! THE INVARIANT. Row cells of the reference: 96 row, 97 kept (f, fk); class: State at b (course b+1, ground b+17, tape b+23, waiting b+25). -/
/-- x is one of 0 .. n -/
def bzUp (n : Nat) (x : Int32) : Prop := ∃ k : Nat, k ≤ n ∧ x = nI k
/-- the byte of a text of e bytes at place p; -1 behind the last -/
def ptAt (t : Nat → Int32) (e p : Nat) : Int32 := if p < e then t p else -1
/-- the level of a sign -/
def ptLv (c : Int32) : Nat := if c = 124 then 0 else if c = 38 then 1 else if c = 60 ∨ c = 61 ∨ c = 62 then 2 else if c = 43 ∨ c = 45 then 3 else if c = 42 ∨ c = 47 ∨ c = 37 then 4 else 5
/-- the mark of a name, for a use -/
def ptNm (u : Nat) (c : Int32) : Option Int32 := if c = 119 then some (-1) else if c = 104 then some (-2) else if c = (if u = 0 then 108 else 102) then some (-3) else none
def ptDg (c : Int32) : Bool := decide (48 ≤ c ∧ c ≤ 57)
/-- a number of at most k further digits from p on: its value, and the place behind it -/
def ptNum (t : Nat → Int32) (e : Nat) : Nat → Int32 → Nat → Int32 × Nat
  | 0, v, p => (v, p)
  | k + 1, v, p => if ptDg (ptAt t e p) then ptNum t e k (v * 10 + ptAt t e p - 48) (p + 1) else (v, p)
/-- what was read: marks in the order of the class, the place behind, whether it is sound -/
abbrev ptRes : Type := Option (List Int32 × Nat × Bool)
/-- signs of a level, each behind its left side: at most k of them -/
def ptMore (t : Nat → Int32) (e lv : Nat) (sub : Nat → ptRes) : Nat → List Int32 → Nat → Bool → ptRes
  | 0, m, p, ok => some (m, p, ok)
  | k + 1, m, p, ok => if ok = true ∧ ptLv (ptAt t e p) = lv then
      match sub (p + 1) with
      | none => none
      | some (m2, p2, ok2) => ptMore t e lv sub k (m ++ (m2 ++ [-(ptAt t e p)])) p2 ok2
    else some (m, p, ok)
/-- the grammar: level 0 T, 1 A, 2 B, 3 S, 4 P, 5 (and on) Q; 'op' of ! and ( are open -/
def ptRead (t : Nat → Int32) (e u : Nat) : Nat → Nat → Nat → Nat → ptRes
  | 0, _, _, _ => none
  | n + 1, lv, op, p =>
    if lv < 5 then
      match ptRead t e u n (lv + 1) op p with
      | none => none
      | some (m, q, ok) => ptMore t e lv (fun q => ptRead t e u n (lv + 1) op q) (if lv = 2 then 1 else 50) m q ok
    else
      let c := ptAt t e p
      if ptDg c = true then some ([(ptNum t e 4 0 p).1], (ptNum t e 4 0 p).2, true)
      else match ptNm u c with
        | some k => some ([k], p + 1, true)
        | none =>
          if c = 33 ∧ op < 5 then
            match ptRead t e u n 5 (op + 1) (p + 1) with
            | none => none
            | some (m, q, ok) => some (m ++ [-33], q, ok)
          else if c = 40 ∧ op < 5 then
            match ptRead t e u n 0 (op + 1) (p + 1) with
            | none => none
            | some (m, q, ok) => if ok = true ∧ ptAt t e q = 41 then some (m, q + 1, true) else some (m, q, false)
          else some ([], p, false)
def ptFuel : Nat := 60
/-- the marks mk (n of them) are those of the text t (e bytes) of use u -/
def bzLaw (mk : Nat → Int32) (n : Nat) (t : Nat → Int32) (e u : Nat) : Prop :=
  ∃ ms : List Int32, ptRead t e u ptFuel 0 0 0 = some (ms, e, true) ∧ ms.length = n ∧ ∀ i, i < n → mk i = ms.getD i 0
/-- a Law of the class (isThere, the marks' size and numbers) against a text of the reference -/
def bzLR (th sz : Int32) (mk : Nat → Int32) (e : Int32) (t : Nat → Int32) (u : Nat) : Prop :=
  (e = -1 ∧ th = 0) ∨ (th = 1 ∧ ∃ k n : Nat, k ≤ 50 ∧ e = nI k ∧ n ≤ 50 ∧ sz = nI n ∧ bzLaw mk n t k u)
/-- of a row's place: the cell (from the State on) and the place where the class keeps it; what it can be at most -/
def mcL : List Nat := [1, 0, 4, 1, 1, 1, 17, 17, 23, 25, 99, 99, 2, 3, 2, 3, 2, 3, 2, 3, 2, 3, 2, 3, 18, 19, 18, 19, 18, 19, 18, 19, 18, 19, 18, 19, 18, 19, 18, 19, 18, 19, 18, 19, 20, 20, 20, 20, 20, 20, 20, 20, 5, 6, 7, 8, 5, 6, 7, 8, 5, 6, 7, 8, 5, 6, 7, 8, 5, 6, 7, 8, 5, 6, 7, 8, 5, 6, 7, 8, 5, 6, 7, 8]
def mjL : List Nat := [8, 4, 4, 5, 6, 7, 5, 6, 1, 1, 0, 1, 0, 0, 1, 1, 2, 2, 3, 3, 4, 4, 5, 5, 0, 0, 1, 1, 2, 2, 3, 3, 4, 4, 5, 5, 6, 6, 7, 7, 8, 8, 9, 9, 0, 1, 2, 3, 4, 5, 6, 7, 0, 0, 0, 0, 1, 1, 1, 1, 2, 2, 2, 2, 3, 3, 3, 3, 4, 4, 4, 4, 5, 5, 5, 5, 6, 6, 6, 6, 7, 7, 7, 7]
def mxL : List Nat := [9999, 0, 8, 99, 99, 99, 60, 15, 50, 20, 0, 0, 9, 9, 9, 9, 9, 9, 9, 9, 9, 9, 9, 9, 9, 99, 9, 99, 9, 99, 9, 99, 9, 99, 9, 99, 9, 99, 9, 99, 9, 99, 9, 99, 255, 255, 255, 255, 255, 255, 255, 255, 6, 9, 9, 12, 6, 9, 9, 12, 6, 9, 9, 12, 6, 9, 9, 12, 6, 9, 9, 12, 6, 9, 9, 12, 6, 9, 9, 12, 6, 9, 9, 12]
def mc (p : Nat) : Nat := mcL.getD p 0
def mj (p : Nat) : Nat := mjL.getD p 0
def mx (p : Nat) : Nat := mxL.getD p 0
/-- places that are a Course's -/
def cpB (p : Nat) : Bool := decide (p = 0 ∨ (2 ≤ p ∧ p ≤ 5) ∨ (12 ≤ p ∧ p < 24) ∨ (52 ≤ p ∧ p < 84))
def plB (p : Nat) : Bool := decide (p < 84 ∧ p ≠ 10 ∧ p ≠ 11)
theorem mp_inj : ∀ p, p < 84 → ∀ q, q < 84 → p ≠ q → mc p ≠ mc q ∨ mj p ≠ mj q := by decide +kernel
/-- a Course of the class at cell b + 1 holds what the row f says -/
def bzCR (σ : bzS) (b : Nat) (f : Nat → Int32) : Prop :=
  (∀ p, cpB p = true → σ (b + mc p) (mj p) = f p) ∧
  bzLR (σ (b + 9) 2) (σ (b + 10) 1) (σ (b + 11)) (f 10) (fun j => f (154 + j)) 0 ∧ bzLR (σ (b + 13) 2) (σ (b + 14) 1) (σ (b + 15)) (f 11) (fun j => f (204 + j)) 1
/-- a State of the class at cell b -/
def bzSR (σ : bzS) (b : Nat) (f : Nat → Int32) : Prop :=
  (∀ p, plB p = true → σ (b + mc p) (mj p) = f p) ∧
  (bzLR (σ (b + 9) 2) (σ (b + 10) 1) (σ (b + 11)) (f 10) (fun j => f (154 + j)) 0 ∧ bzLR (σ (b + 13) 2) (σ (b + 14) 1) (σ (b + 15)) (f 11) (fun j => f (204 + j)) 1) ∧
  (∀ i, i < 50 → nI i < f 8 → σ (b + 24) i = f (84 + i)) ∧ (∀ i, i < 20 → nI i < f 9 → σ (b + 26) i = f (134 + i)) ∧ σ (b + 4) 5 = -1
/-- what the numbers of a row can be (but the year, which runs on in thought) -/
def bzRg (f : Nat → Int32) : Prop :=
  (∀ p, plB p = true → p ≠ 0 → p ≠ 1 → bzUp (mx p) (f p)) ∧ (∀ i, i < 8 → nI i < f 2 → f (55 + 4 * i) ≠ 0)
def bzInv (n : Nat) (σ : bzS) : Prop :=
  bzSR σ 1 (σ 96) ∧ (bzRg (σ 96) ∧ bzUp 9999 (σ 96 0)) ∧ σ 95 7 = -1 ∧
  (∃ k : Nat, k ≤ n ∧ σ 0 2 = nI k ∧ σ 95 5 = nI k ∧ ((k = 0 ∧ σ 95 4 = 0) ∨ (0 < k ∧ σ 95 4 = 1 ∧ bzSR σ 28 (σ 97) ∧ bzRg (σ 97) ∧ bzUp 9999 (σ 97 0)))) ∧
  (∀ k, 1 ≤ k → k ≤ 5 → σ 82 k = σ 100 k) ∧
  (∀ s, s < 4 → (σ (83 + 3 * s) 1 = σ 101 s ∧ (σ 101 s = 0 ∨ σ 101 s = 8 ∨ σ 101 s = 16 ∨ σ 101 s = 32)) ∧ ∃ z : Nat, z ≤ 40 ∧ σ (84 + 3 * s) 1 = nI z ∧ σ 102 s = nI z ∧ ∀ i, i < z → σ (85 + 3 * s) i = σ 103 (40 * s + i)) ∧
  (∃ z : Nat, z ≤ 40 ∧ σ 80 1 = nI z ∧ σ 95 23 = nI z ∧ ∀ i, i < z → σ 81 i = σ 107 i)
theorem bz0_law (u : Nat) (mk t : Nat → Int32) (sz : Int32) : bzLR 0 sz mk (-1) t u := Or.inl ⟨rfl, rfl⟩
theorem bzUp_of {n : Nat} {x : Int32} (h : x.toInt.toNat ≤ n ∧ 0 ≤ x.toInt) : bzUp n x := ⟨x.toInt.toNat, h.1, by
  apply Int32.toInt_inj.mp
  have h3 : x.toInt < 2147483648 := x.toInt_lt
  rw [nI_toInt (by omega)]
  omega⟩
theorem plB_lt {p : Nat} (h : plB p = true) : p < 84 ∧ p ≠ 10 ∧ p ≠ 11 := of_decide_eq_true h
theorem cpB_pl : ∀ p, p < 84 → cpB p = true → plB p = true := by decide +kernel
theorem cpB_lt {p : Nat} (h : cpB p = true) : p < 84 := by have := of_decide_eq_true h; omega
theorem bzInv_0 : bzInv 0 bz0 := by
  refine ⟨⟨?_, ⟨bz0_law 0 _ _ _, bz0_law 1 _ _ _⟩, ?_, ?_, rfl⟩, ⟨⟨?_, ?_⟩, ⟨0, by decide, rfl⟩⟩, rfl, ⟨0, Nat.le_refl _, rfl, rfl, Or.inl ⟨rfl, rfl⟩⟩, ?_, ?_, ⟨0, by decide, rfl, rfl, fun i h => absurd h (Nat.not_lt_zero i)⟩⟩
  · have key : ∀ p, p < 84 → plB p = true → bz0 (1 + mc p) (mj p) = bz0 96 p := by decide +kernel
    exact fun p h => key p (plB_lt h).1 h
  · intro i h1 h2
    exact absurd h2 (nI_nlt (Nat.zero_le i) (by omega))
  · intro i h1 h2
    exact absurd h2 (nI_nlt (Nat.zero_le i) (by omega))
  · have key : ∀ p, p < 84 → plB p = true → p ≠ 0 → p ≠ 1 → (bz0 96 p).toInt.toNat ≤ mx p ∧ 0 ≤ (bz0 96 p).toInt := by decide +kernel
    exact fun p h h0 h1 => bzUp_of (key p (plB_lt h).1 h h0 h1)
  · intro i h1 h2
    exact absurd h2 (nI_nlt (Nat.zero_le i) (by omega))
  · intro k h1 h2
    rcases (show k = 1 ∨ k = 2 ∨ k = 3 ∨ k = 4 ∨ k = 5 by omega) with rfl | rfl | rfl | rfl | rfl <;> rfl
  · intro s hs
    rcases (show s = 0 ∨ s = 1 ∨ s = 2 ∨ s = 3 by omega) with rfl | rfl | rfl | rfl <;> exact ⟨⟨rfl, Or.inl rfl⟩, 0, by decide, rfl, rfl, fun i h => absurd h (Nat.not_lt_zero i)⟩
