set_option linter.unusedVariables false
/-! THE INVARIANT. Row cells of the reference: 96 row, 97 kept (f, fk); class: State at b (course b+1, ground b+17, tape b+23, waiting b+25). -/
/-- x is one of 0 .. n -/
def bzUp (n : Nat) (x : Int32) : Prop := ∃ k : Nat, k ≤ n ∧ x = nI k
/-- the byte of a text of e bytes at place p; -1 behind the last -/
def ptAt (t : Nat → Int32) (e p : Nat) : Int32 := if p < e then t p else -1
/-- the level of a sign -/
def ptLv (c : Int32) : Nat := if c = 124 then 0 else if c = 38 then 1 else if c = 60 ∨ c = 61 ∨ c = 62 then 2 else if c = 43 ∨ c = 45 then 3 else if c = 42 ∨ c = 47 ∨ c = 37 then 4 else 5
/-- the mark of a name, for a use -/
def ptNm (u : Nat) (c : Int32) : Option Int32 := if c = 119 then some (-1) else if c = 104 then some (-2) else if c = (if u = 0 then 108 else 102) then some (-3) else none
def ptDg (c : Int32) : Bool := decide (48 ≤ c ∧ c ≤ 57)
/-- a number of at most k further digits from p on: its value, and the place behind it -/
def ptNum (t : Nat → Int32) (e : Nat) : Nat → Int32 → Nat → Int32 × Nat
  | 0, v, p => (v, p)
  | k + 1, v, p => if ptDg (ptAt t e p) then ptNum t e k (v * 10 + ptAt t e p - 48) (p + 1) else (v, p)
/-- what was read: marks in the order of the class, the place behind, whether it is sound -/
abbrev ptRes : Type := Option (List Int32 × Nat × Bool)
/-- signs of a level, each behind its left side: at most k of them -/
def ptMore (t : Nat → Int32) (e lv : Nat) (sub : Nat → ptRes) : Nat → List Int32 → Nat → Bool → ptRes
  | 0, m, p, ok => some (m, p, ok)
  | k + 1, m, p, ok => if ok = true ∧ ptLv (ptAt t e p) = lv then
      match sub (p + 1) with
      | none => none
      | some (m2, p2, ok2) => ptMore t e lv sub k (m ++ (m2 ++ [-(ptAt t e p)])) p2 ok2
    else some (m, p, ok)
/-- the grammar: level 0 T, 1 A, 2 B, 3 S, 4 P, 5 (and on) Q; 'op' of ! and ( are open -/
def ptRead (t : Nat → Int32) (e u : Nat) : Nat → Nat → Nat → Nat → ptRes
  | 0, _, _, _ => none
  | n + 1, lv, op, p =>
    if lv < 5 then
      match ptRead t e u n (lv + 1) op p with
      | none => none
      | some (m, q, ok) => ptMore t e lv (fun q => ptRead t e u n (lv + 1) op q) (if lv = 2 then 1 else 50) m q ok
    else
      let c := ptAt t e p
      if ptDg c = true then some ([(ptNum t e 4 0 p).1], (ptNum t e 4 0 p).2, true)
      else match ptNm u c with
        | some k => some ([k], p + 1, true)
        | none =>
          if c = 33 ∧ op < 5 then
            match ptRead t e u n 5 (op + 1) (p + 1) with
            | none => none
            | some (m, q, ok) => some (m ++ [-33], q, ok)
          else if c = 40 ∧ op < 5 then
            match ptRead t e u n 0 (op + 1) (p + 1) with
            | none => none
            | some (m, q, ok) => if ok = true ∧ ptAt t e q = 41 then some (m, q + 1, true) else some (m, q, false)
          else some ([], p, false)
def ptFuel : Nat := 60
/-- the marks mk (n of them) are those of the text t (e bytes) of use u -/
def bzLaw (mk : Nat → Int32) (n : Nat) (t : Nat → Int32) (e u : Nat) : Prop :=
  ∃ ms : List Int32, ptRead t e u ptFuel 0 0 0 = some (ms, e, true) ∧ ms.length = n ∧ ∀ i, i < n → mk i = ms.getD i 0
/-- a Law of the class (isThere, the marks' size and numbers) against a text of the reference -/
def bzLR (th sz : Int32) (mk : Nat → Int32) (e : Int32) (t : Nat → Int32) (u : Nat) : Prop :=
  (e = -1 ∧ th = 0) ∨ (th = 1 ∧ ∃ k n : Nat, k ≤ 50 ∧ e = nI k ∧ n ≤ 50 ∧ sz = nI n ∧ bzLaw mk n t k u)
/-- a Course of the class at cell c holds what the row f says -/
def bzCR (σ : bzS) (c : Nat) (f : Nat → Int32) : Prop :=
  (σ c 5 = f 3 ∧ σ c 6 = f 4 ∧ σ c 7 = f 5 ∧ σ c 8 = f 0) ∧ (∀ i, i < 6 → σ (c + 1) i = f (12 + 2 * i) ∧ σ (c + 2) i = f (13 + 2 * i)) ∧
  σ (c + 3) 4 = f 2 ∧ (∀ i, i < 8 → σ (c + 4) i = f (52 + 4 * i) ∧ σ (c + 5) i = f (53 + 4 * i) ∧ σ (c + 6) i = f (54 + 4 * i) ∧ σ (c + 7) i = f (55 + 4 * i)) ∧
  bzLR (σ (c + 8) 2) (σ (c + 9) 1) (σ (c + 10)) (f 10) (fun j => f (154 + j)) 0 ∧ bzLR (σ (c + 12) 2) (σ (c + 13) 1) (σ (c + 14)) (f 11) (fun j => f (204 + j)) 1
/-- a Grounds of the class at cell c -/
def bzGR (σ : bzS) (c : Nat) (f : Nat → Int32) : Prop :=
  (σ c 5 = f 6 ∧ σ c 6 = f 7) ∧ (∀ i, i < 10 → σ (c + 1) i = f (24 + 2 * i) ∧ σ (c + 2) i = f (25 + 2 * i)) ∧ (∀ i, i < 8 → σ (c + 3) i = f (44 + i))
/-- a Row of the class at cell c: size s, numbers from p on in f -/
def bzWR (σ : bzS) (c : Nat) (f : Nat → Int32) (s p : Nat) : Prop := σ c 1 = f s ∧ ∀ i, nI i < f s → i < 50 → σ (c + 1) i = f (p + i)
/-- a State of the class at cell b -/
def bzSR (σ : bzS) (b : Nat) (f : Nat → Int32) : Prop :=
  bzCR σ (b + 1) f ∧ bzGR σ (b + 17) f ∧ bzWR σ (b + 23) f 8 84 ∧ bzWR σ (b + 25) f 9 134 ∧ σ b 4 = f 1 ∧ σ (b + 4) 5 = -1
/-- what the numbers of a row can be (but years, which run on in thought) -/
def bzRg (f : Nat → Int32) : Prop :=
  (bzUp 99 (f 3) ∧ bzUp 99 (f 4) ∧ bzUp 99 (f 5)) ∧ (∀ i, i < 6 → bzUp 9 (f (12 + 2 * i)) ∧ bzUp 9 (f (13 + 2 * i))) ∧
  (∃ n : Nat, n ≤ 8 ∧ f 2 = nI n ∧ ∀ i, i < n → bzUp 6 (f (52 + 4 * i)) ∧ bzUp 9 (f (53 + 4 * i)) ∧ bzUp 9 (f (54 + 4 * i)) ∧ bzUp 12 (f (55 + 4 * i)) ∧ f (55 + 4 * i) ≠ 0)
def bzRh (f : Nat → Int32) : Prop :=
  bzUp 9999 (f 0) ∧ bzUp 60 (f 6) ∧ bzUp 15 (f 7) ∧ (∀ i, i < 10 → bzUp 9 (f (24 + 2 * i)) ∧ bzUp 99 (f (25 + 2 * i))) ∧ (∀ i, i < 8 → bzUp 255 (f (44 + i))) ∧ bzUp 50 (f 8) ∧ bzUp 20 (f 9)
def bzInv (n : Nat) (σ : bzS) : Prop :=
  bzSR σ 1 (σ 96) ∧ bzRg (σ 96) ∧ bzRh (σ 96) ∧ σ 95 7 = -1 ∧
  (∃ k : Nat, k ≤ n ∧ σ 0 2 = nI k ∧ σ 95 5 = nI k ∧ ((k = 0 ∧ σ 95 4 = 0) ∨ (0 < k ∧ σ 95 4 = 1 ∧ bzSR σ 28 (σ 97) ∧ bzRg (σ 97) ∧ bzRh (σ 97)))) ∧
  (∀ k, 1 ≤ k → k ≤ 5 → σ 82 k = σ 100 k) ∧
  (∀ s, s < 4 → (σ (83 + 3 * s) 1 = σ 101 s ∧ (σ 101 s = 0 ∨ σ 101 s = 8 ∨ σ 101 s = 16 ∨ σ 101 s = 32)) ∧ ∃ z : Nat, z ≤ 40 ∧ σ (84 + 3 * s) 1 = nI z ∧ σ 102 s = nI z ∧ ∀ i, i < z → σ (85 + 3 * s) i = σ 103 (40 * s + i)) ∧
  (∃ z : Nat, z ≤ 40 ∧ σ 80 1 = nI z ∧ σ 95 23 = nI z ∧ ∀ i, i < z → σ 81 i = σ 107 i)
theorem bz0_law (u : Nat) (mk t : Nat → Int32) (sz : Int32) : bzLR 0 sz mk (-1) t u := Or.inl ⟨rfl, rfl⟩
theorem up_0 (n : Nat) : bzUp n 0 := ⟨0, Nat.zero_le _, rfl⟩
theorem bzInv_0 : bzInv 0 bz0 := by
  refine ⟨⟨⟨⟨rfl, rfl, rfl, rfl⟩, ?_, rfl, ?_, bz0_law 0 _ _ _, bz0_law 1 _ _ _⟩, ⟨⟨rfl, rfl⟩, ?_, ?_⟩, ⟨rfl, ?_⟩, ⟨rfl, ?_⟩, rfl, rfl⟩, ⟨⟨⟨10, by decide, rfl⟩, ⟨0, by decide, rfl⟩, ⟨0, by decide, rfl⟩⟩, ?_, ⟨0, by decide, rfl, fun i h => absurd h (Nat.not_lt_zero i)⟩⟩, ⟨⟨0, by decide, rfl⟩, ⟨20, by decide, rfl⟩, ⟨1, by decide, rfl⟩, ?_, ?_, ⟨0, by decide, rfl⟩, ⟨0, by decide, rfl⟩⟩, rfl, ⟨0, Nat.le_refl _, rfl, rfl, Or.inl ⟨rfl, rfl⟩⟩, ?_, ?_, ⟨0, by decide, rfl, rfl, fun i h => absurd h (Nat.not_lt_zero i)⟩⟩
  · intro i hi
    rcases (show i = 0 ∨ i = 1 ∨ i = 2 ∨ i = 3 ∨ i = 4 ∨ i = 5 by omega) with rfl | rfl | rfl | rfl | rfl | rfl <;> exact ⟨rfl, rfl⟩
  · intro i hi
    rcases (show i = 0 ∨ i = 1 ∨ i = 2 ∨ i = 3 ∨ i = 4 ∨ i = 5 ∨ i = 6 ∨ i = 7 by omega) with rfl | rfl | rfl | rfl | rfl | rfl | rfl | rfl <;> exact ⟨rfl, rfl, rfl, rfl⟩
  · intro i hi
    rcases (show i = 0 ∨ i = 1 ∨ i = 2 ∨ i = 3 ∨ i = 4 ∨ i = 5 ∨ i = 6 ∨ i = 7 ∨ i = 8 ∨ i = 9 by omega) with rfl | rfl | rfl | rfl | rfl | rfl | rfl | rfl | rfl | rfl <;> exact ⟨rfl, rfl⟩
  · intro i hi
    rcases (show i = 0 ∨ i = 1 ∨ i = 2 ∨ i = 3 ∨ i = 4 ∨ i = 5 ∨ i = 6 ∨ i = 7 by omega) with rfl | rfl | rfl | rfl | rfl | rfl | rfl | rfl <;> rfl
  · intro i h1 h2
    exact absurd h1 (nI_nlt (Nat.zero_le i) (by omega))
  · intro i h1 h2
    exact absurd h1 (nI_nlt (Nat.zero_le i) (by omega))
  · intro i hi
    rcases (show i = 0 ∨ i = 1 ∨ i = 2 ∨ i = 3 ∨ i = 4 ∨ i = 5 by omega) with rfl | rfl | rfl | rfl | rfl | rfl <;> exact ⟨⟨3, by decide, rfl⟩, ⟨_, by decide, rfl⟩⟩
  · intro i hi
    rcases (show i = 0 ∨ i = 1 ∨ i = 2 ∨ i = 3 ∨ i = 4 ∨ i = 5 ∨ i = 6 ∨ i = 7 ∨ i = 8 ∨ i = 9 by omega) with rfl | rfl | rfl | rfl | rfl | rfl | rfl | rfl | rfl | rfl <;> exact ⟨⟨_, by decide, rfl⟩, ⟨50, by decide, rfl⟩⟩
  · intro i hi
    rcases (show i = 0 ∨ i = 1 ∨ i = 2 ∨ i = 3 ∨ i = 4 ∨ i = 5 ∨ i = 6 ∨ i = 7 by omega) with rfl | rfl | rfl | rfl | rfl | rfl | rfl | rfl <;> exact up_0 _
  · intro k h1 h2
    rcases (show k = 1 ∨ k = 2 ∨ k = 3 ∨ k = 4 ∨ k = 5 by omega) with rfl | rfl | rfl | rfl | rfl <;> rfl
  · intro s hs
    rcases (show s = 0 ∨ s = 1 ∨ s = 2 ∨ s = 3 by omega) with rfl | rfl | rfl | rfl <;> exact ⟨⟨rfl, Or.inl rfl⟩, 0, by decide, rfl, rfl, fun i h => absurd h (Nat.not_lt_zero i)⟩
