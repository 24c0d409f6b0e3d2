theorem lw_in {L j k : Nat} {v : Int32} (h : j + 6 ≤ L) (hL : L ≤ 3072) (hk : k < 6) (hv : nI k = v) : vp_in (nI j + v) L := by
  rw [← hv, nI_add]
  exact vp_in_nI (by omega) (by omega)
theorem lw_in0 {L j : Nat} (h : j + 6 ≤ L) (hL : L ≤ 3072) : vp_in (nI j) L := vp_in_nI (by omega) (by omega)
section
variable {g : bzGeo} {d nL : Nat} {cc : ByteArray} {own : String} {x : bzCx} {σ : bzS} {pc : Nat} {lv : List (Nat × Value)} {st : List Value} {Inv : Nat → bzS → Prop} {b L : Nat} {xs : Nat → Int32}
theorem j_sld (hF : bzE g d nL cc own x) (hX : va_X b L xs x.2.2.2.2.1 x.2.2.2.2.1.heap) (hbl : b < x.2.2.2.2.1.heap.size) (hbA : ¬ gA g b) {i : Int32} (hin : vp_in i L) (hdg : decode cc pc = .ok (.iaload, 1)) (K : bzJ g nL x σ (pc + 1) lv (.int (xs i.toNatClampNeg) :: st)) : bzJ g nL x σ pc lv (.int i :: .ref b :: st) := by
  obtain ⟨p, l, e, R, s, m, args, below, meth, c, Q, kC, nC⟩ := x
  obtain ⟨⟨hx, hb, hml, hown, hts⟩, -⟩ := hF
  intro H locs ls hP hS hl
  exact va_sld hx hb hX hbl hbA hS hin hdg (K H locs ls hP hS hl)
theorem j_slen (hF : bzE g d nL cc own x) (hX : va_X b L xs x.2.2.2.2.1 x.2.2.2.2.1.heap) (hbl : b < x.2.2.2.2.1.heap.size) (hbA : ¬ gA g b) (hdg : decode cc pc = .ok (.arraylength, 1)) (K : bzJ g nL x σ (pc + 1) lv (.int (Int32.ofNat L) :: st)) : bzJ g nL x σ pc lv (.ref b :: st) := by
  obtain ⟨p, l, e, R, s, m, args, below, meth, c, Q, kC, nC⟩ := x
  obtain ⟨⟨hx, hb, hml, hown, hts⟩, -⟩ := hF
  intro H locs ls hP hS hl
  exact va_slen hx hb hX hbl hbA hS hdg (K H locs ls hP hS hl)

/-- one call of season, of the class and of the reference: the same answer, and the invariant again -/
def bzSt_season (Inv : Nat → bzS → Prop) : Prop := ∀ (a1 : Int32) (a2 : Int32) (a3 : Int32) (σ : bzS) (n : Nat), n ≤ 512 → Inv n σ → ∃ (r : Int32) (σ1 : bzS) (σ2 : bzS), f_X9_season 0 a1 a2 a3 σ = some (r, σ1) ∧ f_X10_season 95 a1 a2 a3 σ1 = some (r, σ2) ∧ Inv (n + 1) σ2
/-- one call of ofSeason, of the class and of the reference: the same answer, and the invariant again -/
def bzSt_ofSeason (Inv : Nat → bzS → Prop) : Prop := ∀ (a1 : Int32) (a2 : Int32) (σ : bzS) (n : Nat), n ≤ 512 → Inv n σ → ∃ (r : Int32) (σ1 : bzS) (σ2 : bzS), f_X9_ofSeason 0 a1 a2 σ = some (r, σ1) ∧ f_X10_ofSeason 95 a1 a2 σ1 = some (r, σ2) ∧ Inv (n + 1) σ2
/-- one call of figure, of the class and of the reference: the same answer, and the invariant again -/
def bzSt_figure (Inv : Nat → bzS → Prop) : Prop := ∀ (a1 : Int32) (a2 : Int32) (σ : bzS) (n : Nat), n ≤ 512 → Inv n σ → ∃ (r : Int32) (σ1 : bzS) (σ2 : bzS), f_X9_figure 0 a1 a2 σ = some (r, σ1) ∧ f_X10_figure 95 a1 a2 σ1 = some (r, σ2) ∧ Inv (n + 1) σ2
/-- one call of ofFigure, of the class and of the reference: the same answer, and the invariant again -/
def bzSt_ofFigure (Inv : Nat → bzS → Prop) : Prop := ∀ (a1 : Int32) (σ : bzS) (n : Nat), n ≤ 512 → Inv n σ → ∃ (r : Int32) (σ1 : bzS) (σ2 : bzS), f_X9_ofFigure 0 a1 σ = some (r, σ1) ∧ f_X10_ofFigure 95 a1 σ1 = some (r, σ2) ∧ Inv (n + 1) σ2
/-- one call of step, of the class and of the reference: the same answer, and the invariant again -/
def bzSt_step (Inv : Nat → bzS → Prop) : Prop := ∀ (a1 : Int32) (a2 : Int32) (a3 : Int32) (σ : bzS) (n : Nat), n ≤ 512 → Inv n σ → ∃ (r : Int32) (σ1 : bzS) (σ2 : bzS), f_X9_step 0 a1 a2 a3 σ = some (r, σ1) ∧ f_X10_step 95 a1 a2 a3 σ1 = some (r, σ2) ∧ Inv (n + 1) σ2
/-- one call of ofStep, of the class and of the reference: the same answer, and the invariant again -/
def bzSt_ofStep (Inv : Nat → bzS → Prop) : Prop := ∀ (a1 : Int32) (a2 : Int32) (σ : bzS) (n : Nat), n ≤ 512 → Inv n σ → ∃ (r : Int32) (σ1 : bzS) (σ2 : bzS), f_X9_ofStep 0 a1 a2 σ = some (r, σ1) ∧ f_X10_ofStep 95 a1 a2 σ1 = some (r, σ2) ∧ Inv (n + 1) σ2
/-- one call of trees, of the class and of the reference: the same answer, and the invariant again -/
def bzSt_trees (Inv : Nat → bzS → Prop) : Prop := ∀ (a1 : Int32) (a2 : Int32) (σ : bzS) (n : Nat), n ≤ 512 → Inv n σ → ∃ (r : Int32) (σ1 : bzS) (σ2 : bzS), f_X9_trees 0 a1 a2 σ = some (r, σ1) ∧ f_X10_trees 95 a1 a2 σ1 = some (r, σ2) ∧ Inv (n + 1) σ2
/-- one call of visitor, of the class and of the reference: the same answer, and the invariant again -/
def bzSt_visitor (Inv : Nat → bzS → Prop) : Prop := ∀ (a1 : Int32) (a2 : Int32) (a3 : Int32) (σ : bzS) (n : Nat), n ≤ 512 → Inv n σ → ∃ (r : Int32) (σ1 : bzS) (σ2 : bzS), f_X9_visitor 0 a1 a2 a3 σ = some (r, σ1) ∧ f_X10_visitor 95 a1 a2 a3 σ1 = some (r, σ2) ∧ Inv (n + 1) σ2
/-- one call of ofVisitor, of the class and of the reference: the same answer, and the invariant again -/
def bzSt_ofVisitor (Inv : Nat → bzS → Prop) : Prop := ∀ (a1 : Int32) (a2 : Int32) (σ : bzS) (n : Nat), n ≤ 512 → Inv n σ → ∃ (r : Int32) (σ1 : bzS) (σ2 : bzS), f_X9_ofVisitor 0 a1 a2 σ = some (r, σ1) ∧ f_X10_ofVisitor 95 a1 a2 σ1 = some (r, σ2) ∧ Inv (n + 1) σ2
/-- one call of change, of the class and of the reference: the same answer, and the invariant again -/
def bzSt_change (Inv : Nat → bzS → Prop) : Prop := ∀ (a1 : Int32) (a2 : Int32) (a3 : Int32) (σ : bzS) (n : Nat), n ≤ 512 → Inv n σ → ∃ (r : Int32) (σ1 : bzS) (σ2 : bzS), f_X9_change 0 a1 a2 a3 σ = some (r, σ1) ∧ f_X10_change 95 a1 a2 a3 σ1 = some (r, σ2) ∧ Inv (n + 1) σ2
/-- one call of become, of the class and of the reference: the same answer, and the invariant again -/
def bzSt_become (Inv : Nat → bzS → Prop) : Prop := ∀ (a1 : Int32) (a2 : Int32) (σ : bzS) (n : Nat), n ≤ 512 → Inv n σ → ∃ (r : Int32) (σ1 : bzS) (σ2 : bzS), f_X9_become 0 a1 a2 σ = some (r, σ1) ∧ f_X10_become 95 a1 a2 σ1 = some (r, σ2) ∧ Inv (n + 1) σ2
/-- one call of as, of the class and of the reference: the same answer, and the invariant again -/
def bzSt_as (Inv : Nat → bzS → Prop) : Prop := ∀ (a1 : Int32) (a2 : Int32) (σ : bzS) (n : Nat), n ≤ 512 → Inv n σ → ∃ (r : Int32) (σ1 : bzS) (σ2 : bzS), f_X9_as 0 a1 a2 σ = some (r, σ1) ∧ f_X10_as 95 a1 a2 σ1 = some (r, σ2) ∧ Inv (n + 1) σ2
/-- one call of feed, of the class and of the reference: the same answer, and the invariant again -/
def bzSt_feed (Inv : Nat → bzS → Prop) : Prop := ∀ (a1 : Int64) (a3 : Int32) (σ : bzS) (n : Nat), n ≤ 512 → Inv n σ → ∃ (r : Int32) (σ1 : bzS) (σ2 : bzS), f_X9_feed 0 a1 a3 σ = some (r, σ1) ∧ f_X10_feed 95 a1 a3 σ1 = some (r, σ2) ∧ Inv (n + 1) σ2
/-- one call of text, of the class and of the reference: the same answer, and the invariant again -/
def bzSt_text (Inv : Nat → bzS → Prop) : Prop := ∀ (a1 : Int32) (σ : bzS) (n : Nat), n ≤ 512 → Inv n σ → ∃ (r : Int32) (σ1 : bzS) (σ2 : bzS), f_X9_text 0 a1 σ = some (r, σ1) ∧ f_X10_text 95 a1 σ1 = some (r, σ2) ∧ Inv (n + 1) σ2
/-- one call of law, of the class and of the reference: the same answer, and the invariant again -/
def bzSt_law (Inv : Nat → bzS → Prop) : Prop := ∀ (a1 : Int32) (a2 : Int32) (a3 : Int32) (a4 : Int32) (σ : bzS) (n : Nat), n ≤ 512 → Inv n σ → ∃ (r : Int32) (σ1 : bzS) (σ2 : bzS), f_X9_law 0 a1 a2 a3 a4 σ = some (r, σ1) ∧ f_X10_law 95 a1 a2 a3 a4 σ1 = some (r, σ2) ∧ Inv (n + 1) σ2
/-- one call of years, of the class and of the reference: the same answer, and the invariant again -/
def bzSt_years (Inv : Nat → bzS → Prop) : Prop := ∀ (a1 : Int32) (σ : bzS) (n : Nat), n ≤ 512 → Inv n σ → ∃ (r : Int32) (σ1 : bzS) (σ2 : bzS), f_X9_years 0 a1 σ = some (r, σ1) ∧ f_X10_years 95 a1 σ1 = some (r, σ2) ∧ Inv (n + 1) σ2
/-- one call of loose, of the class and of the reference: the same answer, and the invariant again -/
def bzSt_loose (Inv : Nat → bzS → Prop) : Prop := ∀ (a1 : Int32) (σ : bzS) (n : Nat), n ≤ 512 → Inv n σ → ∃ (r : Int32) (σ1 : bzS) (σ2 : bzS), f_X9_loose 0 a1 σ = some (r, σ1) ∧ f_X10_loose 95 a1 σ1 = some (r, σ2) ∧ Inv (n + 1) σ2
/-- one call of then, of the class and of the reference: the same answer, and the invariant again -/
def bzSt_then (Inv : Nat → bzS → Prop) : Prop := ∀ (a1 : Int32) (a2 : Int32) (σ : bzS) (n : Nat), n ≤ 512 → Inv n σ → ∃ (r : Int32) (σ1 : bzS) (σ2 : bzS), f_X9_then 0 a1 a2 σ = some (r, σ1) ∧ f_X10_then 95 a1 a2 σ1 = some (r, σ2) ∧ Inv (n + 1) σ2
/-- one call of falls, of the class and of the reference: the same answer, and the invariant again -/
def bzSt_falls (Inv : Nat → bzS → Prop) : Prop := ∀ (σ : bzS) (n : Nat), n ≤ 512 → Inv n σ → ∃ (r : Int32) (σ1 : bzS) (σ2 : bzS), f_X9_falls 0  σ = some (r, σ1) ∧ f_X10_falls 95  σ1 = some (r, σ2) ∧ Inv (n + 1) σ2
/-- one call of wet, of the class and of the reference: the same answer, and the invariant again -/
def bzSt_wet (Inv : Nat → bzS → Prop) : Prop := ∀ (a1 : Int32) (a2 : Int32) (σ : bzS) (n : Nat), n ≤ 512 → Inv n σ → ∃ (r : Int32) (σ1 : bzS) (σ2 : bzS), f_X9_wet 0 a1 a2 σ = some (r, σ1) ∧ f_X10_wet 95 a1 a2 σ1 = some (r, σ2) ∧ Inv (n + 1) σ2
/-- one call of loudFor, of the class and of the reference: the same answer, and the invariant again -/
def bzSt_loudFor (Inv : Nat → bzS → Prop) : Prop := ∀ (a1 : Int32) (a2 : Int32) (a3 : Int32) (σ : bzS) (n : Nat), n ≤ 512 → Inv n σ → ∃ (r : Int32) (σ1 : bzS) (σ2 : bzS), f_X9_loudFor 0 a1 a2 a3 σ = some (r, σ1) ∧ f_X10_loudFor 95 a1 a2 a3 σ1 = some (r, σ2) ∧ Inv (n + 1) σ2
/-- one call of everyFor, of the class and of the reference: the same answer, and the invariant again -/
def bzSt_everyFor (Inv : Nat → bzS → Prop) : Prop := ∀ (a1 : Int32) (a2 : Int32) (σ : bzS) (n : Nat), n ≤ 512 → Inv n σ → ∃ (r : Int32) (σ1 : bzS) (σ2 : bzS), f_X9_everyFor 0 a1 a2 σ = some (r, σ1) ∧ f_X10_everyFor 95 a1 a2 σ1 = some (r, σ2) ∧ Inv (n + 1) σ2
/-- one call of needless, of the class and of the reference: the same answer, and the invariant again -/
def bzSt_needless (Inv : Nat → bzS → Prop) : Prop := ∀ (a1 : Int32) (σ : bzS) (n : Nat), n ≤ 512 → Inv n σ → ∃ (r : Int32) (σ1 : bzS) (σ2 : bzS), f_X9_needless 0 a1 σ = some (r, σ1) ∧ f_X10_needless 95 a1 σ1 = some (r, σ2) ∧ Inv (n + 1) σ2
/-- one call of wanted, of the class and of the reference: the same answer, and the invariant again -/
def bzSt_wanted (Inv : Nat → bzS → Prop) : Prop := ∀ (a1 : Int32) (a2 : Int32) (σ : bzS) (n : Nat), n ≤ 512 → Inv n σ → ∃ (r : Int32) (σ1 : bzS) (σ2 : bzS), f_X9_wanted 0 a1 a2 σ = some (r, σ1) ∧ f_X10_wanted 95 a1 a2 σ1 = some (r, σ2) ∧ Inv (n + 1) σ2
/-- one call of which, of the class and of the reference: the same answer, and the invariant again -/
def bzSt_which (Inv : Nat → bzS → Prop) : Prop := ∀ (a1 : Int32) (a2 : Int32) (σ : bzS) (n : Nat), n ≤ 512 → Inv n σ → ∃ (r : Int32) (σ1 : bzS) (σ2 : bzS), f_X9_which 0 a1 a2 σ = some (r, σ1) ∧ f_X10_which 95 a1 a2 σ1 = some (r, σ2) ∧ Inv (n + 1) σ2
/-- one call of stair, of the class and of the reference: the same answer, and the invariant again -/
def bzSt_stair (Inv : Nat → bzS → Prop) : Prop := ∀ (a1 : Int32) (σ : bzS) (n : Nat), n ≤ 512 → Inv n σ → ∃ (r : Int32) (σ1 : bzS) (σ2 : bzS), f_X9_stair 0 a1 σ = some (r, σ1) ∧ f_X10_stair 95 a1 σ1 = some (r, σ2) ∧ Inv (n + 1) σ2
/-- one call of exact, of the class and of the reference: the same answer, and the invariant again -/
def bzSt_exact (Inv : Nat → bzS → Prop) : Prop := ∀ (σ : bzS) (n : Nat), n ≤ 512 → Inv n σ → ∃ (r : Int32), f_X9_exact 0  σ = some r ∧ f_X10_exact 95  σ = some r ∧ Inv (n + 1) σ
/-- one call of house, of the class and of the reference: the same answer, and the invariant again -/
def bzSt_house (Inv : Nat → bzS → Prop) : Prop := ∀ (a1 : Int32) (a2 : Int32) (σ : bzS) (n : Nat), n ≤ 512 → Inv n σ → ∃ (r : Int32) (σ1 : bzS) (σ2 : bzS), f_X9_house 0 a1 a2 σ = some (r, σ1) ∧ f_X10_house 95 a1 a2 σ1 = some (r, σ2) ∧ Inv (n + 1) σ2
/-- one call of power, of the class and of the reference: the same answer, and the invariant again -/
def bzSt_power (Inv : Nat → bzS → Prop) : Prop := ∀ (a1 : Int32) (σ : bzS) (n : Nat), n ≤ 512 → Inv n σ → ∃ (r : Int32) (σ1 : bzS) (σ2 : bzS), f_X9_power 0 a1 σ = some (r, σ1) ∧ f_X10_power 95 a1 σ1 = some (r, σ2) ∧ Inv (n + 1) σ2
/-- one call of gait, of the class and of the reference: the same answer, and the invariant again -/
def bzSt_gait (Inv : Nat → bzS → Prop) : Prop := ∀ (a1 : Int32) (σ : bzS) (n : Nat), n ≤ 512 → Inv n σ → ∃ (r : Int32) (σ1 : bzS) (σ2 : bzS), f_X9_gait 0 a1 σ = some (r, σ1) ∧ f_X10_gait 95 a1 σ1 = some (r, σ2) ∧ Inv (n + 1) σ2
/-- one call of odds, of the class and of the reference: the same answer, and the invariant again -/
def bzSt_odds (Inv : Nat → bzS → Prop) : Prop := ∀ (a1 : Int32) (a2 : Int32) (a3 : Int32) (σ : bzS) (n : Nat), n ≤ 512 → Inv n σ → ∃ (r : Int32) (σ1 : bzS) (σ2 : bzS), f_X9_odds 0 a1 a2 a3 σ = some (r, σ1) ∧ f_X10_odds 95 a1 a2 a3 σ1 = some (r, σ2) ∧ Inv (n + 1) σ2
/-- one call of seed, of the class and of the reference: the same answer, and the invariant again -/
def bzSt_seed (Inv : Nat → bzS → Prop) : Prop := ∀ (a1 : Int32) (σ : bzS) (n : Nat), n ≤ 512 → Inv n σ → ∃ (r : Int32) (σ1 : bzS) (σ2 : bzS), f_X9_seed 0 a1 σ = some (r, σ1) ∧ f_X10_seed 95 a1 σ1 = some (r, σ2) ∧ Inv (n + 1) σ2
/-- one call of voice, of the class and of the reference: the same answer, and the invariant again -/
def bzSt_voice (Inv : Nat → bzS → Prop) : Prop := ∀ (a1 : Int32) (a2 : Int32) (a3 : Int32) (σ : bzS) (n : Nat), n ≤ 512 → Inv n σ → ∃ (r : Int32) (σ1 : bzS) (σ2 : bzS), f_X9_voice 0 a1 a2 a3 σ = some (r, σ1) ∧ f_X10_voice 95 a1 a2 a3 σ1 = some (r, σ2) ∧ Inv (n + 1) σ2
/-- one call of trace, of the class and of the reference: the same answer, and the invariant again -/
def bzSt_trace (Inv : Nat → bzS → Prop) : Prop := ∀ (a1 : Int32) (σ : bzS) (n : Nat), n ≤ 512 → Inv n σ → ∃ (r : Int32) (σ1 : bzS) (σ2 : bzS), f_X9_trace 0 a1 σ = some (r, σ1) ∧ f_X10_trace 95 a1 σ1 = some (r, σ2) ∧ Inv (n + 1) σ2
/-- one call of sheet, of the class and of the reference: the same answer, and the invariant again -/
def bzSt_sheet (Inv : Nat → bzS → Prop) : Prop := ∀ (a1 : Int32) (a2 : Int32) (a3 : Int32) (σ : bzS) (n : Nat), n ≤ 512 → Inv n σ → ∃ (r : Int32) (σ1 : bzS) (σ2 : bzS), f_X9_sheet 0 a1 a2 a3 σ = some (r, σ1) ∧ f_X10_sheet 95 a1 a2 a3 σ1 = some (r, σ2) ∧ Inv (n + 1) σ2
/-- one call of put, of the class and of the reference: the same answer, and the invariant again -/
def bzSt_put (Inv : Nat → bzS → Prop) : Prop := ∀ (a1 : Int32) (a2 : Int32) (a3 : Int32) (σ : bzS) (n : Nat), n ≤ 512 → Inv n σ → ∃ (r : Int32) (σ1 : bzS) (σ2 : bzS), f_X9_put 0 a1 a2 a3 σ = some (r, σ1) ∧ f_X10_put 95 a1 a2 a3 σ1 = some (r, σ2) ∧ Inv (n + 1) σ2
/-- one call of move, of the class and of the reference: the same answer, and the invariant again -/
def bzSt_move (Inv : Nat → bzS → Prop) : Prop := ∀ (a1 : Int32) (a2 : Int32) (a3 : Int32) (a4 : Int32) (a5 : Int32) (σ : bzS) (n : Nat), n ≤ 512 → Inv n σ → ∃ (r : Int32) (σ1 : bzS) (σ2 : bzS), f_X9_move 0 a1 a2 a3 a4 a5 σ = some (r, σ1) ∧ f_X10_move 95 a1 a2 a3 a4 a5 σ1 = some (r, σ2) ∧ Inv (n + 1) σ2
/-- one call of talls, of the class and of the reference: the same answer, and the invariant again -/
def bzSt_talls (Inv : Nat → bzS → Prop) : Prop := ∀ (a1 : Int32) (σ : bzS) (n : Nat), n ≤ 512 → Inv n σ → ∃ (r : Int32) (σ1 : bzS) (σ2 : bzS), f_X9_talls 0 a1 σ = some (r, σ1) ∧ f_X10_talls 95 a1 σ1 = some (r, σ2) ∧ Inv (n + 1) σ2
/-- one call of judge, of the class and of the reference: the same answer, and the invariant again -/
def bzSt_judge (Inv : Nat → bzS → Prop) : Prop := ∀ (a1 : Int32) (σ : bzS) (n : Nat), n ≤ 512 → Inv n σ → ∃ (r : Int32) (σ1 : bzS) (σ2 : bzS), f_X9_judge 0 a1 σ = some (r, σ1) ∧ f_X10_judge 95 a1 σ1 = some (r, σ2) ∧ Inv (n + 1) σ2
/-- one call of image, of the class and of the reference: the same answer, and the invariant again -/
def bzSt_image (Inv : Nat → bzS → Prop) : Prop := ∀ (σ : bzS) (n : Nat), n ≤ 512 → Inv n σ → ∃ (r : Int32) (σ1 : bzS) (σ2 : bzS), f_X9_image 0  σ = some (r, σ1) ∧ f_X10_image 95  σ1 = some (r, σ2) ∧ Inv (n + 1) σ2
/-- one call of restore, of the class and of the reference: the same answer, and the invariant again -/
def bzSt_restore (Inv : Nat → bzS → Prop) : Prop := ∀ (σ : bzS) (n : Nat), n ≤ 512 → Inv n σ → ∃ (r : Int32) (σ1 : bzS) (σ2 : bzS), f_X9_restore 0  σ = some (r, σ1) ∧ f_X10_restore 95  σ1 = some (r, σ2) ∧ Inv (n + 1) σ2
/-- one call of tell, of the class and of the reference: the same answer, and the invariant again -/
def bzSt_tell (Inv : Nat → bzS → Prop) : Prop := ∀ (a1 : Int32) (σ : bzS) (n : Nat), n ≤ 512 → Inv n σ → ∃ (r : Int32) (σ1 : bzS) (σ2 : bzS), f_X9_tell 0 a1 σ = some (r, σ1) ∧ f_X10_tell 95 a1 σ1 = some (r, σ2) ∧ Inv (n + 1) σ2
/-- one call of check, of the class and of the reference: the same answer, and the invariant again -/
def bzSt_check (Inv : Nat → bzS → Prop) : Prop := ∀ (σ : bzS) (n : Nat), n ≤ 512 → Inv n σ → ∃ (r : Int32) (σ1 : bzS) (σ2 : bzS), f_X9_check 0  σ = some (r, σ1) ∧ f_X10_check 95  σ1 = some (r, σ2) ∧ Inv (n + 1) σ2
/-- one call of count, of the class and of the reference: the same answer, and the invariant again -/
def bzSt_count (Inv : Nat → bzS → Prop) : Prop := ∀ (a1 : Int32) (σ : bzS) (n : Nat), n ≤ 512 → Inv n σ → ∃ (r : Int32) (σ1 : bzS) (σ2 : bzS), f_X9_count 0 a1 σ = some (r, σ1) ∧ f_X10_count 95 a1 σ1 = some (r, σ2) ∧ Inv (n + 1) σ2
/-- one call of told, of the class and of the reference: the same answer, and the invariant again -/
def bzSt_told (Inv : Nat → bzS → Prop) : Prop := ∀ (a1 : Int32) (σ : bzS) (n : Nat), n ≤ 512 → Inv n σ → ∃ (r : Int32) (σ1 : bzS) (σ2 : bzS), f_X9_told 0 a1 σ = some (r, σ1) ∧ f_X10_told 95 a1 σ1 = some (r, σ2) ∧ Inv (n + 1) σ2
def bzSteps (Inv : Nat → bzS → Prop) : Prop := (∀ n σ, Inv n σ → Inv (n + 1) σ) ∧ bzSt_season Inv ∧ bzSt_ofSeason Inv ∧ bzSt_figure Inv ∧ bzSt_ofFigure Inv ∧ bzSt_step Inv ∧ bzSt_ofStep Inv ∧ bzSt_trees Inv ∧ bzSt_visitor Inv ∧ bzSt_ofVisitor Inv ∧ bzSt_change Inv ∧ bzSt_become Inv ∧ bzSt_as Inv ∧ bzSt_feed Inv ∧ bzSt_text Inv ∧ bzSt_law Inv ∧ bzSt_years Inv ∧ bzSt_loose Inv ∧ bzSt_then Inv ∧ bzSt_falls Inv ∧ bzSt_wet Inv ∧ bzSt_loudFor Inv ∧ bzSt_everyFor Inv ∧ bzSt_needless Inv ∧ bzSt_wanted Inv ∧ bzSt_which Inv ∧ bzSt_stair Inv ∧ bzSt_exact Inv ∧ bzSt_house Inv ∧ bzSt_power Inv ∧ bzSt_gait Inv ∧ bzSt_odds Inv ∧ bzSt_seed Inv ∧ bzSt_voice Inv ∧ bzSt_trace Inv ∧ bzSt_sheet Inv ∧ bzSt_put Inv ∧ bzSt_move Inv ∧ bzSt_talls Inv ∧ bzSt_judge Inv ∧ bzSt_image Inv ∧ bzSt_restore Inv ∧ bzSt_tell Inv ∧ bzSt_check Inv ∧ bzSt_count Inv ∧ bzSt_told Inv
set_option maxHeartbeats 4000000 in
set_option maxRecDepth 20000 in
theorem lc_season (hS : bzSt_season Inv) (hF : bzE g 2000 4 code "BronzeDownLaw" x) (hX : va_X b L xs x.2.2.2.2.1 x.2.2.2.2.1.heap) (hbl : b < x.2.2.2.2.1.heap.size) (hbA : ¬ gA g b) (hL : L ≤ 3072) {j q : Nat} (hj : j + 6 ≤ L) (hq : q ≤ 512) (hN : ∀ σ, Inv (q + 1) σ → bzJ g 4 x σ 1633 [(0, .ref b), (1, .ref (ga g 0)), (2, .ref (ga g 95)), (3, .int (nI j))] []) {σ : bzS} (hI : Inv q σ) : bzJ g 4 x σ 228 [(0, .ref b), (1, .ref (ga g 0)), (2, .ref (ga g 95)), (3, .int (nI j))] [] := by
  refine j_aload_n hF 1 dL_law_228 rfl ?_
  refine j_aload_n hF 0 dL_law_229 rfl ?_
  refine j_iload_n hF 3 dL_law_230 rfl ?_
  refine j_iconst hF (v := 1) dL_law_231 (by decide) ?_
  refine j_iadd hF dL_law_232 ?_
  refine j_sld hF hX hbl hbA (lw_in (k := 1) (v := 1) hj hL (by decide) rfl) dL_law_233 ?_
  refine j_aload_n hF 0 dL_law_234 rfl ?_
  refine j_iload_n hF 3 dL_law_235 rfl ?_
  refine j_iconst hF (v := 2) dL_law_236 (by decide) ?_
  refine j_iadd hF dL_law_237 ?_
  refine j_sld hF hX hbl hbA (lw_in (k := 2) (v := 2) hj hL (by decide) rfl) dL_law_238 ?_
  refine j_aload_n hF 0 dL_law_239 rfl ?_
  refine j_iload_n hF 3 dL_law_240 rfl ?_
  refine j_iconst hF (v := 3) dL_law_241 (by decide) ?_
  refine j_iadd hF dL_law_242 ?_
  refine j_sld hF hX hbl hbA (lw_in (k := 3) (v := 3) hj hL (by decide) rfl) dL_law_243 ?_
  obtain ⟨r, σ1, σ2, e1, e2, hI2⟩ := hS (xs (nI j + 1).toNatClampNeg) (xs (nI j + 2).toNatClampNeg) (xs (nI j + 3).toNatClampNeg) σ q hq hI
  refine cs_L_13 hF (rfl : kd 0 = 9) (fun l => mt_X9_season l e1) (by decide) (Nat.le_of_ble_eq_true rfl) dL_law_244 ?_
  refine j_aload_n hF 2 dL_law_247 rfl ?_
  refine j_aload_n hF 0 dL_law_248 rfl ?_
  refine j_iload_n hF 3 dL_law_249 rfl ?_
  refine j_iconst hF (v := 1) dL_law_250 (by decide) ?_
  refine j_iadd hF dL_law_251 ?_
  refine j_sld hF hX hbl hbA (lw_in (k := 1) (v := 1) hj hL (by decide) rfl) dL_law_252 ?_
  refine j_aload_n hF 0 dL_law_253 rfl ?_
  refine j_iload_n hF 3 dL_law_254 rfl ?_
  refine j_iconst hF (v := 2) dL_law_255 (by decide) ?_
  refine j_iadd hF dL_law_256 ?_
  refine j_sld hF hX hbl hbA (lw_in (k := 2) (v := 2) hj hL (by decide) rfl) dL_law_257 ?_
  refine j_aload_n hF 0 dL_law_258 rfl ?_
  refine j_iload_n hF 3 dL_law_259 rfl ?_
  refine j_iconst hF (v := 3) dL_law_260 (by decide) ?_
  refine j_iadd hF dL_law_261 ?_
  refine j_sld hF hX hbl hbA (lw_in (k := 3) (v := 3) hj hL (by decide) rfl) dL_law_262 ?_
  refine cs_L_17 hF (rfl : kd 95 = 10) (fun l => mt_X10_season l e2) (by decide) (Nat.le_of_ble_eq_true rfl) dL_law_263 ?_
  refine j_icmp_eq hF (tgt := 1633) dL_law_266 (by decide) (fun _ => ?_) (fun c => absurd rfl c)
  exact hN _ hI2
set_option maxHeartbeats 4000000 in
set_option maxRecDepth 20000 in
theorem lc_ofSeason (hS : bzSt_ofSeason Inv) (hF : bzE g 2000 4 code "BronzeDownLaw" x) (hX : va_X b L xs x.2.2.2.2.1 x.2.2.2.2.1.heap) (hbl : b < x.2.2.2.2.1.heap.size) (hbA : ¬ gA g b) (hL : L ≤ 3072) {j q : Nat} (hj : j + 6 ≤ L) (hq : q ≤ 512) (hN : ∀ σ, Inv (q + 1) σ → bzJ g 4 x σ 1633 [(0, .ref b), (1, .ref (ga g 0)), (2, .ref (ga g 95)), (3, .int (nI j))] []) {σ : bzS} (hI : Inv q σ) : bzJ g 4 x σ 271 [(0, .ref b), (1, .ref (ga g 0)), (2, .ref (ga g 95)), (3, .int (nI j))] [] := by
  refine j_aload_n hF 1 dL_law_271 rfl ?_
  refine j_aload_n hF 0 dL_law_272 rfl ?_
  refine j_iload_n hF 3 dL_law_273 rfl ?_
  refine j_iconst hF (v := 1) dL_law_274 (by decide) ?_
  refine j_iadd hF dL_law_275 ?_
  refine j_sld hF hX hbl hbA (lw_in (k := 1) (v := 1) hj hL (by decide) rfl) dL_law_276 ?_
  refine j_aload_n hF 0 dL_law_277 rfl ?_
  refine j_iload_n hF 3 dL_law_278 rfl ?_
  refine j_iconst hF (v := 2) dL_law_279 (by decide) ?_
  refine j_iadd hF dL_law_280 ?_
  refine j_sld hF hX hbl hbA (lw_in (k := 2) (v := 2) hj hL (by decide) rfl) dL_law_281 ?_
  obtain ⟨r, σ1, σ2, e1, e2, hI2⟩ := hS (xs (nI j + 1).toNatClampNeg) (xs (nI j + 2).toNatClampNeg) σ q hq hI
  refine cs_L_18 hF (rfl : kd 0 = 9) (fun l => mt_X9_ofSeason l e1) (by decide) (Nat.le_of_ble_eq_true rfl) dL_law_282 ?_
  refine j_aload_n hF 2 dL_law_285 rfl ?_
  refine j_aload_n hF 0 dL_law_286 rfl ?_
  refine j_iload_n hF 3 dL_law_287 rfl ?_
  refine j_iconst hF (v := 1) dL_law_288 (by decide) ?_
  refine j_iadd hF dL_law_289 ?_
  refine j_sld hF hX hbl hbA (lw_in (k := 1) (v := 1) hj hL (by decide) rfl) dL_law_290 ?_
  refine j_aload_n hF 0 dL_law_291 rfl ?_
  refine j_iload_n hF 3 dL_law_292 rfl ?_
  refine j_iconst hF (v := 2) dL_law_293 (by decide) ?_
  refine j_iadd hF dL_law_294 ?_
  refine j_sld hF hX hbl hbA (lw_in (k := 2) (v := 2) hj hL (by decide) rfl) dL_law_295 ?_
  refine cs_L_22 hF (rfl : kd 95 = 10) (fun l => mt_X10_ofSeason l e2) (by decide) (Nat.le_of_ble_eq_true rfl) dL_law_296 ?_
  refine j_icmp_eq hF (tgt := 1633) dL_law_299 (by decide) (fun _ => ?_) (fun c => absurd rfl c)
  exact hN _ hI2
set_option maxHeartbeats 4000000 in
set_option maxRecDepth 20000 in
theorem lc_figure (hS : bzSt_figure Inv) (hF : bzE g 2000 4 code "BronzeDownLaw" x) (hX : va_X b L xs x.2.2.2.2.1 x.2.2.2.2.1.heap) (hbl : b < x.2.2.2.2.1.heap.size) (hbA : ¬ gA g b) (hL : L ≤ 3072) {j q : Nat} (hj : j + 6 ≤ L) (hq : q ≤ 512) (hN : ∀ σ, Inv (q + 1) σ → bzJ g 4 x σ 1633 [(0, .ref b), (1, .ref (ga g 0)), (2, .ref (ga g 95)), (3, .int (nI j))] []) {σ : bzS} (hI : Inv q σ) : bzJ g 4 x σ 304 [(0, .ref b), (1, .ref (ga g 0)), (2, .ref (ga g 95)), (3, .int (nI j))] [] := by
  refine j_aload_n hF 1 dL_law_304 rfl ?_
  refine j_aload_n hF 0 dL_law_305 rfl ?_
  refine j_iload_n hF 3 dL_law_306 rfl ?_
  refine j_iconst hF (v := 1) dL_law_307 (by decide) ?_
  refine j_iadd hF dL_law_308 ?_
  refine j_sld hF hX hbl hbA (lw_in (k := 1) (v := 1) hj hL (by decide) rfl) dL_law_309 ?_
  refine j_aload_n hF 0 dL_law_310 rfl ?_
  refine j_iload_n hF 3 dL_law_311 rfl ?_
  refine j_iconst hF (v := 2) dL_law_312 (by decide) ?_
  refine j_iadd hF dL_law_313 ?_
  refine j_sld hF hX hbl hbA (lw_in (k := 2) (v := 2) hj hL (by decide) rfl) dL_law_314 ?_
  obtain ⟨r, σ1, σ2, e1, e2, hI2⟩ := hS (xs (nI j + 1).toNatClampNeg) (xs (nI j + 2).toNatClampNeg) σ q hq hI
  refine cs_L_23 hF (rfl : kd 0 = 9) (fun l => mt_X9_figure l e1) (by decide) (Nat.le_of_ble_eq_true rfl) dL_law_315 ?_
  refine j_aload_n hF 2 dL_law_318 rfl ?_
  refine j_aload_n hF 0 dL_law_319 rfl ?_
  refine j_iload_n hF 3 dL_law_320 rfl ?_
  refine j_iconst hF (v := 1) dL_law_321 (by decide) ?_
  refine j_iadd hF dL_law_322 ?_
  refine j_sld hF hX hbl hbA (lw_in (k := 1) (v := 1) hj hL (by decide) rfl) dL_law_323 ?_
  refine j_aload_n hF 0 dL_law_324 rfl ?_
  refine j_iload_n hF 3 dL_law_325 rfl ?_
  refine j_iconst hF (v := 2) dL_law_326 (by decide) ?_
  refine j_iadd hF dL_law_327 ?_
  refine j_sld hF hX hbl hbA (lw_in (k := 2) (v := 2) hj hL (by decide) rfl) dL_law_328 ?_
  refine cs_L_26 hF (rfl : kd 95 = 10) (fun l => mt_X10_figure l e2) (by decide) (Nat.le_of_ble_eq_true rfl) dL_law_329 ?_
  refine j_icmp_eq hF (tgt := 1633) dL_law_332 (by decide) (fun _ => ?_) (fun c => absurd rfl c)
  exact hN _ hI2
set_option maxHeartbeats 4000000 in
set_option maxRecDepth 20000 in
theorem lc_ofFigure (hS : bzSt_ofFigure Inv) (hF : bzE g 2000 4 code "BronzeDownLaw" x) (hX : va_X b L xs x.2.2.2.2.1 x.2.2.2.2.1.heap) (hbl : b < x.2.2.2.2.1.heap.size) (hbA : ¬ gA g b) (hL : L ≤ 3072) {j q : Nat} (hj : j + 6 ≤ L) (hq : q ≤ 512) (hN : ∀ σ, Inv (q + 1) σ → bzJ g 4 x σ 1633 [(0, .ref b), (1, .ref (ga g 0)), (2, .ref (ga g 95)), (3, .int (nI j))] []) {σ : bzS} (hI : Inv q σ) : bzJ g 4 x σ 337 [(0, .ref b), (1, .ref (ga g 0)), (2, .ref (ga g 95)), (3, .int (nI j))] [] := by
  refine j_aload_n hF 1 dL_law_337 rfl ?_
  refine j_aload_n hF 0 dL_law_338 rfl ?_
  refine j_iload_n hF 3 dL_law_339 rfl ?_
  refine j_iconst hF (v := 1) dL_law_340 (by decide) ?_
  refine j_iadd hF dL_law_341 ?_
  refine j_sld hF hX hbl hbA (lw_in (k := 1) (v := 1) hj hL (by decide) rfl) dL_law_342 ?_
  obtain ⟨r, σ1, σ2, e1, e2, hI2⟩ := hS (xs (nI j + 1).toNatClampNeg) σ q hq hI
  refine cs_L_27 hF (rfl : kd 0 = 9) (fun l => mt_X9_ofFigure l e1) (by decide) (Nat.le_of_ble_eq_true rfl) dL_law_343 ?_
  refine j_aload_n hF 2 dL_law_346 rfl ?_
  refine j_aload_n hF 0 dL_law_347 rfl ?_
  refine j_iload_n hF 3 dL_law_348 rfl ?_
  refine j_iconst hF (v := 1) dL_law_349 (by decide) ?_
  refine j_iadd hF dL_law_350 ?_
  refine j_sld hF hX hbl hbA (lw_in (k := 1) (v := 1) hj hL (by decide) rfl) dL_law_351 ?_
  refine cs_L_31 hF (rfl : kd 95 = 10) (fun l => mt_X10_ofFigure l e2) (by decide) (Nat.le_of_ble_eq_true rfl) dL_law_352 ?_
  refine j_icmp_eq hF (tgt := 1633) dL_law_355 (by decide) (fun _ => ?_) (fun c => absurd rfl c)
  exact hN _ hI2
set_option maxHeartbeats 4000000 in
set_option maxRecDepth 20000 in
theorem lc_step (hS : bzSt_step Inv) (hF : bzE g 2000 4 code "BronzeDownLaw" x) (hX : va_X b L xs x.2.2.2.2.1 x.2.2.2.2.1.heap) (hbl : b < x.2.2.2.2.1.heap.size) (hbA : ¬ gA g b) (hL : L ≤ 3072) {j q : Nat} (hj : j + 6 ≤ L) (hq : q ≤ 512) (hN : ∀ σ, Inv (q + 1) σ → bzJ g 4 x σ 1633 [(0, .ref b), (1, .ref (ga g 0)), (2, .ref (ga g 95)), (3, .int (nI j))] []) {σ : bzS} (hI : Inv q σ) : bzJ g 4 x σ 360 [(0, .ref b), (1, .ref (ga g 0)), (2, .ref (ga g 95)), (3, .int (nI j))] [] := by
  refine j_aload_n hF 1 dL_law_360 rfl ?_
  refine j_aload_n hF 0 dL_law_361 rfl ?_
  refine j_iload_n hF 3 dL_law_362 rfl ?_
  refine j_iconst hF (v := 1) dL_law_363 (by decide) ?_
  refine j_iadd hF dL_law_364 ?_
  refine j_sld hF hX hbl hbA (lw_in (k := 1) (v := 1) hj hL (by decide) rfl) dL_law_365 ?_
  refine j_aload_n hF 0 dL_law_366 rfl ?_
  refine j_iload_n hF 3 dL_law_367 rfl ?_
  refine j_iconst hF (v := 2) dL_law_368 (by decide) ?_
  refine j_iadd hF dL_law_369 ?_
  refine j_sld hF hX hbl hbA (lw_in (k := 2) (v := 2) hj hL (by decide) rfl) dL_law_370 ?_
  refine j_aload_n hF 0 dL_law_371 rfl ?_
  refine j_iload_n hF 3 dL_law_372 rfl ?_
  refine j_iconst hF (v := 3) dL_law_373 (by decide) ?_
  refine j_iadd hF dL_law_374 ?_
  refine j_sld hF hX hbl hbA (lw_in (k := 3) (v := 3) hj hL (by decide) rfl) dL_law_375 ?_
  obtain ⟨r, σ1, σ2, e1, e2, hI2⟩ := hS (xs (nI j + 1).toNatClampNeg) (xs (nI j + 2).toNatClampNeg) (xs (nI j + 3).toNatClampNeg) σ q hq hI
  refine cs_L_32 hF (rfl : kd 0 = 9) (fun l => mt_X9_step l e1) (by decide) (Nat.le_of_ble_eq_true rfl) dL_law_376 ?_
  refine j_aload_n hF 2 dL_law_379 rfl ?_
  refine j_aload_n hF 0 dL_law_380 rfl ?_
  refine j_iload_n hF 3 dL_law_381 rfl ?_
  refine j_iconst hF (v := 1) dL_law_382 (by decide) ?_
  refine j_iadd hF dL_law_383 ?_
  refine j_sld hF hX hbl hbA (lw_in (k := 1) (v := 1) hj hL (by decide) rfl) dL_law_384 ?_
  refine j_aload_n hF 0 dL_law_385 rfl ?_
  refine j_iload_n hF 3 dL_law_386 rfl ?_
  refine j_iconst hF (v := 2) dL_law_387 (by decide) ?_
  refine j_iadd hF dL_law_388 ?_
  refine j_sld hF hX hbl hbA (lw_in (k := 2) (v := 2) hj hL (by decide) rfl) dL_law_389 ?_
  refine j_aload_n hF 0 dL_law_390 rfl ?_
  refine j_iload_n hF 3 dL_law_391 rfl ?_
  refine j_iconst hF (v := 3) dL_law_392 (by decide) ?_
  refine j_iadd hF dL_law_393 ?_
  refine j_sld hF hX hbl hbA (lw_in (k := 3) (v := 3) hj hL (by decide) rfl) dL_law_394 ?_
  refine cs_L_35 hF (rfl : kd 95 = 10) (fun l => mt_X10_step l e2) (by decide) (Nat.le_of_ble_eq_true rfl) dL_law_395 ?_
  refine j_icmp_eq hF (tgt := 1633) dL_law_398 (by decide) (fun _ => ?_) (fun c => absurd rfl c)
  exact hN _ hI2
set_option maxHeartbeats 4000000 in
set_option maxRecDepth 20000 in
theorem lc_ofStep (hS : bzSt_ofStep Inv) (hF : bzE g 2000 4 code "BronzeDownLaw" x) (hX : va_X b L xs x.2.2.2.2.1 x.2.2.2.2.1.heap) (hbl : b < x.2.2.2.2.1.heap.size) (hbA : ¬ gA g b) (hL : L ≤ 3072) {j q : Nat} (hj : j + 6 ≤ L) (hq : q ≤ 512) (hN : ∀ σ, Inv (q + 1) σ → bzJ g 4 x σ 1633 [(0, .ref b), (1, .ref (ga g 0)), (2, .ref (ga g 95)), (3, .int (nI j))] []) {σ : bzS} (hI : Inv q σ) : bzJ g 4 x σ 403 [(0, .ref b), (1, .ref (ga g 0)), (2, .ref (ga g 95)), (3, .int (nI j))] [] := by
  refine j_aload_n hF 1 dL_law_403 rfl ?_
  refine j_aload_n hF 0 dL_law_404 rfl ?_
  refine j_iload_n hF 3 dL_law_405 rfl ?_
  refine j_iconst hF (v := 1) dL_law_406 (by decide) ?_
  refine j_iadd hF dL_law_407 ?_
  refine j_sld hF hX hbl hbA (lw_in (k := 1) (v := 1) hj hL (by decide) rfl) dL_law_408 ?_
  refine j_aload_n hF 0 dL_law_409 rfl ?_
  refine j_iload_n hF 3 dL_law_410 rfl ?_
  refine j_iconst hF (v := 2) dL_law_411 (by decide) ?_
  refine j_iadd hF dL_law_412 ?_
  refine j_sld hF hX hbl hbA (lw_in (k := 2) (v := 2) hj hL (by decide) rfl) dL_law_413 ?_
  obtain ⟨r, σ1, σ2, e1, e2, hI2⟩ := hS (xs (nI j + 1).toNatClampNeg) (xs (nI j + 2).toNatClampNeg) σ q hq hI
  refine cs_L_36 hF (rfl : kd 0 = 9) (fun l => mt_X9_ofStep l e1) (by decide) (Nat.le_of_ble_eq_true rfl) dL_law_414 ?_
  refine j_aload_n hF 2 dL_law_417 rfl ?_
  refine j_aload_n hF 0 dL_law_418 rfl ?_
  refine j_iload_n hF 3 dL_law_419 rfl ?_
  refine j_iconst hF (v := 1) dL_law_420 (by decide) ?_
  refine j_iadd hF dL_law_421 ?_
  refine j_sld hF hX hbl hbA (lw_in (k := 1) (v := 1) hj hL (by decide) rfl) dL_law_422 ?_
  refine j_aload_n hF 0 dL_law_423 rfl ?_
  refine j_iload_n hF 3 dL_law_424 rfl ?_
  refine j_iconst hF (v := 2) dL_law_425 (by decide) ?_
  refine j_iadd hF dL_law_426 ?_
  refine j_sld hF hX hbl hbA (lw_in (k := 2) (v := 2) hj hL (by decide) rfl) dL_law_427 ?_
  refine cs_L_39 hF (rfl : kd 95 = 10) (fun l => mt_X10_ofStep l e2) (by decide) (Nat.le_of_ble_eq_true rfl) dL_law_428 ?_
  refine j_icmp_eq hF (tgt := 1633) dL_law_431 (by decide) (fun _ => ?_) (fun c => absurd rfl c)
  exact hN _ hI2
set_option maxHeartbeats 4000000 in
set_option maxRecDepth 20000 in
theorem lc_trees (hS : bzSt_trees Inv) (hF : bzE g 2000 4 code "BronzeDownLaw" x) (hX : va_X b L xs x.2.2.2.2.1 x.2.2.2.2.1.heap) (hbl : b < x.2.2.2.2.1.heap.size) (hbA : ¬ gA g b) (hL : L ≤ 3072) {j q : Nat} (hj : j + 6 ≤ L) (hq : q ≤ 512) (hN : ∀ σ, Inv (q + 1) σ → bzJ g 4 x σ 1633 [(0, .ref b), (1, .ref (ga g 0)), (2, .ref (ga g 95)), (3, .int (nI j))] []) {σ : bzS} (hI : Inv q σ) : bzJ g 4 x σ 436 [(0, .ref b), (1, .ref (ga g 0)), (2, .ref (ga g 95)), (3, .int (nI j))] [] := by
  refine j_aload_n hF 1 dL_law_436 rfl ?_
  refine j_aload_n hF 0 dL_law_437 rfl ?_
  refine j_iload_n hF 3 dL_law_438 rfl ?_
  refine j_iconst hF (v := 1) dL_law_439 (by decide) ?_
  refine j_iadd hF dL_law_440 ?_
  refine j_sld hF hX hbl hbA (lw_in (k := 1) (v := 1) hj hL (by decide) rfl) dL_law_441 ?_
  refine j_aload_n hF 0 dL_law_442 rfl ?_
  refine j_iload_n hF 3 dL_law_443 rfl ?_
  refine j_iconst hF (v := 2) dL_law_444 (by decide) ?_
  refine j_iadd hF dL_law_445 ?_
  refine j_sld hF hX hbl hbA (lw_in (k := 2) (v := 2) hj hL (by decide) rfl) dL_law_446 ?_
  obtain ⟨r, σ1, σ2, e1, e2, hI2⟩ := hS (xs (nI j + 1).toNatClampNeg) (xs (nI j + 2).toNatClampNeg) σ q hq hI
  refine cs_L_40 hF (rfl : kd 0 = 9) (fun l => mt_X9_trees l e1) (by decide) (Nat.le_of_ble_eq_true rfl) dL_law_447 ?_
  refine j_aload_n hF 2 dL_law_450 rfl ?_
  refine j_aload_n hF 0 dL_law_451 rfl ?_
  refine j_iload_n hF 3 dL_law_452 rfl ?_
  refine j_iconst hF (v := 1) dL_law_453 (by decide) ?_
  refine j_iadd hF dL_law_454 ?_
  refine j_sld hF hX hbl hbA (lw_in (k := 1) (v := 1) hj hL (by decide) rfl) dL_law_455 ?_
  refine j_aload_n hF 0 dL_law_456 rfl ?_
  refine j_iload_n hF 3 dL_law_457 rfl ?_
  refine j_iconst hF (v := 2) dL_law_458 (by decide) ?_
  refine j_iadd hF dL_law_459 ?_
  refine j_sld hF hX hbl hbA (lw_in (k := 2) (v := 2) hj hL (by decide) rfl) dL_law_460 ?_
  refine cs_L_43 hF (rfl : kd 95 = 10) (fun l => mt_X10_trees l e2) (by decide) (Nat.le_of_ble_eq_true rfl) dL_law_461 ?_
  refine j_icmp_eq hF (tgt := 1633) dL_law_464 (by decide) (fun _ => ?_) (fun c => absurd rfl c)
  exact hN _ hI2
set_option maxHeartbeats 4000000 in
set_option maxRecDepth 20000 in
theorem lc_visitor (hS : bzSt_visitor Inv) (hF : bzE g 2000 4 code "BronzeDownLaw" x) (hX : va_X b L xs x.2.2.2.2.1 x.2.2.2.2.1.heap) (hbl : b < x.2.2.2.2.1.heap.size) (hbA : ¬ gA g b) (hL : L ≤ 3072) {j q : Nat} (hj : j + 6 ≤ L) (hq : q ≤ 512) (hN : ∀ σ, Inv (q + 1) σ → bzJ g 4 x σ 1633 [(0, .ref b), (1, .ref (ga g 0)), (2, .ref (ga g 95)), (3, .int (nI j))] []) {σ : bzS} (hI : Inv q σ) : bzJ g 4 x σ 469 [(0, .ref b), (1, .ref (ga g 0)), (2, .ref (ga g 95)), (3, .int (nI j))] [] := by
  refine j_aload_n hF 1 dL_law_469 rfl ?_
  refine j_aload_n hF 0 dL_law_470 rfl ?_
  refine j_iload_n hF 3 dL_law_471 rfl ?_
  refine j_iconst hF (v := 1) dL_law_472 (by decide) ?_
  refine j_iadd hF dL_law_473 ?_
  refine j_sld hF hX hbl hbA (lw_in (k := 1) (v := 1) hj hL (by decide) rfl) dL_law_474 ?_
  refine j_aload_n hF 0 dL_law_475 rfl ?_
  refine j_iload_n hF 3 dL_law_476 rfl ?_
  refine j_iconst hF (v := 2) dL_law_477 (by decide) ?_
  refine j_iadd hF dL_law_478 ?_
  refine j_sld hF hX hbl hbA (lw_in (k := 2) (v := 2) hj hL (by decide) rfl) dL_law_479 ?_
  refine j_aload_n hF 0 dL_law_480 rfl ?_
  refine j_iload_n hF 3 dL_law_481 rfl ?_
  refine j_iconst hF (v := 3) dL_law_482 (by decide) ?_
  refine j_iadd hF dL_law_483 ?_
  refine j_sld hF hX hbl hbA (lw_in (k := 3) (v := 3) hj hL (by decide) rfl) dL_law_484 ?_
  obtain ⟨r, σ1, σ2, e1, e2, hI2⟩ := hS (xs (nI j + 1).toNatClampNeg) (xs (nI j + 2).toNatClampNeg) (xs (nI j + 3).toNatClampNeg) σ q hq hI
  refine cs_L_44 hF (rfl : kd 0 = 9) (fun l => mt_X9_visitor l e1) (by decide) (Nat.le_of_ble_eq_true rfl) dL_law_485 ?_
  refine j_aload_n hF 2 dL_law_488 rfl ?_
  refine j_aload_n hF 0 dL_law_489 rfl ?_
  refine j_iload_n hF 3 dL_law_490 rfl ?_
  refine j_iconst hF (v := 1) dL_law_491 (by decide) ?_
  refine j_iadd hF dL_law_492 ?_
  refine j_sld hF hX hbl hbA (lw_in (k := 1) (v := 1) hj hL (by decide) rfl) dL_law_493 ?_
  refine j_aload_n hF 0 dL_law_494 rfl ?_
  refine j_iload_n hF 3 dL_law_495 rfl ?_
  refine j_iconst hF (v := 2) dL_law_496 (by decide) ?_
  refine j_iadd hF dL_law_497 ?_
  refine j_sld hF hX hbl hbA (lw_in (k := 2) (v := 2) hj hL (by decide) rfl) dL_law_498 ?_
  refine j_aload_n hF 0 dL_law_499 rfl ?_
  refine j_iload_n hF 3 dL_law_500 rfl ?_
  refine j_iconst hF (v := 3) dL_law_501 (by decide) ?_
  refine j_iadd hF dL_law_502 ?_
  refine j_sld hF hX hbl hbA (lw_in (k := 3) (v := 3) hj hL (by decide) rfl) dL_law_503 ?_
  refine cs_L_47 hF (rfl : kd 95 = 10) (fun l => mt_X10_visitor l e2) (by decide) (Nat.le_of_ble_eq_true rfl) dL_law_504 ?_
  refine j_icmp_eq hF (tgt := 1633) dL_law_507 (by decide) (fun _ => ?_) (fun c => absurd rfl c)
  exact hN _ hI2
set_option maxHeartbeats 4000000 in
set_option maxRecDepth 20000 in
theorem lc_ofVisitor (hS : bzSt_ofVisitor Inv) (hF : bzE g 2000 4 code "BronzeDownLaw" x) (hX : va_X b L xs x.2.2.2.2.1 x.2.2.2.2.1.heap) (hbl : b < x.2.2.2.2.1.heap.size) (hbA : ¬ gA g b) (hL : L ≤ 3072) {j q : Nat} (hj : j + 6 ≤ L) (hq : q ≤ 512) (hN : ∀ σ, Inv (q + 1) σ → bzJ g 4 x σ 1633 [(0, .ref b), (1, .ref (ga g 0)), (2, .ref (ga g 95)), (3, .int (nI j))] []) {σ : bzS} (hI : Inv q σ) : bzJ g 4 x σ 512 [(0, .ref b), (1, .ref (ga g 0)), (2, .ref (ga g 95)), (3, .int (nI j))] [] := by
  refine j_aload_n hF 1 dL_law_512 rfl ?_
  refine j_aload_n hF 0 dL_law_513 rfl ?_
  refine j_iload_n hF 3 dL_law_514 rfl ?_
  refine j_iconst hF (v := 1) dL_law_515 (by decide) ?_
  refine j_iadd hF dL_law_516 ?_
  refine j_sld hF hX hbl hbA (lw_in (k := 1) (v := 1) hj hL (by decide) rfl) dL_law_517 ?_
  refine j_aload_n hF 0 dL_law_518 rfl ?_
  refine j_iload_n hF 3 dL_law_519 rfl ?_
  refine j_iconst hF (v := 2) dL_law_520 (by decide) ?_
  refine j_iadd hF dL_law_521 ?_
  refine j_sld hF hX hbl hbA (lw_in (k := 2) (v := 2) hj hL (by decide) rfl) dL_law_522 ?_
  obtain ⟨r, σ1, σ2, e1, e2, hI2⟩ := hS (xs (nI j + 1).toNatClampNeg) (xs (nI j + 2).toNatClampNeg) σ q hq hI
  refine cs_L_48 hF (rfl : kd 0 = 9) (fun l => mt_X9_ofVisitor l e1) (by decide) (Nat.le_of_ble_eq_true rfl) dL_law_523 ?_
  refine j_aload_n hF 2 dL_law_526 rfl ?_
  refine j_aload_n hF 0 dL_law_527 rfl ?_
  refine j_iload_n hF 3 dL_law_528 rfl ?_
  refine j_iconst hF (v := 1) dL_law_529 (by decide) ?_
  refine j_iadd hF dL_law_530 ?_
  refine j_sld hF hX hbl hbA (lw_in (k := 1) (v := 1) hj hL (by decide) rfl) dL_law_531 ?_
  refine j_aload_n hF 0 dL_law_532 rfl ?_
  refine j_iload_n hF 3 dL_law_533 rfl ?_
  refine j_iconst hF (v := 2) dL_law_534 (by decide) ?_
  refine j_iadd hF dL_law_535 ?_
  refine j_sld hF hX hbl hbA (lw_in (k := 2) (v := 2) hj hL (by decide) rfl) dL_law_536 ?_
  refine cs_L_51 hF (rfl : kd 95 = 10) (fun l => mt_X10_ofVisitor l e2) (by decide) (Nat.le_of_ble_eq_true rfl) dL_law_537 ?_
  refine j_icmp_eq hF (tgt := 1633) dL_law_540 (by decide) (fun _ => ?_) (fun c => absurd rfl c)
  exact hN _ hI2
set_option maxHeartbeats 4000000 in
set_option maxRecDepth 20000 in
theorem lc_change (hS : bzSt_change Inv) (hF : bzE g 2000 4 code "BronzeDownLaw" x) (hX : va_X b L xs x.2.2.2.2.1 x.2.2.2.2.1.heap) (hbl : b < x.2.2.2.2.1.heap.size) (hbA : ¬ gA g b) (hL : L ≤ 3072) {j q : Nat} (hj : j + 6 ≤ L) (hq : q ≤ 512) (hN : ∀ σ, Inv (q + 1) σ → bzJ g 4 x σ 1633 [(0, .ref b), (1, .ref (ga g 0)), (2, .ref (ga g 95)), (3, .int (nI j))] []) {σ : bzS} (hI : Inv q σ) : bzJ g 4 x σ 545 [(0, .ref b), (1, .ref (ga g 0)), (2, .ref (ga g 95)), (3, .int (nI j))] [] := by
  refine j_aload_n hF 1 dL_law_545 rfl ?_
  refine j_aload_n hF 0 dL_law_546 rfl ?_
  refine j_iload_n hF 3 dL_law_547 rfl ?_
  refine j_iconst hF (v := 1) dL_law_548 (by decide) ?_
  refine j_iadd hF dL_law_549 ?_
  refine j_sld hF hX hbl hbA (lw_in (k := 1) (v := 1) hj hL (by decide) rfl) dL_law_550 ?_
  refine j_aload_n hF 0 dL_law_551 rfl ?_
  refine j_iload_n hF 3 dL_law_552 rfl ?_
  refine j_iconst hF (v := 2) dL_law_553 (by decide) ?_
  refine j_iadd hF dL_law_554 ?_
  refine j_sld hF hX hbl hbA (lw_in (k := 2) (v := 2) hj hL (by decide) rfl) dL_law_555 ?_
  refine j_aload_n hF 0 dL_law_556 rfl ?_
  refine j_iload_n hF 3 dL_law_557 rfl ?_
  refine j_iconst hF (v := 3) dL_law_558 (by decide) ?_
  refine j_iadd hF dL_law_559 ?_
  refine j_sld hF hX hbl hbA (lw_in (k := 3) (v := 3) hj hL (by decide) rfl) dL_law_560 ?_
  obtain ⟨r, σ1, σ2, e1, e2, hI2⟩ := hS (xs (nI j + 1).toNatClampNeg) (xs (nI j + 2).toNatClampNeg) (xs (nI j + 3).toNatClampNeg) σ q hq hI
  refine cs_L_52 hF (rfl : kd 0 = 9) (fun l => mt_X9_change l e1) (by decide) (Nat.le_of_ble_eq_true rfl) dL_law_561 ?_
  refine j_aload_n hF 2 dL_law_564 rfl ?_
  refine j_aload_n hF 0 dL_law_565 rfl ?_
  refine j_iload_n hF 3 dL_law_566 rfl ?_
  refine j_iconst hF (v := 1) dL_law_567 (by decide) ?_
  refine j_iadd hF dL_law_568 ?_
  refine j_sld hF hX hbl hbA (lw_in (k := 1) (v := 1) hj hL (by decide) rfl) dL_law_569 ?_
  refine j_aload_n hF 0 dL_law_570 rfl ?_
  refine j_iload_n hF 3 dL_law_571 rfl ?_
  refine j_iconst hF (v := 2) dL_law_572 (by decide) ?_
  refine j_iadd hF dL_law_573 ?_
  refine j_sld hF hX hbl hbA (lw_in (k := 2) (v := 2) hj hL (by decide) rfl) dL_law_574 ?_
  refine j_aload_n hF 0 dL_law_575 rfl ?_
  refine j_iload_n hF 3 dL_law_576 rfl ?_
  refine j_iconst hF (v := 3) dL_law_577 (by decide) ?_
  refine j_iadd hF dL_law_578 ?_
  refine j_sld hF hX hbl hbA (lw_in (k := 3) (v := 3) hj hL (by decide) rfl) dL_law_579 ?_
  refine cs_L_55 hF (rfl : kd 95 = 10) (fun l => mt_X10_change l e2) (by decide) (Nat.le_of_ble_eq_true rfl) dL_law_580 ?_
  refine j_icmp_eq hF (tgt := 1633) dL_law_583 (by decide) (fun _ => ?_) (fun c => absurd rfl c)
  exact hN _ hI2
set_option maxHeartbeats 4000000 in
set_option maxRecDepth 20000 in
theorem lc_become (hS : bzSt_become Inv) (hF : bzE g 2000 4 code "BronzeDownLaw" x) (hX : va_X b L xs x.2.2.2.2.1 x.2.2.2.2.1.heap) (hbl : b < x.2.2.2.2.1.heap.size) (hbA : ¬ gA g b) (hL : L ≤ 3072) {j q : Nat} (hj : j + 6 ≤ L) (hq : q ≤ 512) (hN : ∀ σ, Inv (q + 1) σ → bzJ g 4 x σ 1633 [(0, .ref b), (1, .ref (ga g 0)), (2, .ref (ga g 95)), (3, .int (nI j))] []) {σ : bzS} (hI : Inv q σ) : bzJ g 4 x σ 588 [(0, .ref b), (1, .ref (ga g 0)), (2, .ref (ga g 95)), (3, .int (nI j))] [] := by
  refine j_aload_n hF 1 dL_law_588 rfl ?_
  refine j_aload_n hF 0 dL_law_589 rfl ?_
  refine j_iload_n hF 3 dL_law_590 rfl ?_
  refine j_iconst hF (v := 1) dL_law_591 (by decide) ?_
  refine j_iadd hF dL_law_592 ?_
  refine j_sld hF hX hbl hbA (lw_in (k := 1) (v := 1) hj hL (by decide) rfl) dL_law_593 ?_
  refine j_aload_n hF 0 dL_law_594 rfl ?_
  refine j_iload_n hF 3 dL_law_595 rfl ?_
  refine j_iconst hF (v := 2) dL_law_596 (by decide) ?_
  refine j_iadd hF dL_law_597 ?_
  refine j_sld hF hX hbl hbA (lw_in (k := 2) (v := 2) hj hL (by decide) rfl) dL_law_598 ?_
  obtain ⟨r, σ1, σ2, e1, e2, hI2⟩ := hS (xs (nI j + 1).toNatClampNeg) (xs (nI j + 2).toNatClampNeg) σ q hq hI
  refine cs_L_56 hF (rfl : kd 0 = 9) (fun l => mt_X9_become l e1) (by decide) (Nat.le_of_ble_eq_true rfl) dL_law_599 ?_
  refine j_aload_n hF 2 dL_law_602 rfl ?_
  refine j_aload_n hF 0 dL_law_603 rfl ?_
  refine j_iload_n hF 3 dL_law_604 rfl ?_
  refine j_iconst hF (v := 1) dL_law_605 (by decide) ?_
  refine j_iadd hF dL_law_606 ?_
  refine j_sld hF hX hbl hbA (lw_in (k := 1) (v := 1) hj hL (by decide) rfl) dL_law_607 ?_
  refine j_aload_n hF 0 dL_law_608 rfl ?_
  refine j_iload_n hF 3 dL_law_609 rfl ?_
  refine j_iconst hF (v := 2) dL_law_610 (by decide) ?_
  refine j_iadd hF dL_law_611 ?_
  refine j_sld hF hX hbl hbA (lw_in (k := 2) (v := 2) hj hL (by decide) rfl) dL_law_612 ?_
  refine cs_L_59 hF (rfl : kd 95 = 10) (fun l => mt_X10_become l e2) (by decide) (Nat.le_of_ble_eq_true rfl) dL_law_613 ?_
  refine j_icmp_eq hF (tgt := 1633) dL_law_616 (by decide) (fun _ => ?_) (fun c => absurd rfl c)
  exact hN _ hI2
set_option maxHeartbeats 4000000 in
set_option maxRecDepth 20000 in
theorem lc_as (hS : bzSt_as Inv) (hF : bzE g 2000 4 code "BronzeDownLaw" x) (hX : va_X b L xs x.2.2.2.2.1 x.2.2.2.2.1.heap) (hbl : b < x.2.2.2.2.1.heap.size) (hbA : ¬ gA g b) (hL : L ≤ 3072) {j q : Nat} (hj : j + 6 ≤ L) (hq : q ≤ 512) (hN : ∀ σ, Inv (q + 1) σ → bzJ g 4 x σ 1633 [(0, .ref b), (1, .ref (ga g 0)), (2, .ref (ga g 95)), (3, .int (nI j))] []) {σ : bzS} (hI : Inv q σ) : bzJ g 4 x σ 621 [(0, .ref b), (1, .ref (ga g 0)), (2, .ref (ga g 95)), (3, .int (nI j))] [] := by
  refine j_aload_n hF 1 dL_law_621 rfl ?_
  refine j_aload_n hF 0 dL_law_622 rfl ?_
  refine j_iload_n hF 3 dL_law_623 rfl ?_
  refine j_iconst hF (v := 1) dL_law_624 (by decide) ?_
  refine j_iadd hF dL_law_625 ?_
  refine j_sld hF hX hbl hbA (lw_in (k := 1) (v := 1) hj hL (by decide) rfl) dL_law_626 ?_
  refine j_aload_n hF 0 dL_law_627 rfl ?_
  refine j_iload_n hF 3 dL_law_628 rfl ?_
  refine j_iconst hF (v := 2) dL_law_629 (by decide) ?_
  refine j_iadd hF dL_law_630 ?_
  refine j_sld hF hX hbl hbA (lw_in (k := 2) (v := 2) hj hL (by decide) rfl) dL_law_631 ?_
  obtain ⟨r, σ1, σ2, e1, e2, hI2⟩ := hS (xs (nI j + 1).toNatClampNeg) (xs (nI j + 2).toNatClampNeg) σ q hq hI
  refine cs_L_60 hF (rfl : kd 0 = 9) (fun l => mt_X9_as l e1) (by decide) (Nat.le_of_ble_eq_true rfl) dL_law_632 ?_
  refine j_aload_n hF 2 dL_law_635 rfl ?_
  refine j_aload_n hF 0 dL_law_636 rfl ?_
  refine j_iload_n hF 3 dL_law_637 rfl ?_
  refine j_iconst hF (v := 1) dL_law_638 (by decide) ?_
  refine j_iadd hF dL_law_639 ?_
  refine j_sld hF hX hbl hbA (lw_in (k := 1) (v := 1) hj hL (by decide) rfl) dL_law_640 ?_
  refine j_aload_n hF 0 dL_law_641 rfl ?_
  refine j_iload_n hF 3 dL_law_642 rfl ?_
  refine j_iconst hF (v := 2) dL_law_643 (by decide) ?_
  refine j_iadd hF dL_law_644 ?_
  refine j_sld hF hX hbl hbA (lw_in (k := 2) (v := 2) hj hL (by decide) rfl) dL_law_645 ?_
  refine cs_L_63 hF (rfl : kd 95 = 10) (fun l => mt_X10_as l e2) (by decide) (Nat.le_of_ble_eq_true rfl) dL_law_646 ?_
  refine j_icmp_eq hF (tgt := 1633) dL_law_649 (by decide) (fun _ => ?_) (fun c => absurd rfl c)
  exact hN _ hI2
set_option maxHeartbeats 4000000 in
set_option maxRecDepth 20000 in
theorem lc_feed (hS : bzSt_feed Inv) (hF : bzE g 2000 4 code "BronzeDownLaw" x) (hX : va_X b L xs x.2.2.2.2.1 x.2.2.2.2.1.heap) (hbl : b < x.2.2.2.2.1.heap.size) (hbA : ¬ gA g b) (hL : L ≤ 3072) {j q : Nat} (hj : j + 6 ≤ L) (hq : q ≤ 512) (hN : ∀ σ, Inv (q + 1) σ → bzJ g 4 x σ 1633 [(0, .ref b), (1, .ref (ga g 0)), (2, .ref (ga g 95)), (3, .int (nI j))] []) {σ : bzS} (hI : Inv q σ) : bzJ g 4 x σ 654 [(0, .ref b), (1, .ref (ga g 0)), (2, .ref (ga g 95)), (3, .int (nI j))] [] := by
  refine j_aload_n hF 1 dL_law_654 rfl ?_
  refine j_aload_n hF 0 dL_law_655 rfl ?_
  refine j_iload_n hF 3 dL_law_656 rfl ?_
  refine j_iconst hF (v := 1) dL_law_657 (by decide) ?_
  refine j_iadd hF dL_law_658 ?_
  refine j_sld hF hX hbl hbA (lw_in (k := 1) (v := 1) hj hL (by decide) rfl) dL_law_659 ?_
  refine j_i2l hF dL_law_660 ?_
  refine j_bipush hF (v := 32) dL_law_661 (by decide) ?_
  refine j_lshl hF dL_law_663 ?_
  refine j_aload_n hF 0 dL_law_664 rfl ?_
  refine j_iload_n hF 3 dL_law_665 rfl ?_
  refine j_iconst hF (v := 2) dL_law_666 (by decide) ?_
  refine j_iadd hF dL_law_667 ?_
  refine j_sld hF hX hbl hbA (lw_in (k := 2) (v := 2) hj hL (by decide) rfl) dL_law_668 ?_
  refine j_i2l hF dL_law_669 ?_
  refine j_ldc2_w hF (v := 4294967295) kc_L_64 dL_law_670 ?_
  refine j_land hF dL_law_673 ?_
  refine j_lor hF dL_law_674 ?_
  refine j_aload_n hF 0 dL_law_675 rfl ?_
  refine j_iload_n hF 3 dL_law_676 rfl ?_
  refine j_iconst hF (v := 3) dL_law_677 (by decide) ?_
  refine j_iadd hF dL_law_678 ?_
  refine j_sld hF hX hbl hbA (lw_in (k := 3) (v := 3) hj hL (by decide) rfl) dL_law_679 ?_
  obtain ⟨r, σ1, σ2, e1, e2, hI2⟩ := hS (((xs (nI j + 1).toNatClampNeg).toInt64 <<< ((32 : Int32).toInt64 &&& 63)) ||| ((xs (nI j + 2).toNatClampNeg).toInt64 &&& 4294967295)) (xs (nI j + 3).toNatClampNeg) σ q hq hI
  refine cs_L_66 hF (rfl : kd 0 = 9) (fun l => mt_X9_feed l e1) (by decide) (Nat.le_of_ble_eq_true rfl) dL_law_680 ?_
  refine j_aload_n hF 2 dL_law_683 rfl ?_
  refine j_aload_n hF 0 dL_law_684 rfl ?_
  refine j_iload_n hF 3 dL_law_685 rfl ?_
  refine j_iconst hF (v := 1) dL_law_686 (by decide) ?_
  refine j_iadd hF dL_law_687 ?_
  refine j_sld hF hX hbl hbA (lw_in (k := 1) (v := 1) hj hL (by decide) rfl) dL_law_688 ?_
  refine j_i2l hF dL_law_689 ?_
  refine j_bipush hF (v := 32) dL_law_690 (by decide) ?_
  refine j_lshl hF dL_law_692 ?_
  refine j_aload_n hF 0 dL_law_693 rfl ?_
  refine j_iload_n hF 3 dL_law_694 rfl ?_
  refine j_iconst hF (v := 2) dL_law_695 (by decide) ?_
  refine j_iadd hF dL_law_696 ?_
  refine j_sld hF hX hbl hbA (lw_in (k := 2) (v := 2) hj hL (by decide) rfl) dL_law_697 ?_
  refine j_i2l hF dL_law_698 ?_
  refine j_ldc2_w hF (v := 4294967295) kc_L_64 dL_law_699 ?_
  refine j_land hF dL_law_702 ?_
  refine j_lor hF dL_law_703 ?_
  refine j_aload_n hF 0 dL_law_704 rfl ?_
  refine j_iload_n hF 3 dL_law_705 rfl ?_
  refine j_iconst hF (v := 3) dL_law_706 (by decide) ?_
  refine j_iadd hF dL_law_707 ?_
  refine j_sld hF hX hbl hbA (lw_in (k := 3) (v := 3) hj hL (by decide) rfl) dL_law_708 ?_
  refine cs_L_70 hF (rfl : kd 95 = 10) (fun l => mt_X10_feed l e2) (by decide) (Nat.le_of_ble_eq_true rfl) dL_law_709 ?_
  refine j_icmp_eq hF (tgt := 1633) dL_law_712 (by decide) (fun _ => ?_) (fun c => absurd rfl c)
  exact hN _ hI2
set_option maxHeartbeats 4000000 in
set_option maxRecDepth 20000 in
theorem lc_text (hS : bzSt_text Inv) (hF : bzE g 2000 4 code "BronzeDownLaw" x) (hX : va_X b L xs x.2.2.2.2.1 x.2.2.2.2.1.heap) (hbl : b < x.2.2.2.2.1.heap.size) (hbA : ¬ gA g b) (hL : L ≤ 3072) {j q : Nat} (hj : j + 6 ≤ L) (hq : q ≤ 512) (hN : ∀ σ, Inv (q + 1) σ → bzJ g 4 x σ 1633 [(0, .ref b), (1, .ref (ga g 0)), (2, .ref (ga g 95)), (3, .int (nI j))] []) {σ : bzS} (hI : Inv q σ) : bzJ g 4 x σ 717 [(0, .ref b), (1, .ref (ga g 0)), (2, .ref (ga g 95)), (3, .int (nI j))] [] := by
  refine j_aload_n hF 1 dL_law_717 rfl ?_
  refine j_aload_n hF 0 dL_law_718 rfl ?_
  refine j_iload_n hF 3 dL_law_719 rfl ?_
  refine j_iconst hF (v := 1) dL_law_720 (by decide) ?_
  refine j_iadd hF dL_law_721 ?_
  refine j_sld hF hX hbl hbA (lw_in (k := 1) (v := 1) hj hL (by decide) rfl) dL_law_722 ?_
  obtain ⟨r, σ1, σ2, e1, e2, hI2⟩ := hS (xs (nI j + 1).toNatClampNeg) σ q hq hI
  refine cs_L_71 hF (rfl : kd 0 = 9) (fun l => mt_X9_text l e1) (by decide) (Nat.le_of_ble_eq_true rfl) dL_law_723 ?_
  refine j_aload_n hF 2 dL_law_726 rfl ?_
  refine j_aload_n hF 0 dL_law_727 rfl ?_
  refine j_iload_n hF 3 dL_law_728 rfl ?_
  refine j_iconst hF (v := 1) dL_law_729 (by decide) ?_
  refine j_iadd hF dL_law_730 ?_
  refine j_sld hF hX hbl hbA (lw_in (k := 1) (v := 1) hj hL (by decide) rfl) dL_law_731 ?_
  refine cs_L_74 hF (rfl : kd 95 = 10) (fun l => mt_X10_text l e2) (by decide) (Nat.le_of_ble_eq_true rfl) dL_law_732 ?_
  refine j_icmp_eq hF (tgt := 1633) dL_law_735 (by decide) (fun _ => ?_) (fun c => absurd rfl c)
  exact hN _ hI2
set_option maxHeartbeats 4000000 in
set_option maxRecDepth 20000 in
theorem lc_law (hS : bzSt_law Inv) (hF : bzE g 2000 4 code "BronzeDownLaw" x) (hX : va_X b L xs x.2.2.2.2.1 x.2.2.2.2.1.heap) (hbl : b < x.2.2.2.2.1.heap.size) (hbA : ¬ gA g b) (hL : L ≤ 3072) {j q : Nat} (hj : j + 6 ≤ L) (hq : q ≤ 512) (hN : ∀ σ, Inv (q + 1) σ → bzJ g 4 x σ 1633 [(0, .ref b), (1, .ref (ga g 0)), (2, .ref (ga g 95)), (3, .int (nI j))] []) {σ : bzS} (hI : Inv q σ) : bzJ g 4 x σ 740 [(0, .ref b), (1, .ref (ga g 0)), (2, .ref (ga g 95)), (3, .int (nI j))] [] := by
  refine j_aload_n hF 1 dL_law_740 rfl ?_
  refine j_aload_n hF 0 dL_law_741 rfl ?_
  refine j_iload_n hF 3 dL_law_742 rfl ?_
  refine j_iconst hF (v := 1) dL_law_743 (by decide) ?_
  refine j_iadd hF dL_law_744 ?_
  refine j_sld hF hX hbl hbA (lw_in (k := 1) (v := 1) hj hL (by decide) rfl) dL_law_745 ?_
  refine j_aload_n hF 0 dL_law_746 rfl ?_
  refine j_iload_n hF 3 dL_law_747 rfl ?_
  refine j_iconst hF (v := 2) dL_law_748 (by decide) ?_
  refine j_iadd hF dL_law_749 ?_
  refine j_sld hF hX hbl hbA (lw_in (k := 2) (v := 2) hj hL (by decide) rfl) dL_law_750 ?_
  refine j_aload_n hF 0 dL_law_751 rfl ?_
  refine j_iload_n hF 3 dL_law_752 rfl ?_
  refine j_iconst hF (v := 3) dL_law_753 (by decide) ?_
  refine j_iadd hF dL_law_754 ?_
  refine j_sld hF hX hbl hbA (lw_in (k := 3) (v := 3) hj hL (by decide) rfl) dL_law_755 ?_
  refine j_aload_n hF 0 dL_law_756 rfl ?_
  refine j_iload_n hF 3 dL_law_757 rfl ?_
  refine j_iconst hF (v := 4) dL_law_758 (by decide) ?_
  refine j_iadd hF dL_law_759 ?_
  refine j_sld hF hX hbl hbA (lw_in (k := 4) (v := 4) hj hL (by decide) rfl) dL_law_760 ?_
  obtain ⟨r, σ1, σ2, e1, e2, hI2⟩ := hS (xs (nI j + 1).toNatClampNeg) (xs (nI j + 2).toNatClampNeg) (xs (nI j + 3).toNatClampNeg) (xs (nI j + 4).toNatClampNeg) σ q hq hI
  refine cs_L_75 hF (rfl : kd 0 = 9) (fun l => mt_X9_law l e1) (by decide) (Nat.le_of_ble_eq_true rfl) dL_law_761 ?_
  refine j_aload_n hF 2 dL_law_764 rfl ?_
  refine j_aload_n hF 0 dL_law_765 rfl ?_
  refine j_iload_n hF 3 dL_law_766 rfl ?_
  refine j_iconst hF (v := 1) dL_law_767 (by decide) ?_
  refine j_iadd hF dL_law_768 ?_
  refine j_sld hF hX hbl hbA (lw_in (k := 1) (v := 1) hj hL (by decide) rfl) dL_law_769 ?_
  refine j_aload_n hF 0 dL_law_770 rfl ?_
  refine j_iload_n hF 3 dL_law_771 rfl ?_
  refine j_iconst hF (v := 2) dL_law_772 (by decide) ?_
  refine j_iadd hF dL_law_773 ?_
  refine j_sld hF hX hbl hbA (lw_in (k := 2) (v := 2) hj hL (by decide) rfl) dL_law_774 ?_
  refine j_aload_n hF 0 dL_law_775 rfl ?_
  refine j_iload_n hF 3 dL_law_776 rfl ?_
  refine j_iconst hF (v := 3) dL_law_777 (by decide) ?_
  refine j_iadd hF dL_law_778 ?_
  refine j_sld hF hX hbl hbA (lw_in (k := 3) (v := 3) hj hL (by decide) rfl) dL_law_779 ?_
  refine j_aload_n hF 0 dL_law_780 rfl ?_
  refine j_iload_n hF 3 dL_law_781 rfl ?_
  refine j_iconst hF (v := 4) dL_law_782 (by decide) ?_
  refine j_iadd hF dL_law_783 ?_
  refine j_sld hF hX hbl hbA (lw_in (k := 4) (v := 4) hj hL (by decide) rfl) dL_law_784 ?_
  refine cs_L_79 hF (rfl : kd 95 = 10) (fun l => mt_X10_law l e2) (by decide) (Nat.le_of_ble_eq_true rfl) dL_law_785 ?_
  refine j_icmp_eq hF (tgt := 1633) dL_law_788 (by decide) (fun _ => ?_) (fun c => absurd rfl c)
  exact hN _ hI2
set_option maxHeartbeats 4000000 in
set_option maxRecDepth 20000 in
theorem lc_years (hS : bzSt_years Inv) (hF : bzE g 2000 4 code "BronzeDownLaw" x) (hX : va_X b L xs x.2.2.2.2.1 x.2.2.2.2.1.heap) (hbl : b < x.2.2.2.2.1.heap.size) (hbA : ¬ gA g b) (hL : L ≤ 3072) {j q : Nat} (hj : j + 6 ≤ L) (hq : q ≤ 512) (hN : ∀ σ, Inv (q + 1) σ → bzJ g 4 x σ 1633 [(0, .ref b), (1, .ref (ga g 0)), (2, .ref (ga g 95)), (3, .int (nI j))] []) {σ : bzS} (hI : Inv q σ) : bzJ g 4 x σ 793 [(0, .ref b), (1, .ref (ga g 0)), (2, .ref (ga g 95)), (3, .int (nI j))] [] := by
  refine j_aload_n hF 1 dL_law_793 rfl ?_
  refine j_aload_n hF 0 dL_law_794 rfl ?_
  refine j_iload_n hF 3 dL_law_795 rfl ?_
  refine j_iconst hF (v := 1) dL_law_796 (by decide) ?_
  refine j_iadd hF dL_law_797 ?_
  refine j_sld hF hX hbl hbA (lw_in (k := 1) (v := 1) hj hL (by decide) rfl) dL_law_798 ?_
  obtain ⟨r, σ1, σ2, e1, e2, hI2⟩ := hS (xs (nI j + 1).toNatClampNeg) σ q hq hI
  refine cs_L_80 hF (rfl : kd 0 = 9) (fun l => mt_X9_years l e1) (by decide) (Nat.le_of_ble_eq_true rfl) dL_law_799 ?_
  refine j_aload_n hF 2 dL_law_802 rfl ?_
  refine j_aload_n hF 0 dL_law_803 rfl ?_
  refine j_iload_n hF 3 dL_law_804 rfl ?_
  refine j_iconst hF (v := 1) dL_law_805 (by decide) ?_
  refine j_iadd hF dL_law_806 ?_
  refine j_sld hF hX hbl hbA (lw_in (k := 1) (v := 1) hj hL (by decide) rfl) dL_law_807 ?_
  refine cs_L_83 hF (rfl : kd 95 = 10) (fun l => mt_X10_years l e2) (by decide) (Nat.le_of_ble_eq_true rfl) dL_law_808 ?_
  refine j_icmp_eq hF (tgt := 1633) dL_law_811 (by decide) (fun _ => ?_) (fun c => absurd rfl c)
  exact hN _ hI2
set_option maxHeartbeats 4000000 in
set_option maxRecDepth 20000 in
theorem lc_loose (hS : bzSt_loose Inv) (hF : bzE g 2000 4 code "BronzeDownLaw" x) (hX : va_X b L xs x.2.2.2.2.1 x.2.2.2.2.1.heap) (hbl : b < x.2.2.2.2.1.heap.size) (hbA : ¬ gA g b) (hL : L ≤ 3072) {j q : Nat} (hj : j + 6 ≤ L) (hq : q ≤ 512) (hN : ∀ σ, Inv (q + 1) σ → bzJ g 4 x σ 1633 [(0, .ref b), (1, .ref (ga g 0)), (2, .ref (ga g 95)), (3, .int (nI j))] []) {σ : bzS} (hI : Inv q σ) : bzJ g 4 x σ 816 [(0, .ref b), (1, .ref (ga g 0)), (2, .ref (ga g 95)), (3, .int (nI j))] [] := by
  refine j_aload_n hF 1 dL_law_816 rfl ?_
  refine j_aload_n hF 0 dL_law_817 rfl ?_
  refine j_iload_n hF 3 dL_law_818 rfl ?_
  refine j_iconst hF (v := 1) dL_law_819 (by decide) ?_
  refine j_iadd hF dL_law_820 ?_
  refine j_sld hF hX hbl hbA (lw_in (k := 1) (v := 1) hj hL (by decide) rfl) dL_law_821 ?_
  obtain ⟨r, σ1, σ2, e1, e2, hI2⟩ := hS (xs (nI j + 1).toNatClampNeg) σ q hq hI
  refine cs_L_84 hF (rfl : kd 0 = 9) (fun l => mt_X9_loose l e1) (by decide) (Nat.le_of_ble_eq_true rfl) dL_law_822 ?_
  refine j_aload_n hF 2 dL_law_825 rfl ?_
  refine j_aload_n hF 0 dL_law_826 rfl ?_
  refine j_iload_n hF 3 dL_law_827 rfl ?_
  refine j_iconst hF (v := 1) dL_law_828 (by decide) ?_
  refine j_iadd hF dL_law_829 ?_
  refine j_sld hF hX hbl hbA (lw_in (k := 1) (v := 1) hj hL (by decide) rfl) dL_law_830 ?_
  refine cs_L_87 hF (rfl : kd 95 = 10) (fun l => mt_X10_loose l e2) (by decide) (Nat.le_of_ble_eq_true rfl) dL_law_831 ?_
  refine j_icmp_eq hF (tgt := 1633) dL_law_834 (by decide) (fun _ => ?_) (fun c => absurd rfl c)
  exact hN _ hI2
set_option maxHeartbeats 4000000 in
set_option maxRecDepth 20000 in
theorem lc_then (hS : bzSt_then Inv) (hF : bzE g 2000 4 code "BronzeDownLaw" x) (hX : va_X b L xs x.2.2.2.2.1 x.2.2.2.2.1.heap) (hbl : b < x.2.2.2.2.1.heap.size) (hbA : ¬ gA g b) (hL : L ≤ 3072) {j q : Nat} (hj : j + 6 ≤ L) (hq : q ≤ 512) (hN : ∀ σ, Inv (q + 1) σ → bzJ g 4 x σ 1633 [(0, .ref b), (1, .ref (ga g 0)), (2, .ref (ga g 95)), (3, .int (nI j))] []) {σ : bzS} (hI : Inv q σ) : bzJ g 4 x σ 839 [(0, .ref b), (1, .ref (ga g 0)), (2, .ref (ga g 95)), (3, .int (nI j))] [] := by
  refine j_aload_n hF 1 dL_law_839 rfl ?_
  refine j_aload_n hF 0 dL_law_840 rfl ?_
  refine j_iload_n hF 3 dL_law_841 rfl ?_
  refine j_iconst hF (v := 1) dL_law_842 (by decide) ?_
  refine j_iadd hF dL_law_843 ?_
  refine j_sld hF hX hbl hbA (lw_in (k := 1) (v := 1) hj hL (by decide) rfl) dL_law_844 ?_
  refine j_aload_n hF 0 dL_law_845 rfl ?_
  refine j_iload_n hF 3 dL_law_846 rfl ?_
  refine j_iconst hF (v := 2) dL_law_847 (by decide) ?_
  refine j_iadd hF dL_law_848 ?_
  refine j_sld hF hX hbl hbA (lw_in (k := 2) (v := 2) hj hL (by decide) rfl) dL_law_849 ?_
  obtain ⟨r, σ1, σ2, e1, e2, hI2⟩ := hS (xs (nI j + 1).toNatClampNeg) (xs (nI j + 2).toNatClampNeg) σ q hq hI
  refine cs_L_88 hF (rfl : kd 0 = 9) (fun l => mt_X9_then l e1) (by decide) (Nat.le_of_ble_eq_true rfl) dL_law_850 ?_
  refine j_aload_n hF 2 dL_law_853 rfl ?_
  refine j_aload_n hF 0 dL_law_854 rfl ?_
  refine j_iload_n hF 3 dL_law_855 rfl ?_
  refine j_iconst hF (v := 1) dL_law_856 (by decide) ?_
  refine j_iadd hF dL_law_857 ?_
  refine j_sld hF hX hbl hbA (lw_in (k := 1) (v := 1) hj hL (by decide) rfl) dL_law_858 ?_
  refine j_aload_n hF 0 dL_law_859 rfl ?_
  refine j_iload_n hF 3 dL_law_860 rfl ?_
  refine j_iconst hF (v := 2) dL_law_861 (by decide) ?_
  refine j_iadd hF dL_law_862 ?_
  refine j_sld hF hX hbl hbA (lw_in (k := 2) (v := 2) hj hL (by decide) rfl) dL_law_863 ?_
  refine cs_L_91 hF (rfl : kd 95 = 10) (fun l => mt_X10_then l e2) (by decide) (Nat.le_of_ble_eq_true rfl) dL_law_864 ?_
  refine j_icmp_eq hF (tgt := 1633) dL_law_867 (by decide) (fun _ => ?_) (fun c => absurd rfl c)
  exact hN _ hI2
set_option maxHeartbeats 4000000 in
set_option maxRecDepth 20000 in
theorem lc_falls (hS : bzSt_falls Inv) (hF : bzE g 2000 4 code "BronzeDownLaw" x) (hX : va_X b L xs x.2.2.2.2.1 x.2.2.2.2.1.heap) (hbl : b < x.2.2.2.2.1.heap.size) (hbA : ¬ gA g b) (hL : L ≤ 3072) {j q : Nat} (hj : j + 6 ≤ L) (hq : q ≤ 512) (hN : ∀ σ, Inv (q + 1) σ → bzJ g 4 x σ 1633 [(0, .ref b), (1, .ref (ga g 0)), (2, .ref (ga g 95)), (3, .int (nI j))] []) {σ : bzS} (hI : Inv q σ) : bzJ g 4 x σ 872 [(0, .ref b), (1, .ref (ga g 0)), (2, .ref (ga g 95)), (3, .int (nI j))] [] := by
  refine j_aload_n hF 1 dL_law_872 rfl ?_
  obtain ⟨r, σ1, σ2, e1, e2, hI2⟩ := hS  σ q hq hI
  refine cs_L_92 hF (rfl : kd 0 = 9) (fun l => mt_X9_falls l e1) (by decide) (Nat.le_of_ble_eq_true rfl) dL_law_873 ?_
  refine j_aload_n hF 2 dL_law_876 rfl ?_
  refine cs_L_96 hF (rfl : kd 95 = 10) (fun l => mt_X10_falls l e2) (by decide) (Nat.le_of_ble_eq_true rfl) dL_law_877 ?_
  refine j_icmp_eq hF (tgt := 1633) dL_law_880 (by decide) (fun _ => ?_) (fun c => absurd rfl c)
  exact hN _ hI2
set_option maxHeartbeats 4000000 in
set_option maxRecDepth 20000 in
theorem lc_wet (hS : bzSt_wet Inv) (hF : bzE g 2000 4 code "BronzeDownLaw" x) (hX : va_X b L xs x.2.2.2.2.1 x.2.2.2.2.1.heap) (hbl : b < x.2.2.2.2.1.heap.size) (hbA : ¬ gA g b) (hL : L ≤ 3072) {j q : Nat} (hj : j + 6 ≤ L) (hq : q ≤ 512) (hN : ∀ σ, Inv (q + 1) σ → bzJ g 4 x σ 1633 [(0, .ref b), (1, .ref (ga g 0)), (2, .ref (ga g 95)), (3, .int (nI j))] []) {σ : bzS} (hI : Inv q σ) : bzJ g 4 x σ 885 [(0, .ref b), (1, .ref (ga g 0)), (2, .ref (ga g 95)), (3, .int (nI j))] [] := by
  refine j_aload_n hF 1 dL_law_885 rfl ?_
  refine j_aload_n hF 0 dL_law_886 rfl ?_
  refine j_iload_n hF 3 dL_law_887 rfl ?_
  refine j_iconst hF (v := 1) dL_law_888 (by decide) ?_
  refine j_iadd hF dL_law_889 ?_
  refine j_sld hF hX hbl hbA (lw_in (k := 1) (v := 1) hj hL (by decide) rfl) dL_law_890 ?_
  refine j_aload_n hF 0 dL_law_891 rfl ?_
  refine j_iload_n hF 3 dL_law_892 rfl ?_
  refine j_iconst hF (v := 2) dL_law_893 (by decide) ?_
  refine j_iadd hF dL_law_894 ?_
  refine j_sld hF hX hbl hbA (lw_in (k := 2) (v := 2) hj hL (by decide) rfl) dL_law_895 ?_
  obtain ⟨r, σ1, σ2, e1, e2, hI2⟩ := hS (xs (nI j + 1).toNatClampNeg) (xs (nI j + 2).toNatClampNeg) σ q hq hI
  refine cs_L_97 hF (rfl : kd 0 = 9) (fun l => mt_X9_wet l e1) (by decide) (Nat.le_of_ble_eq_true rfl) dL_law_896 ?_
  refine j_aload_n hF 2 dL_law_899 rfl ?_
  refine j_aload_n hF 0 dL_law_900 rfl ?_
  refine j_iload_n hF 3 dL_law_901 rfl ?_
  refine j_iconst hF (v := 1) dL_law_902 (by decide) ?_
  refine j_iadd hF dL_law_903 ?_
  refine j_sld hF hX hbl hbA (lw_in (k := 1) (v := 1) hj hL (by decide) rfl) dL_law_904 ?_
  refine j_aload_n hF 0 dL_law_905 rfl ?_
  refine j_iload_n hF 3 dL_law_906 rfl ?_
  refine j_iconst hF (v := 2) dL_law_907 (by decide) ?_
  refine j_iadd hF dL_law_908 ?_
  refine j_sld hF hX hbl hbA (lw_in (k := 2) (v := 2) hj hL (by decide) rfl) dL_law_909 ?_
  refine cs_L_100 hF (rfl : kd 95 = 10) (fun l => mt_X10_wet l e2) (by decide) (Nat.le_of_ble_eq_true rfl) dL_law_910 ?_
  refine j_icmp_eq hF (tgt := 1633) dL_law_913 (by decide) (fun _ => ?_) (fun c => absurd rfl c)
  exact hN _ hI2
set_option maxHeartbeats 4000000 in
set_option maxRecDepth 20000 in
theorem lc_loudFor (hS : bzSt_loudFor Inv) (hF : bzE g 2000 4 code "BronzeDownLaw" x) (hX : va_X b L xs x.2.2.2.2.1 x.2.2.2.2.1.heap) (hbl : b < x.2.2.2.2.1.heap.size) (hbA : ¬ gA g b) (hL : L ≤ 3072) {j q : Nat} (hj : j + 6 ≤ L) (hq : q ≤ 512) (hN : ∀ σ, Inv (q + 1) σ → bzJ g 4 x σ 1633 [(0, .ref b), (1, .ref (ga g 0)), (2, .ref (ga g 95)), (3, .int (nI j))] []) {σ : bzS} (hI : Inv q σ) : bzJ g 4 x σ 918 [(0, .ref b), (1, .ref (ga g 0)), (2, .ref (ga g 95)), (3, .int (nI j))] [] := by
  refine j_aload_n hF 1 dL_law_918 rfl ?_
  refine j_aload_n hF 0 dL_law_919 rfl ?_
  refine j_iload_n hF 3 dL_law_920 rfl ?_
  refine j_iconst hF (v := 1) dL_law_921 (by decide) ?_
  refine j_iadd hF dL_law_922 ?_
  refine j_sld hF hX hbl hbA (lw_in (k := 1) (v := 1) hj hL (by decide) rfl) dL_law_923 ?_
  refine j_aload_n hF 0 dL_law_924 rfl ?_
  refine j_iload_n hF 3 dL_law_925 rfl ?_
  refine j_iconst hF (v := 2) dL_law_926 (by decide) ?_
  refine j_iadd hF dL_law_927 ?_
  refine j_sld hF hX hbl hbA (lw_in (k := 2) (v := 2) hj hL (by decide) rfl) dL_law_928 ?_
  refine j_aload_n hF 0 dL_law_929 rfl ?_
  refine j_iload_n hF 3 dL_law_930 rfl ?_
  refine j_iconst hF (v := 3) dL_law_931 (by decide) ?_
  refine j_iadd hF dL_law_932 ?_
  refine j_sld hF hX hbl hbA (lw_in (k := 3) (v := 3) hj hL (by decide) rfl) dL_law_933 ?_
  obtain ⟨r, σ1, σ2, e1, e2, hI2⟩ := hS (xs (nI j + 1).toNatClampNeg) (xs (nI j + 2).toNatClampNeg) (xs (nI j + 3).toNatClampNeg) σ q hq hI
  refine cs_L_101 hF (rfl : kd 0 = 9) (fun l => mt_X9_loudFor l e1) (by decide) (Nat.le_of_ble_eq_true rfl) dL_law_934 ?_
  refine j_aload_n hF 2 dL_law_937 rfl ?_
  refine j_aload_n hF 0 dL_law_938 rfl ?_
  refine j_iload_n hF 3 dL_law_939 rfl ?_
  refine j_iconst hF (v := 1) dL_law_940 (by decide) ?_
  refine j_iadd hF dL_law_941 ?_
  refine j_sld hF hX hbl hbA (lw_in (k := 1) (v := 1) hj hL (by decide) rfl) dL_law_942 ?_
  refine j_aload_n hF 0 dL_law_943 rfl ?_
  refine j_iload_n hF 3 dL_law_944 rfl ?_
  refine j_iconst hF (v := 2) dL_law_945 (by decide) ?_
  refine j_iadd hF dL_law_946 ?_
  refine j_sld hF hX hbl hbA (lw_in (k := 2) (v := 2) hj hL (by decide) rfl) dL_law_947 ?_
  refine j_aload_n hF 0 dL_law_948 rfl ?_
  refine j_iload_n hF 3 dL_law_949 rfl ?_
  refine j_iconst hF (v := 3) dL_law_950 (by decide) ?_
  refine j_iadd hF dL_law_951 ?_
  refine j_sld hF hX hbl hbA (lw_in (k := 3) (v := 3) hj hL (by decide) rfl) dL_law_952 ?_
  refine cs_L_104 hF (rfl : kd 95 = 10) (fun l => mt_X10_loudFor l e2) (by decide) (Nat.le_of_ble_eq_true rfl) dL_law_953 ?_
  refine j_icmp_eq hF (tgt := 1633) dL_law_956 (by decide) (fun _ => ?_) (fun c => absurd rfl c)
  exact hN _ hI2
set_option maxHeartbeats 4000000 in
set_option maxRecDepth 20000 in
theorem lc_everyFor (hS : bzSt_everyFor Inv) (hF : bzE g 2000 4 code "BronzeDownLaw" x) (hX : va_X b L xs x.2.2.2.2.1 x.2.2.2.2.1.heap) (hbl : b < x.2.2.2.2.1.heap.size) (hbA : ¬ gA g b) (hL : L ≤ 3072) {j q : Nat} (hj : j + 6 ≤ L) (hq : q ≤ 512) (hN : ∀ σ, Inv (q + 1) σ → bzJ g 4 x σ 1633 [(0, .ref b), (1, .ref (ga g 0)), (2, .ref (ga g 95)), (3, .int (nI j))] []) {σ : bzS} (hI : Inv q σ) : bzJ g 4 x σ 961 [(0, .ref b), (1, .ref (ga g 0)), (2, .ref (ga g 95)), (3, .int (nI j))] [] := by
  refine j_aload_n hF 1 dL_law_961 rfl ?_
  refine j_aload_n hF 0 dL_law_962 rfl ?_
  refine j_iload_n hF 3 dL_law_963 rfl ?_
  refine j_iconst hF (v := 1) dL_law_964 (by decide) ?_
  refine j_iadd hF dL_law_965 ?_
  refine j_sld hF hX hbl hbA (lw_in (k := 1) (v := 1) hj hL (by decide) rfl) dL_law_966 ?_
  refine j_aload_n hF 0 dL_law_967 rfl ?_
  refine j_iload_n hF 3 dL_law_968 rfl ?_
  refine j_iconst hF (v := 2) dL_law_969 (by decide) ?_
  refine j_iadd hF dL_law_970 ?_
  refine j_sld hF hX hbl hbA (lw_in (k := 2) (v := 2) hj hL (by decide) rfl) dL_law_971 ?_
  obtain ⟨r, σ1, σ2, e1, e2, hI2⟩ := hS (xs (nI j + 1).toNatClampNeg) (xs (nI j + 2).toNatClampNeg) σ q hq hI
  refine cs_L_105 hF (rfl : kd 0 = 9) (fun l => mt_X9_everyFor l e1) (by decide) (Nat.le_of_ble_eq_true rfl) dL_law_972 ?_
  refine j_aload_n hF 2 dL_law_975 rfl ?_
  refine j_aload_n hF 0 dL_law_976 rfl ?_
  refine j_iload_n hF 3 dL_law_977 rfl ?_
  refine j_iconst hF (v := 1) dL_law_978 (by decide) ?_
  refine j_iadd hF dL_law_979 ?_
  refine j_sld hF hX hbl hbA (lw_in (k := 1) (v := 1) hj hL (by decide) rfl) dL_law_980 ?_
  refine j_aload_n hF 0 dL_law_981 rfl ?_
  refine j_iload_n hF 3 dL_law_982 rfl ?_
  refine j_iconst hF (v := 2) dL_law_983 (by decide) ?_
  refine j_iadd hF dL_law_984 ?_
  refine j_sld hF hX hbl hbA (lw_in (k := 2) (v := 2) hj hL (by decide) rfl) dL_law_985 ?_
  refine cs_L_108 hF (rfl : kd 95 = 10) (fun l => mt_X10_everyFor l e2) (by decide) (Nat.le_of_ble_eq_true rfl) dL_law_986 ?_
  refine j_icmp_eq hF (tgt := 1633) dL_law_989 (by decide) (fun _ => ?_) (fun c => absurd rfl c)
  exact hN _ hI2
set_option maxHeartbeats 4000000 in
set_option maxRecDepth 20000 in
theorem lc_needless (hS : bzSt_needless Inv) (hF : bzE g 2000 4 code "BronzeDownLaw" x) (hX : va_X b L xs x.2.2.2.2.1 x.2.2.2.2.1.heap) (hbl : b < x.2.2.2.2.1.heap.size) (hbA : ¬ gA g b) (hL : L ≤ 3072) {j q : Nat} (hj : j + 6 ≤ L) (hq : q ≤ 512) (hN : ∀ σ, Inv (q + 1) σ → bzJ g 4 x σ 1633 [(0, .ref b), (1, .ref (ga g 0)), (2, .ref (ga g 95)), (3, .int (nI j))] []) {σ : bzS} (hI : Inv q σ) : bzJ g 4 x σ 994 [(0, .ref b), (1, .ref (ga g 0)), (2, .ref (ga g 95)), (3, .int (nI j))] [] := by
  refine j_aload_n hF 1 dL_law_994 rfl ?_
  refine j_aload_n hF 0 dL_law_995 rfl ?_
  refine j_iload_n hF 3 dL_law_996 rfl ?_
  refine j_iconst hF (v := 1) dL_law_997 (by decide) ?_
  refine j_iadd hF dL_law_998 ?_
  refine j_sld hF hX hbl hbA (lw_in (k := 1) (v := 1) hj hL (by decide) rfl) dL_law_999 ?_
  obtain ⟨r, σ1, σ2, e1, e2, hI2⟩ := hS (xs (nI j + 1).toNatClampNeg) σ q hq hI
  refine cs_L_109 hF (rfl : kd 0 = 9) (fun l => mt_X9_needless l e1) (by decide) (Nat.le_of_ble_eq_true rfl) dL_law_1000 ?_
  refine j_aload_n hF 2 dL_law_1003 rfl ?_
  refine j_aload_n hF 0 dL_law_1004 rfl ?_
  refine j_iload_n hF 3 dL_law_1005 rfl ?_
  refine j_iconst hF (v := 1) dL_law_1006 (by decide) ?_
  refine j_iadd hF dL_law_1007 ?_
  refine j_sld hF hX hbl hbA (lw_in (k := 1) (v := 1) hj hL (by decide) rfl) dL_law_1008 ?_
  refine cs_L_112 hF (rfl : kd 95 = 10) (fun l => mt_X10_needless l e2) (by decide) (Nat.le_of_ble_eq_true rfl) dL_law_1009 ?_
  refine j_icmp_eq hF (tgt := 1633) dL_law_1012 (by decide) (fun _ => ?_) (fun c => absurd rfl c)
  exact hN _ hI2
set_option maxHeartbeats 4000000 in
set_option maxRecDepth 20000 in
theorem lc_wanted (hS : bzSt_wanted Inv) (hF : bzE g 2000 4 code "BronzeDownLaw" x) (hX : va_X b L xs x.2.2.2.2.1 x.2.2.2.2.1.heap) (hbl : b < x.2.2.2.2.1.heap.size) (hbA : ¬ gA g b) (hL : L ≤ 3072) {j q : Nat} (hj : j + 6 ≤ L) (hq : q ≤ 512) (hN : ∀ σ, Inv (q + 1) σ → bzJ g 4 x σ 1633 [(0, .ref b), (1, .ref (ga g 0)), (2, .ref (ga g 95)), (3, .int (nI j))] []) {σ : bzS} (hI : Inv q σ) : bzJ g 4 x σ 1017 [(0, .ref b), (1, .ref (ga g 0)), (2, .ref (ga g 95)), (3, .int (nI j))] [] := by
  refine j_aload_n hF 1 dL_law_1017 rfl ?_
  refine j_aload_n hF 0 dL_law_1018 rfl ?_
  refine j_iload_n hF 3 dL_law_1019 rfl ?_
  refine j_iconst hF (v := 1) dL_law_1020 (by decide) ?_
  refine j_iadd hF dL_law_1021 ?_
  refine j_sld hF hX hbl hbA (lw_in (k := 1) (v := 1) hj hL (by decide) rfl) dL_law_1022 ?_
  refine j_aload_n hF 0 dL_law_1023 rfl ?_
  refine j_iload_n hF 3 dL_law_1024 rfl ?_
  refine j_iconst hF (v := 2) dL_law_1025 (by decide) ?_
  refine j_iadd hF dL_law_1026 ?_
  refine j_sld hF hX hbl hbA (lw_in (k := 2) (v := 2) hj hL (by decide) rfl) dL_law_1027 ?_
  obtain ⟨r, σ1, σ2, e1, e2, hI2⟩ := hS (xs (nI j + 1).toNatClampNeg) (xs (nI j + 2).toNatClampNeg) σ q hq hI
  refine cs_L_113 hF (rfl : kd 0 = 9) (fun l => mt_X9_wanted l e1) (by decide) (Nat.le_of_ble_eq_true rfl) dL_law_1028 ?_
  refine j_aload_n hF 2 dL_law_1031 rfl ?_
  refine j_aload_n hF 0 dL_law_1032 rfl ?_
  refine j_iload_n hF 3 dL_law_1033 rfl ?_
  refine j_iconst hF (v := 1) dL_law_1034 (by decide) ?_
  refine j_iadd hF dL_law_1035 ?_
  refine j_sld hF hX hbl hbA (lw_in (k := 1) (v := 1) hj hL (by decide) rfl) dL_law_1036 ?_
  refine j_aload_n hF 0 dL_law_1037 rfl ?_
  refine j_iload_n hF 3 dL_law_1038 rfl ?_
  refine j_iconst hF (v := 2) dL_law_1039 (by decide) ?_
  refine j_iadd hF dL_law_1040 ?_
  refine j_sld hF hX hbl hbA (lw_in (k := 2) (v := 2) hj hL (by decide) rfl) dL_law_1041 ?_
  refine cs_L_116 hF (rfl : kd 95 = 10) (fun l => mt_X10_wanted l e2) (by decide) (Nat.le_of_ble_eq_true rfl) dL_law_1042 ?_
  refine j_icmp_eq hF (tgt := 1633) dL_law_1045 (by decide) (fun _ => ?_) (fun c => absurd rfl c)
  exact hN _ hI2
set_option maxHeartbeats 4000000 in
set_option maxRecDepth 20000 in
theorem lc_which (hS : bzSt_which Inv) (hF : bzE g 2000 4 code "BronzeDownLaw" x) (hX : va_X b L xs x.2.2.2.2.1 x.2.2.2.2.1.heap) (hbl : b < x.2.2.2.2.1.heap.size) (hbA : ¬ gA g b) (hL : L ≤ 3072) {j q : Nat} (hj : j + 6 ≤ L) (hq : q ≤ 512) (hN : ∀ σ, Inv (q + 1) σ → bzJ g 4 x σ 1633 [(0, .ref b), (1, .ref (ga g 0)), (2, .ref (ga g 95)), (3, .int (nI j))] []) {σ : bzS} (hI : Inv q σ) : bzJ g 4 x σ 1050 [(0, .ref b), (1, .ref (ga g 0)), (2, .ref (ga g 95)), (3, .int (nI j))] [] := by
  refine j_aload_n hF 1 dL_law_1050 rfl ?_
  refine j_aload_n hF 0 dL_law_1051 rfl ?_
  refine j_iload_n hF 3 dL_law_1052 rfl ?_
  refine j_iconst hF (v := 1) dL_law_1053 (by decide) ?_
  refine j_iadd hF dL_law_1054 ?_
  refine j_sld hF hX hbl hbA (lw_in (k := 1) (v := 1) hj hL (by decide) rfl) dL_law_1055 ?_
  refine j_aload_n hF 0 dL_law_1056 rfl ?_
  refine j_iload_n hF 3 dL_law_1057 rfl ?_
  refine j_iconst hF (v := 2) dL_law_1058 (by decide) ?_
  refine j_iadd hF dL_law_1059 ?_
  refine j_sld hF hX hbl hbA (lw_in (k := 2) (v := 2) hj hL (by decide) rfl) dL_law_1060 ?_
  obtain ⟨r, σ1, σ2, e1, e2, hI2⟩ := hS (xs (nI j + 1).toNatClampNeg) (xs (nI j + 2).toNatClampNeg) σ q hq hI
  refine cs_L_117 hF (rfl : kd 0 = 9) (fun l => mt_X9_which l e1) (by decide) (Nat.le_of_ble_eq_true rfl) dL_law_1061 ?_
  refine j_aload_n hF 2 dL_law_1064 rfl ?_
  refine j_aload_n hF 0 dL_law_1065 rfl ?_
  refine j_iload_n hF 3 dL_law_1066 rfl ?_
  refine j_iconst hF (v := 1) dL_law_1067 (by decide) ?_
  refine j_iadd hF dL_law_1068 ?_
  refine j_sld hF hX hbl hbA (lw_in (k := 1) (v := 1) hj hL (by decide) rfl) dL_law_1069 ?_
  refine j_aload_n hF 0 dL_law_1070 rfl ?_
  refine j_iload_n hF 3 dL_law_1071 rfl ?_
  refine j_iconst hF (v := 2) dL_law_1072 (by decide) ?_
  refine j_iadd hF dL_law_1073 ?_
  refine j_sld hF hX hbl hbA (lw_in (k := 2) (v := 2) hj hL (by decide) rfl) dL_law_1074 ?_
  refine cs_L_120 hF (rfl : kd 95 = 10) (fun l => mt_X10_which l e2) (by decide) (Nat.le_of_ble_eq_true rfl) dL_law_1075 ?_
  refine j_icmp_eq hF (tgt := 1633) dL_law_1078 (by decide) (fun _ => ?_) (fun c => absurd rfl c)
  exact hN _ hI2
set_option maxHeartbeats 4000000 in
set_option maxRecDepth 20000 in
theorem lc_stair (hS : bzSt_stair Inv) (hF : bzE g 2000 4 code "BronzeDownLaw" x) (hX : va_X b L xs x.2.2.2.2.1 x.2.2.2.2.1.heap) (hbl : b < x.2.2.2.2.1.heap.size) (hbA : ¬ gA g b) (hL : L ≤ 3072) {j q : Nat} (hj : j + 6 ≤ L) (hq : q ≤ 512) (hN : ∀ σ, Inv (q + 1) σ → bzJ g 4 x σ 1633 [(0, .ref b), (1, .ref (ga g 0)), (2, .ref (ga g 95)), (3, .int (nI j))] []) {σ : bzS} (hI : Inv q σ) : bzJ g 4 x σ 1083 [(0, .ref b), (1, .ref (ga g 0)), (2, .ref (ga g 95)), (3, .int (nI j))] [] := by
  refine j_aload_n hF 1 dL_law_1083 rfl ?_
  refine j_aload_n hF 0 dL_law_1084 rfl ?_
  refine j_iload_n hF 3 dL_law_1085 rfl ?_
  refine j_iconst hF (v := 1) dL_law_1086 (by decide) ?_
  refine j_iadd hF dL_law_1087 ?_
  refine j_sld hF hX hbl hbA (lw_in (k := 1) (v := 1) hj hL (by decide) rfl) dL_law_1088 ?_
  obtain ⟨r, σ1, σ2, e1, e2, hI2⟩ := hS (xs (nI j + 1).toNatClampNeg) σ q hq hI
  refine cs_L_121 hF (rfl : kd 0 = 9) (fun l => mt_X9_stair l e1) (by decide) (Nat.le_of_ble_eq_true rfl) dL_law_1089 ?_
  refine j_aload_n hF 2 dL_law_1092 rfl ?_
  refine j_aload_n hF 0 dL_law_1093 rfl ?_
  refine j_iload_n hF 3 dL_law_1094 rfl ?_
  refine j_iconst hF (v := 1) dL_law_1095 (by decide) ?_
  refine j_iadd hF dL_law_1096 ?_
  refine j_sld hF hX hbl hbA (lw_in (k := 1) (v := 1) hj hL (by decide) rfl) dL_law_1097 ?_
  refine cs_L_124 hF (rfl : kd 95 = 10) (fun l => mt_X10_stair l e2) (by decide) (Nat.le_of_ble_eq_true rfl) dL_law_1098 ?_
  refine j_icmp_eq hF (tgt := 1633) dL_law_1101 (by decide) (fun _ => ?_) (fun c => absurd rfl c)
  exact hN _ hI2
set_option maxHeartbeats 4000000 in
set_option maxRecDepth 20000 in
theorem lc_exact (hS : bzSt_exact Inv) (hF : bzE g 2000 4 code "BronzeDownLaw" x) (hX : va_X b L xs x.2.2.2.2.1 x.2.2.2.2.1.heap) (hbl : b < x.2.2.2.2.1.heap.size) (hbA : ¬ gA g b) (hL : L ≤ 3072) {j q : Nat} (hj : j + 6 ≤ L) (hq : q ≤ 512) (hN : ∀ σ, Inv (q + 1) σ → bzJ g 4 x σ 1633 [(0, .ref b), (1, .ref (ga g 0)), (2, .ref (ga g 95)), (3, .int (nI j))] []) {σ : bzS} (hI : Inv q σ) : bzJ g 4 x σ 1106 [(0, .ref b), (1, .ref (ga g 0)), (2, .ref (ga g 95)), (3, .int (nI j))] [] := by
  refine j_aload_n hF 1 dL_law_1106 rfl ?_
  obtain ⟨r, e1, e2, hI2⟩ := hS  σ q hq hI
  refine cs_L_125 hF (rfl : kd 0 = 9) (fun l => mt_X9_exact l e1) (by decide) (Nat.le_of_ble_eq_true rfl) dL_law_1107 ?_
  refine j_aload_n hF 2 dL_law_1110 rfl ?_
  refine cs_L_128 hF (rfl : kd 95 = 10) (fun l => mt_X10_exact l e2) (by decide) (Nat.le_of_ble_eq_true rfl) dL_law_1111 ?_
  refine j_icmp_eq hF (tgt := 1633) dL_law_1114 (by decide) (fun _ => ?_) (fun c => absurd rfl c)
  exact hN _ hI2
set_option maxHeartbeats 4000000 in
set_option maxRecDepth 20000 in
theorem lc_house (hS : bzSt_house Inv) (hF : bzE g 2000 4 code "BronzeDownLaw" x) (hX : va_X b L xs x.2.2.2.2.1 x.2.2.2.2.1.heap) (hbl : b < x.2.2.2.2.1.heap.size) (hbA : ¬ gA g b) (hL : L ≤ 3072) {j q : Nat} (hj : j + 6 ≤ L) (hq : q ≤ 512) (hN : ∀ σ, Inv (q + 1) σ → bzJ g 4 x σ 1633 [(0, .ref b), (1, .ref (ga g 0)), (2, .ref (ga g 95)), (3, .int (nI j))] []) {σ : bzS} (hI : Inv q σ) : bzJ g 4 x σ 1119 [(0, .ref b), (1, .ref (ga g 0)), (2, .ref (ga g 95)), (3, .int (nI j))] [] := by
  refine j_aload_n hF 1 dL_law_1119 rfl ?_
  refine j_aload_n hF 0 dL_law_1120 rfl ?_
  refine j_iload_n hF 3 dL_law_1121 rfl ?_
  refine j_iconst hF (v := 1) dL_law_1122 (by decide) ?_
  refine j_iadd hF dL_law_1123 ?_
  refine j_sld hF hX hbl hbA (lw_in (k := 1) (v := 1) hj hL (by decide) rfl) dL_law_1124 ?_
  refine j_aload_n hF 0 dL_law_1125 rfl ?_
  refine j_iload_n hF 3 dL_law_1126 rfl ?_
  refine j_iconst hF (v := 2) dL_law_1127 (by decide) ?_
  refine j_iadd hF dL_law_1128 ?_
  refine j_sld hF hX hbl hbA (lw_in (k := 2) (v := 2) hj hL (by decide) rfl) dL_law_1129 ?_
  obtain ⟨r, σ1, σ2, e1, e2, hI2⟩ := hS (xs (nI j + 1).toNatClampNeg) (xs (nI j + 2).toNatClampNeg) σ q hq hI
  refine cs_L_129 hF (rfl : kd 0 = 9) (fun l => mt_X9_house l e1) (by decide) (Nat.le_of_ble_eq_true rfl) dL_law_1130 ?_
  refine j_aload_n hF 2 dL_law_1133 rfl ?_
  refine j_aload_n hF 0 dL_law_1134 rfl ?_
  refine j_iload_n hF 3 dL_law_1135 rfl ?_
  refine j_iconst hF (v := 1) dL_law_1136 (by decide) ?_
  refine j_iadd hF dL_law_1137 ?_
  refine j_sld hF hX hbl hbA (lw_in (k := 1) (v := 1) hj hL (by decide) rfl) dL_law_1138 ?_
  refine j_aload_n hF 0 dL_law_1139 rfl ?_
  refine j_iload_n hF 3 dL_law_1140 rfl ?_
  refine j_iconst hF (v := 2) dL_law_1141 (by decide) ?_
  refine j_iadd hF dL_law_1142 ?_
  refine j_sld hF hX hbl hbA (lw_in (k := 2) (v := 2) hj hL (by decide) rfl) dL_law_1143 ?_
  refine cs_L_132 hF (rfl : kd 95 = 10) (fun l => mt_X10_house l e2) (by decide) (Nat.le_of_ble_eq_true rfl) dL_law_1144 ?_
  refine j_icmp_eq hF (tgt := 1633) dL_law_1147 (by decide) (fun _ => ?_) (fun c => absurd rfl c)
  exact hN _ hI2
set_option maxHeartbeats 4000000 in
set_option maxRecDepth 20000 in
theorem lc_power (hS : bzSt_power Inv) (hF : bzE g 2000 4 code "BronzeDownLaw" x) (hX : va_X b L xs x.2.2.2.2.1 x.2.2.2.2.1.heap) (hbl : b < x.2.2.2.2.1.heap.size) (hbA : ¬ gA g b) (hL : L ≤ 3072) {j q : Nat} (hj : j + 6 ≤ L) (hq : q ≤ 512) (hN : ∀ σ, Inv (q + 1) σ → bzJ g 4 x σ 1633 [(0, .ref b), (1, .ref (ga g 0)), (2, .ref (ga g 95)), (3, .int (nI j))] []) {σ : bzS} (hI : Inv q σ) : bzJ g 4 x σ 1152 [(0, .ref b), (1, .ref (ga g 0)), (2, .ref (ga g 95)), (3, .int (nI j))] [] := by
  refine j_aload_n hF 1 dL_law_1152 rfl ?_
  refine j_aload_n hF 0 dL_law_1153 rfl ?_
  refine j_iload_n hF 3 dL_law_1154 rfl ?_
  refine j_iconst hF (v := 1) dL_law_1155 (by decide) ?_
  refine j_iadd hF dL_law_1156 ?_
  refine j_sld hF hX hbl hbA (lw_in (k := 1) (v := 1) hj hL (by decide) rfl) dL_law_1157 ?_
  obtain ⟨r, σ1, σ2, e1, e2, hI2⟩ := hS (xs (nI j + 1).toNatClampNeg) σ q hq hI
  refine cs_L_133 hF (rfl : kd 0 = 9) (fun l => mt_X9_power l e1) (by decide) (Nat.le_of_ble_eq_true rfl) dL_law_1158 ?_
  refine j_aload_n hF 2 dL_law_1161 rfl ?_
  refine j_aload_n hF 0 dL_law_1162 rfl ?_
  refine j_iload_n hF 3 dL_law_1163 rfl ?_
  refine j_iconst hF (v := 1) dL_law_1164 (by decide) ?_
  refine j_iadd hF dL_law_1165 ?_
  refine j_sld hF hX hbl hbA (lw_in (k := 1) (v := 1) hj hL (by decide) rfl) dL_law_1166 ?_
  refine cs_L_136 hF (rfl : kd 95 = 10) (fun l => mt_X10_power l e2) (by decide) (Nat.le_of_ble_eq_true rfl) dL_law_1167 ?_
  refine j_icmp_eq hF (tgt := 1633) dL_law_1170 (by decide) (fun _ => ?_) (fun c => absurd rfl c)
  exact hN _ hI2
set_option maxHeartbeats 4000000 in
set_option maxRecDepth 20000 in
theorem lc_gait (hS : bzSt_gait Inv) (hF : bzE g 2000 4 code "BronzeDownLaw" x) (hX : va_X b L xs x.2.2.2.2.1 x.2.2.2.2.1.heap) (hbl : b < x.2.2.2.2.1.heap.size) (hbA : ¬ gA g b) (hL : L ≤ 3072) {j q : Nat} (hj : j + 6 ≤ L) (hq : q ≤ 512) (hN : ∀ σ, Inv (q + 1) σ → bzJ g 4 x σ 1633 [(0, .ref b), (1, .ref (ga g 0)), (2, .ref (ga g 95)), (3, .int (nI j))] []) {σ : bzS} (hI : Inv q σ) : bzJ g 4 x σ 1175 [(0, .ref b), (1, .ref (ga g 0)), (2, .ref (ga g 95)), (3, .int (nI j))] [] := by
  refine j_aload_n hF 1 dL_law_1175 rfl ?_
  refine j_aload_n hF 0 dL_law_1176 rfl ?_
  refine j_iload_n hF 3 dL_law_1177 rfl ?_
  refine j_iconst hF (v := 1) dL_law_1178 (by decide) ?_
  refine j_iadd hF dL_law_1179 ?_
  refine j_sld hF hX hbl hbA (lw_in (k := 1) (v := 1) hj hL (by decide) rfl) dL_law_1180 ?_
  obtain ⟨r, σ1, σ2, e1, e2, hI2⟩ := hS (xs (nI j + 1).toNatClampNeg) σ q hq hI
  refine cs_L_137 hF (rfl : kd 0 = 9) (fun l => mt_X9_gait l e1) (by decide) (Nat.le_of_ble_eq_true rfl) dL_law_1181 ?_
  refine j_aload_n hF 2 dL_law_1184 rfl ?_
  refine j_aload_n hF 0 dL_law_1185 rfl ?_
  refine j_iload_n hF 3 dL_law_1186 rfl ?_
  refine j_iconst hF (v := 1) dL_law_1187 (by decide) ?_
  refine j_iadd hF dL_law_1188 ?_
  refine j_sld hF hX hbl hbA (lw_in (k := 1) (v := 1) hj hL (by decide) rfl) dL_law_1189 ?_
  refine cs_L_140 hF (rfl : kd 95 = 10) (fun l => mt_X10_gait l e2) (by decide) (Nat.le_of_ble_eq_true rfl) dL_law_1190 ?_
  refine j_icmp_eq hF (tgt := 1633) dL_law_1193 (by decide) (fun _ => ?_) (fun c => absurd rfl c)
  exact hN _ hI2
set_option maxHeartbeats 4000000 in
set_option maxRecDepth 20000 in
theorem lc_odds (hS : bzSt_odds Inv) (hF : bzE g 2000 4 code "BronzeDownLaw" x) (hX : va_X b L xs x.2.2.2.2.1 x.2.2.2.2.1.heap) (hbl : b < x.2.2.2.2.1.heap.size) (hbA : ¬ gA g b) (hL : L ≤ 3072) {j q : Nat} (hj : j + 6 ≤ L) (hq : q ≤ 512) (hN : ∀ σ, Inv (q + 1) σ → bzJ g 4 x σ 1633 [(0, .ref b), (1, .ref (ga g 0)), (2, .ref (ga g 95)), (3, .int (nI j))] []) {σ : bzS} (hI : Inv q σ) : bzJ g 4 x σ 1198 [(0, .ref b), (1, .ref (ga g 0)), (2, .ref (ga g 95)), (3, .int (nI j))] [] := by
  refine j_aload_n hF 1 dL_law_1198 rfl ?_
  refine j_aload_n hF 0 dL_law_1199 rfl ?_
  refine j_iload_n hF 3 dL_law_1200 rfl ?_
  refine j_iconst hF (v := 1) dL_law_1201 (by decide) ?_
  refine j_iadd hF dL_law_1202 ?_
  refine j_sld hF hX hbl hbA (lw_in (k := 1) (v := 1) hj hL (by decide) rfl) dL_law_1203 ?_
  refine j_aload_n hF 0 dL_law_1204 rfl ?_
  refine j_iload_n hF 3 dL_law_1205 rfl ?_
  refine j_iconst hF (v := 2) dL_law_1206 (by decide) ?_
  refine j_iadd hF dL_law_1207 ?_
  refine j_sld hF hX hbl hbA (lw_in (k := 2) (v := 2) hj hL (by decide) rfl) dL_law_1208 ?_
  refine j_aload_n hF 0 dL_law_1209 rfl ?_
  refine j_iload_n hF 3 dL_law_1210 rfl ?_
  refine j_iconst hF (v := 3) dL_law_1211 (by decide) ?_
  refine j_iadd hF dL_law_1212 ?_
  refine j_sld hF hX hbl hbA (lw_in (k := 3) (v := 3) hj hL (by decide) rfl) dL_law_1213 ?_
  obtain ⟨r, σ1, σ2, e1, e2, hI2⟩ := hS (xs (nI j + 1).toNatClampNeg) (xs (nI j + 2).toNatClampNeg) (xs (nI j + 3).toNatClampNeg) σ q hq hI
  refine cs_L_141 hF (rfl : kd 0 = 9) (fun l => mt_X9_odds l e1) (by decide) (Nat.le_of_ble_eq_true rfl) dL_law_1214 ?_
  refine j_aload_n hF 2 dL_law_1217 rfl ?_
  refine j_aload_n hF 0 dL_law_1218 rfl ?_
  refine j_iload_n hF 3 dL_law_1219 rfl ?_
  refine j_iconst hF (v := 1) dL_law_1220 (by decide) ?_
  refine j_iadd hF dL_law_1221 ?_
  refine j_sld hF hX hbl hbA (lw_in (k := 1) (v := 1) hj hL (by decide) rfl) dL_law_1222 ?_
  refine j_aload_n hF 0 dL_law_1223 rfl ?_
  refine j_iload_n hF 3 dL_law_1224 rfl ?_
  refine j_iconst hF (v := 2) dL_law_1225 (by decide) ?_
  refine j_iadd hF dL_law_1226 ?_
  refine j_sld hF hX hbl hbA (lw_in (k := 2) (v := 2) hj hL (by decide) rfl) dL_law_1227 ?_
  refine j_aload_n hF 0 dL_law_1228 rfl ?_
  refine j_iload_n hF 3 dL_law_1229 rfl ?_
  refine j_iconst hF (v := 3) dL_law_1230 (by decide) ?_
  refine j_iadd hF dL_law_1231 ?_
  refine j_sld hF hX hbl hbA (lw_in (k := 3) (v := 3) hj hL (by decide) rfl) dL_law_1232 ?_
  refine cs_L_144 hF (rfl : kd 95 = 10) (fun l => mt_X10_odds l e2) (by decide) (Nat.le_of_ble_eq_true rfl) dL_law_1233 ?_
  refine j_icmp_eq hF (tgt := 1633) dL_law_1236 (by decide) (fun _ => ?_) (fun c => absurd rfl c)
  exact hN _ hI2
set_option maxHeartbeats 4000000 in
set_option maxRecDepth 20000 in
theorem lc_seed (hS : bzSt_seed Inv) (hF : bzE g 2000 4 code "BronzeDownLaw" x) (hX : va_X b L xs x.2.2.2.2.1 x.2.2.2.2.1.heap) (hbl : b < x.2.2.2.2.1.heap.size) (hbA : ¬ gA g b) (hL : L ≤ 3072) {j q : Nat} (hj : j + 6 ≤ L) (hq : q ≤ 512) (hN : ∀ σ, Inv (q + 1) σ → bzJ g 4 x σ 1633 [(0, .ref b), (1, .ref (ga g 0)), (2, .ref (ga g 95)), (3, .int (nI j))] []) {σ : bzS} (hI : Inv q σ) : bzJ g 4 x σ 1241 [(0, .ref b), (1, .ref (ga g 0)), (2, .ref (ga g 95)), (3, .int (nI j))] [] := by
  refine j_aload_n hF 1 dL_law_1241 rfl ?_
  refine j_aload_n hF 0 dL_law_1242 rfl ?_
  refine j_iload_n hF 3 dL_law_1243 rfl ?_
  refine j_iconst hF (v := 1) dL_law_1244 (by decide) ?_
  refine j_iadd hF dL_law_1245 ?_
  refine j_sld hF hX hbl hbA (lw_in (k := 1) (v := 1) hj hL (by decide) rfl) dL_law_1246 ?_
  obtain ⟨r, σ1, σ2, e1, e2, hI2⟩ := hS (xs (nI j + 1).toNatClampNeg) σ q hq hI
  refine cs_L_145 hF (rfl : kd 0 = 9) (fun l => mt_X9_seed l e1) (by decide) (Nat.le_of_ble_eq_true rfl) dL_law_1247 ?_
  refine j_aload_n hF 2 dL_law_1250 rfl ?_
  refine j_aload_n hF 0 dL_law_1251 rfl ?_
  refine j_iload_n hF 3 dL_law_1252 rfl ?_
  refine j_iconst hF (v := 1) dL_law_1253 (by decide) ?_
  refine j_iadd hF dL_law_1254 ?_
  refine j_sld hF hX hbl hbA (lw_in (k := 1) (v := 1) hj hL (by decide) rfl) dL_law_1255 ?_
  refine cs_L_148 hF (rfl : kd 95 = 10) (fun l => mt_X10_seed l e2) (by decide) (Nat.le_of_ble_eq_true rfl) dL_law_1256 ?_
  refine j_icmp_eq hF (tgt := 1633) dL_law_1259 (by decide) (fun _ => ?_) (fun c => absurd rfl c)
  exact hN _ hI2
set_option maxHeartbeats 4000000 in
set_option maxRecDepth 20000 in
theorem lc_voice (hS : bzSt_voice Inv) (hF : bzE g 2000 4 code "BronzeDownLaw" x) (hX : va_X b L xs x.2.2.2.2.1 x.2.2.2.2.1.heap) (hbl : b < x.2.2.2.2.1.heap.size) (hbA : ¬ gA g b) (hL : L ≤ 3072) {j q : Nat} (hj : j + 6 ≤ L) (hq : q ≤ 512) (hN : ∀ σ, Inv (q + 1) σ → bzJ g 4 x σ 1633 [(0, .ref b), (1, .ref (ga g 0)), (2, .ref (ga g 95)), (3, .int (nI j))] []) {σ : bzS} (hI : Inv q σ) : bzJ g 4 x σ 1264 [(0, .ref b), (1, .ref (ga g 0)), (2, .ref (ga g 95)), (3, .int (nI j))] [] := by
  refine j_aload_n hF 1 dL_law_1264 rfl ?_
  refine j_aload_n hF 0 dL_law_1265 rfl ?_
  refine j_iload_n hF 3 dL_law_1266 rfl ?_
  refine j_iconst hF (v := 1) dL_law_1267 (by decide) ?_
  refine j_iadd hF dL_law_1268 ?_
  refine j_sld hF hX hbl hbA (lw_in (k := 1) (v := 1) hj hL (by decide) rfl) dL_law_1269 ?_
  refine j_aload_n hF 0 dL_law_1270 rfl ?_
  refine j_iload_n hF 3 dL_law_1271 rfl ?_
  refine j_iconst hF (v := 2) dL_law_1272 (by decide) ?_
  refine j_iadd hF dL_law_1273 ?_
  refine j_sld hF hX hbl hbA (lw_in (k := 2) (v := 2) hj hL (by decide) rfl) dL_law_1274 ?_
  refine j_aload_n hF 0 dL_law_1275 rfl ?_
  refine j_iload_n hF 3 dL_law_1276 rfl ?_
  refine j_iconst hF (v := 3) dL_law_1277 (by decide) ?_
  refine j_iadd hF dL_law_1278 ?_
  refine j_sld hF hX hbl hbA (lw_in (k := 3) (v := 3) hj hL (by decide) rfl) dL_law_1279 ?_
  obtain ⟨r, σ1, σ2, e1, e2, hI2⟩ := hS (xs (nI j + 1).toNatClampNeg) (xs (nI j + 2).toNatClampNeg) (xs (nI j + 3).toNatClampNeg) σ q hq hI
  refine cs_L_149 hF (rfl : kd 0 = 9) (fun l => mt_X9_voice l e1) (by decide) (Nat.le_of_ble_eq_true rfl) dL_law_1280 ?_
  refine j_aload_n hF 2 dL_law_1283 rfl ?_
  refine j_aload_n hF 0 dL_law_1284 rfl ?_
  refine j_iload_n hF 3 dL_law_1285 rfl ?_
  refine j_iconst hF (v := 1) dL_law_1286 (by decide) ?_
  refine j_iadd hF dL_law_1287 ?_
  refine j_sld hF hX hbl hbA (lw_in (k := 1) (v := 1) hj hL (by decide) rfl) dL_law_1288 ?_
  refine j_aload_n hF 0 dL_law_1289 rfl ?_
  refine j_iload_n hF 3 dL_law_1290 rfl ?_
  refine j_iconst hF (v := 2) dL_law_1291 (by decide) ?_
  refine j_iadd hF dL_law_1292 ?_
  refine j_sld hF hX hbl hbA (lw_in (k := 2) (v := 2) hj hL (by decide) rfl) dL_law_1293 ?_
  refine j_aload_n hF 0 dL_law_1294 rfl ?_
  refine j_iload_n hF 3 dL_law_1295 rfl ?_
  refine j_iconst hF (v := 3) dL_law_1296 (by decide) ?_
  refine j_iadd hF dL_law_1297 ?_
  refine j_sld hF hX hbl hbA (lw_in (k := 3) (v := 3) hj hL (by decide) rfl) dL_law_1298 ?_
  refine cs_L_152 hF (rfl : kd 95 = 10) (fun l => mt_X10_voice l e2) (by decide) (Nat.le_of_ble_eq_true rfl) dL_law_1299 ?_
  refine j_icmp_eq hF (tgt := 1633) dL_law_1302 (by decide) (fun _ => ?_) (fun c => absurd rfl c)
  exact hN _ hI2
set_option maxHeartbeats 4000000 in
set_option maxRecDepth 20000 in
theorem lc_trace (hS : bzSt_trace Inv) (hF : bzE g 2000 4 code "BronzeDownLaw" x) (hX : va_X b L xs x.2.2.2.2.1 x.2.2.2.2.1.heap) (hbl : b < x.2.2.2.2.1.heap.size) (hbA : ¬ gA g b) (hL : L ≤ 3072) {j q : Nat} (hj : j + 6 ≤ L) (hq : q ≤ 512) (hN : ∀ σ, Inv (q + 1) σ → bzJ g 4 x σ 1633 [(0, .ref b), (1, .ref (ga g 0)), (2, .ref (ga g 95)), (3, .int (nI j))] []) {σ : bzS} (hI : Inv q σ) : bzJ g 4 x σ 1307 [(0, .ref b), (1, .ref (ga g 0)), (2, .ref (ga g 95)), (3, .int (nI j))] [] := by
  refine j_aload_n hF 1 dL_law_1307 rfl ?_
  refine j_aload_n hF 0 dL_law_1308 rfl ?_
  refine j_iload_n hF 3 dL_law_1309 rfl ?_
  refine j_iconst hF (v := 1) dL_law_1310 (by decide) ?_
  refine j_iadd hF dL_law_1311 ?_
  refine j_sld hF hX hbl hbA (lw_in (k := 1) (v := 1) hj hL (by decide) rfl) dL_law_1312 ?_
  obtain ⟨r, σ1, σ2, e1, e2, hI2⟩ := hS (xs (nI j + 1).toNatClampNeg) σ q hq hI
  refine cs_L_153 hF (rfl : kd 0 = 9) (fun l => mt_X9_trace l e1) (by decide) (Nat.le_of_ble_eq_true rfl) dL_law_1313 ?_
  refine j_aload_n hF 2 dL_law_1316 rfl ?_
  refine j_aload_n hF 0 dL_law_1317 rfl ?_
  refine j_iload_n hF 3 dL_law_1318 rfl ?_
  refine j_iconst hF (v := 1) dL_law_1319 (by decide) ?_
  refine j_iadd hF dL_law_1320 ?_
  refine j_sld hF hX hbl hbA (lw_in (k := 1) (v := 1) hj hL (by decide) rfl) dL_law_1321 ?_
  refine cs_L_156 hF (rfl : kd 95 = 10) (fun l => mt_X10_trace l e2) (by decide) (Nat.le_of_ble_eq_true rfl) dL_law_1322 ?_
  refine j_icmp_eq hF (tgt := 1633) dL_law_1325 (by decide) (fun _ => ?_) (fun c => absurd rfl c)
  exact hN _ hI2
set_option maxHeartbeats 4000000 in
set_option maxRecDepth 20000 in
theorem lc_sheet (hS : bzSt_sheet Inv) (hF : bzE g 2000 4 code "BronzeDownLaw" x) (hX : va_X b L xs x.2.2.2.2.1 x.2.2.2.2.1.heap) (hbl : b < x.2.2.2.2.1.heap.size) (hbA : ¬ gA g b) (hL : L ≤ 3072) {j q : Nat} (hj : j + 6 ≤ L) (hq : q ≤ 512) (hN : ∀ σ, Inv (q + 1) σ → bzJ g 4 x σ 1633 [(0, .ref b), (1, .ref (ga g 0)), (2, .ref (ga g 95)), (3, .int (nI j))] []) {σ : bzS} (hI : Inv q σ) : bzJ g 4 x σ 1330 [(0, .ref b), (1, .ref (ga g 0)), (2, .ref (ga g 95)), (3, .int (nI j))] [] := by
  refine j_aload_n hF 1 dL_law_1330 rfl ?_
  refine j_aload_n hF 0 dL_law_1331 rfl ?_
  refine j_iload_n hF 3 dL_law_1332 rfl ?_
  refine j_iconst hF (v := 1) dL_law_1333 (by decide) ?_
  refine j_iadd hF dL_law_1334 ?_
  refine j_sld hF hX hbl hbA (lw_in (k := 1) (v := 1) hj hL (by decide) rfl) dL_law_1335 ?_
  refine j_aload_n hF 0 dL_law_1336 rfl ?_
  refine j_iload_n hF 3 dL_law_1337 rfl ?_
  refine j_iconst hF (v := 2) dL_law_1338 (by decide) ?_
  refine j_iadd hF dL_law_1339 ?_
  refine j_sld hF hX hbl hbA (lw_in (k := 2) (v := 2) hj hL (by decide) rfl) dL_law_1340 ?_
  refine j_aload_n hF 0 dL_law_1341 rfl ?_
  refine j_iload_n hF 3 dL_law_1342 rfl ?_
  refine j_iconst hF (v := 3) dL_law_1343 (by decide) ?_
  refine j_iadd hF dL_law_1344 ?_
  refine j_sld hF hX hbl hbA (lw_in (k := 3) (v := 3) hj hL (by decide) rfl) dL_law_1345 ?_
  obtain ⟨r, σ1, σ2, e1, e2, hI2⟩ := hS (xs (nI j + 1).toNatClampNeg) (xs (nI j + 2).toNatClampNeg) (xs (nI j + 3).toNatClampNeg) σ q hq hI
  refine cs_L_157 hF (rfl : kd 0 = 9) (fun l => mt_X9_sheet l e1) (by decide) (Nat.le_of_ble_eq_true rfl) dL_law_1346 ?_
  refine j_aload_n hF 2 dL_law_1349 rfl ?_
  refine j_aload_n hF 0 dL_law_1350 rfl ?_
  refine j_iload_n hF 3 dL_law_1351 rfl ?_
  refine j_iconst hF (v := 1) dL_law_1352 (by decide) ?_
  refine j_iadd hF dL_law_1353 ?_
  refine j_sld hF hX hbl hbA (lw_in (k := 1) (v := 1) hj hL (by decide) rfl) dL_law_1354 ?_
  refine j_aload_n hF 0 dL_law_1355 rfl ?_
  refine j_iload_n hF 3 dL_law_1356 rfl ?_
  refine j_iconst hF (v := 2) dL_law_1357 (by decide) ?_
  refine j_iadd hF dL_law_1358 ?_
  refine j_sld hF hX hbl hbA (lw_in (k := 2) (v := 2) hj hL (by decide) rfl) dL_law_1359 ?_
  refine j_aload_n hF 0 dL_law_1360 rfl ?_
  refine j_iload_n hF 3 dL_law_1361 rfl ?_
  refine j_iconst hF (v := 3) dL_law_1362 (by decide) ?_
  refine j_iadd hF dL_law_1363 ?_
  refine j_sld hF hX hbl hbA (lw_in (k := 3) (v := 3) hj hL (by decide) rfl) dL_law_1364 ?_
  refine cs_L_160 hF (rfl : kd 95 = 10) (fun l => mt_X10_sheet l e2) (by decide) (Nat.le_of_ble_eq_true rfl) dL_law_1365 ?_
  refine j_icmp_eq hF (tgt := 1633) dL_law_1368 (by decide) (fun _ => ?_) (fun c => absurd rfl c)
  exact hN _ hI2
set_option maxHeartbeats 4000000 in
set_option maxRecDepth 20000 in
theorem lc_put (hS : bzSt_put Inv) (hF : bzE g 2000 4 code "BronzeDownLaw" x) (hX : va_X b L xs x.2.2.2.2.1 x.2.2.2.2.1.heap) (hbl : b < x.2.2.2.2.1.heap.size) (hbA : ¬ gA g b) (hL : L ≤ 3072) {j q : Nat} (hj : j + 6 ≤ L) (hq : q ≤ 512) (hN : ∀ σ, Inv (q + 1) σ → bzJ g 4 x σ 1633 [(0, .ref b), (1, .ref (ga g 0)), (2, .ref (ga g 95)), (3, .int (nI j))] []) {σ : bzS} (hI : Inv q σ) : bzJ g 4 x σ 1373 [(0, .ref b), (1, .ref (ga g 0)), (2, .ref (ga g 95)), (3, .int (nI j))] [] := by
  refine j_aload_n hF 1 dL_law_1373 rfl ?_
  refine j_aload_n hF 0 dL_law_1374 rfl ?_
  refine j_iload_n hF 3 dL_law_1375 rfl ?_
  refine j_iconst hF (v := 1) dL_law_1376 (by decide) ?_
  refine j_iadd hF dL_law_1377 ?_
  refine j_sld hF hX hbl hbA (lw_in (k := 1) (v := 1) hj hL (by decide) rfl) dL_law_1378 ?_
  refine j_aload_n hF 0 dL_law_1379 rfl ?_
  refine j_iload_n hF 3 dL_law_1380 rfl ?_
  refine j_iconst hF (v := 2) dL_law_1381 (by decide) ?_
  refine j_iadd hF dL_law_1382 ?_
  refine j_sld hF hX hbl hbA (lw_in (k := 2) (v := 2) hj hL (by decide) rfl) dL_law_1383 ?_
  refine j_aload_n hF 0 dL_law_1384 rfl ?_
  refine j_iload_n hF 3 dL_law_1385 rfl ?_
  refine j_iconst hF (v := 3) dL_law_1386 (by decide) ?_
  refine j_iadd hF dL_law_1387 ?_
  refine j_sld hF hX hbl hbA (lw_in (k := 3) (v := 3) hj hL (by decide) rfl) dL_law_1388 ?_
  obtain ⟨r, σ1, σ2, e1, e2, hI2⟩ := hS (xs (nI j + 1).toNatClampNeg) (xs (nI j + 2).toNatClampNeg) (xs (nI j + 3).toNatClampNeg) σ q hq hI
  refine cs_L_161 hF (rfl : kd 0 = 9) (fun l => mt_X9_put l e1) (by decide) (Nat.le_of_ble_eq_true rfl) dL_law_1389 ?_
  refine j_aload_n hF 2 dL_law_1392 rfl ?_
  refine j_aload_n hF 0 dL_law_1393 rfl ?_
  refine j_iload_n hF 3 dL_law_1394 rfl ?_
  refine j_iconst hF (v := 1) dL_law_1395 (by decide) ?_
  refine j_iadd hF dL_law_1396 ?_
  refine j_sld hF hX hbl hbA (lw_in (k := 1) (v := 1) hj hL (by decide) rfl) dL_law_1397 ?_
  refine j_aload_n hF 0 dL_law_1398 rfl ?_
  refine j_iload_n hF 3 dL_law_1399 rfl ?_
  refine j_iconst hF (v := 2) dL_law_1400 (by decide) ?_
  refine j_iadd hF dL_law_1401 ?_
  refine j_sld hF hX hbl hbA (lw_in (k := 2) (v := 2) hj hL (by decide) rfl) dL_law_1402 ?_
  refine j_aload_n hF 0 dL_law_1403 rfl ?_
  refine j_iload_n hF 3 dL_law_1404 rfl ?_
  refine j_iconst hF (v := 3) dL_law_1405 (by decide) ?_
  refine j_iadd hF dL_law_1406 ?_
  refine j_sld hF hX hbl hbA (lw_in (k := 3) (v := 3) hj hL (by decide) rfl) dL_law_1407 ?_
  refine cs_L_164 hF (rfl : kd 95 = 10) (fun l => mt_X10_put l e2) (by decide) (Nat.le_of_ble_eq_true rfl) dL_law_1408 ?_
  refine j_icmp_eq hF (tgt := 1633) dL_law_1411 (by decide) (fun _ => ?_) (fun c => absurd rfl c)
  exact hN _ hI2
set_option maxHeartbeats 4000000 in
set_option maxRecDepth 20000 in
theorem lc_move (hS : bzSt_move Inv) (hF : bzE g 2000 4 code "BronzeDownLaw" x) (hX : va_X b L xs x.2.2.2.2.1 x.2.2.2.2.1.heap) (hbl : b < x.2.2.2.2.1.heap.size) (hbA : ¬ gA g b) (hL : L ≤ 3072) {j q : Nat} (hj : j + 6 ≤ L) (hq : q ≤ 512) (hN : ∀ σ, Inv (q + 1) σ → bzJ g 4 x σ 1633 [(0, .ref b), (1, .ref (ga g 0)), (2, .ref (ga g 95)), (3, .int (nI j))] []) {σ : bzS} (hI : Inv q σ) : bzJ g 4 x σ 1416 [(0, .ref b), (1, .ref (ga g 0)), (2, .ref (ga g 95)), (3, .int (nI j))] [] := by
  refine j_aload_n hF 1 dL_law_1416 rfl ?_
  refine j_aload_n hF 0 dL_law_1417 rfl ?_
  refine j_iload_n hF 3 dL_law_1418 rfl ?_
  refine j_iconst hF (v := 1) dL_law_1419 (by decide) ?_
  refine j_iadd hF dL_law_1420 ?_
  refine j_sld hF hX hbl hbA (lw_in (k := 1) (v := 1) hj hL (by decide) rfl) dL_law_1421 ?_
  refine j_aload_n hF 0 dL_law_1422 rfl ?_
  refine j_iload_n hF 3 dL_law_1423 rfl ?_
  refine j_iconst hF (v := 2) dL_law_1424 (by decide) ?_
  refine j_iadd hF dL_law_1425 ?_
  refine j_sld hF hX hbl hbA (lw_in (k := 2) (v := 2) hj hL (by decide) rfl) dL_law_1426 ?_
  refine j_aload_n hF 0 dL_law_1427 rfl ?_
  refine j_iload_n hF 3 dL_law_1428 rfl ?_
  refine j_iconst hF (v := 3) dL_law_1429 (by decide) ?_
  refine j_iadd hF dL_law_1430 ?_
  refine j_sld hF hX hbl hbA (lw_in (k := 3) (v := 3) hj hL (by decide) rfl) dL_law_1431 ?_
  refine j_aload_n hF 0 dL_law_1432 rfl ?_
  refine j_iload_n hF 3 dL_law_1433 rfl ?_
  refine j_iconst hF (v := 4) dL_law_1434 (by decide) ?_
  refine j_iadd hF dL_law_1435 ?_
  refine j_sld hF hX hbl hbA (lw_in (k := 4) (v := 4) hj hL (by decide) rfl) dL_law_1436 ?_
  refine j_aload_n hF 0 dL_law_1437 rfl ?_
  refine j_iload_n hF 3 dL_law_1438 rfl ?_
  refine j_iconst hF (v := 5) dL_law_1439 (by decide) ?_
  refine j_iadd hF dL_law_1440 ?_
  refine j_sld hF hX hbl hbA (lw_in (k := 5) (v := 5) hj hL (by decide) rfl) dL_law_1441 ?_
  obtain ⟨r, σ1, σ2, e1, e2, hI2⟩ := hS (xs (nI j + 1).toNatClampNeg) (xs (nI j + 2).toNatClampNeg) (xs (nI j + 3).toNatClampNeg) (xs (nI j + 4).toNatClampNeg) (xs (nI j + 5).toNatClampNeg) σ q hq hI
  refine cs_L_165 hF (rfl : kd 0 = 9) (fun l => mt_X9_move l e1) (by decide) (Nat.le_of_ble_eq_true rfl) dL_law_1442 ?_
  refine j_aload_n hF 2 dL_law_1445 rfl ?_
  refine j_aload_n hF 0 dL_law_1446 rfl ?_
  refine j_iload_n hF 3 dL_law_1447 rfl ?_
  refine j_iconst hF (v := 1) dL_law_1448 (by decide) ?_
  refine j_iadd hF dL_law_1449 ?_
  refine j_sld hF hX hbl hbA (lw_in (k := 1) (v := 1) hj hL (by decide) rfl) dL_law_1450 ?_
  refine j_aload_n hF 0 dL_law_1451 rfl ?_
  refine j_iload_n hF 3 dL_law_1452 rfl ?_
  refine j_iconst hF (v := 2) dL_law_1453 (by decide) ?_
  refine j_iadd hF dL_law_1454 ?_
  refine j_sld hF hX hbl hbA (lw_in (k := 2) (v := 2) hj hL (by decide) rfl) dL_law_1455 ?_
  refine j_aload_n hF 0 dL_law_1456 rfl ?_
  refine j_iload_n hF 3 dL_law_1457 rfl ?_
  refine j_iconst hF (v := 3) dL_law_1458 (by decide) ?_
  refine j_iadd hF dL_law_1459 ?_
  refine j_sld hF hX hbl hbA (lw_in (k := 3) (v := 3) hj hL (by decide) rfl) dL_law_1460 ?_
  refine j_aload_n hF 0 dL_law_1461 rfl ?_
  refine j_iload_n hF 3 dL_law_1462 rfl ?_
  refine j_iconst hF (v := 4) dL_law_1463 (by decide) ?_
  refine j_iadd hF dL_law_1464 ?_
  refine j_sld hF hX hbl hbA (lw_in (k := 4) (v := 4) hj hL (by decide) rfl) dL_law_1465 ?_
  refine j_aload_n hF 0 dL_law_1466 rfl ?_
  refine j_iload_n hF 3 dL_law_1467 rfl ?_
  refine j_iconst hF (v := 5) dL_law_1468 (by decide) ?_
  refine j_iadd hF dL_law_1469 ?_
  refine j_sld hF hX hbl hbA (lw_in (k := 5) (v := 5) hj hL (by decide) rfl) dL_law_1470 ?_
  refine cs_L_169 hF (rfl : kd 95 = 10) (fun l => mt_X10_move l e2) (by decide) (Nat.le_of_ble_eq_true rfl) dL_law_1471 ?_
  refine j_icmp_eq hF (tgt := 1633) dL_law_1474 (by decide) (fun _ => ?_) (fun c => absurd rfl c)
  exact hN _ hI2
set_option maxHeartbeats 4000000 in
set_option maxRecDepth 20000 in
theorem lc_talls (hS : bzSt_talls Inv) (hF : bzE g 2000 4 code "BronzeDownLaw" x) (hX : va_X b L xs x.2.2.2.2.1 x.2.2.2.2.1.heap) (hbl : b < x.2.2.2.2.1.heap.size) (hbA : ¬ gA g b) (hL : L ≤ 3072) {j q : Nat} (hj : j + 6 ≤ L) (hq : q ≤ 512) (hN : ∀ σ, Inv (q + 1) σ → bzJ g 4 x σ 1633 [(0, .ref b), (1, .ref (ga g 0)), (2, .ref (ga g 95)), (3, .int (nI j))] []) {σ : bzS} (hI : Inv q σ) : bzJ g 4 x σ 1479 [(0, .ref b), (1, .ref (ga g 0)), (2, .ref (ga g 95)), (3, .int (nI j))] [] := by
  refine j_aload_n hF 1 dL_law_1479 rfl ?_
  refine j_aload_n hF 0 dL_law_1480 rfl ?_
  refine j_iload_n hF 3 dL_law_1481 rfl ?_
  refine j_iconst hF (v := 1) dL_law_1482 (by decide) ?_
  refine j_iadd hF dL_law_1483 ?_
  refine j_sld hF hX hbl hbA (lw_in (k := 1) (v := 1) hj hL (by decide) rfl) dL_law_1484 ?_
  obtain ⟨r, σ1, σ2, e1, e2, hI2⟩ := hS (xs (nI j + 1).toNatClampNeg) σ q hq hI
  refine cs_L_170 hF (rfl : kd 0 = 9) (fun l => mt_X9_talls l e1) (by decide) (Nat.le_of_ble_eq_true rfl) dL_law_1485 ?_
  refine j_aload_n hF 2 dL_law_1488 rfl ?_
  refine j_aload_n hF 0 dL_law_1489 rfl ?_
  refine j_iload_n hF 3 dL_law_1490 rfl ?_
  refine j_iconst hF (v := 1) dL_law_1491 (by decide) ?_
  refine j_iadd hF dL_law_1492 ?_
  refine j_sld hF hX hbl hbA (lw_in (k := 1) (v := 1) hj hL (by decide) rfl) dL_law_1493 ?_
  refine cs_L_173 hF (rfl : kd 95 = 10) (fun l => mt_X10_talls l e2) (by decide) (Nat.le_of_ble_eq_true rfl) dL_law_1494 ?_
  refine j_icmp_eq hF (tgt := 1633) dL_law_1497 (by decide) (fun _ => ?_) (fun c => absurd rfl c)
  exact hN _ hI2
set_option maxHeartbeats 4000000 in
set_option maxRecDepth 20000 in
theorem lc_judge (hS : bzSt_judge Inv) (hF : bzE g 2000 4 code "BronzeDownLaw" x) (hX : va_X b L xs x.2.2.2.2.1 x.2.2.2.2.1.heap) (hbl : b < x.2.2.2.2.1.heap.size) (hbA : ¬ gA g b) (hL : L ≤ 3072) {j q : Nat} (hj : j + 6 ≤ L) (hq : q ≤ 512) (hN : ∀ σ, Inv (q + 1) σ → bzJ g 4 x σ 1633 [(0, .ref b), (1, .ref (ga g 0)), (2, .ref (ga g 95)), (3, .int (nI j))] []) {σ : bzS} (hI : Inv q σ) : bzJ g 4 x σ 1502 [(0, .ref b), (1, .ref (ga g 0)), (2, .ref (ga g 95)), (3, .int (nI j))] [] := by
  refine j_aload_n hF 1 dL_law_1502 rfl ?_
  refine j_aload_n hF 0 dL_law_1503 rfl ?_
  refine j_iload_n hF 3 dL_law_1504 rfl ?_
  refine j_iconst hF (v := 1) dL_law_1505 (by decide) ?_
  refine j_iadd hF dL_law_1506 ?_
  refine j_sld hF hX hbl hbA (lw_in (k := 1) (v := 1) hj hL (by decide) rfl) dL_law_1507 ?_
  obtain ⟨r, σ1, σ2, e1, e2, hI2⟩ := hS (xs (nI j + 1).toNatClampNeg) σ q hq hI
  refine cs_L_174 hF (rfl : kd 0 = 9) (fun l => mt_X9_judge l e1) (by decide) (Nat.le_of_ble_eq_true rfl) dL_law_1508 ?_
  refine j_aload_n hF 2 dL_law_1511 rfl ?_
  refine j_aload_n hF 0 dL_law_1512 rfl ?_
  refine j_iload_n hF 3 dL_law_1513 rfl ?_
  refine j_iconst hF (v := 1) dL_law_1514 (by decide) ?_
  refine j_iadd hF dL_law_1515 ?_
  refine j_sld hF hX hbl hbA (lw_in (k := 1) (v := 1) hj hL (by decide) rfl) dL_law_1516 ?_
  refine cs_L_177 hF (rfl : kd 95 = 10) (fun l => mt_X10_judge l e2) (by decide) (Nat.le_of_ble_eq_true rfl) dL_law_1517 ?_
  refine j_icmp_eq hF (tgt := 1633) dL_law_1520 (by decide) (fun _ => ?_) (fun c => absurd rfl c)
  exact hN _ hI2
set_option maxHeartbeats 4000000 in
set_option maxRecDepth 20000 in
theorem lc_image (hS : bzSt_image Inv) (hF : bzE g 2000 4 code "BronzeDownLaw" x) (hX : va_X b L xs x.2.2.2.2.1 x.2.2.2.2.1.heap) (hbl : b < x.2.2.2.2.1.heap.size) (hbA : ¬ gA g b) (hL : L ≤ 3072) {j q : Nat} (hj : j + 6 ≤ L) (hq : q ≤ 512) (hN : ∀ σ, Inv (q + 1) σ → bzJ g 4 x σ 1633 [(0, .ref b), (1, .ref (ga g 0)), (2, .ref (ga g 95)), (3, .int (nI j))] []) {σ : bzS} (hI : Inv q σ) : bzJ g 4 x σ 1525 [(0, .ref b), (1, .ref (ga g 0)), (2, .ref (ga g 95)), (3, .int (nI j))] [] := by
  refine j_aload_n hF 1 dL_law_1525 rfl ?_
  obtain ⟨r, σ1, σ2, e1, e2, hI2⟩ := hS  σ q hq hI
  refine cs_L_178 hF (rfl : kd 0 = 9) (fun l => mt_X9_image l e1) (by decide) (Nat.le_of_ble_eq_true rfl) dL_law_1526 ?_
  refine j_aload_n hF 2 dL_law_1529 rfl ?_
  refine cs_L_181 hF (rfl : kd 95 = 10) (fun l => mt_X10_image l e2) (by decide) (Nat.le_of_ble_eq_true rfl) dL_law_1530 ?_
  refine j_icmp_eq hF (tgt := 1633) dL_law_1533 (by decide) (fun _ => ?_) (fun c => absurd rfl c)
  exact hN _ hI2
set_option maxHeartbeats 4000000 in
set_option maxRecDepth 20000 in
theorem lc_restore (hS : bzSt_restore Inv) (hF : bzE g 2000 4 code "BronzeDownLaw" x) (hX : va_X b L xs x.2.2.2.2.1 x.2.2.2.2.1.heap) (hbl : b < x.2.2.2.2.1.heap.size) (hbA : ¬ gA g b) (hL : L ≤ 3072) {j q : Nat} (hj : j + 6 ≤ L) (hq : q ≤ 512) (hN : ∀ σ, Inv (q + 1) σ → bzJ g 4 x σ 1633 [(0, .ref b), (1, .ref (ga g 0)), (2, .ref (ga g 95)), (3, .int (nI j))] []) {σ : bzS} (hI : Inv q σ) : bzJ g 4 x σ 1538 [(0, .ref b), (1, .ref (ga g 0)), (2, .ref (ga g 95)), (3, .int (nI j))] [] := by
  refine j_aload_n hF 1 dL_law_1538 rfl ?_
  obtain ⟨r, σ1, σ2, e1, e2, hI2⟩ := hS  σ q hq hI
  refine cs_L_182 hF (rfl : kd 0 = 9) (fun l => mt_X9_restore l e1) (by decide) (Nat.le_of_ble_eq_true rfl) dL_law_1539 ?_
  refine j_aload_n hF 2 dL_law_1542 rfl ?_
  refine cs_L_185 hF (rfl : kd 95 = 10) (fun l => mt_X10_restore l e2) (by decide) (Nat.le_of_ble_eq_true rfl) dL_law_1543 ?_
  refine j_icmp_eq hF (tgt := 1633) dL_law_1546 (by decide) (fun _ => ?_) (fun c => absurd rfl c)
  exact hN _ hI2
set_option maxHeartbeats 4000000 in
set_option maxRecDepth 20000 in
theorem lc_tell (hS : bzSt_tell Inv) (hF : bzE g 2000 4 code "BronzeDownLaw" x) (hX : va_X b L xs x.2.2.2.2.1 x.2.2.2.2.1.heap) (hbl : b < x.2.2.2.2.1.heap.size) (hbA : ¬ gA g b) (hL : L ≤ 3072) {j q : Nat} (hj : j + 6 ≤ L) (hq : q ≤ 512) (hN : ∀ σ, Inv (q + 1) σ → bzJ g 4 x σ 1633 [(0, .ref b), (1, .ref (ga g 0)), (2, .ref (ga g 95)), (3, .int (nI j))] []) {σ : bzS} (hI : Inv q σ) : bzJ g 4 x σ 1551 [(0, .ref b), (1, .ref (ga g 0)), (2, .ref (ga g 95)), (3, .int (nI j))] [] := by
  refine j_aload_n hF 1 dL_law_1551 rfl ?_
  refine j_aload_n hF 0 dL_law_1552 rfl ?_
  refine j_iload_n hF 3 dL_law_1553 rfl ?_
  refine j_iconst hF (v := 1) dL_law_1554 (by decide) ?_
  refine j_iadd hF dL_law_1555 ?_
  refine j_sld hF hX hbl hbA (lw_in (k := 1) (v := 1) hj hL (by decide) rfl) dL_law_1556 ?_
  obtain ⟨r, σ1, σ2, e1, e2, hI2⟩ := hS (xs (nI j + 1).toNatClampNeg) σ q hq hI
  refine cs_L_186 hF (rfl : kd 0 = 9) (fun l => mt_X9_tell l e1) (by decide) (Nat.le_of_ble_eq_true rfl) dL_law_1557 ?_
  refine j_aload_n hF 2 dL_law_1560 rfl ?_
  refine j_aload_n hF 0 dL_law_1561 rfl ?_
  refine j_iload_n hF 3 dL_law_1562 rfl ?_
  refine j_iconst hF (v := 1) dL_law_1563 (by decide) ?_
  refine j_iadd hF dL_law_1564 ?_
  refine j_sld hF hX hbl hbA (lw_in (k := 1) (v := 1) hj hL (by decide) rfl) dL_law_1565 ?_
  refine cs_L_189 hF (rfl : kd 95 = 10) (fun l => mt_X10_tell l e2) (by decide) (Nat.le_of_ble_eq_true rfl) dL_law_1566 ?_
  refine j_icmp_eq hF (tgt := 1633) dL_law_1569 (by decide) (fun _ => ?_) (fun c => absurd rfl c)
  exact hN _ hI2
set_option maxHeartbeats 4000000 in
set_option maxRecDepth 20000 in
theorem lc_check (hS : bzSt_check Inv) (hF : bzE g 2000 4 code "BronzeDownLaw" x) (hX : va_X b L xs x.2.2.2.2.1 x.2.2.2.2.1.heap) (hbl : b < x.2.2.2.2.1.heap.size) (hbA : ¬ gA g b) (hL : L ≤ 3072) {j q : Nat} (hj : j + 6 ≤ L) (hq : q ≤ 512) (hN : ∀ σ, Inv (q + 1) σ → bzJ g 4 x σ 1633 [(0, .ref b), (1, .ref (ga g 0)), (2, .ref (ga g 95)), (3, .int (nI j))] []) {σ : bzS} (hI : Inv q σ) : bzJ g 4 x σ 1574 [(0, .ref b), (1, .ref (ga g 0)), (2, .ref (ga g 95)), (3, .int (nI j))] [] := by
  refine j_aload_n hF 1 dL_law_1574 rfl ?_
  obtain ⟨r, σ1, σ2, e1, e2, hI2⟩ := hS  σ q hq hI
  refine cs_L_190 hF (rfl : kd 0 = 9) (fun l => mt_X9_check l e1) (by decide) (Nat.le_of_ble_eq_true rfl) dL_law_1575 ?_
  refine j_aload_n hF 2 dL_law_1578 rfl ?_
  refine cs_L_193 hF (rfl : kd 95 = 10) (fun l => mt_X10_check l e2) (by decide) (Nat.le_of_ble_eq_true rfl) dL_law_1579 ?_
  refine j_icmp_eq hF (tgt := 1633) dL_law_1582 (by decide) (fun _ => ?_) (fun c => absurd rfl c)
  exact hN _ hI2
set_option maxHeartbeats 4000000 in
set_option maxRecDepth 20000 in
theorem lc_count (hS : bzSt_count Inv) (hF : bzE g 2000 4 code "BronzeDownLaw" x) (hX : va_X b L xs x.2.2.2.2.1 x.2.2.2.2.1.heap) (hbl : b < x.2.2.2.2.1.heap.size) (hbA : ¬ gA g b) (hL : L ≤ 3072) {j q : Nat} (hj : j + 6 ≤ L) (hq : q ≤ 512) (hN : ∀ σ, Inv (q + 1) σ → bzJ g 4 x σ 1633 [(0, .ref b), (1, .ref (ga g 0)), (2, .ref (ga g 95)), (3, .int (nI j))] []) {σ : bzS} (hI : Inv q σ) : bzJ g 4 x σ 1587 [(0, .ref b), (1, .ref (ga g 0)), (2, .ref (ga g 95)), (3, .int (nI j))] [] := by
  refine j_aload_n hF 1 dL_law_1587 rfl ?_
  refine j_aload_n hF 0 dL_law_1588 rfl ?_
  refine j_iload_n hF 3 dL_law_1589 rfl ?_
  refine j_iconst hF (v := 1) dL_law_1590 (by decide) ?_
  refine j_iadd hF dL_law_1591 ?_
  refine j_sld hF hX hbl hbA (lw_in (k := 1) (v := 1) hj hL (by decide) rfl) dL_law_1592 ?_
  obtain ⟨r, σ1, σ2, e1, e2, hI2⟩ := hS (xs (nI j + 1).toNatClampNeg) σ q hq hI
  refine cs_L_194 hF (rfl : kd 0 = 9) (fun l => mt_X9_count l e1) (by decide) (Nat.le_of_ble_eq_true rfl) dL_law_1593 ?_
  refine j_aload_n hF 2 dL_law_1596 rfl ?_
  refine j_aload_n hF 0 dL_law_1597 rfl ?_
  refine j_iload_n hF 3 dL_law_1598 rfl ?_
  refine j_iconst hF (v := 1) dL_law_1599 (by decide) ?_
  refine j_iadd hF dL_law_1600 ?_
  refine j_sld hF hX hbl hbA (lw_in (k := 1) (v := 1) hj hL (by decide) rfl) dL_law_1601 ?_
  refine cs_L_197 hF (rfl : kd 95 = 10) (fun l => mt_X10_count l e2) (by decide) (Nat.le_of_ble_eq_true rfl) dL_law_1602 ?_
  refine j_icmp_eq hF (tgt := 1633) dL_law_1605 (by decide) (fun _ => ?_) (fun c => absurd rfl c)
  exact hN _ hI2
set_option maxHeartbeats 4000000 in
set_option maxRecDepth 20000 in
theorem lc_told (hS : bzSt_told Inv) (hF : bzE g 2000 4 code "BronzeDownLaw" x) (hX : va_X b L xs x.2.2.2.2.1 x.2.2.2.2.1.heap) (hbl : b < x.2.2.2.2.1.heap.size) (hbA : ¬ gA g b) (hL : L ≤ 3072) {j q : Nat} (hj : j + 6 ≤ L) (hq : q ≤ 512) (hN : ∀ σ, Inv (q + 1) σ → bzJ g 4 x σ 1633 [(0, .ref b), (1, .ref (ga g 0)), (2, .ref (ga g 95)), (3, .int (nI j))] []) {σ : bzS} (hI : Inv q σ) : bzJ g 4 x σ 1610 [(0, .ref b), (1, .ref (ga g 0)), (2, .ref (ga g 95)), (3, .int (nI j))] [] := by
  refine j_aload_n hF 1 dL_law_1610 rfl ?_
  refine j_aload_n hF 0 dL_law_1611 rfl ?_
  refine j_iload_n hF 3 dL_law_1612 rfl ?_
  refine j_iconst hF (v := 1) dL_law_1613 (by decide) ?_
  refine j_iadd hF dL_law_1614 ?_
  refine j_sld hF hX hbl hbA (lw_in (k := 1) (v := 1) hj hL (by decide) rfl) dL_law_1615 ?_
  obtain ⟨r, σ1, σ2, e1, e2, hI2⟩ := hS (xs (nI j + 1).toNatClampNeg) σ q hq hI
  refine cs_L_198 hF (rfl : kd 0 = 9) (fun l => mt_X9_told l e1) (by decide) (Nat.le_of_ble_eq_true rfl) dL_law_1616 ?_
  refine j_aload_n hF 2 dL_law_1619 rfl ?_
  refine j_aload_n hF 0 dL_law_1620 rfl ?_
  refine j_iload_n hF 3 dL_law_1621 rfl ?_
  refine j_iconst hF (v := 1) dL_law_1622 (by decide) ?_
  refine j_iadd hF dL_law_1623 ?_
  refine j_sld hF hX hbl hbA (lw_in (k := 1) (v := 1) hj hL (by decide) rfl) dL_law_1624 ?_
  refine cs_L_201 hF (rfl : kd 95 = 10) (fun l => mt_X10_told l e2) (by decide) (Nat.le_of_ble_eq_true rfl) dL_law_1625 ?_
  refine j_icmp_eq hF (tgt := 1633) dL_law_1628 (by decide) (fun _ => ?_) (fun c => absurd rfl c)
  exact hN _ hI2
set_option maxHeartbeats 4000000 in
set_option maxRecDepth 20000 in
theorem law_sw (hS : bzSteps Inv) (hF : bzE g 2000 4 code "BronzeDownLaw" x) (hX : va_X b L xs x.2.2.2.2.1 x.2.2.2.2.1.heap) (hbl : b < x.2.2.2.2.1.heap.size) (hbA : ¬ gA g b) (hL : L ≤ 3072) {j q : Nat} (hj : j + 6 ≤ L) (hq : q ≤ 512) (hN : ∀ σ, Inv (q + 1) σ → bzJ g 4 x σ 1633 [(0, .ref b), (1, .ref (ga g 0)), (2, .ref (ga g 95)), (3, .int (nI j))] []) {σ : bzS} (hI : Inv q σ) : bzJ g 4 x σ 27 [(0, .ref b), (1, .ref (ga g 0)), (2, .ref (ga g 95)), (3, .int (nI j))] [] := by
  refine j_aload_n hF 0 dL_law_27 rfl ?_
  refine j_iload_n hF 3 dL_law_28 rfl ?_
  refine j_sld hF hX hbl hbA (lw_in0 hj hL) dL_law_29 ?_
  refine j_bipush hF (v := 63) dL_law_30 (by decide) ?_
  refine j_iand hF dL_law_32 ?_
  refine j_topi (fun v ev => ?_)
  rcases Decidable.em (v = 0) with c0 | c0
  · refine j_tableIn hF (tgt := 228) dL_law_33 (by rw [c0] <;> decide) (by rw [c0] <;> decide) (by rw [c0] <;> rfl) (by decide) ?_
    exact lc_season hS.2.1 hF hX hbl hbA hL hj hq hN hI
  rcases Decidable.em (v = 1) with c1 | c1
  · refine j_tableIn hF (tgt := 271) dL_law_33 (by rw [c1] <;> decide) (by rw [c1] <;> decide) (by rw [c1] <;> rfl) (by decide) ?_
    exact lc_ofSeason hS.2.2.1 hF hX hbl hbA hL hj hq hN hI
  rcases Decidable.em (v = 2) with c2 | c2
  · refine j_tableIn hF (tgt := 304) dL_law_33 (by rw [c2] <;> decide) (by rw [c2] <;> decide) (by rw [c2] <;> rfl) (by decide) ?_
    exact lc_figure hS.2.2.2.1 hF hX hbl hbA hL hj hq hN hI
  rcases Decidable.em (v = 3) with c3 | c3
  · refine j_tableIn hF (tgt := 337) dL_law_33 (by rw [c3] <;> decide) (by rw [c3] <;> decide) (by rw [c3] <;> rfl) (by decide) ?_
    exact lc_ofFigure hS.2.2.2.2.1 hF hX hbl hbA hL hj hq hN hI
  rcases Decidable.em (v = 4) with c4 | c4
  · refine j_tableIn hF (tgt := 360) dL_law_33 (by rw [c4] <;> decide) (by rw [c4] <;> decide) (by rw [c4] <;> rfl) (by decide) ?_
    exact lc_step hS.2.2.2.2.2.1 hF hX hbl hbA hL hj hq hN hI
  rcases Decidable.em (v = 5) with c5 | c5
  · refine j_tableIn hF (tgt := 403) dL_law_33 (by rw [c5] <;> decide) (by rw [c5] <;> decide) (by rw [c5] <;> rfl) (by decide) ?_
    exact lc_ofStep hS.2.2.2.2.2.2.1 hF hX hbl hbA hL hj hq hN hI
  rcases Decidable.em (v = 6) with c6 | c6
  · refine j_tableIn hF (tgt := 436) dL_law_33 (by rw [c6] <;> decide) (by rw [c6] <;> decide) (by rw [c6] <;> rfl) (by decide) ?_
    exact lc_trees hS.2.2.2.2.2.2.2.1 hF hX hbl hbA hL hj hq hN hI
  rcases Decidable.em (v = 7) with c7 | c7
  · refine j_tableIn hF (tgt := 469) dL_law_33 (by rw [c7] <;> decide) (by rw [c7] <;> decide) (by rw [c7] <;> rfl) (by decide) ?_
    exact lc_visitor hS.2.2.2.2.2.2.2.2.1 hF hX hbl hbA hL hj hq hN hI
  rcases Decidable.em (v = 8) with c8 | c8
  · refine j_tableIn hF (tgt := 512) dL_law_33 (by rw [c8] <;> decide) (by rw [c8] <;> decide) (by rw [c8] <;> rfl) (by decide) ?_
    exact lc_ofVisitor hS.2.2.2.2.2.2.2.2.2.1 hF hX hbl hbA hL hj hq hN hI
  rcases Decidable.em (v = 9) with c9 | c9
  · refine j_tableIn hF (tgt := 545) dL_law_33 (by rw [c9] <;> decide) (by rw [c9] <;> decide) (by rw [c9] <;> rfl) (by decide) ?_
    exact lc_change hS.2.2.2.2.2.2.2.2.2.2.1 hF hX hbl hbA hL hj hq hN hI
  rcases Decidable.em (v = 10) with c10 | c10
  · refine j_tableIn hF (tgt := 588) dL_law_33 (by rw [c10] <;> decide) (by rw [c10] <;> decide) (by rw [c10] <;> rfl) (by decide) ?_
    exact lc_become hS.2.2.2.2.2.2.2.2.2.2.2.1 hF hX hbl hbA hL hj hq hN hI
  rcases Decidable.em (v = 11) with c11 | c11
  · refine j_tableIn hF (tgt := 621) dL_law_33 (by rw [c11] <;> decide) (by rw [c11] <;> decide) (by rw [c11] <;> rfl) (by decide) ?_
    exact lc_as hS.2.2.2.2.2.2.2.2.2.2.2.2.1 hF hX hbl hbA hL hj hq hN hI
  rcases Decidable.em (v = 12) with c12 | c12
  · refine j_tableIn hF (tgt := 654) dL_law_33 (by rw [c12] <;> decide) (by rw [c12] <;> decide) (by rw [c12] <;> rfl) (by decide) ?_
    exact lc_feed hS.2.2.2.2.2.2.2.2.2.2.2.2.2.1 hF hX hbl hbA hL hj hq hN hI
  rcases Decidable.em (v = 13) with c13 | c13
  · refine j_tableIn hF (tgt := 717) dL_law_33 (by rw [c13] <;> decide) (by rw [c13] <;> decide) (by rw [c13] <;> rfl) (by decide) ?_
    exact lc_text hS.2.2.2.2.2.2.2.2.2.2.2.2.2.2.1 hF hX hbl hbA hL hj hq hN hI
  rcases Decidable.em (v = 14) with c14 | c14
  · refine j_tableIn hF (tgt := 740) dL_law_33 (by rw [c14] <;> decide) (by rw [c14] <;> decide) (by rw [c14] <;> rfl) (by decide) ?_
    exact lc_law hS.2.2.2.2.2.2.2.2.2.2.2.2.2.2.2.1 hF hX hbl hbA hL hj hq hN hI
  rcases Decidable.em (v = 15) with c15 | c15
  · refine j_tableIn hF (tgt := 793) dL_law_33 (by rw [c15] <;> decide) (by rw [c15] <;> decide) (by rw [c15] <;> rfl) (by decide) ?_
    exact lc_years hS.2.2.2.2.2.2.2.2.2.2.2.2.2.2.2.2.1 hF hX hbl hbA hL hj hq hN hI
  rcases Decidable.em (v = 16) with c16 | c16
  · refine j_tableIn hF (tgt := 816) dL_law_33 (by rw [c16] <;> decide) (by rw [c16] <;> decide) (by rw [c16] <;> rfl) (by decide) ?_
    exact lc_loose hS.2.2.2.2.2.2.2.2.2.2.2.2.2.2.2.2.2.1 hF hX hbl hbA hL hj hq hN hI
  rcases Decidable.em (v = 17) with c17 | c17
  · refine j_tableIn hF (tgt := 839) dL_law_33 (by rw [c17] <;> decide) (by rw [c17] <;> decide) (by rw [c17] <;> rfl) (by decide) ?_
    exact lc_then hS.2.2.2.2.2.2.2.2.2.2.2.2.2.2.2.2.2.2.1 hF hX hbl hbA hL hj hq hN hI
  rcases Decidable.em (v = 18) with c18 | c18
  · refine j_tableIn hF (tgt := 872) dL_law_33 (by rw [c18] <;> decide) (by rw [c18] <;> decide) (by rw [c18] <;> rfl) (by decide) ?_
    exact lc_falls hS.2.2.2.2.2.2.2.2.2.2.2.2.2.2.2.2.2.2.2.1 hF hX hbl hbA hL hj hq hN hI
  rcases Decidable.em (v = 19) with c19 | c19
  · refine j_tableIn hF (tgt := 885) dL_law_33 (by rw [c19] <;> decide) (by rw [c19] <;> decide) (by rw [c19] <;> rfl) (by decide) ?_
    exact lc_wet hS.2.2.2.2.2.2.2.2.2.2.2.2.2.2.2.2.2.2.2.2.1 hF hX hbl hbA hL hj hq hN hI
  rcases Decidable.em (v = 20) with c20 | c20
  · refine j_tableIn hF (tgt := 918) dL_law_33 (by rw [c20] <;> decide) (by rw [c20] <;> decide) (by rw [c20] <;> rfl) (by decide) ?_
    exact lc_loudFor hS.2.2.2.2.2.2.2.2.2.2.2.2.2.2.2.2.2.2.2.2.2.1 hF hX hbl hbA hL hj hq hN hI
  rcases Decidable.em (v = 21) with c21 | c21
  · refine j_tableIn hF (tgt := 961) dL_law_33 (by rw [c21] <;> decide) (by rw [c21] <;> decide) (by rw [c21] <;> rfl) (by decide) ?_
    exact lc_everyFor hS.2.2.2.2.2.2.2.2.2.2.2.2.2.2.2.2.2.2.2.2.2.2.1 hF hX hbl hbA hL hj hq hN hI
  rcases Decidable.em (v = 22) with c22 | c22
  · refine j_tableIn hF (tgt := 994) dL_law_33 (by rw [c22] <;> decide) (by rw [c22] <;> decide) (by rw [c22] <;> rfl) (by decide) ?_
    exact lc_needless hS.2.2.2.2.2.2.2.2.2.2.2.2.2.2.2.2.2.2.2.2.2.2.2.1 hF hX hbl hbA hL hj hq hN hI
  rcases Decidable.em (v = 23) with c23 | c23
  · refine j_tableIn hF (tgt := 1017) dL_law_33 (by rw [c23] <;> decide) (by rw [c23] <;> decide) (by rw [c23] <;> rfl) (by decide) ?_
    exact lc_wanted hS.2.2.2.2.2.2.2.2.2.2.2.2.2.2.2.2.2.2.2.2.2.2.2.2.1 hF hX hbl hbA hL hj hq hN hI
  rcases Decidable.em (v = 24) with c24 | c24
  · refine j_tableIn hF (tgt := 1050) dL_law_33 (by rw [c24] <;> decide) (by rw [c24] <;> decide) (by rw [c24] <;> rfl) (by decide) ?_
    exact lc_which hS.2.2.2.2.2.2.2.2.2.2.2.2.2.2.2.2.2.2.2.2.2.2.2.2.2.1 hF hX hbl hbA hL hj hq hN hI
  rcases Decidable.em (v = 25) with c25 | c25
  · refine j_tableIn hF (tgt := 1083) dL_law_33 (by rw [c25] <;> decide) (by rw [c25] <;> decide) (by rw [c25] <;> rfl) (by decide) ?_
    exact lc_stair hS.2.2.2.2.2.2.2.2.2.2.2.2.2.2.2.2.2.2.2.2.2.2.2.2.2.2.1 hF hX hbl hbA hL hj hq hN hI
  rcases Decidable.em (v = 26) with c26 | c26
  · refine j_tableIn hF (tgt := 1106) dL_law_33 (by rw [c26] <;> decide) (by rw [c26] <;> decide) (by rw [c26] <;> rfl) (by decide) ?_
    exact lc_exact hS.2.2.2.2.2.2.2.2.2.2.2.2.2.2.2.2.2.2.2.2.2.2.2.2.2.2.2.1 hF hX hbl hbA hL hj hq hN hI
  rcases Decidable.em (v = 27) with c27 | c27
  · refine j_tableIn hF (tgt := 1119) dL_law_33 (by rw [c27] <;> decide) (by rw [c27] <;> decide) (by rw [c27] <;> rfl) (by decide) ?_
    exact lc_house hS.2.2.2.2.2.2.2.2.2.2.2.2.2.2.2.2.2.2.2.2.2.2.2.2.2.2.2.2.1 hF hX hbl hbA hL hj hq hN hI
  rcases Decidable.em (v = 28) with c28 | c28
  · refine j_tableIn hF (tgt := 1152) dL_law_33 (by rw [c28] <;> decide) (by rw [c28] <;> decide) (by rw [c28] <;> rfl) (by decide) ?_
    exact lc_power hS.2.2.2.2.2.2.2.2.2.2.2.2.2.2.2.2.2.2.2.2.2.2.2.2.2.2.2.2.2.1 hF hX hbl hbA hL hj hq hN hI
  rcases Decidable.em (v = 29) with c29 | c29
  · refine j_tableIn hF (tgt := 1175) dL_law_33 (by rw [c29] <;> decide) (by rw [c29] <;> decide) (by rw [c29] <;> rfl) (by decide) ?_
    exact lc_gait hS.2.2.2.2.2.2.2.2.2.2.2.2.2.2.2.2.2.2.2.2.2.2.2.2.2.2.2.2.2.2.1 hF hX hbl hbA hL hj hq hN hI
  rcases Decidable.em (v = 30) with c30 | c30
  · refine j_tableIn hF (tgt := 1198) dL_law_33 (by rw [c30] <;> decide) (by rw [c30] <;> decide) (by rw [c30] <;> rfl) (by decide) ?_
    exact lc_odds hS.2.2.2.2.2.2.2.2.2.2.2.2.2.2.2.2.2.2.2.2.2.2.2.2.2.2.2.2.2.2.2.1 hF hX hbl hbA hL hj hq hN hI
  rcases Decidable.em (v = 31) with c31 | c31
  · refine j_tableIn hF (tgt := 1241) dL_law_33 (by rw [c31] <;> decide) (by rw [c31] <;> decide) (by rw [c31] <;> rfl) (by decide) ?_
    exact lc_seed hS.2.2.2.2.2.2.2.2.2.2.2.2.2.2.2.2.2.2.2.2.2.2.2.2.2.2.2.2.2.2.2.2.1 hF hX hbl hbA hL hj hq hN hI
  rcases Decidable.em (v = 32) with c32 | c32
  · refine j_tableIn hF (tgt := 1264) dL_law_33 (by rw [c32] <;> decide) (by rw [c32] <;> decide) (by rw [c32] <;> rfl) (by decide) ?_
    exact lc_voice hS.2.2.2.2.2.2.2.2.2.2.2.2.2.2.2.2.2.2.2.2.2.2.2.2.2.2.2.2.2.2.2.2.2.1 hF hX hbl hbA hL hj hq hN hI
  rcases Decidable.em (v = 33) with c33 | c33
  · refine j_tableIn hF (tgt := 1307) dL_law_33 (by rw [c33] <;> decide) (by rw [c33] <;> decide) (by rw [c33] <;> rfl) (by decide) ?_
    exact lc_trace hS.2.2.2.2.2.2.2.2.2.2.2.2.2.2.2.2.2.2.2.2.2.2.2.2.2.2.2.2.2.2.2.2.2.2.1 hF hX hbl hbA hL hj hq hN hI
  rcases Decidable.em (v = 34) with c34 | c34
  · refine j_tableIn hF (tgt := 1330) dL_law_33 (by rw [c34] <;> decide) (by rw [c34] <;> decide) (by rw [c34] <;> rfl) (by decide) ?_
    exact lc_sheet hS.2.2.2.2.2.2.2.2.2.2.2.2.2.2.2.2.2.2.2.2.2.2.2.2.2.2.2.2.2.2.2.2.2.2.2.1 hF hX hbl hbA hL hj hq hN hI
  rcases Decidable.em (v = 35) with c35 | c35
  · refine j_tableIn hF (tgt := 1373) dL_law_33 (by rw [c35] <;> decide) (by rw [c35] <;> decide) (by rw [c35] <;> rfl) (by decide) ?_
    exact lc_put hS.2.2.2.2.2.2.2.2.2.2.2.2.2.2.2.2.2.2.2.2.2.2.2.2.2.2.2.2.2.2.2.2.2.2.2.2.1 hF hX hbl hbA hL hj hq hN hI
  rcases Decidable.em (v = 36) with c36 | c36
  · refine j_tableIn hF (tgt := 1416) dL_law_33 (by rw [c36] <;> decide) (by rw [c36] <;> decide) (by rw [c36] <;> rfl) (by decide) ?_
    exact lc_move hS.2.2.2.2.2.2.2.2.2.2.2.2.2.2.2.2.2.2.2.2.2.2.2.2.2.2.2.2.2.2.2.2.2.2.2.2.2.1 hF hX hbl hbA hL hj hq hN hI
  rcases Decidable.em (v = 37) with c37 | c37
  · refine j_tableIn hF (tgt := 1479) dL_law_33 (by rw [c37] <;> decide) (by rw [c37] <;> decide) (by rw [c37] <;> rfl) (by decide) ?_
    exact lc_talls hS.2.2.2.2.2.2.2.2.2.2.2.2.2.2.2.2.2.2.2.2.2.2.2.2.2.2.2.2.2.2.2.2.2.2.2.2.2.2.1 hF hX hbl hbA hL hj hq hN hI
  rcases Decidable.em (v = 38) with c38 | c38
  · refine j_tableIn hF (tgt := 1502) dL_law_33 (by rw [c38] <;> decide) (by rw [c38] <;> decide) (by rw [c38] <;> rfl) (by decide) ?_
    exact lc_judge hS.2.2.2.2.2.2.2.2.2.2.2.2.2.2.2.2.2.2.2.2.2.2.2.2.2.2.2.2.2.2.2.2.2.2.2.2.2.2.2.1 hF hX hbl hbA hL hj hq hN hI
  rcases Decidable.em (v = 39) with c39 | c39
  · refine j_tableIn hF (tgt := 1525) dL_law_33 (by rw [c39] <;> decide) (by rw [c39] <;> decide) (by rw [c39] <;> rfl) (by decide) ?_
    exact lc_image hS.2.2.2.2.2.2.2.2.2.2.2.2.2.2.2.2.2.2.2.2.2.2.2.2.2.2.2.2.2.2.2.2.2.2.2.2.2.2.2.2.1 hF hX hbl hbA hL hj hq hN hI
  rcases Decidable.em (v = 40) with c40 | c40
  · refine j_tableIn hF (tgt := 1538) dL_law_33 (by rw [c40] <;> decide) (by rw [c40] <;> decide) (by rw [c40] <;> rfl) (by decide) ?_
    exact lc_restore hS.2.2.2.2.2.2.2.2.2.2.2.2.2.2.2.2.2.2.2.2.2.2.2.2.2.2.2.2.2.2.2.2.2.2.2.2.2.2.2.2.2.1 hF hX hbl hbA hL hj hq hN hI
  rcases Decidable.em (v = 41) with c41 | c41
  · refine j_tableIn hF (tgt := 1551) dL_law_33 (by rw [c41] <;> decide) (by rw [c41] <;> decide) (by rw [c41] <;> rfl) (by decide) ?_
    exact lc_tell hS.2.2.2.2.2.2.2.2.2.2.2.2.2.2.2.2.2.2.2.2.2.2.2.2.2.2.2.2.2.2.2.2.2.2.2.2.2.2.2.2.2.2.1 hF hX hbl hbA hL hj hq hN hI
  rcases Decidable.em (v = 42) with c42 | c42
  · refine j_tableIn hF (tgt := 1574) dL_law_33 (by rw [c42] <;> decide) (by rw [c42] <;> decide) (by rw [c42] <;> rfl) (by decide) ?_
    exact lc_check hS.2.2.2.2.2.2.2.2.2.2.2.2.2.2.2.2.2.2.2.2.2.2.2.2.2.2.2.2.2.2.2.2.2.2.2.2.2.2.2.2.2.2.2.1 hF hX hbl hbA hL hj hq hN hI
  rcases Decidable.em (v = 43) with c43 | c43
  · refine j_tableIn hF (tgt := 1587) dL_law_33 (by rw [c43] <;> decide) (by rw [c43] <;> decide) (by rw [c43] <;> rfl) (by decide) ?_
    exact lc_count hS.2.2.2.2.2.2.2.2.2.2.2.2.2.2.2.2.2.2.2.2.2.2.2.2.2.2.2.2.2.2.2.2.2.2.2.2.2.2.2.2.2.2.2.2.1 hF hX hbl hbA hL hj hq hN hI
  rcases Decidable.em (v = 44) with c44 | c44
  · refine j_tableIn hF (tgt := 1610) dL_law_33 (by rw [c44] <;> decide) (by rw [c44] <;> decide) (by rw [c44] <;> rfl) (by decide) ?_
    exact lc_told hS.2.2.2.2.2.2.2.2.2.2.2.2.2.2.2.2.2.2.2.2.2.2.2.2.2.2.2.2.2.2.2.2.2.2.2.2.2.2.2.2.2.2.2.2.2 hF hX hbl hbA hL hj hq hN hI
  refine j_tableOut hF (tgt := 1633) dL_law_33 (by have q0 := lv_neT (a := 0) c0 (by decide); have q1 := lv_neT (a := 1) c1 (by decide); have q2 := lv_neT (a := 2) c2 (by decide); have q3 := lv_neT (a := 3) c3 (by decide); have q4 := lv_neT (a := 4) c4 (by decide); have q5 := lv_neT (a := 5) c5 (by decide); have q6 := lv_neT (a := 6) c6 (by decide); have q7 := lv_neT (a := 7) c7 (by decide); have q8 := lv_neT (a := 8) c8 (by decide); have q9 := lv_neT (a := 9) c9 (by decide); have q10 := lv_neT (a := 10) c10 (by decide); have q11 := lv_neT (a := 11) c11 (by decide); have q12 := lv_neT (a := 12) c12 (by decide); have q13 := lv_neT (a := 13) c13 (by decide); have q14 := lv_neT (a := 14) c14 (by decide); have q15 := lv_neT (a := 15) c15 (by decide); have q16 := lv_neT (a := 16) c16 (by decide); have q17 := lv_neT (a := 17) c17 (by decide); have q18 := lv_neT (a := 18) c18 (by decide); have q19 := lv_neT (a := 19) c19 (by decide); have q20 := lv_neT (a := 20) c20 (by decide); have q21 := lv_neT (a := 21) c21 (by decide); have q22 := lv_neT (a := 22) c22 (by decide); have q23 := lv_neT (a := 23) c23 (by decide); have q24 := lv_neT (a := 24) c24 (by decide); have q25 := lv_neT (a := 25) c25 (by decide); have q26 := lv_neT (a := 26) c26 (by decide); have q27 := lv_neT (a := 27) c27 (by decide); have q28 := lv_neT (a := 28) c28 (by decide); have q29 := lv_neT (a := 29) c29 (by decide); have q30 := lv_neT (a := 30) c30 (by decide); have q31 := lv_neT (a := 31) c31 (by decide); have q32 := lv_neT (a := 32) c32 (by decide); have q33 := lv_neT (a := 33) c33 (by decide); have q34 := lv_neT (a := 34) c34 (by decide); have q35 := lv_neT (a := 35) c35 (by decide); have q36 := lv_neT (a := 36) c36 (by decide); have q37 := lv_neT (a := 37) c37 (by decide); have q38 := lv_neT (a := 38) c38 (by decide); have q39 := lv_neT (a := 39) c39 (by decide); have q40 := lv_neT (a := 40) c40 (by decide); have q41 := lv_neT (a := 41) c41 (by decide); have q42 := lv_neT (a := 42) c42 (by decide); have q43 := lv_neT (a := 43) c43 (by decide); have q44 := lv_neT (a := 44) c44 (by decide); omega) (by decide) ?_
  exact hN _ (hS.1 _ _ hI)
/-- the law's loop: while a call is left, both are asked -/
theorem law_loop (hS : bzSteps Inv) (hF : bzE g 2000 4 code "BronzeDownLaw" x) (hX : va_X b L xs x.2.2.2.2.1 x.2.2.2.2.1.heap) (hbl : b < x.2.2.2.2.1.heap.size) (hbA : ¬ gA g b) (hL : L ≤ 3072) (hEnd : ∀ σ lv, bzJ g 4 x σ 1639 lv []) : ∀ (n j q : Nat) (σ : bzS), Inv q σ → 6 * q ≤ j → j ≤ L → L + 1 ≤ j + n → bzJ g 4 x σ 18 [(0, .ref b), (1, .ref (ga g 0)), (2, .ref (ga g 95)), (3, .int (nI j))] [] := by
  intro n
  induction n with
  | zero => intro j q σ _ _ h1 h2; omega
  | succ n ih =>
    intro j q σ hI hq6 hj hn
    refine j_iload_n hF 3 dL_law_18 rfl ?_
    refine j_aload_n hF 0 dL_law_19 rfl ?_
    refine j_slen hF hX hbl hbA dL_law_20 ?_
    refine j_bipush hF (v := 6) dL_law_21 (by decide) ?_
    refine j_isub hF dL_law_23 ?_
    refine j_icmp_gt hF (tgt := 1639) dL_law_24 (by decide) (fun _ => ?_) (fun c => ?_)
    · exact hEnd _ _
    · have hj6 : j + 6 ≤ L := by
        have e : (Int32.ofNat L - 6).toInt = (L : Int) - 6 := pk_sub_toInt (a := L) (b := 6) (by omega) (by omega)
        rw [Int32.lt_iff_toInt_lt, e, show (nI j).toInt = (j : Int) from nI_toInt (by omega)] at c
        omega
      refine law_sw hS hF hX hbl hbA hL hj6 (q := q) (by omega) (fun τ hτ => ?_) hI
      refine j_iinc hF (v := nI (j + 6)) (lv1 := [(3, .int (nI (j + 6))), (0, .ref b), (1, .ref (ga g 0)), (2, .ref (ga g 95))]) 3 dL_law_1633 rfl (by show nI j + nI 6 = _; rw [nI_add]) (by decide) rfl ?_
      refine j_goto hF (tgt := 18) dL_law_1636 (by decide) ?_
      refine j_sub [1, 2, 3, 0] rfl ?_
      exact ih (j + 6) (q + 1) τ hτ (by omega) (by omega) (by omega)
end
