def gW (g : bzGeo) (A : Nat → Prop) : bzGeo := (g.1, g.2.1, g.2.2.1, g.2.2.2.1, A)
def bzRm (d mc ms : Nat) : Room := { frames := d, cells := mc, slots := ms, locals := 40 * d }
/-- a constructor's start: its object alone -/
def bzPm (g : bzGeo) (wc : va_W) (sz : Nat) (U : State) : Prop := U.heap.size = sz ∧ va_P g.1 vwCl wc U.heap ∧ va_K g.1 vwCl (bzTy g) U ∧ va_D (fun _ => True) wc ∧ bzNw U ∧ va_AO "BronzeDown$Sheet" U
/-- its end: the object and all that it made -/
def bzBm (g : bzGeo) (A : Nat → Prop) (w1 : List Nat → va_W) (u : List Nat) (t : State) : Prop := va_P g.1 vwCl (w1 u) t.heap ∧ va_D A (w1 u)
def bzM (g : bzGeo) (nL : Nat) (x : bzCx) (ws : va_W) (k n pc : Nat) (lv : List (Nat × Value)) (st : List Value) : Prop :=
  ∀ (H : Heap) (locs : List Loc) (ls : Array Slot), va_P g.1 vwCl ws H → va_D (gA g) ws → va_S (gA g) x.2.2.2.2.1.heap H locs → lv_has ls nL lv → W x.1 x.2.1 x.2.2.1 x.2.2.2.1 x.2.2.2.2.1 x.2.2.2.2.2.1 x.2.2.2.2.2.2.1 x.2.2.2.2.2.2.2.1 x.2.2.2.2.2.2.2.2.1 x.2.2.2.2.2.2.2.2.2.1 H locs k n x.2.2.2.2.2.2.2.2.2.2.1 (F0 x.2.2.2.2.2.1 pc ls st)
def bzEm (g : bzGeo) (d mc ms nL : Nat) (cc : ByteArray) (own : String) : bzCx → Prop
  | (p, l, e, R, s, m, args, below, meth, c, Q, kC, nC) => (p.tables.exec = Jvm.exec ∧ c.code = cc ∧ c.maxLocals = nL ∧ s.vm.findClass own = some m.cls ∧ ∀ w ∈ GW, w.before args s = true) ∧ va_K g.1 vwCl (bzTy g) s ∧ (∀ q, s.heap.size ≤ q → gA g q) ∧ bzNw s ∧ va_AO "BronzeDown$Sheet" s ∧ (d ≤ R.frames ∧ 40 * d ≤ R.locals ∧ mc ≤ R.cells ∧ ms ≤ R.slots)
section MR
variable {g : bzGeo} {d mc ms nL : Nat} {cc : ByteArray} {own : String} {x : bzCx} {ws : va_W} {k n pc : Nat} {lv : List (Nat × Value)} {st : List Value}

theorem m_iconst (hF : bzEm g d mc ms nL cc own x) {z : Int} {v : Int32} (hdg : decode cc pc = .ok (.iconst z, 1)) (hv : Int32.ofInt z = v) (K : bzM g nL x ws k n (pc + 1) lv (.int v :: st)) : bzM g nL x ws k n pc lv st := by
  obtain ⟨p, l, e, R, s, m, args, below, meth, c, Q, kC, nC⟩ := x
  obtain ⟨⟨hx, hb, hml, hown, hts⟩, -⟩ := hF
  intro H locs ls hP hD hS hl
  exact lv_iconst hx hb hdg hv (K H locs ls hP hD hS hl)

theorem m_bipush (hF : bzEm g d mc ms nL cc own x) {z : Int} {v : Int32} (hdg : decode cc pc = .ok (.bipush z, 2)) (hv : (Int8.ofInt z).toInt32 = v) (K : bzM g nL x ws k n (pc + 2) lv (.int v :: st)) : bzM g nL x ws k n pc lv st := by
  obtain ⟨p, l, e, R, s, m, args, below, meth, c, Q, kC, nC⟩ := x
  obtain ⟨⟨hx, hb, hml, hown, hts⟩, -⟩ := hF
  intro H locs ls hP hD hS hl
  exact lv_bipush hx hb hdg hv (K H locs ls hP hD hS hl)

theorem m_sipush (hF : bzEm g d mc ms nL cc own x) {z : Int} {v : Int32} (hdg : decode cc pc = .ok (.sipush z, 3)) (hv : (Int16.ofInt z).toInt32 = v) (K : bzM g nL x ws k n (pc + 3) lv (.int v :: st)) : bzM g nL x ws k n pc lv st := by
  obtain ⟨p, l, e, R, s, m, args, below, meth, c, Q, kC, nC⟩ := x
  obtain ⟨⟨hx, hb, hml, hown, hts⟩, -⟩ := hF
  intro H locs ls hP hD hS hl
  exact lv_sipush hx hb hdg hv (K H locs ls hP hD hS hl)

theorem m_iload_n (hF : bzEm g d mc ms nL cc own x) {q : Fin 4} (j : Nat) {v : Int32} (hdg : decode cc pc = .ok (.iload_n q, 1)) (hj : lv[j]? = some (q.val, .int v)) (K : bzM g nL x ws k n (pc + 1) lv (.int v :: st)) : bzM g nL x ws k n pc lv st := by
  obtain ⟨p, l, e, R, s, m, args, below, meth, c, Q, kC, nC⟩ := x
  obtain ⟨⟨hx, hb, hml, hown, hts⟩, -⟩ := hF
  intro H locs ls hP hD hS hl
  exact lv_iload_n hx hb hdg rfl (lv_at hl j hj) (K H locs ls hP hD hS hl)

theorem m_aload_n (hF : bzEm g d mc ms nL cc own x) {q : Fin 4} (j : Nat) {v : Nat} (hdg : decode cc pc = .ok (.aload_n q, 1)) (hj : lv[j]? = some (q.val, .ref v)) (K : bzM g nL x ws k n (pc + 1) lv (.ref v :: st)) : bzM g nL x ws k n pc lv st := by
  obtain ⟨p, l, e, R, s, m, args, below, meth, c, Q, kC, nC⟩ := x
  obtain ⟨⟨hx, hb, hml, hown, hts⟩, -⟩ := hF
  intro H locs ls hP hD hS hl
  exact lv_aload_n hx hb hdg rfl (lv_at hl j hj) (K H locs ls hP hD hS hl)

theorem m_istore_n (hF : bzEm g d mc ms nL cc own x) {fq : Fin 4} {v : Int32} {lv1 : List (Nat × Value)} (hdg : decode cc pc = .ok (.istore_n fq, 1)) (hn : fq.val < nL) (hv : (fq.val, Value.int v) :: lv.filter (fun q => !(q.1 == fq.val) && !(q.1 + 1 == fq.val && q.2.category == 2)) = lv1) (K : bzM g nL x ws k n (pc + 1) lv1 st) : bzM g nL x ws k n pc lv (.int v :: st) := by
  obtain ⟨p, l, e, R, s, m, args, below, meth, c, Q, kC, nC⟩ := x
  obtain ⟨⟨hx, hb, hml, hown, hts⟩, -⟩ := hF
  intro H locs ls hP hD hS hl
  exact lv_istore_n hx hb hdg rfl hl hn hv (fun ls hl => K H locs ls hP hD hS hl)

theorem m_astore_n (hF : bzEm g d mc ms nL cc own x) {fq : Fin 4} {v : Nat} {lv1 : List (Nat × Value)} (hdg : decode cc pc = .ok (.astore_n fq, 1)) (hn : fq.val < nL) (hv : (fq.val, Value.ref v) :: lv.filter (fun q => !(q.1 == fq.val) && !(q.1 + 1 == fq.val && q.2.category == 2)) = lv1) (K : bzM g nL x ws k n (pc + 1) lv1 st) : bzM g nL x ws k n pc lv (.ref v :: st) := by
  obtain ⟨p, l, e, R, s, m, args, below, meth, c, Q, kC, nC⟩ := x
  obtain ⟨⟨hx, hb, hml, hown, hts⟩, -⟩ := hF
  intro H locs ls hP hD hS hl
  exact lv_astore_n hx hb hdg rfl hl hn hv (fun ls hl => K H locs ls hP hD hS hl)

theorem m_iinc (hF : bzEm g d mc ms nL cc own x) {i : Nat} (j : Nat) {z : Int} {a v : Int32} {lv1 : List (Nat × Value)} (hdg : decode cc pc = .ok (.iinc i z, 3)) (hj : lv[j]? = some (i, .int a)) (ha : a + Int32.ofInt z = v) (hn : i < nL) (hv : (i, Value.int v) :: lv.filter (fun q => !(q.1 == i) && !(q.1 + 1 == i && q.2.category == 2)) = lv1) (K : bzM g nL x ws k n (pc + 3) lv1 st) : bzM g nL x ws k n pc lv st := by
  obtain ⟨p, l, e, R, s, m, args, below, meth, c, Q, kC, nC⟩ := x
  obtain ⟨⟨hx, hb, hml, hown, hts⟩, -⟩ := hF
  intro H locs ls hP hD hS hl
  exact lv_iinc hx hb hdg hl hj ha hn hv (fun ls hl => K H locs ls hP hD hS hl)

theorem m_iadd (hF : bzEm g d mc ms nL cc own x) {a b v : Int32} (hdg : decode cc pc = .ok (.iadd, 1)) (hv : a + b = v) (K : bzM g nL x ws k n (pc + 1) lv (.int v :: st)) : bzM g nL x ws k n pc lv (.int b :: .int a :: st) := by
  obtain ⟨p, l, e, R, s, m, args, below, meth, c, Q, kC, nC⟩ := x
  obtain ⟨⟨hx, hb, hml, hown, hts⟩, -⟩ := hF
  intro H locs ls hP hD hS hl
  exact lv_iadd hx hb hdg (by rw [hv]; exact K H locs ls hP hD hS hl)

theorem m_imul (hF : bzEm g d mc ms nL cc own x) {a b v : Int32} (hdg : decode cc pc = .ok (.imul, 1)) (hv : a * b = v) (K : bzM g nL x ws k n (pc + 1) lv (.int v :: st)) : bzM g nL x ws k n pc lv (.int b :: .int a :: st) := by
  obtain ⟨p, l, e, R, s, m, args, below, meth, c, Q, kC, nC⟩ := x
  obtain ⟨⟨hx, hb, hml, hown, hts⟩, -⟩ := hF
  intro H locs ls hP hD hS hl
  exact lv_imul hx hb hdg (by rw [hv]; exact K H locs ls hP hD hS hl)

theorem m_dup (hF : bzEm g d mc ms nL cc own x) {va : Value} (hdg : decode cc pc = .ok (.dup, 1)) (hc : va.category = 1) (K : bzM g nL x ws k n (pc + 1) lv (va :: va :: st)) : bzM g nL x ws k n pc lv (va :: st) := by
  obtain ⟨p, l, e, R, s, m, args, below, meth, c, Q, kC, nC⟩ := x
  obtain ⟨⟨hx, hb, hml, hown, hts⟩, -⟩ := hF
  intro H locs ls hP hD hS hl
  exact lv_dup hx hb hdg hc (K H locs ls hP hD hS hl)

theorem m_goto (hF : bzEm g d mc ms nL cc own x) {off : Int} {tgt : Nat} (hdg : decode cc pc = .ok (.goto off, 3)) (ht : (pc : Int) + off = (tgt : Int)) (K : bzM g nL x ws k n tgt lv st) : bzM g nL x ws k n pc lv st := by
  obtain ⟨p, l, e, R, s, m, args, below, meth, c, Q, kC, nC⟩ := x
  obtain ⟨⟨hx, hb, hml, hown, hts⟩, -⟩ := hF
  intro H locs ls hP hD hS hl
  exact lv_goto hx hb hdg ht (K H locs ls hP hD hS hl)

theorem m_icmp_ge (hF : bzEm g d mc ms nL cc own x) {a b : Int32} {off : Int} {tgt : Nat} (hdg : decode cc pc = .ok (.if_icmp .ge off, 3)) (ht : (pc : Int) + off = (tgt : Int)) (kt : b ≤ a → bzM g nL x ws k n tgt lv st) (kf : ¬ b ≤ a → bzM g nL x ws k n (pc + 3) lv st) : bzM g nL x ws k n pc lv (.int b :: .int a :: st) := by
  obtain ⟨p, l, e, R, s, m, args, below, meth, c, Q, kC, nC⟩ := x
  obtain ⟨⟨hx, hb, hml, hown, hts⟩, -⟩ := hF
  intro H locs ls hP hD hS hl
  exact lv_icmp_ge hx hb hdg ht (fun h => kt h H locs ls hP hD hS hl) (fun h => kf h H locs ls hP hD hS hl)

theorem m_obj (hF : bzEm g d mc ms nL cc own x) {a index : Nat} (hd : 1 ≤ d) (hlink : Cond.methodLink own index Lib.objectInit ∈ GW) (hinst : Cond.instanceMethod Lib.objectInit ∈ GW) (hcode : Cond.code Lib.objectInit ⟨#[0xb1]⟩ 1 none ∈ GW) (hst : (st.map fun v => v.category).sum ≤ 8) (hdg : decode cc pc = .ok (.invokespecial index, 3)) (K : bzM g nL x ws k n (pc + 3) lv st) : bzM g nL x ws k n pc lv (.ref a :: st) := by
  obtain ⟨p, l, e, R, s, m, args, below, meth, c, Q, kC, nC⟩ := x
  obtain ⟨⟨hx, hb, hml, hown, hts⟩, hK, hA, hW, hO, hR1, hR2, hR3, hR4⟩ := hF
  intro H locs ls hP hD hS hl
  refine W.objInit (R := R) hx hb hown (hts _ hlink) (hts _ hinst) (hts _ hcode) rfl (hl.1.trans hml.symm) rfl hdg (by omega) (by have q := lv_room (m := m) (pc := pc) (ls := ls) (rest := st) hst; show 2 * (F0 m pc ls st).monitorRoom + _ + 12 ≤ _; omega) ?_
  exact K H locs ls hP hD hS hl
theorem m_new (hF : bzEm g d mc ms nL cc own x) {C : String} {T : u_T} {N ci index : Nat} (hin : ∀ w ∈ u_ws C T N, w ∈ GW) (hc : vwCl[ci]? = some (C, T, N)) (ty : Nat → FieldType) (hty : ∀ k, k < N → parseFieldDescriptor (T k).2.2.1 = some (ty k)) (hcl : Cond.classLink own index C ∈ GW) (hinst : Cond.instantiable C N ∈ GW) (hini : Cond.initialized C ∈ GW) {fs : List Value} (hfs : ∀ j, j < N → defaultValue (ty j) = vp_V fs j) (hk : k + 1 ≤ mc) (hn : n + N ≤ ms) {ws1 : Nat → va_W} (hw : ∀ q, ws ++ [(q, .inr (ci, fs))] = ws1 q) (hdg : decode cc pc = .ok (.new index, 3)) (K : ∀ q, bzM g nL x (ws1 q) (k + 1) (n + N) (pc + 3) lv (.ref q :: st)) : bzM g nL x ws k n pc lv st := by
  obtain ⟨p, l, e, R, s, m, args, below, meth, c, Q, kC, nC⟩ := x
  obtain ⟨⟨hx, hb, hml, hown, hts⟩, hK, hA, hW, hO, hR1, hR2, hR3, hR4⟩ := hF
  intro H locs ls hP hD hS hl
  refine va_new hx hb hts hin ty hty hown (hts _ hcl) (hts _ hinst) (hts _ hini) hK hP hD hS hA hc hfs (by show k + 1 ≤ R.cells; omega) (by show n + N ≤ R.slots; omega) hdg (fun q H1 hP1 hD1 hS1 => ?_)
  rw [hw q] at hP1 hD1
  exact K q H1 locs ls hP1 hD1 hS1 hl
theorem m_newa (hF : bzEm g d mc ms nL cc own x) {z : Int32} {N : Nat} (hac : Cond.arrayClass .int ∈ GW) (hz : ¬ z < 0) (hN : z.toNatClampNeg = N) (hb4 : N ≤ 100000) (hk : k + 1 ≤ mc) (hn : n + N ≤ ms) {ws1 : Nat → va_W} (hw : ∀ q, ws ++ [(q, .inl (g.2.1, N, .inl (fun _ => 0)))] = ws1 q) (hdg : decode cc pc = .ok (.newarray .int, 2)) (K : ∀ q, bzM g nL x (ws1 q) (k + 1) (n + N) (pc + 2) lv (.ref q :: st)) : bzM g nL x ws k n pc lv (.int z :: st) := by
  obtain ⟨p, l, e, R, s, m, args, below, meth, c, Q, kC, nC⟩ := x
  obtain ⟨⟨hx, hb, hml, hown, hts⟩, hK, hA, hW, hO, hR1, hR2, hR3, hR4⟩ := hF
  intro H locs ls hP hD hS hl
  refine va_newa (atype := .int) (a0 := (N, .inl (fun _ => 0))) hx hb (hts _ hac) (ty := .int) rfl hK hP hD hS hA (fun _ => rfl) hz hN (by show N * 4 ≤ _; omega) (by show k + 1 ≤ R.cells; omega) (by show n + N ≤ R.slots; omega) hdg (fun q cA H1 hK1 hP1 hD1 hS1 => ?_)
  have h1 := (hK.2 0 _ rfl).2
  have h2 := (hK1.2 2 _ rfl).2
  have e : cA = g.2.1 := Option.some.inj (h2.symm.trans h1)
  subst e
  rw [hw q] at hP1 hD1
  exact K q H1 locs ls hP1 hD1 hS1 hl
theorem m_newq (hF : bzEm g d mc ms nL cc own x) {z : Int32} {N index : Nat} (hcl : Cond.classLink own index "BronzeDown$Sheet" ∈ GW) (hz : ¬ z < 0) (hN : z.toNatClampNeg = N) (hb4 : N ≤ 100000) (hk : k + 1 ≤ mc) (hn : n + N ≤ ms) {ws1 : Nat → va_W} (hw : ∀ q, ws ++ [(q, .inl (g.2.2.1, N, .inr (.inr (.inr (.inr (fun _ => none))))))] = ws1 q) (hdg : decode cc pc = .ok (.anewarray index, 3)) (K : ∀ q, bzM g nL x (ws1 q) (k + 1) (n + N) (pc + 3) lv (.ref q :: st)) : bzM g nL x ws k n pc lv (.int z :: st) := by
  obtain ⟨p, l, e, R, s, m, args, below, meth, c, Q, kC, nC⟩ := x
  obtain ⟨⟨hx, hb, hml, hown, hts⟩, hK, hA, hW, hO, hR1, hR2, hR3, hR4⟩ := hF
  intro H locs ls hP hD hS hl
  refine va_newq hx hb hown (hts _ hcl) hO hK hP hD hS hA hz hN (by omega) (by show k + 1 ≤ R.cells; omega) (by show n + N ≤ R.slots; omega) hdg (fun q cA H1 hK1 hP1 hD1 hS1 => ?_)
  obtain ⟨kA, comp, a1, a2, a3, a4⟩ := (hK.2 1 _ rfl).2
  obtain ⟨kB, com2, b1, b2, b3, b4⟩ := (hK1.2 2 _ rfl).2
  have e : cA = g.2.2.1 := Option.some.inj (b4.symm.trans a4)
  subst e
  rw [hw q] at hP1 hD1
  exact K q H1 locs ls hP1 hD1 hS1 hl
theorem m_putF (hF : bzEm g d mc ms nL cc own x) {C : String} {T : u_T} {N ci index : Nat} (hin : ∀ w ∈ u_ws C T N, w ∈ GW) (hc : vwCl[ci]? = some (C, T, N)) (hnm2 : x.2.2.2.2.2.2.2.2.1.name = "<init>") (ty0 : Nat → FieldType) (hty : ∀ k, k < N → parseFieldDescriptor (T k).2.2.1 = some (ty0 k)) (hnm : ∀ a, a < N → ∀ b, b < N → a ≠ b → (T a).2.1 ≠ (T b).2.1) (q0 : Nat) {a : Nat} {fs : List Value} (he : ws[q0]? = some (a, .inr (ci, fs))) (fk : Nat) (hk : fk < N) (hlink : Cond.fieldLink own index (T fk).1 (T fk).2.1 (T fk).2.2.1 ∈ GW) (hfin : (T fk).2.2.2 = true) (hdecl : (T fk).1 = own) {ty : FieldType} {v : Value} (hd : parseFieldDescriptor (T fk).2.2.1 = some ty) (hn : narrow ty v = v) (hfit : fits ty v = true) (hl2 : fk < fs.length) {ws1 : va_W} (hw : ws.set q0 (a, .inr (ci, fs.set fk v)) = ws1) (hdg : decode cc pc = .ok (.putfield index, 3)) (K : bzM g nL x ws1 k n (pc + 3) lv st) : bzM g nL x ws k n pc lv (v :: .ref a :: st) := by
  obtain ⟨p, l, e, R, s, m, args, below, meth, c, Q, kC, nC⟩ := x
  obtain ⟨⟨hx, hb, hml, hown, hts⟩, hK, hA, hW, hO, hR1, hR2, hR3, hR4⟩ := hF
  intro H locs ls hP hD hS hl
  refine va_putF (D := g.1) (cl := vwCl) (tys := bzTy g) hx hb hts hin ty0 hty hnm hown hK hP hD hS q0 he hc fk hk (hts _ hlink) (fun _ h => h) hfin hnm2 hdecl hd hn hfit hl2 hdg (fun H1 locs1 hP1 hD1 hS1 => ?_)
  rw [hw] at hP1 hD1
  exact K H1 locs1 ls hP1 hD1 hS1 hl
theorem m_put (hF : bzEm g d mc ms nL cc own x) {C : String} {T : u_T} {N ci index : Nat} (hin : ∀ w ∈ u_ws C T N, w ∈ GW) (hc : vwCl[ci]? = some (C, T, N)) (ty0 : Nat → FieldType) (hty : ∀ k, k < N → parseFieldDescriptor (T k).2.2.1 = some (ty0 k)) (hnm : ∀ a, a < N → ∀ b, b < N → a ≠ b → (T a).2.1 ≠ (T b).2.1) (q0 : Nat) {a : Nat} {fs : List Value} (he : ws[q0]? = some (a, .inr (ci, fs))) (fk : Nat) (hk : fk < N) (hlink : Cond.fieldLink own index (T fk).1 (T fk).2.1 (T fk).2.2.1 ∈ GW) (hfin : (T fk).2.2.2 = false) {ty : FieldType} {v : Value} (hd : parseFieldDescriptor (T fk).2.2.1 = some ty) (hn : narrow ty v = v) (hfit : fits ty v = true) (hl2 : fk < fs.length) {ws1 : va_W} (hw : ws.set q0 (a, .inr (ci, fs.set fk v)) = ws1) (hdg : decode cc pc = .ok (.putfield index, 3)) (K : bzM g nL x ws1 k n (pc + 3) lv st) : bzM g nL x ws k n pc lv (v :: .ref a :: st) := by
  obtain ⟨p, l, e, R, s, m, args, below, meth, c, Q, kC, nC⟩ := x
  obtain ⟨⟨hx, hb, hml, hown, hts⟩, hK, hA, hW, hO, hR1, hR2, hR3, hR4⟩ := hF
  intro H locs ls hP hD hS hl
  refine va_put (D := g.1) (cl := vwCl) (tys := bzTy g) hx hb hts hin ty0 hty hnm hown hK hP hD hS q0 he hc fk hk (hts _ hlink) (fun _ h => h) hfin hd hn hfit hl2 hdg (fun H1 locs1 hP1 hD1 hS1 => ?_)
  rw [hw] at hP1 hD1
  exact K H1 locs1 ls hP1 hD1 hS1 hl
theorem m_get (hF : bzEm g d mc ms nL cc own x) {C : String} {T : u_T} {N ci index : Nat} (hin : ∀ w ∈ u_ws C T N, w ∈ GW) (hc : vwCl[ci]? = some (C, T, N)) (q0 : Nat) {a : Nat} {fs : List Value} (he : ws[q0]? = some (a, .inr (ci, fs))) (fk : Nat) (hk : fk < N) (hlink : Cond.fieldLink own index (T fk).1 (T fk).2.1 (T fk).2.2.1 ∈ GW) {v : Value} (hv : fs[fk]? = some v) (hdg : decode cc pc = .ok (.getfield index, 3)) (K : bzM g nL x ws k n (pc + 3) lv (v :: st)) : bzM g nL x ws k n pc lv (.ref a :: st) := by
  obtain ⟨p, l, e, R, s, m, args, below, meth, c, Q, kC, nC⟩ := x
  obtain ⟨⟨hx, hb, hml, hown, hts⟩, hK, hA, hW, hO, hR1, hR2, hR3, hR4⟩ := hF
  intro H locs ls hP hD hS hl
  exact va_get (D := g.1) (cl := vwCl) (tys := bzTy g) hx hb hts hin hown hK hP q0 he hc fk hk (hts _ hlink) (fun _ h => h) hv hdg (K H locs ls hP hD hS hl)
theorem m_iast (hF : bzEm g d mc ms nL cc own x) (q0 : Nat) {a N c0 : Nat} {f : Nat → Int32} {i v : Int32} (he : ws[q0]? = some (a, .inl (g.2.1, N, .inl f))) (hi : bzIn i N) (hc0 : i.toNatClampNeg = c0) {ws1 : va_W} (hw : ws.set q0 (a, .inl (g.2.1, N, .inl (upd f c0 v))) = ws1) (hdg : decode cc pc = .ok (.iastore, 1)) (K : bzM g nL x ws1 k n (pc + 1) lv st) : bzM g nL x ws k n pc lv (.int v :: .int i :: .ref a :: st) := by
  subst hc0
  obtain ⟨p, l, e, R, s, m, args, below, meth, c, Q, kC, nC⟩ := x
  obtain ⟨⟨hx, hb, hml, hown, hts⟩, hK, hA, hW, hO, hR1, hR2, hR3, hR4⟩ := hF
  intro H locs ls hP hD hS hl
  refine va_iast (D := g.1) (cl := vwCl) (tys := bzTy g) hx hb hK hP hD hS q0 0 he rfl (vp_in_iff.mpr hi) hdg (fun H1 locs1 hP1 hD1 hS1 => ?_)
  rw [hw] at hP1 hD1
  exact K H1 locs1 ls hP1 hD1 hS1 hl
theorem m_aast (hF : bzEm g d mc ms nL cc own x) (q0 qk : Nat) {a v N c0 : Nat} {f : Nat → Option Nat} {i : Int32} {vs : List Value} (he : ws[q0]? = some (a, .inl (g.2.2.1, N, .inr (.inr (.inr (.inr f)))))) (hv : ws[qk]? = some (v, .inr (5, vs))) (hi : bzIn i N) (hc0 : i.toNatClampNeg = c0) {ws1 : va_W} (hw : ws.set q0 (a, .inl (g.2.2.1, N, .inr (.inr (.inr (.inr (va_up f c0 (some v))))))) = ws1) (hdg : decode cc pc = .ok (.aastore, 1)) (K : bzM g nL x ws1 k n (pc + 1) lv st) : bzM g nL x ws k n pc lv (.ref v :: .int i :: .ref a :: st) := by
  subst hc0
  obtain ⟨p, l, e, R, s, m, args, below, meth, c, Q, kC, nC⟩ := x
  obtain ⟨⟨hx, hb, hml, hown, hts⟩, hK, hA, hW, hO, hR1, hR2, hR3, hR4⟩ := hF
  intro H locs ls hP hD hS hl
  refine va_astq (D := g.1) (cl := vwCl) (tys := bzTy g) (r := (RX5, TX5, 2)) hx hb hK hP hD hS q0 1 qk 5 he rfl hv rfl (vp_in_iff.mpr hi) hdg (fun H1 locs1 hP1 hD1 hS1 => ?_)
  rw [hw] at hP1 hD1
  exact K H1 locs1 ls hP1 hD1 hS1 hl
theorem m_alen (hF : bzEm g d mc ms nL cc own x) (q0 : Nat) {a N : Nat} {f : Nat → Option Nat} {v : Int32} (he : ws[q0]? = some (a, .inl (g.2.2.1, N, .inr (.inr (.inr (.inr f)))))) (hv : Int32.ofNat N = v) (hdg : decode cc pc = .ok (.arraylength, 1)) (K : bzM g nL x ws k n (pc + 1) lv (.int v :: st)) : bzM g nL x ws k n pc lv (.ref a :: st) := by
  obtain ⟨p, l, e, R, s, m, args, below, meth, c, Q, kC, nC⟩ := x
  obtain ⟨⟨hx, hb, hml, hown, hts⟩, hK, hA, hW, hO, hR1, hR2, hR3, hR4⟩ := hF
  intro H locs ls hP hD hS hl
  exact va_alen (D := g.1) (cl := vwCl) (tys := bzTy g) hx hb hK hP q0 1 he (ty := .object "BronzeDown$Sheet") rfl hv hdg (K H locs ls hP hD hS hl)
theorem m_max (hF : bzEm g d mc ms nL cc own x) {index : Nat} (hlink : Cond.methodLink own index yJ_max ∈ GW) (hd : 2 ≤ d) {a b : Int32} (hst : (st.map fun v => v.category).sum ≤ 8) (hk : k ≤ mc) (hn : n ≤ ms) (hdg : decode cc pc = .ok (.invokestatic index, 3)) (K : bzM g nL x ws k n (pc + 3) lv (.int (if a < b then b else a) :: st)) : bzM g nL x ws k n pc lv (.int b :: .int a :: st) := by
  obtain ⟨p, l, e, R, s, m, args, below, meth, c, Q, kC, nC⟩ := x
  obtain ⟨⟨hx, hb, hml, hown, hts⟩, hK, hA, hW, hO, hR1, hR2, hR3, hR4⟩ := hF
  intro H locs ls hP hD hS hl
  exact va_mmax (R := R) hx hb (hml.trans hl.1.symm) hown (hts _ hlink) (hts _ ks_J_max) (hts _ kn_JM) (hts _ kk_J_max) (by omega) (by omega) (by omega) (by omega) hdg (K H locs ls hP hD hS hl)
theorem m_ret {g : bzGeo} {sz : Nat} {w0 : va_W} {w1 : List Nat → va_W} (hF : bzEm (gW g (va_A w0 sz)) d mc ms nL cc own x) (hG : x.2.2.2.2.2.2.2.2.1.sig.returnType = none ∧ x.2.2.2.2.2.2.2.2.1.locks = false ∧ x.2.2.2.2.2.2.2.2.2.2.1 = MQ x.2.2.2.2.2.2.2.1 (va_Qv (fun _ : List Nat => True) (bzBm g (va_A w0 sz) w1) (va_A w0 sz)) x.2.2.2.2.2.2.1 x.2.2.2.2.1 mc ms (va_A w0 sz)) (hk : k = mc) (hn : n = ms) (u : List Nat) (hu : ws = w1 u) (hdg : decode cc pc = .ok (.return_, 1)) : bzM (gW g (va_A w0 sz)) nL x ws k n pc lv [] := by
  subst hk
  subst hn
  subst hu
  obtain ⟨p, l, e, R, s, m, args, below, meth, c, Q, kC, nC⟩ := x
  obtain ⟨⟨hx, hb, hml, hown, hts⟩, hK, hA, hW, hO, hR1, hR2, hR3, hR4⟩ := hF
  obtain ⟨hr, hlk, hQ⟩ := hG
  intro H locs ls hP hD hS hl
  show W p l e R s m args below meth c H locs k n Q (F0 m pc ls [])
  rw [show Q = _ from hQ]
  exact W.vret hx hb hr (fun t ht hWm => ⟨⟨u, rfl, trivial, by show va_P _ _ _ _ ∧ _; rw [ht]; exact ⟨hP, hD⟩⟩, hS.F ht⟩) hS.2.2 hdg hlk

theorem m_callI (hF : bzEm g d mc ms nL cc own x) {y : MethodName} {bytes : ByteArray} {maxL d2 index nA mc2 ms2 h0 : Nat} {As : List Value} {w1 : List Nat → va_W} (wc wr : va_W) (hone : wc.length = 1) (isC isR : List Nat) (hC : isC.map (fun i => ws[i]?) = wc.map some) (hR : isR.map (fun i => ws[i]?) = wr.map some) (hnd : va_nd isR = true) (hdis : ∀ i ∈ isR, i ∉ isC) (hM : ∀ l sz, Met l y (Cond.code y bytes maxL none :: GW) (bzRm d2 mc2 ms2) (va_Pc (.ref h0 :: As) (bzPm g wc sz)) (va_Qv (fun _ : List Nat => True) (bzBm g (va_A wc sz) w1) (va_A wc sz)) mc2 ms2 (va_A wc sz)) (hlink : Cond.methodLink own index y ∈ GW) (hcode : Cond.code y bytes maxL none ∈ GW) (hini : Cond.initialized y.cls ∈ GW) (hinst : Cond.instanceMethod y ∈ GW) (hyn : y.name = "<init>") (hd : y.cls ≠ "java/lang/invoke/MethodHandle" ∧ y.cls ≠ "java/lang/invoke/VarHandle" ∧ (parseMethodDescriptor y.desc).map (fun d => d.parameters.length) = some nA) (hnA : As.length = nA) (hroom : d2 + 1 ≤ d ∧ maxL ≤ 21) (hst : (st.map fun v => v.category).sum ≤ 8) (hk : k + mc2 ≤ mc) (hn : n + ms2 ≤ ms) {ws1 : List Nat → va_W} (hw : ∀ u, wr ++ w1 u = ws1 u) (hdg : decode cc pc = .ok (.invokespecial index, 3)) (K : ∀ u, bzM g nL x (ws1 u) (k + mc2) (n + ms2) (pc + 3) lv st) : bzM g nL x ws k n pc lv (As.reverse ++ .ref h0 :: st) := by
  obtain ⟨p, l, e, R, s, m, args, below, meth, c, Q, kC, nC⟩ := x
  obtain ⟨⟨hx, hb, hml, hown, hts⟩, hK, hA, hW, hO, hR1, hR2, hR3, hR4⟩ := hF
  intro H locs ls hP hD hS hl
  obtain ⟨hr1, hr2⟩ := hroom
  have hPc : va_P g.1 vwCl wc H := by
    intro i q hi
    have h1 : (isC.map (fun i => ws[i]?))[i]? = some (some q) := by rw [hC, List.getElem?_map, hi]; rfl
    rw [List.getElem?_map] at h1
    cases hj : isC[i]? with
    | none => rw [hj] at h1; cases h1
    | some j => rw [hj] at h1; exact hP j q (Option.some.inj h1)
  have hFc := va_free (wc := wc) hD hS hA isC hC
  have hDc : va_D (fun _ => True) wc := by
    refine ⟨fun i j p q hi hj e => ?_, fun _ _ _ => trivial⟩
    have hi2 := (List.getElem?_eq_some_iff.mp hi).1
    have hj2 := (List.getElem?_eq_some_iff.mp hj).1
    omega
  refine va_callv (va_runI (As := As) (rest := st) ⟨hx, hb, hml, hown, hts⟩ (hM l H.size) (cwI nA hts (bz_gC hcode) rfl rfl rfl (hts _ hini) (hts _ hlink) (hts _ hinst) hyn hd ⟨by show d2 + 1 ≤ R.frames; omega, by show 8 + (maxL + 11) + 40 * d2 ≤ R.locals; omega⟩) ⟨fun a U fr mk h => by obtain ⟨h1, h2, h3, h4, h5, h6, h7⟩ := h; exact ⟨h1, h2, h3, va_K.moved (u := U) (U := U.calling fr mk a) (Vm.Alike.refl U.vm) h4, h5, h6.same rfl, va_AO.moved (Vm.Alike.refl U.vm) h7⟩, fun U hU hWm => ⟨rfl, by rw [hU], by rw [hU]; exact hPc, va_K.moved hWm.alike hK, hDc, hW.warm hWm, va_AO.moved hWm.alike hO⟩⟩ rfl hnA hl.1 rfl (lv_room hst) hdg ⟨by show k + mc2 ≤ R.cells; omega, by show n + ms2 ≤ R.slots; omega⟩) hS (fun q _ h => hFc q h) hFc (fun u t H1 locs1 ht hvm _ hB hz hk1 hS1 => ?_)
  obtain ⟨hP1, hD1⟩ := hB
  rw [ht] at hP1
  obtain ⟨hP2, hD2⟩ := va_join (wr := wr) (w1 := w1 u) hP hD isC isR hC hR hnd hdis hk1 hFc hP1 hD1
  rw [hw u] at hP2 hD2
  exact K u H1 locs1 ls hP2 hD2 hS1 hl

theorem m_callIN (hF : bzEm g d mc ms nL cc own x) {y : MethodName} {bytes : ByteArray} {maxL d2 index nA mc2 ms2 h0 : Nat} {host : String} {As : List Value} {w1 : List Nat → va_W} (wc wr : va_W) (hone : wc.length = 1) (isC isR : List Nat) (hC : isC.map (fun i => ws[i]?) = wc.map some) (hR : isR.map (fun i => ws[i]?) = wr.map some) (hnd : va_nd isR = true) (hdis : ∀ i ∈ isR, i ∉ isC) (hM : ∀ l sz, Met l y (Cond.code y bytes maxL none :: GW) (bzRm d2 mc2 ms2) (va_Pc (.ref h0 :: As) (bzPm g wc sz)) (va_Qv (fun _ : List Nat => True) (bzBm g (va_A wc sz) w1) (va_A wc sz)) mc2 ms2 (va_A wc sz)) (hlink : Cond.methodLinkNest own index y host ∈ NW) (hcode : Cond.code y bytes maxL none ∈ GW) (hini : Cond.initialized y.cls ∈ GW) (hinst : Cond.instanceMethod y ∈ GW) (hyn : y.name = "<init>") (hd : y.cls ≠ "java/lang/invoke/MethodHandle" ∧ y.cls ≠ "java/lang/invoke/VarHandle" ∧ (parseMethodDescriptor y.desc).map (fun d => d.parameters.length) = some nA) (hnA : As.length = nA) (hroom : d2 + 1 ≤ d ∧ maxL ≤ 21) (hst : (st.map fun v => v.category).sum ≤ 8) (hk : k + mc2 ≤ mc) (hn : n + ms2 ≤ ms) {ws1 : List Nat → va_W} (hw : ∀ u, wr ++ w1 u = ws1 u) (hdg : decode cc pc = .ok (.invokespecial index, 3)) (K : ∀ u, bzM g nL x (ws1 u) (k + mc2) (n + ms2) (pc + 3) lv st) : bzM g nL x ws k n pc lv (As.reverse ++ .ref h0 :: st) := by
  obtain ⟨p, l, e, R, s, m, args, below, meth, c, Q, kC, nC⟩ := x
  obtain ⟨⟨hx, hb, hml, hown, hts⟩, hK, hA, hW, hO, hR1, hR2, hR3, hR4⟩ := hF
  intro H locs ls hP hD hS hl
  obtain ⟨hr1, hr2⟩ := hroom
  have hPc : va_P g.1 vwCl wc H := by
    intro i q hi
    have h1 : (isC.map (fun i => ws[i]?))[i]? = some (some q) := by rw [hC, List.getElem?_map, hi]; rfl
    rw [List.getElem?_map] at h1
    cases hj : isC[i]? with
    | none => rw [hj] at h1; cases h1
    | some j => rw [hj] at h1; exact hP j q (Option.some.inj h1)
  have hFc := va_free (wc := wc) hD hS hA isC hC
  have hDc : va_D (fun _ => True) wc := by
    refine ⟨fun i j p q hi hj e => ?_, fun _ _ _ => trivial⟩
    have hi2 := (List.getElem?_eq_some_iff.mp hi).1
    have hj2 := (List.getElem?_eq_some_iff.mp hj).1
    omega
  refine va_callv (va_runIN (As := As) (rest := st) ⟨hx, hb, hml, hown, hts⟩ (hM l H.size) (⟨va_cnB nA hts (bz_gC hcode) rfl rfl rfl (hW _ hlink) (hts _ hini) hd ⟨by show d2 + 1 ≤ R.frames; omega, by show 8 + (maxL + 11) + 40 * d2 ≤ R.locals; omega⟩, hyn, hts _ hinst⟩) ⟨fun a U fr mk h => by obtain ⟨h1, h2, h3, h4, h5, h6, h7⟩ := h; exact ⟨h1, h2, h3, va_K.moved (u := U) (U := U.calling fr mk a) (Vm.Alike.refl U.vm) h4, h5, h6.same rfl, va_AO.moved (Vm.Alike.refl U.vm) h7⟩, fun U hU hWm => ⟨rfl, by rw [hU], by rw [hU]; exact hPc, va_K.moved hWm.alike hK, hDc, hW.warm hWm, va_AO.moved hWm.alike hO⟩⟩ rfl hnA hl.1 rfl (lv_room hst) hdg ⟨by show k + mc2 ≤ R.cells; omega, by show n + ms2 ≤ R.slots; omega⟩) hS (fun q _ h => hFc q h) hFc (fun u t H1 locs1 ht hvm _ hB hz hk1 hS1 => ?_)
  obtain ⟨hP1, hD1⟩ := hB
  rw [ht] at hP1
  obtain ⟨hP2, hD2⟩ := va_join (wr := wr) (w1 := w1 u) hP hD isC isR hC hR hnd hdis hk1 hFc hP1 hD1
  rw [hw u] at hP2 hD2
  exact K u H1 locs1 ls hP2 hD2 hS1 hl

theorem m_start {g : bzGeo} {d mc ms nL sz : Nat} {cc : ByteArray} {y : MethodName} {w0 : va_W} {Qc : Array Value → State → Outcome → State → Prop} (l : Launch) (hy : plainFor y = true) (hyn : y.name = "<init>") (av : List Value) (lv : List (Nat × Value)) (hn : (lg_sl av).length ≤ nL) (hlv : lv_args 0 av = lv)
    (K : ∀ x : bzCx, bzEm (gW g (va_A w0 sz)) d mc ms nL cc y.cls x → x.2.2.2.2.2.2.2.2.1.name = "<init>" → (x.2.2.2.2.2.2.2.2.1.sig.returnType = none ∧ x.2.2.2.2.2.2.2.2.1.locks = false ∧ x.2.2.2.2.2.2.2.2.2.2.1 = MQ x.2.2.2.2.2.2.2.1 Qc x.2.2.2.2.2.2.1 x.2.2.2.2.1 mc ms (va_A w0 sz)) → bzM (gW g (va_A w0 sz)) nL x w0 0 0 0 lv []) : Met l y (Cond.code y cc nL none :: GW) (bzRm d mc ms) (va_Pc av (bzPm g w0 sz)) Qc mc ms (va_A w0 sz) := by
  refine va_MetF (cc := cc) (maxL := nL) (ret := none) hy rfl ?_
  intro p e s m args below meth c s₁ B hml hv
  obtain ⟨rfl, hsz, hP, hK, hD, hW, hO⟩ := hv
  have hts := atoms_spec (ws := Cond.code y cc nL none :: GW) B.pre
  have hx := K (p, l, e, bzRm d mc ms, s, m, av.toArray, below, meth, c, MQ below Qc av.toArray s mc ms (va_A w0 sz), 0, 0) ⟨⟨B.exec, B.bytes, hml, findClass_of_methodNamed B.named, fun w hw => hts w (List.mem_cons_of_mem _ hw)⟩, hK, fun q hq => Or.inr (by omega), hW, hO, Nat.le_refl _, Nat.le_refl _, Nat.le_refl _, Nat.le_refl _⟩ ((name_of_methodNamed B.named B.method).1.trans hyn) ⟨B.returns, B.notSynchronized, rfl⟩
  have hl := lv_entry av hn
  rw [lg_entry_eq]
  rw [hlv] at hl
  exact hx s.heap [] _ hP hD.self va_S.rf hl
end MR

