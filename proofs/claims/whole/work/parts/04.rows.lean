section JR
variable {g : bzGeo} {d nL : Nat} {cc : ByteArray} {own : String} {x : bzCx} {σ : bzS} {pc : Nat} {lv : List (Nat × Value)} {st : List Value}

theorem j_iconst (hF : bzE g d nL cc own x) {n : Int} {v : Int32} (hdg : decode cc pc = .ok (.iconst n, 1)) (hv : Int32.ofInt n = v) (K : bzJ g nL x σ (pc + 1) lv (.int v :: st)) : bzJ g nL x σ pc lv st := by
  obtain ⟨p, l, e, R, s, m, args, below, meth, c, Q, kC, nC⟩ := x
  obtain ⟨⟨hx, hb, hml, hown, hts⟩, -⟩ := hF
  intro H locs ls hP hS hl
  exact lv_iconst hx hb hdg hv (K H locs ls hP hS hl)

theorem j_bipush (hF : bzE g d nL cc own x) {n : Int} {v : Int32} (hdg : decode cc pc = .ok (.bipush n, 2)) (hv : (Int8.ofInt n).toInt32 = v) (K : bzJ g nL x σ (pc + 2) lv (.int v :: st)) : bzJ g nL x σ pc lv st := by
  obtain ⟨p, l, e, R, s, m, args, below, meth, c, Q, kC, nC⟩ := x
  obtain ⟨⟨hx, hb, hml, hown, hts⟩, -⟩ := hF
  intro H locs ls hP hS hl
  exact lv_bipush hx hb hdg hv (K H locs ls hP hS hl)

theorem j_sipush (hF : bzE g d nL cc own x) {n : Int} {v : Int32} (hdg : decode cc pc = .ok (.sipush n, 3)) (hv : (Int16.ofInt n).toInt32 = v) (K : bzJ g nL x σ (pc + 3) lv (.int v :: st)) : bzJ g nL x σ pc lv st := by
  obtain ⟨p, l, e, R, s, m, args, below, meth, c, Q, kC, nC⟩ := x
  obtain ⟨⟨hx, hb, hml, hown, hts⟩, -⟩ := hF
  intro H locs ls hP hS hl
  exact lv_sipush hx hb hdg hv (K H locs ls hP hS hl)

theorem j_ldc (hF : bzE g d nL cc own x) {index : Nat} {v : Int32} (hw : Cond.constant own index v ∈ GW) (hdg : decode cc pc = .ok (.ldc index, 2)) (K : bzJ g nL x σ (pc + 2) lv (.int v :: st)) : bzJ g nL x σ pc lv st := by
  obtain ⟨p, l, e, R, s, m, args, below, meth, c, Q, kC, nC⟩ := x
  obtain ⟨⟨hx, hb, hml, hown, hts⟩, -⟩ := hF
  intro H locs ls hP hS hl
  exact lv_ldc hx hb hown (hts _ hw) hdg (K H locs ls hP hS hl)

theorem j_ldc_w (hF : bzE g d nL cc own x) {index : Nat} {v : Int32} (hw : Cond.constant own index v ∈ GW) (hdg : decode cc pc = .ok (.ldc_w index, 3)) (K : bzJ g nL x σ (pc + 3) lv (.int v :: st)) : bzJ g nL x σ pc lv st := by
  obtain ⟨p, l, e, R, s, m, args, below, meth, c, Q, kC, nC⟩ := x
  obtain ⟨⟨hx, hb, hml, hown, hts⟩, -⟩ := hF
  intro H locs ls hP hS hl
  exact lv_ldcw hx hb hown (hts _ hw) hdg (K H locs ls hP hS hl)

theorem j_ldc2_w (hF : bzE g d nL cc own x) {index : Nat} {v : Int64} (hw : Cond.constantLong own index v ∈ GW) (hdg : decode cc pc = .ok (.ldc2_w index, 3)) (K : bzJ g nL x σ (pc + 3) lv (.long v :: st)) : bzJ g nL x σ pc lv st := by
  obtain ⟨p, l, e, R, s, m, args, below, meth, c, Q, kC, nC⟩ := x
  obtain ⟨⟨hx, hb, hml, hown, hts⟩, -⟩ := hF
  intro H locs ls hP hS hl
  exact lv_ldc2 hx hb hown (hts _ hw) hdg (K H locs ls hP hS hl)

theorem j_aconst_null (hF : bzE g d nL cc own x) (hdg : decode cc pc = .ok (.aconst_null, 1)) (K : bzJ g nL x σ (pc + 1) lv (.null :: st)) : bzJ g nL x σ pc lv st := by
  obtain ⟨p, l, e, R, s, m, args, below, meth, c, Q, kC, nC⟩ := x
  obtain ⟨⟨hx, hb, hml, hown, hts⟩, -⟩ := hF
  intro H locs ls hP hS hl
  exact lv_null hx hb hdg (K H locs ls hP hS hl)

theorem j_iload_n (hF : bzE g d nL cc own x) {k : Fin 4} (j : Nat) {v : Int32} (hdg : decode cc pc = .ok (.iload_n k, 1)) (hj : lv[j]? = some (k.val, .int v)) (K : bzJ g nL x σ (pc + 1) lv (.int v :: st)) : bzJ g nL x σ pc lv st := by
  obtain ⟨p, l, e, R, s, m, args, below, meth, c, Q, kC, nC⟩ := x
  obtain ⟨⟨hx, hb, hml, hown, hts⟩, -⟩ := hF
  intro H locs ls hP hS hl
  exact lv_iload_n hx hb hdg rfl (lv_at hl j hj) (K H locs ls hP hS hl)

theorem j_iload (hF : bzE g d nL cc own x) {k : Nat} (j : Nat) {v : Int32} (hdg : decode cc pc = .ok (.iload k, 2)) (hj : lv[j]? = some (k, .int v)) (K : bzJ g nL x σ (pc + 2) lv (.int v :: st)) : bzJ g nL x σ pc lv st := by
  obtain ⟨p, l, e, R, s, m, args, below, meth, c, Q, kC, nC⟩ := x
  obtain ⟨⟨hx, hb, hml, hown, hts⟩, -⟩ := hF
  intro H locs ls hP hS hl
  exact lv_iload hx hb hdg (lv_at hl j hj) (K H locs ls hP hS hl)

theorem j_lload_n (hF : bzE g d nL cc own x) {k : Fin 4} (j : Nat) {v : Int64} (hdg : decode cc pc = .ok (.lload_n k, 1)) (hj : lv[j]? = some (k.val, .long v)) (K : bzJ g nL x σ (pc + 1) lv (.long v :: st)) : bzJ g nL x σ pc lv st := by
  obtain ⟨p, l, e, R, s, m, args, below, meth, c, Q, kC, nC⟩ := x
  obtain ⟨⟨hx, hb, hml, hown, hts⟩, -⟩ := hF
  intro H locs ls hP hS hl
  exact lv_lload_n hx hb hdg rfl (lv_at hl j hj) (K H locs ls hP hS hl)

theorem j_aload_n (hF : bzE g d nL cc own x) {k : Fin 4} (j : Nat) {v : Nat} (hdg : decode cc pc = .ok (.aload_n k, 1)) (hj : lv[j]? = some (k.val, .ref v)) (K : bzJ g nL x σ (pc + 1) lv (.ref v :: st)) : bzJ g nL x σ pc lv st := by
  obtain ⟨p, l, e, R, s, m, args, below, meth, c, Q, kC, nC⟩ := x
  obtain ⟨⟨hx, hb, hml, hown, hts⟩, -⟩ := hF
  intro H locs ls hP hS hl
  exact lv_aload_n hx hb hdg rfl (lv_at hl j hj) (K H locs ls hP hS hl)

theorem j_aload (hF : bzE g d nL cc own x) {k : Nat} (j : Nat) {v : Nat} (hdg : decode cc pc = .ok (.aload k, 2)) (hj : lv[j]? = some (k, .ref v)) (K : bzJ g nL x σ (pc + 2) lv (.ref v :: st)) : bzJ g nL x σ pc lv st := by
  obtain ⟨p, l, e, R, s, m, args, below, meth, c, Q, kC, nC⟩ := x
  obtain ⟨⟨hx, hb, hml, hown, hts⟩, -⟩ := hF
  intro H locs ls hP hS hl
  exact lv_aload hx hb hdg (lv_at hl j hj) (K H locs ls hP hS hl)

theorem j_aload_nN (hF : bzE g d nL cc own x) {k : Fin 4} (j : Nat) (hdg : decode cc pc = .ok (.aload_n k, 1)) (hj : lv[j]? = some (k.val, .null)) (K : bzJ g nL x σ (pc + 1) lv (.null :: st)) : bzJ g nL x σ pc lv st := by
  obtain ⟨p, l, e, R, s, m, args, below, meth, c, Q, kC, nC⟩ := x
  obtain ⟨⟨hx, hb, hml, hown, hts⟩, -⟩ := hF
  intro H locs ls hP hS hl
  exact lv_aload_nN hx hb hdg rfl (lv_at hl j hj) (K H locs ls hP hS hl)

theorem j_aloadN (hF : bzE g d nL cc own x) {k : Nat} (j : Nat) (hdg : decode cc pc = .ok (.aload k, 2)) (hj : lv[j]? = some (k, .null)) (K : bzJ g nL x σ (pc + 2) lv (.null :: st)) : bzJ g nL x σ pc lv st := by
  obtain ⟨p, l, e, R, s, m, args, below, meth, c, Q, kC, nC⟩ := x
  obtain ⟨⟨hx, hb, hml, hown, hts⟩, -⟩ := hF
  intro H locs ls hP hS hl
  exact lv_aloadN hx hb hdg (lv_at hl j hj) (K H locs ls hP hS hl)

theorem j_istore_n (hF : bzE g d nL cc own x) {k : Fin 4} {v : Int32} {lv1 : List (Nat × Value)} (hdg : decode cc pc = .ok (.istore_n k, 1)) (hn : k.val < nL) (hv : (k.val, Value.int v) :: lv.filter (fun q => !(q.1 == k.val) && !(q.1 + 1 == k.val && q.2.category == 2)) = lv1) (K : bzJ g nL x σ (pc + 1) lv1 st) : bzJ g nL x σ pc lv (.int v :: st) := by
  obtain ⟨p, l, e, R, s, m, args, below, meth, c, Q, kC, nC⟩ := x
  obtain ⟨⟨hx, hb, hml, hown, hts⟩, -⟩ := hF
  intro H locs ls hP hS hl
  exact lv_istore_n hx hb hdg rfl hl hn hv (fun ls hl => K H locs ls hP hS hl)

theorem j_istore (hF : bzE g d nL cc own x) {k : Nat} {v : Int32} {lv1 : List (Nat × Value)} (hdg : decode cc pc = .ok (.istore k, 2)) (hn : k < nL) (hv : (k, Value.int v) :: lv.filter (fun q => !(q.1 == k) && !(q.1 + 1 == k && q.2.category == 2)) = lv1) (K : bzJ g nL x σ (pc + 2) lv1 st) : bzJ g nL x σ pc lv (.int v :: st) := by
  obtain ⟨p, l, e, R, s, m, args, below, meth, c, Q, kC, nC⟩ := x
  obtain ⟨⟨hx, hb, hml, hown, hts⟩, -⟩ := hF
  intro H locs ls hP hS hl
  exact lv_istore hx hb hdg hl hn hv (fun ls hl => K H locs ls hP hS hl)

theorem j_astore_n (hF : bzE g d nL cc own x) {k : Fin 4} {v : Nat} {lv1 : List (Nat × Value)} (hdg : decode cc pc = .ok (.astore_n k, 1)) (hn : k.val < nL) (hv : (k.val, Value.ref v) :: lv.filter (fun q => !(q.1 == k.val) && !(q.1 + 1 == k.val && q.2.category == 2)) = lv1) (K : bzJ g nL x σ (pc + 1) lv1 st) : bzJ g nL x σ pc lv (.ref v :: st) := by
  obtain ⟨p, l, e, R, s, m, args, below, meth, c, Q, kC, nC⟩ := x
  obtain ⟨⟨hx, hb, hml, hown, hts⟩, -⟩ := hF
  intro H locs ls hP hS hl
  exact lv_astore_n hx hb hdg rfl hl hn hv (fun ls hl => K H locs ls hP hS hl)

theorem j_astore (hF : bzE g d nL cc own x) {k : Nat} {v : Nat} {lv1 : List (Nat × Value)} (hdg : decode cc pc = .ok (.astore k, 2)) (hn : k < nL) (hv : (k, Value.ref v) :: lv.filter (fun q => !(q.1 == k) && !(q.1 + 1 == k && q.2.category == 2)) = lv1) (K : bzJ g nL x σ (pc + 2) lv1 st) : bzJ g nL x σ pc lv (.ref v :: st) := by
  obtain ⟨p, l, e, R, s, m, args, below, meth, c, Q, kC, nC⟩ := x
  obtain ⟨⟨hx, hb, hml, hown, hts⟩, -⟩ := hF
  intro H locs ls hP hS hl
  exact lv_astore hx hb hdg hl hn hv (fun ls hl => K H locs ls hP hS hl)

theorem j_astore_nN (hF : bzE g d nL cc own x) {k : Fin 4} {lv1 : List (Nat × Value)} (hdg : decode cc pc = .ok (.astore_n k, 1)) (hn : k.val < nL) (hv : (k.val, Value.null) :: lv.filter (fun q => !(q.1 == k.val) && !(q.1 + 1 == k.val && q.2.category == 2)) = lv1) (K : bzJ g nL x σ (pc + 1) lv1 st) : bzJ g nL x σ pc lv (.null :: st) := by
  obtain ⟨p, l, e, R, s, m, args, below, meth, c, Q, kC, nC⟩ := x
  obtain ⟨⟨hx, hb, hml, hown, hts⟩, -⟩ := hF
  intro H locs ls hP hS hl
  exact lv_astore_nN hx hb hdg rfl hl hn hv (fun ls hl => K H locs ls hP hS hl)

theorem j_astoreN (hF : bzE g d nL cc own x) {k : Nat} {lv1 : List (Nat × Value)} (hdg : decode cc pc = .ok (.astore k, 2)) (hn : k < nL) (hv : (k, Value.null) :: lv.filter (fun q => !(q.1 == k) && !(q.1 + 1 == k && q.2.category == 2)) = lv1) (K : bzJ g nL x σ (pc + 2) lv1 st) : bzJ g nL x σ pc lv (.null :: st) := by
  obtain ⟨p, l, e, R, s, m, args, below, meth, c, Q, kC, nC⟩ := x
  obtain ⟨⟨hx, hb, hml, hown, hts⟩, -⟩ := hF
  intro H locs ls hP hS hl
  exact lv_astoreN hx hb hdg hl hn hv (fun ls hl => K H locs ls hP hS hl)

theorem j_iinc (hF : bzE g d nL cc own x) {i : Nat} (j : Nat) {n : Int} {a v : Int32} {lv1 : List (Nat × Value)} (hdg : decode cc pc = .ok (.iinc i n, 3)) (hj : lv[j]? = some (i, .int a)) (ha : a + Int32.ofInt n = v) (hn : i < nL) (hv : (i, Value.int v) :: lv.filter (fun q => !(q.1 == i) && !(q.1 + 1 == i && q.2.category == 2)) = lv1) (K : bzJ g nL x σ (pc + 3) lv1 st) : bzJ g nL x σ pc lv st := by
  obtain ⟨p, l, e, R, s, m, args, below, meth, c, Q, kC, nC⟩ := x
  obtain ⟨⟨hx, hb, hml, hown, hts⟩, -⟩ := hF
  intro H locs ls hP hS hl
  exact lv_iinc hx hb hdg hl hj ha hn hv (fun ls hl => K H locs ls hP hS hl)

theorem j_iadd (hF : bzE g d nL cc own x) {a b : Int32} (hdg : decode cc pc = .ok (.iadd, 1)) (K : bzJ g nL x σ (pc + 1) lv (.int (a + b) :: st)) : bzJ g nL x σ pc lv (.int b :: .int a :: st) := by
  obtain ⟨p, l, e, R, s, m, args, below, meth, c, Q, kC, nC⟩ := x
  obtain ⟨⟨hx, hb, hml, hown, hts⟩, -⟩ := hF
  intro H locs ls hP hS hl
  exact lv_iadd hx hb hdg (K H locs ls hP hS hl)

theorem j_isub (hF : bzE g d nL cc own x) {a b : Int32} (hdg : decode cc pc = .ok (.isub, 1)) (K : bzJ g nL x σ (pc + 1) lv (.int (a - b) :: st)) : bzJ g nL x σ pc lv (.int b :: .int a :: st) := by
  obtain ⟨p, l, e, R, s, m, args, below, meth, c, Q, kC, nC⟩ := x
  obtain ⟨⟨hx, hb, hml, hown, hts⟩, -⟩ := hF
  intro H locs ls hP hS hl
  exact lv_isub hx hb hdg (K H locs ls hP hS hl)

theorem j_imul (hF : bzE g d nL cc own x) {a b : Int32} (hdg : decode cc pc = .ok (.imul, 1)) (K : bzJ g nL x σ (pc + 1) lv (.int (a * b) :: st)) : bzJ g nL x σ pc lv (.int b :: .int a :: st) := by
  obtain ⟨p, l, e, R, s, m, args, below, meth, c, Q, kC, nC⟩ := x
  obtain ⟨⟨hx, hb, hml, hown, hts⟩, -⟩ := hF
  intro H locs ls hP hS hl
  exact lv_imul hx hb hdg (K H locs ls hP hS hl)

theorem j_iand (hF : bzE g d nL cc own x) {a b : Int32} (hdg : decode cc pc = .ok (.iand, 1)) (K : bzJ g nL x σ (pc + 1) lv (.int (a &&& b) :: st)) : bzJ g nL x σ pc lv (.int b :: .int a :: st) := by
  obtain ⟨p, l, e, R, s, m, args, below, meth, c, Q, kC, nC⟩ := x
  obtain ⟨⟨hx, hb, hml, hown, hts⟩, -⟩ := hF
  intro H locs ls hP hS hl
  exact lv_iand hx hb hdg (K H locs ls hP hS hl)

theorem j_ior (hF : bzE g d nL cc own x) {a b : Int32} (hdg : decode cc pc = .ok (.ior, 1)) (K : bzJ g nL x σ (pc + 1) lv (.int (a ||| b) :: st)) : bzJ g nL x σ pc lv (.int b :: .int a :: st) := by
  obtain ⟨p, l, e, R, s, m, args, below, meth, c, Q, kC, nC⟩ := x
  obtain ⟨⟨hx, hb, hml, hown, hts⟩, -⟩ := hF
  intro H locs ls hP hS hl
  exact lv_ior hx hb hdg (K H locs ls hP hS hl)

theorem j_ixor (hF : bzE g d nL cc own x) {a b : Int32} (hdg : decode cc pc = .ok (.ixor, 1)) (K : bzJ g nL x σ (pc + 1) lv (.int (a ^^^ b) :: st)) : bzJ g nL x σ pc lv (.int b :: .int a :: st) := by
  obtain ⟨p, l, e, R, s, m, args, below, meth, c, Q, kC, nC⟩ := x
  obtain ⟨⟨hx, hb, hml, hown, hts⟩, -⟩ := hF
  intro H locs ls hP hS hl
  exact lv_ixor hx hb hdg (K H locs ls hP hS hl)

theorem j_idiv (hF : bzE g d nL cc own x) {a b : Int32} (hdg : decode cc pc = .ok (.idiv, 1)) (hne : ¬ b = 0) (K : bzJ g nL x σ (pc + 1) lv (.int (a / b) :: st)) : bzJ g nL x σ pc lv (.int b :: .int a :: st) := by
  obtain ⟨p, l, e, R, s, m, args, below, meth, c, Q, kC, nC⟩ := x
  obtain ⟨⟨hx, hb, hml, hown, hts⟩, -⟩ := hF
  intro H locs ls hP hS hl
  exact lv_idiv hx hb hdg hne (K H locs ls hP hS hl)

theorem j_irem (hF : bzE g d nL cc own x) {a b : Int32} (hdg : decode cc pc = .ok (.irem, 1)) (hne : ¬ b = 0) (K : bzJ g nL x σ (pc + 1) lv (.int (a - a / b * b) :: st)) : bzJ g nL x σ pc lv (.int b :: .int a :: st) := by
  obtain ⟨p, l, e, R, s, m, args, below, meth, c, Q, kC, nC⟩ := x
  obtain ⟨⟨hx, hb, hml, hown, hts⟩, -⟩ := hF
  intro H locs ls hP hS hl
  exact lv_irem hx hb hdg hne (K H locs ls hP hS hl)

theorem j_ineg (hF : bzE g d nL cc own x) {a : Int32} (hdg : decode cc pc = .ok (.ineg, 1)) (K : bzJ g nL x σ (pc + 1) lv (.int (-a) :: st)) : bzJ g nL x σ pc lv (.int a :: st) := by
  obtain ⟨p, l, e, R, s, m, args, below, meth, c, Q, kC, nC⟩ := x
  obtain ⟨⟨hx, hb, hml, hown, hts⟩, -⟩ := hF
  intro H locs ls hP hS hl
  exact lv_ineg hx hb hdg (K H locs ls hP hS hl)

theorem j_ishl (hF : bzE g d nL cc own x) {a b : Int32} (hdg : decode cc pc = .ok (.ishl, 1)) (K : bzJ g nL x σ (pc + 1) lv (.int (a <<< (b &&& 31)) :: st)) : bzJ g nL x σ pc lv (.int b :: .int a :: st) := by
  obtain ⟨p, l, e, R, s, m, args, below, meth, c, Q, kC, nC⟩ := x
  obtain ⟨⟨hx, hb, hml, hown, hts⟩, -⟩ := hF
  intro H locs ls hP hS hl
  exact lv_ishl hx hb hdg (K H locs ls hP hS hl)

theorem j_ishr (hF : bzE g d nL cc own x) {a b : Int32} (hdg : decode cc pc = .ok (.ishr, 1)) (K : bzJ g nL x σ (pc + 1) lv (.int (a >>> (b &&& 31)) :: st)) : bzJ g nL x σ pc lv (.int b :: .int a :: st) := by
  obtain ⟨p, l, e, R, s, m, args, below, meth, c, Q, kC, nC⟩ := x
  obtain ⟨⟨hx, hb, hml, hown, hts⟩, -⟩ := hF
  intro H locs ls hP hS hl
  exact lv_ishr hx hb hdg (K H locs ls hP hS hl)

theorem j_iushr (hF : bzE g d nL cc own x) {a b : Int32} (hdg : decode cc pc = .ok (.iushr, 1)) (K : bzJ g nL x σ (pc + 1) lv (.int ((a.toUInt32 >>> (b.toUInt32 &&& Int32.toUInt32 31)).toInt32) :: st)) : bzJ g nL x σ pc lv (.int b :: .int a :: st) := by
  obtain ⟨p, l, e, R, s, m, args, below, meth, c, Q, kC, nC⟩ := x
  obtain ⟨⟨hx, hb, hml, hown, hts⟩, -⟩ := hF
  intro H locs ls hP hS hl
  exact lv_iushr hx hb hdg rfl (K H locs ls hP hS hl)

theorem j_i2b (hF : bzE g d nL cc own x) {a : Int32} (hdg : decode cc pc = .ok (.i2b, 1)) (K : bzJ g nL x σ (pc + 1) lv (.int (a.toInt8.toInt32) :: st)) : bzJ g nL x σ pc lv (.int a :: st) := by
  obtain ⟨p, l, e, R, s, m, args, below, meth, c, Q, kC, nC⟩ := x
  obtain ⟨⟨hx, hb, hml, hown, hts⟩, -⟩ := hF
  intro H locs ls hP hS hl
  exact lv_i2b hx hb hdg rfl (K H locs ls hP hS hl)

theorem j_i2s (hF : bzE g d nL cc own x) {a : Int32} (hdg : decode cc pc = .ok (.i2s, 1)) (K : bzJ g nL x σ (pc + 1) lv (.int (a.toInt16.toInt32) :: st)) : bzJ g nL x σ pc lv (.int a :: st) := by
  obtain ⟨p, l, e, R, s, m, args, below, meth, c, Q, kC, nC⟩ := x
  obtain ⟨⟨hx, hb, hml, hown, hts⟩, -⟩ := hF
  intro H locs ls hP hS hl
  exact lv_i2s hx hb hdg rfl (K H locs ls hP hS hl)

theorem j_i2l (hF : bzE g d nL cc own x) {a : Int32} (hdg : decode cc pc = .ok (.i2l, 1)) (K : bzJ g nL x σ (pc + 1) lv (.long a.toInt64 :: st)) : bzJ g nL x σ pc lv (.int a :: st) := by
  obtain ⟨p, l, e, R, s, m, args, below, meth, c, Q, kC, nC⟩ := x
  obtain ⟨⟨hx, hb, hml, hown, hts⟩, -⟩ := hF
  intro H locs ls hP hS hl
  exact lv_i2l hx hb hdg rfl (K H locs ls hP hS hl)

theorem j_l2i (hF : bzE g d nL cc own x) {a : Int64} (hdg : decode cc pc = .ok (.l2i, 1)) (K : bzJ g nL x σ (pc + 1) lv (.int a.toInt32 :: st)) : bzJ g nL x σ pc lv (.long a :: st) := by
  obtain ⟨p, l, e, R, s, m, args, below, meth, c, Q, kC, nC⟩ := x
  obtain ⟨⟨hx, hb, hml, hown, hts⟩, -⟩ := hF
  intro H locs ls hP hS hl
  exact lv_l2i hx hb hdg rfl (K H locs ls hP hS hl)

theorem j_land (hF : bzE g d nL cc own x) {a b : Int64} (hdg : decode cc pc = .ok (.land, 1)) (K : bzJ g nL x σ (pc + 1) lv (.long (a &&& b) :: st)) : bzJ g nL x σ pc lv (.long b :: .long a :: st) := by
  obtain ⟨p, l, e, R, s, m, args, below, meth, c, Q, kC, nC⟩ := x
  obtain ⟨⟨hx, hb, hml, hown, hts⟩, -⟩ := hF
  intro H locs ls hP hS hl
  exact lv_land hx hb hdg (K H locs ls hP hS hl)

theorem j_lor (hF : bzE g d nL cc own x) {a b : Int64} (hdg : decode cc pc = .ok (.lor, 1)) (K : bzJ g nL x σ (pc + 1) lv (.long (a ||| b) :: st)) : bzJ g nL x σ pc lv (.long b :: .long a :: st) := by
  obtain ⟨p, l, e, R, s, m, args, below, meth, c, Q, kC, nC⟩ := x
  obtain ⟨⟨hx, hb, hml, hown, hts⟩, -⟩ := hF
  intro H locs ls hP hS hl
  exact lv_lor hx hb hdg (K H locs ls hP hS hl)

theorem j_lshl (hF : bzE g d nL cc own x) {a : Int64} {b : Int32} (hdg : decode cc pc = .ok (.lshl, 1)) (K : bzJ g nL x σ (pc + 1) lv (.long (a <<< (b.toInt64 &&& 63)) :: st)) : bzJ g nL x σ pc lv (.int b :: .long a :: st) := by
  obtain ⟨p, l, e, R, s, m, args, below, meth, c, Q, kC, nC⟩ := x
  obtain ⟨⟨hx, hb, hml, hown, hts⟩, -⟩ := hF
  intro H locs ls hP hS hl
  exact lv_lshl hx hb hdg rfl (K H locs ls hP hS hl)

theorem j_lshr (hF : bzE g d nL cc own x) {a : Int64} {b : Int32} (hdg : decode cc pc = .ok (.lshr, 1)) (K : bzJ g nL x σ (pc + 1) lv (.long (a >>> (b.toInt64 &&& 63)) :: st)) : bzJ g nL x σ pc lv (.int b :: .long a :: st) := by
  obtain ⟨p, l, e, R, s, m, args, below, meth, c, Q, kC, nC⟩ := x
  obtain ⟨⟨hx, hb, hml, hown, hts⟩, -⟩ := hF
  intro H locs ls hP hS hl
  exact lv_lshr hx hb hdg rfl (K H locs ls hP hS hl)

theorem j_lushr (hF : bzE g d nL cc own x) {a : Int64} {b : Int32} (hdg : decode cc pc = .ok (.lushr, 1)) (K : bzJ g nL x σ (pc + 1) lv (.long ((a.toUInt64 >>> (b.toInt64.toUInt64 &&& Int64.toUInt64 63)).toInt64) :: st)) : bzJ g nL x σ pc lv (.int b :: .long a :: st) := by
  obtain ⟨p, l, e, R, s, m, args, below, meth, c, Q, kC, nC⟩ := x
  obtain ⟨⟨hx, hb, hml, hown, hts⟩, -⟩ := hF
  intro H locs ls hP hS hl
  exact lv_lushr hx hb hdg rfl (K H locs ls hP hS hl)

theorem j_dup (hF : bzE g d nL cc own x) {va : Value} (hdg : decode cc pc = .ok (.dup, 1)) (hc : va.category = 1) (K : bzJ g nL x σ (pc + 1) lv (va :: va :: st)) : bzJ g nL x σ pc lv (va :: st) := by
  obtain ⟨p, l, e, R, s, m, args, below, meth, c, Q, kC, nC⟩ := x
  obtain ⟨⟨hx, hb, hml, hown, hts⟩, -⟩ := hF
  intro H locs ls hP hS hl
  exact lv_dup hx hb hdg hc (K H locs ls hP hS hl)

theorem j_pop (hF : bzE g d nL cc own x) {va : Value} (hdg : decode cc pc = .ok (.pop, 1)) (hc : va.category = 1) (K : bzJ g nL x σ (pc + 1) lv st) : bzJ g nL x σ pc lv (va :: st) := by
  obtain ⟨p, l, e, R, s, m, args, below, meth, c, Q, kC, nC⟩ := x
  obtain ⟨⟨hx, hb, hml, hown, hts⟩, -⟩ := hF
  intro H locs ls hP hS hl
  exact lv_pop hx hb hdg hc (K H locs ls hP hS hl)

theorem j_dup_x1 (hF : bzE g d nL cc own x) {va vb : Value} (hdg : decode cc pc = .ok (.dup_x1, 1)) (hc : va.category = 1) (hd : vb.category = 1) (K : bzJ g nL x σ (pc + 1) lv (va :: vb :: va :: st)) : bzJ g nL x σ pc lv (va :: vb :: st) := by
  obtain ⟨p, l, e, R, s, m, args, below, meth, c, Q, kC, nC⟩ := x
  obtain ⟨⟨hx, hb, hml, hown, hts⟩, -⟩ := hF
  intro H locs ls hP hS hl
  exact lv_dup_x1 hx hb hdg hc hd (K H locs ls hP hS hl)

theorem j_dup2 (hF : bzE g d nL cc own x) {va vb : Value} (hdg : decode cc pc = .ok (.dup2, 1)) (hc : va.category = 1) (hd : vb.category = 1) (K : bzJ g nL x σ (pc + 1) lv (va :: vb :: va :: vb :: st)) : bzJ g nL x σ pc lv (va :: vb :: st) := by
  obtain ⟨p, l, e, R, s, m, args, below, meth, c, Q, kC, nC⟩ := x
  obtain ⟨⟨hx, hb, hml, hown, hts⟩, -⟩ := hF
  intro H locs ls hP hS hl
  exact lv_dup2_11 hx hb hdg hc hd (K H locs ls hP hS hl)

theorem j_if_eq (hF : bzE g d nL cc own x) {a : Int32} {off : Int} {tgt : Nat} (hdg : decode cc pc = .ok (.ifCond .eq off, 3)) (ht : (pc : Int) + off = (tgt : Int)) (kt : a = 0 → bzJ g nL x σ tgt lv st) (kf : ¬ a = 0 → bzJ g nL x σ (pc + 3) lv st) : bzJ g nL x σ pc lv (.int a :: st) := by
  obtain ⟨p, l, e, R, s, m, args, below, meth, c, Q, kC, nC⟩ := x
  obtain ⟨⟨hx, hb, hml, hown, hts⟩, -⟩ := hF
  intro H locs ls hP hS hl
  exact lv_if_eq hx hb hdg ht (fun h => kt h H locs ls hP hS hl) (fun h => kf h H locs ls hP hS hl)

theorem j_if_ne (hF : bzE g d nL cc own x) {a : Int32} {off : Int} {tgt : Nat} (hdg : decode cc pc = .ok (.ifCond .ne off, 3)) (ht : (pc : Int) + off = (tgt : Int)) (kt : ¬ a = 0 → bzJ g nL x σ tgt lv st) (kf : a = 0 → bzJ g nL x σ (pc + 3) lv st) : bzJ g nL x σ pc lv (.int a :: st) := by
  obtain ⟨p, l, e, R, s, m, args, below, meth, c, Q, kC, nC⟩ := x
  obtain ⟨⟨hx, hb, hml, hown, hts⟩, -⟩ := hF
  intro H locs ls hP hS hl
  exact lv_if_ne hx hb hdg ht (fun h => kt h H locs ls hP hS hl) (fun h => kf h H locs ls hP hS hl)

theorem j_if_lt (hF : bzE g d nL cc own x) {a : Int32} {off : Int} {tgt : Nat} (hdg : decode cc pc = .ok (.ifCond .lt off, 3)) (ht : (pc : Int) + off = (tgt : Int)) (kt : a < 0 → bzJ g nL x σ tgt lv st) (kf : ¬ a < 0 → bzJ g nL x σ (pc + 3) lv st) : bzJ g nL x σ pc lv (.int a :: st) := by
  obtain ⟨p, l, e, R, s, m, args, below, meth, c, Q, kC, nC⟩ := x
  obtain ⟨⟨hx, hb, hml, hown, hts⟩, -⟩ := hF
  intro H locs ls hP hS hl
  exact lv_if_lt hx hb hdg ht (fun h => kt h H locs ls hP hS hl) (fun h => kf h H locs ls hP hS hl)

theorem j_if_ge (hF : bzE g d nL cc own x) {a : Int32} {off : Int} {tgt : Nat} (hdg : decode cc pc = .ok (.ifCond .ge off, 3)) (ht : (pc : Int) + off = (tgt : Int)) (kt : 0 ≤ a → bzJ g nL x σ tgt lv st) (kf : ¬ 0 ≤ a → bzJ g nL x σ (pc + 3) lv st) : bzJ g nL x σ pc lv (.int a :: st) := by
  obtain ⟨p, l, e, R, s, m, args, below, meth, c, Q, kC, nC⟩ := x
  obtain ⟨⟨hx, hb, hml, hown, hts⟩, -⟩ := hF
  intro H locs ls hP hS hl
  exact lv_if_ge hx hb hdg ht (fun h => kt h H locs ls hP hS hl) (fun h => kf h H locs ls hP hS hl)

theorem j_if_gt (hF : bzE g d nL cc own x) {a : Int32} {off : Int} {tgt : Nat} (hdg : decode cc pc = .ok (.ifCond .gt off, 3)) (ht : (pc : Int) + off = (tgt : Int)) (kt : 0 < a → bzJ g nL x σ tgt lv st) (kf : ¬ 0 < a → bzJ g nL x σ (pc + 3) lv st) : bzJ g nL x σ pc lv (.int a :: st) := by
  obtain ⟨p, l, e, R, s, m, args, below, meth, c, Q, kC, nC⟩ := x
  obtain ⟨⟨hx, hb, hml, hown, hts⟩, -⟩ := hF
  intro H locs ls hP hS hl
  exact lv_if_gt hx hb hdg ht (fun h => kt h H locs ls hP hS hl) (fun h => kf h H locs ls hP hS hl)

theorem j_if_le (hF : bzE g d nL cc own x) {a : Int32} {off : Int} {tgt : Nat} (hdg : decode cc pc = .ok (.ifCond .le off, 3)) (ht : (pc : Int) + off = (tgt : Int)) (kt : a ≤ 0 → bzJ g nL x σ tgt lv st) (kf : ¬ a ≤ 0 → bzJ g nL x σ (pc + 3) lv st) : bzJ g nL x σ pc lv (.int a :: st) := by
  obtain ⟨p, l, e, R, s, m, args, below, meth, c, Q, kC, nC⟩ := x
  obtain ⟨⟨hx, hb, hml, hown, hts⟩, -⟩ := hF
  intro H locs ls hP hS hl
  exact lv_if_le hx hb hdg ht (fun h => kt h H locs ls hP hS hl) (fun h => kf h H locs ls hP hS hl)

theorem j_icmp_eq (hF : bzE g d nL cc own x) {a b : Int32} {off : Int} {tgt : Nat} (hdg : decode cc pc = .ok (.if_icmp .eq off, 3)) (ht : (pc : Int) + off = (tgt : Int)) (kt : a = b → bzJ g nL x σ tgt lv st) (kf : ¬ a = b → bzJ g nL x σ (pc + 3) lv st) : bzJ g nL x σ pc lv (.int b :: .int a :: st) := by
  obtain ⟨p, l, e, R, s, m, args, below, meth, c, Q, kC, nC⟩ := x
  obtain ⟨⟨hx, hb, hml, hown, hts⟩, -⟩ := hF
  intro H locs ls hP hS hl
  exact lv_icmp_eq hx hb hdg ht (fun h => kt h H locs ls hP hS hl) (fun h => kf h H locs ls hP hS hl)

theorem j_icmp_ne (hF : bzE g d nL cc own x) {a b : Int32} {off : Int} {tgt : Nat} (hdg : decode cc pc = .ok (.if_icmp .ne off, 3)) (ht : (pc : Int) + off = (tgt : Int)) (kt : ¬ a = b → bzJ g nL x σ tgt lv st) (kf : a = b → bzJ g nL x σ (pc + 3) lv st) : bzJ g nL x σ pc lv (.int b :: .int a :: st) := by
  obtain ⟨p, l, e, R, s, m, args, below, meth, c, Q, kC, nC⟩ := x
  obtain ⟨⟨hx, hb, hml, hown, hts⟩, -⟩ := hF
  intro H locs ls hP hS hl
  exact lv_icmp_ne hx hb hdg ht (fun h => kt h H locs ls hP hS hl) (fun h => kf h H locs ls hP hS hl)

theorem j_icmp_lt (hF : bzE g d nL cc own x) {a b : Int32} {off : Int} {tgt : Nat} (hdg : decode cc pc = .ok (.if_icmp .lt off, 3)) (ht : (pc : Int) + off = (tgt : Int)) (kt : a < b → bzJ g nL x σ tgt lv st) (kf : ¬ a < b → bzJ g nL x σ (pc + 3) lv st) : bzJ g nL x σ pc lv (.int b :: .int a :: st) := by
  obtain ⟨p, l, e, R, s, m, args, below, meth, c, Q, kC, nC⟩ := x
  obtain ⟨⟨hx, hb, hml, hown, hts⟩, -⟩ := hF
  intro H locs ls hP hS hl
  exact lv_icmp_lt hx hb hdg ht (fun h => kt h H locs ls hP hS hl) (fun h => kf h H locs ls hP hS hl)

theorem j_icmp_ge (hF : bzE g d nL cc own x) {a b : Int32} {off : Int} {tgt : Nat} (hdg : decode cc pc = .ok (.if_icmp .ge off, 3)) (ht : (pc : Int) + off = (tgt : Int)) (kt : b ≤ a → bzJ g nL x σ tgt lv st) (kf : ¬ b ≤ a → bzJ g nL x σ (pc + 3) lv st) : bzJ g nL x σ pc lv (.int b :: .int a :: st) := by
  obtain ⟨p, l, e, R, s, m, args, below, meth, c, Q, kC, nC⟩ := x
  obtain ⟨⟨hx, hb, hml, hown, hts⟩, -⟩ := hF
  intro H locs ls hP hS hl
  exact lv_icmp_ge hx hb hdg ht (fun h => kt h H locs ls hP hS hl) (fun h => kf h H locs ls hP hS hl)

theorem j_icmp_gt (hF : bzE g d nL cc own x) {a b : Int32} {off : Int} {tgt : Nat} (hdg : decode cc pc = .ok (.if_icmp .gt off, 3)) (ht : (pc : Int) + off = (tgt : Int)) (kt : b < a → bzJ g nL x σ tgt lv st) (kf : ¬ b < a → bzJ g nL x σ (pc + 3) lv st) : bzJ g nL x σ pc lv (.int b :: .int a :: st) := by
  obtain ⟨p, l, e, R, s, m, args, below, meth, c, Q, kC, nC⟩ := x
  obtain ⟨⟨hx, hb, hml, hown, hts⟩, -⟩ := hF
  intro H locs ls hP hS hl
  exact lv_icmp_gt hx hb hdg ht (fun h => kt h H locs ls hP hS hl) (fun h => kf h H locs ls hP hS hl)

theorem j_icmp_le (hF : bzE g d nL cc own x) {a b : Int32} {off : Int} {tgt : Nat} (hdg : decode cc pc = .ok (.if_icmp .le off, 3)) (ht : (pc : Int) + off = (tgt : Int)) (kt : a ≤ b → bzJ g nL x σ tgt lv st) (kf : ¬ a ≤ b → bzJ g nL x σ (pc + 3) lv st) : bzJ g nL x σ pc lv (.int b :: .int a :: st) := by
  obtain ⟨p, l, e, R, s, m, args, below, meth, c, Q, kC, nC⟩ := x
  obtain ⟨⟨hx, hb, hml, hown, hts⟩, -⟩ := hF
  intro H locs ls hP hS hl
  exact lv_icmp_le hx hb hdg ht (fun h => kt h H locs ls hP hS hl) (fun h => kf h H locs ls hP hS hl)

theorem j_goto (hF : bzE g d nL cc own x) {off : Int} {tgt : Nat} (hdg : decode cc pc = .ok (.goto off, 3)) (ht : (pc : Int) + off = (tgt : Int)) (K : bzJ g nL x σ tgt lv st) : bzJ g nL x σ pc lv st := by
  obtain ⟨p, l, e, R, s, m, args, below, meth, c, Q, kC, nC⟩ := x
  obtain ⟨⟨hx, hb, hml, hown, hts⟩, -⟩ := hF
  intro H locs ls hP hS hl
  exact lv_goto hx hb hdg ht (K H locs ls hP hS hl)

theorem j_ifnull (hF : bzE g d nL cc own x) {a : Nat} {off : Int} (hdg : decode cc pc = .ok (.ifnull off, 3)) (K : bzJ g nL x σ (pc + 3) lv st) : bzJ g nL x σ pc lv (.ref a :: st) := by
  obtain ⟨p, l, e, R, s, m, args, below, meth, c, Q, kC, nC⟩ := x
  obtain ⟨⟨hx, hb, hml, hown, hts⟩, -⟩ := hF
  intro H locs ls hP hS hl
  exact lv_ifnull hx hb hdg (K H locs ls hP hS hl)

theorem j_ifnullN (hF : bzE g d nL cc own x) {off : Int} {tgt : Nat} (hdg : decode cc pc = .ok (.ifnull off, 3)) (ht : (pc : Int) + off = (tgt : Int)) (K : bzJ g nL x σ tgt lv st) : bzJ g nL x σ pc lv (.null :: st) := by
  obtain ⟨p, l, e, R, s, m, args, below, meth, c, Q, kC, nC⟩ := x
  obtain ⟨⟨hx, hb, hml, hown, hts⟩, -⟩ := hF
  intro H locs ls hP hS hl
  exact lv_ifnullN hx hb hdg ht (K H locs ls hP hS hl)

theorem j_ifnonnull (hF : bzE g d nL cc own x) {a : Nat} {off : Int} {tgt : Nat} (hdg : decode cc pc = .ok (.ifnonnull off, 3)) (ht : (pc : Int) + off = (tgt : Int)) (K : bzJ g nL x σ tgt lv st) : bzJ g nL x σ pc lv (.ref a :: st) := by
  obtain ⟨p, l, e, R, s, m, args, below, meth, c, Q, kC, nC⟩ := x
  obtain ⟨⟨hx, hb, hml, hown, hts⟩, -⟩ := hF
  intro H locs ls hP hS hl
  exact lv_ifnonnull hx hb hdg ht (K H locs ls hP hS hl)

theorem j_ifnonnullN (hF : bzE g d nL cc own x) {off : Int} (hdg : decode cc pc = .ok (.ifnonnull off, 3)) (K : bzJ g nL x σ (pc + 3) lv st) : bzJ g nL x σ pc lv (.null :: st) := by
  obtain ⟨p, l, e, R, s, m, args, below, meth, c, Q, kC, nC⟩ := x
  obtain ⟨⟨hx, hb, hml, hown, hts⟩, -⟩ := hF
  intro H locs ls hP hS hl
  exact lv_ifnonnullN hx hb hdg (K H locs ls hP hS hl)

theorem j_tableOut (hF : bzE g d nL cc own x) {dflt lo hi : Int} {offs : Array Int} {len : Nat} {a : Int32} {tgt : Nat} (hdg : decode cc pc = .ok (.tableswitch dflt lo hi offs, len)) (h : a.toInt < lo ∨ hi < a.toInt) (ht : (pc : Int) + dflt = (tgt : Int)) (K : bzJ g nL x σ tgt lv st) : bzJ g nL x σ pc lv (.int a :: st) := by
  obtain ⟨p, l, e, R, s, m, args, below, meth, c, Q, kC, nC⟩ := x
  obtain ⟨⟨hx, hb, hml, hown, hts⟩, -⟩ := hF
  intro H locs ls hP hS hl
  exact lv_tableOut hx hb hdg h ht (K H locs ls hP hS hl)

theorem j_tableIn (hF : bzE g d nL cc own x) {dflt lo hi : Int} {offs : Array Int} {len : Nat} {a : Int32} {off : Int} {tgt : Nat} (hdg : decode cc pc = .ok (.tableswitch dflt lo hi offs, len)) (h1 : ¬ a.toInt < lo) (h2 : ¬ hi < a.toInt) (ho : offs[(a.toInt - lo).toNat]? = some off) (ht : (pc : Int) + off = (tgt : Int)) (K : bzJ g nL x σ tgt lv st) : bzJ g nL x σ pc lv (.int a :: st) := by
  obtain ⟨p, l, e, R, s, m, args, below, meth, c, Q, kC, nC⟩ := x
  obtain ⟨⟨hx, hb, hml, hown, hts⟩, -⟩ := hF
  intro H locs ls hP hS hl
  exact lv_tableIn hx hb hdg h1 h2 ho ht (K H locs ls hP hS hl)

theorem j_lookup (hF : bzE g d nL cc own x) {dflt : Int} {ps : Array (Int × Int)} {len : Nat} {a : Int32} {off : Int} {tgt : Nat} (hdg : decode cc pc = .ok (.lookupswitch dflt ps, len)) (hp : (ps.toList.zip (ps.toList.drop 1)).all (fun (a, next) => a.1 < next.1) = true) (ho : Op.lookupswitch.offset ps.toList dflt a.toInt = off) (ht : (pc : Int) + off = (tgt : Int)) (K : bzJ g nL x σ tgt lv st) : bzJ g nL x σ pc lv (.int a :: st) := by
  obtain ⟨p, l, e, R, s, m, args, below, meth, c, Q, kC, nC⟩ := x
  obtain ⟨⟨hx, hb, hml, hown, hts⟩, -⟩ := hF
  intro H locs ls hP hS hl
  exact lv_lookup hx hb hdg hp ho ht (K H locs ls hP hS hl)

theorem j_topi {v : Int32} (K : ∀ w : Int32, w = v → bzJ g nL x σ pc lv (.int w :: st)) : bzJ g nL x σ pc lv (.int v :: st) := K v rfl
theorem j_nul (K : bzJ g nL x σ pc lv (.null :: st)) : bzJ g nL x σ pc lv (va_rf (Option.map (ga g) none) :: st) := K
theorem j_som {k : Nat} (K : bzJ g nL x σ pc lv (.ref (ga g k) :: st)) : bzJ g nL x σ pc lv (va_rf (Option.map (ga g) (some k)) :: st) := K
theorem j_s {σ' : bzS} (K : ∀ τ : bzS, τ = σ' → bzJ g nL x τ pc lv st) : bzJ g nL x σ' pc lv st := K σ' rfl
theorem j_sub {lv1 : List (Nat × Value)} (ks : List Nat) (h : lv_pick lv ks = lv1) (K : bzJ g nL x σ pc lv1 st) : bzJ g nL x σ pc lv st := fun H locs ls hP hS hl => K H locs ls hP hS (lv_sub hl ks h)

theorem j_get (hF : bzE g d nL cc own x) {C : String} {T : u_T} {N ci : Nat} {index : Nat} (hin : ∀ w ∈ u_ws C T N, w ∈ GW) (hc : vwCl[ci]? = some (C, T, N)) (hci : ci ≤ 10) (fk : Nat) (hk : fk < N) (hlink : Cond.fieldLink own index (T fk).1 (T fk).2.1 (T fk).2.2.1 ∈ GW) {o : Nat} (ho : kd o = ci) {v : Value} (hv : (bzFs g o (σ o) ci)[fk]? = some v) (hdg : decode cc pc = .ok (.getfield index, 3)) (K : bzJ g nL x σ (pc + 3) lv (v :: st)) : bzJ g nL x σ pc lv (.ref (ga g o) :: st) := by
  obtain ⟨p, l, e, R, s, m, args, below, meth, c, Q, kC, nC⟩ := x
  obtain ⟨⟨hx, hb, hml, hown, hts⟩, hK, hD, hT, hW, hR1, hR2, hR3, hR4⟩ := hF
  intro H locs ls hP hS hl
  exact va_get (D := g.1) (cl := vwCl) (tys := bzTy g) hx hb hts hin hown hK hP o ((bz_at (kd_lt (by omega))).trans (by rw [bzCt_o ho hci])) hc fk hk (hts _ hlink) (fun _ h => h) hv hdg (K H locs ls hP hS hl)

theorem j_put (hF : bzE g d nL cc own x) {C : String} {T : u_T} {N ci : Nat} {index : Nat} (hin : ∀ w ∈ u_ws C T N, w ∈ GW) (hc : vwCl[ci]? = some (C, T, N)) (hci : ci ≤ 10) (fk : Nat) (hk : fk < N) (hlink : Cond.fieldLink own index (T fk).1 (T fk).2.1 (T fk).2.2.1 ∈ GW) (ty0 : Nat → FieldType) (hty : ∀ k, k < N → parseFieldDescriptor (T k).2.2.1 = some (ty0 k)) (hnm : ∀ a, a < N → ∀ b, b < N → a ≠ b → (T a).2.1 ≠ (T b).2.1) (hfin : (T fk).2.2.2 = false) {ty : FieldType} {o : Nat} (ho : kd o = ci) {v : Int32} (hd : parseFieldDescriptor (T fk).2.2.1 = some ty) (hn : narrow ty (.int v) = .int v) (hfit : fits ty (.int v) = true) (hlen : fk < (bzFs g o (σ o) ci).length) (hset : (bzFs g o (σ o) ci).set fk (.int v) = bzFs g o (upd (σ o) fk v) ci) (hdg : decode cc pc = .ok (.putfield index, 3)) (K : bzJ g nL x (bzSt σ o fk v) (pc + 3) lv st) : bzJ g nL x σ pc lv (.int v :: .ref (ga g o) :: st) := by
  obtain ⟨p, l, e, R, s, m, args, below, meth, c, Q, kC, nC⟩ := x
  obtain ⟨⟨hx, hb, hml, hown, hts⟩, hK, hD, hT, hW, hR1, hR2, hR3, hR4⟩ := hF
  intro H locs ls hP hS hl
  refine va_put (D := g.1) (cl := vwCl) (tys := bzTy g) hx hb hts hin ty0 hty hnm hown hK hP (hD σ) hS o ((bz_at (kd_lt (by omega))).trans (by rw [bzCt_o ho hci])) hc fk hk (hts _ hlink) (fun _ h => h) hfin hd hn hfit hlen hdg (fun H1 locs1 hP1 _ hS1 => ?_)
  rw [bz_set (σ' := bzSt σ o fk v) (by rw [bzCt_o ho hci, hset]; simp [bzSt]) (fun q hq => by simp [bzSt, hq])] at hP1
  exact K H1 locs1 ls hP1 hS1 hl

theorem j_getN (hF : bzE g d nL cc own x) {C : String} {T : u_T} {N ci : Nat} {index : Nat} {host : String} (hin : ∀ w ∈ u_ws C T N, w ∈ GW) (hc : vwCl[ci]? = some (C, T, N)) (hci : ci ≤ 10) (fk : Nat) (hk : fk < N) (hlink : Cond.fieldLinkNest own index (T fk).1 (T fk).2.1 (T fk).2.2.1 host ∈ NW) {o : Nat} (ho : kd o = ci) {v : Value} (hv : (bzFs g o (σ o) ci)[fk]? = some v) (hdg : decode cc pc = .ok (.getfield index, 3)) (K : bzJ g nL x σ (pc + 3) lv (v :: st)) : bzJ g nL x σ pc lv (.ref (ga g o) :: st) := by
  obtain ⟨p, l, e, R, s, m, args, below, meth, c, Q, kC, nC⟩ := x
  obtain ⟨⟨hx, hb, hml, hown, hts⟩, hK, hD, hT, hW, hR1, hR2, hR3, hR4⟩ := hF
  intro H locs ls hP hS hl
  exact va_getN (D := g.1) (cl := vwCl) (tys := bzTy g) hx hb hts hin hown hK hP o ((bz_at (kd_lt (by omega))).trans (by rw [bzCt_o ho hci])) hc fk hk (va_Nw.use rfl (hW _ hlink)) (fun _ h => h) hv hdg (K H locs ls hP hS hl)

theorem j_putN (hF : bzE g d nL cc own x) {C : String} {T : u_T} {N ci : Nat} {index : Nat} {host : String} (hin : ∀ w ∈ u_ws C T N, w ∈ GW) (hc : vwCl[ci]? = some (C, T, N)) (hci : ci ≤ 10) (fk : Nat) (hk : fk < N) (hlink : Cond.fieldLinkNest own index (T fk).1 (T fk).2.1 (T fk).2.2.1 host ∈ NW) (ty0 : Nat → FieldType) (hty : ∀ k, k < N → parseFieldDescriptor (T k).2.2.1 = some (ty0 k)) (hnm : ∀ a, a < N → ∀ b, b < N → a ≠ b → (T a).2.1 ≠ (T b).2.1) (hfin : (T fk).2.2.2 = false) {ty : FieldType} {o : Nat} (ho : kd o = ci) {v : Int32} (hd : parseFieldDescriptor (T fk).2.2.1 = some ty) (hn : narrow ty (.int v) = .int v) (hfit : fits ty (.int v) = true) (hlen : fk < (bzFs g o (σ o) ci).length) (hset : (bzFs g o (σ o) ci).set fk (.int v) = bzFs g o (upd (σ o) fk v) ci) (hdg : decode cc pc = .ok (.putfield index, 3)) (K : bzJ g nL x (bzSt σ o fk v) (pc + 3) lv st) : bzJ g nL x σ pc lv (.int v :: .ref (ga g o) :: st) := by
  obtain ⟨p, l, e, R, s, m, args, below, meth, c, Q, kC, nC⟩ := x
  obtain ⟨⟨hx, hb, hml, hown, hts⟩, hK, hD, hT, hW, hR1, hR2, hR3, hR4⟩ := hF
  intro H locs ls hP hS hl
  refine va_putN (D := g.1) (cl := vwCl) (tys := bzTy g) hx hb hts hin ty0 hty hnm hown hK hP (hD σ) hS o ((bz_at (kd_lt (by omega))).trans (by rw [bzCt_o ho hci])) hc fk hk (va_Nw.use rfl (hW _ hlink)) (fun _ h => h) hfin hd hn hfit hlen hdg (fun H1 locs1 hP1 _ hS1 => ?_)
  rw [bz_set (σ' := bzSt σ o fk v) (by rw [bzCt_o ho hci, hset]; simp [bzSt]) (fun q hq => by simp [bzSt, hq])] at hP1
  exact K H1 locs1 ls hP1 hS1 hl

/-- within the row -/
abbrev bzIn (i : Int32) (n : Nat) : Prop := 0 ≤ i.toInt ∧ i.toInt < n
abbrev bzCp (sp dp n : Int32) (na nb : Nat) : Prop := 0 ≤ sp.toInt ∧ 0 ≤ dp.toInt ∧ 0 ≤ n.toInt ∧ sp.toInt + n.toInt ≤ na ∧ dp.toInt + n.toInt ≤ nb
theorem bz_inN {i : Int32} {n : Nat} (h : bzIn i n) : i.toNatClampNeg < n := by
  obtain ⟨h1, h2⟩ := h
  simp only [Int32.toNatClampNeg]
  omega
theorem j_iald (hF : bzE g d nL cc own x) {k n c : Nat} {i : Int32} (hk : kd k = 11) (hn : ln k = n) (hi : bzIn i n) (hc : i.toNatClampNeg = c) (hdg : decode cc pc = .ok (.iaload, 1)) (K : bzJ g nL x σ (pc + 1) lv (.int (σ k c) :: st)) : bzJ g nL x σ pc lv (.int i :: .ref (ga g k) :: st) := by
  subst hn
  subst hc
  obtain ⟨p, l, e, R, s, m, args, below, meth, c, Q, kC, nC⟩ := x
  obtain ⟨⟨hx, hb, hml, hown, hts⟩, hK, hD, hT, hW, hR1, hR2, hR3, hR4⟩ := hF
  intro H locs ls hP hS hl
  exact va_iald (D := g.1) (cl := vwCl) (tys := bzTy g) hx hb hK hP k 0 ((bz_at (kd_lt (by omega))).trans (by rw [bzCt_i hk])) rfl (vp_in_iff.mpr hi) hdg (K H locs ls hP hS hl)
theorem j_tald (hF : bzE g d nL cc own x) {k n c : Nat} {i : Int32} (ht : 108 ≤ k ∧ k < 112) (hn : ln k = n) (hi : bzIn i n) (hc : i.toNatClampNeg = c) (hdg : decode cc pc = .ok (.iaload, 1)) (K : bzJ g nL x σ (pc + 1) lv (.int (tb k c) :: st)) : bzJ g nL x σ pc lv (.int i :: .ref (ga g k) :: st) := by
  subst hn
  subst hc
  obtain ⟨p, l, e, R, s, m, args, below, meth, c, Q, kC, nC⟩ := x
  obtain ⟨⟨hx, hb, hml, hown, hts⟩, hK, hD, hT, hW, hR1, hR2, hR3, hR4⟩ := hF
  intro H locs ls hP hS hl
  rcases (show k = 108 ∨ k = 109 ∨ k = 110 ∨ k = 111 by omega) with rfl | rfl | rfl | rfl
  · exact va_ti hx hb hT.1.2 hS (vp_in_iff.mpr hi) rfl hdg (K H locs ls hP hS hl)
  · exact va_ti hx hb hT.2.1.2 hS (vp_in_iff.mpr hi) rfl hdg (K H locs ls hP hS hl)
  · exact va_ti hx hb hT.2.2.1.2 hS (vp_in_iff.mpr hi) rfl hdg (K H locs ls hP hS hl)
  · exact va_ti hx hb hT.2.2.2.2 hS (vp_in_iff.mpr hi) rfl hdg (K H locs ls hP hS hl)
theorem j_iast (hF : bzE g d nL cc own x) {k n c : Nat} {i v : Int32} (hk : kd k = 11) (hn : ln k = n) (hi : bzIn i n) (hc : i.toNatClampNeg = c) (hdg : decode cc pc = .ok (.iastore, 1)) (K : bzJ g nL x (bzSt σ k c v) (pc + 1) lv st) : bzJ g nL x σ pc lv (.int v :: .int i :: .ref (ga g k) :: st) := by
  subst hn
  subst hc
  obtain ⟨p, l, e, R, s, m, args, below, meth, c, Q, kC, nC⟩ := x
  obtain ⟨⟨hx, hb, hml, hown, hts⟩, hK, hD, hT, hW, hR1, hR2, hR3, hR4⟩ := hF
  intro H locs ls hP hS hl
  refine va_iast (D := g.1) (cl := vwCl) (tys := bzTy g) hx hb hK hP (hD σ) hS k 0 ((bz_at (kd_lt (by omega))).trans (by rw [bzCt_i hk])) rfl (vp_in_iff.mpr hi) hdg (fun H1 locs1 hP1 _ hS1 => ?_)
  rw [bz_set (σ' := bzSt σ k i.toNatClampNeg v) (by rw [bzCt_i hk]; simp [bzSt]) (fun q hq => by simp [bzSt, hq])] at hP1
  exact K H1 locs1 ls hP1 hS1 hl
theorem j_aald (hF : bzE g d nL cc own x) {k n c : Nat} {i : Int32} (hk : kd k = 12) (hn : ln k = n) (hi : bzIn i n) (hc : i.toNatClampNeg = c) (hdg : decode cc pc = .ok (.aaload, 1)) (K : bzJ g nL x σ (pc + 1) lv (.ref (ga g (ly k c)) :: st)) : bzJ g nL x σ pc lv (.int i :: .ref (ga g k) :: st) := by
  subst hn
  subst hc
  obtain ⟨p, l, e, R, s, m, args, below, meth, c, Q, kC, nC⟩ := x
  obtain ⟨⟨hx, hb, hml, hown, hts⟩, hK, hD, hT, hW, hR1, hR2, hR3, hR4⟩ := hF
  intro H locs ls hP hS hl
  exact va_aldq (D := g.1) (cl := vwCl) (tys := bzTy g) (C := "BronzeDown$Sheet") (f := bzQf g k) hx hb hK hP k 1 ((bz_at (kd_lt (by omega))).trans (by rw [bzCt_q hk])) rfl (vp_in_iff.mpr hi) hdg (by rw [bzQf_at g k (by have q := bz_inN hi; rw [kd_all (P := fun k => ln k = 4) 12 (by decide) (by decide +kernel) hk] at q; exact q)]; exact K H locs ls hP hS hl)
theorem j_alen (hF : bzE g d nL cc own x) {k n : Nat} {v : Int32} (hk : kd k = 11 ∨ kd k = 12 ∨ kd k = 13) (hn : ln k = n) (hv : Int32.ofNat n = v) (hdg : decode cc pc = .ok (.arraylength, 1)) (K : bzJ g nL x σ (pc + 1) lv (.int v :: st)) : bzJ g nL x σ pc lv (.ref (ga g k) :: st) := by
  subst hn
  subst hv
  obtain ⟨p, l, e, R, s, m, args, below, meth, c, Q, kC, nC⟩ := x
  obtain ⟨⟨hx, hb, hml, hown, hts⟩, hK, hD, hT, hW, hR1, hR2, hR3, hR4⟩ := hF
  intro H locs ls hP hS hl
  rcases hk with hk | hk | hk
  · exact va_alen (D := g.1) (cl := vwCl) (tys := bzTy g) hx hb hK hP k 0 ((bz_at (kd_lt (by omega))).trans (by rw [bzCt_i hk])) (ty := .int) rfl rfl hdg (K H locs ls hP hS hl)
  · exact va_alen (D := g.1) (cl := vwCl) (tys := bzTy g) hx hb hK hP k 1 ((bz_at (kd_lt (by omega))).trans (by rw [bzCt_q hk])) (ty := .object "BronzeDown$Sheet") rfl rfl hdg (K H locs ls hP hS hl)
  · have hq : k = 108 ∨ k = 109 ∨ k = 110 ∨ k = 111 := kd_all (P := fun k => k = 108 ∨ k = 109 ∨ k = 110 ∨ k = 111) 13 (by decide) (by decide +kernel) hk
    rcases hq with rfl | rfl | rfl | rfl
    · exact va_tlen hx hb hT.1.2 hS rfl hdg (K H locs ls hP hS hl)
    · exact va_tlen hx hb hT.2.1.2 hS rfl hdg (K H locs ls hP hS hl)
    · exact va_tlen hx hb hT.2.2.1.2 hS rfl hdg (K H locs ls hP hS hl)
    · exact va_tlen hx hb hT.2.2.2.2 hS rfl hdg (K H locs ls hP hS hl)
theorem j_gets (hF : bzE g d nL cc own x) {t : Nat} {C n : String} {index : Nat} (hZ : ∀ U H, bzTb g U H → bzT1 g t C n U H) (hlink : Cond.fieldLink own index C n "[I" ∈ GW) (hdg : decode cc pc = .ok (.getstatic index, 3)) (K : bzJ g nL x σ (pc + 3) lv (.ref (ga g t) :: st)) : bzJ g nL x σ pc lv st := by
  obtain ⟨p, l, e, R, s, m, args, below, meth, c, Q, kC, nC⟩ := x
  obtain ⟨⟨hx, hb, hml, hown, hts⟩, hK, hD, hT, hW, hR1, hR2, hR3, hR4⟩ := hF
  intro H locs ls hP hS hl
  exact va_gets hx hb (hZ _ _ hT).1 hS hown (hts _ hlink) (fun _ h => h) hdg (K H locs ls hP hS hl)

theorem j_iret {g : bzGeo} {d nL : Nat} {cc : ByteArray} {own : String} {x : bzCx} {σ σ0 : bzS} {pc : Nat} {lv : List (Nat × Value)} {r0 v : Int32} (hF : bzE g d nL cc own x) (hG : bzF g (some .int) (va_Qi (fun (r : Int32) (u : bzS) => r = r0 ∧ u = σ0) (bzB g) (gA g)) x) (hdg : decode cc pc = .ok (.ireturn, 1)) (hv : v = r0) (hs : σ = σ0) : bzJ g nL x σ pc lv [.int v] := by
  obtain ⟨p, l, e, R, s, m, args, below, meth, c, Q, kC, nC⟩ := x
  obtain ⟨⟨hx, hb, hml, hown, hts⟩, hK, hD, hT, hW, hR1, hR2, hR3, hR4⟩ := hF
  intro H locs ls hP hS hl
  obtain ⟨hr, hlk, hQ⟩ := hG
  subst hQ
  subst hs
  exact W.iret hx hb hr (fun t ht hWm => ⟨⟨v, σ, rfl, ⟨hv, rfl⟩, by show va_P _ _ _ _; rw [ht]; exact hP⟩, hS.F ht⟩) hS.2.2 hdg

theorem j_zret {g : bzGeo} {d nL : Nat} {cc : ByteArray} {own : String} {x : bzCx} {σ σ0 : bzS} {pc : Nat} {lv : List (Nat × Value)} {r0 v : Int32} (hF : bzE g d nL cc own x) (hG : bzF g (some .boolean) (va_Qi (fun (r : Int32) (u : bzS) => r = r0 ∧ u = σ0) (bzB g) (gA g)) x) (hdg : decode cc pc = .ok (.ireturn, 1)) (hz : narrow .boolean (.int v) = .int v) (hv : v = r0) (hs : σ = σ0) : bzJ g nL x σ pc lv [.int v] := by
  obtain ⟨p, l, e, R, s, m, args, below, meth, c, Q, kC, nC⟩ := x
  obtain ⟨⟨hx, hb, hml, hown, hts⟩, hK, hD, hT, hW, hR1, hR2, hR3, hR4⟩ := hF
  intro H locs ls hP hS hl
  obtain ⟨hr, hlk, hQ⟩ := hG
  subst hQ
  subst hs
  exact W.zret hx hb hr hz (fun t ht hWm => ⟨⟨v, σ, rfl, ⟨hv, rfl⟩, by show va_P _ _ _ _; rw [ht]; exact hP⟩, hS.F ht⟩) hS.2.2 hdg

theorem j_vret {g : bzGeo} {d nL : Nat} {cc : ByteArray} {own : String} {x : bzCx} {σ σ0 : bzS} {pc : Nat} {lv : List (Nat × Value)} (hF : bzE g d nL cc own x) (hG : bzF g none (va_Qv (fun (u : bzS) => u = σ0) (bzB g) (gA g)) x) (hdg : decode cc pc = .ok (.return_, 1)) (hs : σ = σ0) : bzJ g nL x σ pc lv [] := by
  obtain ⟨p, l, e, R, s, m, args, below, meth, c, Q, kC, nC⟩ := x
  obtain ⟨⟨hx, hb, hml, hown, hts⟩, hK, hD, hT, hW, hR1, hR2, hR3, hR4⟩ := hF
  intro H locs ls hP hS hl
  obtain ⟨hr, hlk, hQ⟩ := hG
  subst hQ
  subst hs
  exact W.vret hx hb hr (fun t ht hWm => ⟨⟨σ, rfl, rfl, by show va_P _ _ _ _; rw [ht]; exact hP⟩, hS.F ht⟩) hS.2.2 hdg

theorem j_aret {g : bzGeo} {d nL : Nat} {cc : ByteArray} {own : String} {x : bzCx} {σ σ0 : bzS} {pc : Nat} {lv : List (Nat × Value)} {r0 : Option Nat} {k : Nat} {rt : FieldType} (hF : bzE g d nL cc own x) (hG : bzF g (some rt) (va_Qq (fun (r : Option Nat) (u : bzS) => r = r0.map (ga g) ∧ u = σ0) (bzB g) (gA g)) x) (hrt : (∃ n, rt = .object n) ∨ ∃ t, rt = .array t) (hdg : decode cc pc = .ok (.areturn, 1)) (hv : some k = r0) (hs : σ = σ0) : bzJ g nL x σ pc lv [.ref (ga g k)] := by
  obtain ⟨p, l, e, R, s, m, args, below, meth, c, Q, kC, nC⟩ := x
  obtain ⟨⟨hx, hb, hml, hown, hts⟩, hK, hD, hT, hW, hR1, hR2, hR3, hR4⟩ := hF
  intro H locs ls hP hS hl
  obtain ⟨hr, hlk, hQ⟩ := hG
  subst hQ
  subst hs
  exact W.aret hx hb hr hrt (Or.inr ⟨_, rfl⟩) (fun t ht hWm => ⟨⟨some (ga g k), σ, rfl, ⟨by rw [← hv]; rfl, rfl⟩, by show va_P _ _ _ _; rw [ht]; exact hP⟩, hS.F ht⟩) hS.2.2 hdg

theorem j_aretN {g : bzGeo} {d nL : Nat} {cc : ByteArray} {own : String} {x : bzCx} {σ σ0 : bzS} {pc : Nat} {lv : List (Nat × Value)} {r0 : Option Nat} {rt : FieldType} (hF : bzE g d nL cc own x) (hG : bzF g (some rt) (va_Qq (fun (r : Option Nat) (u : bzS) => r = r0.map (ga g) ∧ u = σ0) (bzB g) (gA g)) x) (hrt : (∃ n, rt = .object n) ∨ ∃ t, rt = .array t) (hdg : decode cc pc = .ok (.areturn, 1)) (hv : none = r0) (hs : σ = σ0) : bzJ g nL x σ pc lv [.null] := by
  obtain ⟨p, l, e, R, s, m, args, below, meth, c, Q, kC, nC⟩ := x
  obtain ⟨⟨hx, hb, hml, hown, hts⟩, hK, hD, hT, hW, hR1, hR2, hR3, hR4⟩ := hF
  intro H locs ls hP hS hl
  obtain ⟨hr, hlk, hQ⟩ := hG
  subst hQ
  subst hs
  exact W.aret hx hb hr hrt (Or.inl rfl) (fun t ht hWm => ⟨⟨none, σ, rfl, ⟨by rw [← hv]; rfl, rfl⟩, by show va_P _ _ _ _; rw [ht]; exact hP⟩, hS.F ht⟩) hS.2.2 hdg

theorem j_start {g : bzGeo} {d nL : Nat} {cc : ByteArray} {ret : Option FieldType} {Qc : Array Value → State → Outcome → State → Prop} {σ : bzS} {y : MethodName} (l : Launch) (hy : plainFor y = true) (av : List Value) (lv : List (Nat × Value)) (hn : (lg_sl av).length ≤ nL) (hlv : lv_args 0 av = lv)
    (K : ∀ x : bzCx, bzE g d nL cc y.cls x → bzF g ret Qc x → bzJ g nL x σ 0 lv []) : Met l y (Cond.code y cc nL ret :: GW) (bzR d) (va_Pc av (bzP g σ)) Qc 0 0 (gA g) := by
  refine va_MetF (cc := cc) (maxL := nL) (ret := ret) hy rfl ?_
  intro p e s m args below meth c s₁ B hml hv
  obtain ⟨rfl, hP, hK, hD, hT, hW⟩ := hv
  have hts := atoms_spec (ws := Cond.code y cc nL ret :: GW) B.pre
  have hx := K (p, l, e, bzR d, s, m, av.toArray, below, meth, c, MQ below Qc av.toArray s 0 0 (gA g), 0, 0) ⟨⟨B.exec, B.bytes, hml, findClass_of_methodNamed B.named, fun w hw => hts w (List.mem_cons_of_mem _ hw)⟩, hK, fun τ => bz_D hD, hT, hW, Nat.le_refl _, Nat.le_refl _, Nat.zero_le _, Nat.zero_le _⟩ ⟨B.returns, B.notSynchronized, rfl⟩
  have hl := lv_entry av hn
  rw [lg_entry_eq]
  rw [hlv] at hl
  exact hx s.heap [] _ hP va_S.rf hl

theorem bz_gC {w0 : Cond} (hcode : w0 ∈ GW) : GoodIn GW (w0 :: GW) := fun w hw => by
  rcases List.mem_cons.mp hw with h | h
  · subst h; exact bz_all _ hcode
  · exact bz_all _ h
theorem bz_gV {own C : String} {index : Nat} {y : MethodName} {w0 : Cond} (h1 : Cond.methodLink own index y ∈ GW) (h2 : Cond.instanceMethod y ∈ GW) (h3 : Cond.selects C y y ∈ GW) (h4 : Cond.initialized C ∈ GW) (hcode : w0 ∈ GW) : GoodIn GW (wsV own index C y (w0 :: GW)) := fun w hw => by
  rcases List.mem_append.mp hw with h | h
  · simp only [List.mem_cons, List.not_mem_nil, or_false] at h
    rcases h with rfl | rfl | rfl | rfl
    · exact bz_all _ h1
    · exact bz_all _ h2
    · exact bz_all _ h3
    · exact bz_all _ h4
  · exact bz_gC hcode w h
theorem bz_gS {own : String} {index : Nat} {y : MethodName} {w0 : Cond} (h1 : Cond.methodLink own index y ∈ GW) (h2 : Cond.static y ∈ GW) (h4 : Cond.initialized y.cls ∈ GW) (hcode : w0 ∈ GW) : GoodIn GW (va_wsS own index y (w0 :: GW)) := fun w hw => by
  rcases List.mem_append.mp hw with h | h
  · simp only [List.mem_cons, List.not_mem_nil, or_false] at h
    rcases h with rfl | rfl | rfl
    · exact bz_all _ h1
    · exact bz_all _ h2
    · exact bz_all _ h4
  · exact bz_gC hcode w h
theorem bzBlind (g : bzGeo) (σ : bzS) (av : List Value) : FrameBlind (va_Pc av (bzP g σ)) := by
  intro a U fr mk h
  obtain ⟨h1, h2, h3, h4, h5, h6⟩ := h
  exact ⟨h1, h2, va_K.moved (u := U) (U := U.calling fr mk a) (Vm.Alike.refl U.vm) h3, h4, h5.moved (Vm.Alike.refl U.vm), h6.same rfl⟩

theorem j_calliV (hF : bzE g d nL cc own x) {y : MethodName} {bytes : ByteArray} {maxL d2 index n : Nat} {ret2 : Option FieldType} {C : String} {o : Nat} {As : List Value} {r0 : Int32} {τ : bzS} (hM : ∀ l, Met l y (Cond.code y bytes maxL ret2 :: GW) (bzR d2) (va_Pc (.ref (ga g o) :: As) (bzP g σ)) (va_Qi (fun (r : Int32) (u : bzS) => r = r0 ∧ u = τ) (bzB g) (gA g)) 0 0 (gA g)) (hlink : Cond.methodLink own index y ∈ GW) (hcode : Cond.code y bytes maxL ret2 ∈ GW) (hini : Cond.initialized y.cls ∈ GW) (hinst : Cond.instanceMethod y ∈ GW) (hsel : Cond.selects C y y ∈ GW) {ci : Nat} {T : u_T} {N : Nat} (hc : vwCl[ci]? = some (C, T, N)) (hci : ci ≤ 10) (ho : kd o = ci) (hC : y.cls = C) (hd : y.cls ≠ "java/lang/invoke/MethodHandle" ∧ y.cls ≠ "java/lang/invoke/VarHandle" ∧ (parseMethodDescriptor y.desc).map (fun d => d.parameters.length) = some n) (hn : As.length = n) (hroom : d2 + 1 ≤ d ∧ maxL ≤ 21) (hst : (st.map fun v => v.category).sum ≤ 8) (hdg : decode cc pc = .ok (.invokevirtual index, 3)) (K : bzJ g nL x τ (pc + 3) lv (.int r0 :: st)) : bzJ g nL x σ pc lv (As.reverse ++ .ref (ga g o) :: st) := by
  obtain ⟨p, l, e, R, s, m, args, below, meth, c, Q, kC, nC⟩ := x
  obtain ⟨⟨hx, hb, hml, hown, hts⟩, hK, hD, hT, hW, hR1, hR2, hR3, hR4⟩ := hF
  intro H locs ls hP hS hl
  obtain ⟨hr1, hr2⟩ := hroom
  refine va_calli (va_runV (As := As) (rest := st) ⟨hx, hb, hml, hown, hts⟩ (hM l) (cwV n hts (bz_gV hlink hinst hsel (hC ▸ hini) hcode) rfl rfl rfl ⟨hC, hd⟩ ⟨by show d2 + 1 ≤ R.frames; omega, by show 8 + (maxL + 11) + 40 * d2 ≤ R.locals; omega⟩) ⟨bzBlind g σ _, va_recv hK hP hc ((bz_at (k := o) (kd_lt (by omega))).trans (by rw [bzCt_o ho hci])), fun U hU hWm => ⟨rfl, by rw [hU]; exact hP, va_K.moved hWm.alike hK, hD σ, by rw [hU]; exact (hT.kept (fun a h1 h2 => hS.2.1 a h1 h2)).moved hWm.alike, hW.warm hWm⟩⟩ rfl hn hl.1 rfl (lv_room hst) hdg ⟨hR3, hR4⟩) hS (fun _ _ h => h) (fun _ h => h) (fun r u t H1 locs1 ht hvm hw hB hz hk1 hS1 => ?_)
  obtain ⟨rfl, rfl⟩ := hw
  have hB : va_P _ _ _ _ := hB
  rw [ht] at hB
  exact K H1 locs1 ls hB hS1 hl

theorem j_calliS (hF : bzE g d nL cc own x) {y : MethodName} {bytes : ByteArray} {maxL d2 index n : Nat} {ret2 : Option FieldType} {As : List Value} {r0 : Int32} {τ : bzS} (hM : ∀ l, Met l y (Cond.code y bytes maxL ret2 :: GW) (bzR d2) (va_Pc As (bzP g σ)) (va_Qi (fun (r : Int32) (u : bzS) => r = r0 ∧ u = τ) (bzB g) (gA g)) 0 0 (gA g)) (hlink : Cond.methodLink own index y ∈ GW) (hcode : Cond.code y bytes maxL ret2 ∈ GW) (hini : Cond.initialized y.cls ∈ GW) (hstat : Cond.static y ∈ GW) (hd : y.cls ≠ "java/lang/invoke/MethodHandle" ∧ y.cls ≠ "java/lang/invoke/VarHandle" ∧ (parseMethodDescriptor y.desc).map (fun d => d.parameters.length) = some n) (hn : As.length = n) (hroom : d2 + 1 ≤ d ∧ maxL ≤ 21) (hst : (st.map fun v => v.category).sum ≤ 8) (hdg : decode cc pc = .ok (.invokestatic index, 3)) (K : bzJ g nL x τ (pc + 3) lv (.int r0 :: st)) : bzJ g nL x σ pc lv (As.reverse ++ st) := by
  obtain ⟨p, l, e, R, s, m, args, below, meth, c, Q, kC, nC⟩ := x
  obtain ⟨⟨hx, hb, hml, hown, hts⟩, hK, hD, hT, hW, hR1, hR2, hR3, hR4⟩ := hF
  intro H locs ls hP hS hl
  obtain ⟨hr1, hr2⟩ := hroom
  refine va_calli (va_runS (As := As) (rest := st) ⟨hx, hb, hml, hown, hts⟩ (hM l) (va_cwS n hts (bz_gS hlink hstat hini hcode) rfl rfl rfl hd ⟨by show d2 + 1 ≤ R.frames; omega, by show 8 + (maxL + 11) + 40 * d2 ≤ R.locals; omega⟩) ⟨bzBlind g σ _, fun U hU hWm => ⟨rfl, by rw [hU]; exact hP, va_K.moved hWm.alike hK, hD σ, by rw [hU]; exact (hT.kept (fun a h1 h2 => hS.2.1 a h1 h2)).moved hWm.alike, hW.warm hWm⟩⟩ rfl hn hl.1 rfl (lv_room hst) hdg ⟨hR3, hR4⟩) hS (fun _ _ h => h) (fun _ h => h) (fun r u t H1 locs1 ht hvm hw hB hz hk1 hS1 => ?_)
  obtain ⟨rfl, rfl⟩ := hw
  have hB : va_P _ _ _ _ := hB
  rw [ht] at hB
  exact K H1 locs1 ls hB hS1 hl

theorem j_calliVN (hF : bzE g d nL cc own x) {y : MethodName} {bytes : ByteArray} {maxL d2 index n : Nat} {ret2 : Option FieldType} {C : String} {o : Nat} {host : String} {As : List Value} {r0 : Int32} {τ : bzS} (hM : ∀ l, Met l y (Cond.code y bytes maxL ret2 :: GW) (bzR d2) (va_Pc (.ref (ga g o) :: As) (bzP g σ)) (va_Qi (fun (r : Int32) (u : bzS) => r = r0 ∧ u = τ) (bzB g) (gA g)) 0 0 (gA g)) (hlink : Cond.methodLinkNest own index y host ∈ NW) (hcode : Cond.code y bytes maxL ret2 ∈ GW) (hini : Cond.initialized y.cls ∈ GW) (hinst : Cond.instanceMethod y ∈ GW) (hsel : Cond.selects C y y ∈ GW) {ci : Nat} {T : u_T} {N : Nat} (hc : vwCl[ci]? = some (C, T, N)) (hci : ci ≤ 10) (ho : kd o = ci) (hC : y.cls = C) (hd : y.cls ≠ "java/lang/invoke/MethodHandle" ∧ y.cls ≠ "java/lang/invoke/VarHandle" ∧ (parseMethodDescriptor y.desc).map (fun d => d.parameters.length) = some n) (hn : As.length = n) (hroom : d2 + 1 ≤ d ∧ maxL ≤ 21) (hst : (st.map fun v => v.category).sum ≤ 8) (hdg : decode cc pc = .ok (.invokevirtual index, 3)) (K : bzJ g nL x τ (pc + 3) lv (.int r0 :: st)) : bzJ g nL x σ pc lv (As.reverse ++ .ref (ga g o) :: st) := by
  obtain ⟨p, l, e, R, s, m, args, below, meth, c, Q, kC, nC⟩ := x
  obtain ⟨⟨hx, hb, hml, hown, hts⟩, hK, hD, hT, hW, hR1, hR2, hR3, hR4⟩ := hF
  intro H locs ls hP hS hl
  obtain ⟨hr1, hr2⟩ := hroom
  refine va_calli (va_runVN (As := As) (rest := st) ⟨hx, hb, hml, hown, hts⟩ (hM l) (⟨va_cnB n hts (bz_gC hcode) rfl rfl rfl (hW _ hlink) (hts _ hini) hd ⟨by show d2 + 1 ≤ R.frames; omega, by show 8 + (maxL + 11) + 40 * d2 ≤ R.locals; omega⟩, hts _ hinst, hts _ hsel⟩) ⟨bzBlind g σ _, va_recv hK hP hc ((bz_at (k := o) (kd_lt (by omega))).trans (by rw [bzCt_o ho hci])), fun U hU hWm => ⟨rfl, by rw [hU]; exact hP, va_K.moved hWm.alike hK, hD σ, by rw [hU]; exact (hT.kept (fun a h1 h2 => hS.2.1 a h1 h2)).moved hWm.alike, hW.warm hWm⟩⟩ rfl hn hl.1 rfl (lv_room hst) hdg ⟨hR3, hR4⟩) hS (fun _ _ h => h) (fun _ h => h) (fun r u t H1 locs1 ht hvm hw hB hz hk1 hS1 => ?_)
  obtain ⟨rfl, rfl⟩ := hw
  have hB : va_P _ _ _ _ := hB
  rw [ht] at hB
  exact K H1 locs1 ls hB hS1 hl

theorem j_calliSN (hF : bzE g d nL cc own x) {y : MethodName} {bytes : ByteArray} {maxL d2 index n : Nat} {ret2 : Option FieldType} {host : String} {As : List Value} {r0 : Int32} {τ : bzS} (hM : ∀ l, Met l y (Cond.code y bytes maxL ret2 :: GW) (bzR d2) (va_Pc As (bzP g σ)) (va_Qi (fun (r : Int32) (u : bzS) => r = r0 ∧ u = τ) (bzB g) (gA g)) 0 0 (gA g)) (hlink : Cond.methodLinkNest own index y host ∈ NW) (hcode : Cond.code y bytes maxL ret2 ∈ GW) (hini : Cond.initialized y.cls ∈ GW) (hstat : Cond.static y ∈ GW) (hd : y.cls ≠ "java/lang/invoke/MethodHandle" ∧ y.cls ≠ "java/lang/invoke/VarHandle" ∧ (parseMethodDescriptor y.desc).map (fun d => d.parameters.length) = some n) (hn : As.length = n) (hroom : d2 + 1 ≤ d ∧ maxL ≤ 21) (hst : (st.map fun v => v.category).sum ≤ 8) (hdg : decode cc pc = .ok (.invokestatic index, 3)) (K : bzJ g nL x τ (pc + 3) lv (.int r0 :: st)) : bzJ g nL x σ pc lv (As.reverse ++ st) := by
  obtain ⟨p, l, e, R, s, m, args, below, meth, c, Q, kC, nC⟩ := x
  obtain ⟨⟨hx, hb, hml, hown, hts⟩, hK, hD, hT, hW, hR1, hR2, hR3, hR4⟩ := hF
  intro H locs ls hP hS hl
  obtain ⟨hr1, hr2⟩ := hroom
  refine va_calli (va_runSN (As := As) (rest := st) ⟨hx, hb, hml, hown, hts⟩ (hM l) (⟨va_cnB n hts (bz_gC hcode) rfl rfl rfl (hW _ hlink) (hts _ hini) hd ⟨by show d2 + 1 ≤ R.frames; omega, by show 8 + (maxL + 11) + 40 * d2 ≤ R.locals; omega⟩, hts _ hstat, trivial⟩) ⟨bzBlind g σ _, fun U hU hWm => ⟨rfl, by rw [hU]; exact hP, va_K.moved hWm.alike hK, hD σ, by rw [hU]; exact (hT.kept (fun a h1 h2 => hS.2.1 a h1 h2)).moved hWm.alike, hW.warm hWm⟩⟩ rfl hn hl.1 rfl (lv_room hst) hdg ⟨hR3, hR4⟩) hS (fun _ _ h => h) (fun _ h => h) (fun r u t H1 locs1 ht hvm hw hB hz hk1 hS1 => ?_)
  obtain ⟨rfl, rfl⟩ := hw
  have hB : va_P _ _ _ _ := hB
  rw [ht] at hB
  exact K H1 locs1 ls hB hS1 hl

theorem j_callqV (hF : bzE g d nL cc own x) {y : MethodName} {bytes : ByteArray} {maxL d2 index n : Nat} {ret2 : Option FieldType} {C : String} {o : Nat} {As : List Value} {r0 : Option Nat} {τ : bzS} (hM : ∀ l, Met l y (Cond.code y bytes maxL ret2 :: GW) (bzR d2) (va_Pc (.ref (ga g o) :: As) (bzP g σ)) (va_Qq (fun (r : Option Nat) (u : bzS) => r = r0.map (ga g) ∧ u = τ) (bzB g) (gA g)) 0 0 (gA g)) (hlink : Cond.methodLink own index y ∈ GW) (hcode : Cond.code y bytes maxL ret2 ∈ GW) (hini : Cond.initialized y.cls ∈ GW) (hinst : Cond.instanceMethod y ∈ GW) (hsel : Cond.selects C y y ∈ GW) {ci : Nat} {T : u_T} {N : Nat} (hc : vwCl[ci]? = some (C, T, N)) (hci : ci ≤ 10) (ho : kd o = ci) (hC : y.cls = C) (hd : y.cls ≠ "java/lang/invoke/MethodHandle" ∧ y.cls ≠ "java/lang/invoke/VarHandle" ∧ (parseMethodDescriptor y.desc).map (fun d => d.parameters.length) = some n) (hn : As.length = n) (hroom : d2 + 1 ≤ d ∧ maxL ≤ 21) (hst : (st.map fun v => v.category).sum ≤ 8) (hdg : decode cc pc = .ok (.invokevirtual index, 3)) (K : bzJ g nL x τ (pc + 3) lv (va_rf (r0.map (ga g)) :: st)) : bzJ g nL x σ pc lv (As.reverse ++ .ref (ga g o) :: st) := by
  obtain ⟨p, l, e, R, s, m, args, below, meth, c, Q, kC, nC⟩ := x
  obtain ⟨⟨hx, hb, hml, hown, hts⟩, hK, hD, hT, hW, hR1, hR2, hR3, hR4⟩ := hF
  intro H locs ls hP hS hl
  obtain ⟨hr1, hr2⟩ := hroom
  refine va_callq (va_runV (As := As) (rest := st) ⟨hx, hb, hml, hown, hts⟩ (hM l) (cwV n hts (bz_gV hlink hinst hsel (hC ▸ hini) hcode) rfl rfl rfl ⟨hC, hd⟩ ⟨by show d2 + 1 ≤ R.frames; omega, by show 8 + (maxL + 11) + 40 * d2 ≤ R.locals; omega⟩) ⟨bzBlind g σ _, va_recv hK hP hc ((bz_at (k := o) (kd_lt (by omega))).trans (by rw [bzCt_o ho hci])), fun U hU hWm => ⟨rfl, by rw [hU]; exact hP, va_K.moved hWm.alike hK, hD σ, by rw [hU]; exact (hT.kept (fun a h1 h2 => hS.2.1 a h1 h2)).moved hWm.alike, hW.warm hWm⟩⟩ rfl hn hl.1 rfl (lv_room hst) hdg ⟨hR3, hR4⟩) hS (fun _ _ h => h) (fun _ h => h) (fun r u t H1 locs1 ht hvm hw hB hz hk1 hS1 => ?_)
  obtain ⟨rfl, rfl⟩ := hw
  have hB : va_P _ _ _ _ := hB
  rw [ht] at hB
  exact K H1 locs1 ls hB hS1 hl

theorem j_callqS (hF : bzE g d nL cc own x) {y : MethodName} {bytes : ByteArray} {maxL d2 index n : Nat} {ret2 : Option FieldType} {As : List Value} {r0 : Option Nat} {τ : bzS} (hM : ∀ l, Met l y (Cond.code y bytes maxL ret2 :: GW) (bzR d2) (va_Pc As (bzP g σ)) (va_Qq (fun (r : Option Nat) (u : bzS) => r = r0.map (ga g) ∧ u = τ) (bzB g) (gA g)) 0 0 (gA g)) (hlink : Cond.methodLink own index y ∈ GW) (hcode : Cond.code y bytes maxL ret2 ∈ GW) (hini : Cond.initialized y.cls ∈ GW) (hstat : Cond.static y ∈ GW) (hd : y.cls ≠ "java/lang/invoke/MethodHandle" ∧ y.cls ≠ "java/lang/invoke/VarHandle" ∧ (parseMethodDescriptor y.desc).map (fun d => d.parameters.length) = some n) (hn : As.length = n) (hroom : d2 + 1 ≤ d ∧ maxL ≤ 21) (hst : (st.map fun v => v.category).sum ≤ 8) (hdg : decode cc pc = .ok (.invokestatic index, 3)) (K : bzJ g nL x τ (pc + 3) lv (va_rf (r0.map (ga g)) :: st)) : bzJ g nL x σ pc lv (As.reverse ++ st) := by
  obtain ⟨p, l, e, R, s, m, args, below, meth, c, Q, kC, nC⟩ := x
  obtain ⟨⟨hx, hb, hml, hown, hts⟩, hK, hD, hT, hW, hR1, hR2, hR3, hR4⟩ := hF
  intro H locs ls hP hS hl
  obtain ⟨hr1, hr2⟩ := hroom
  refine va_callq (va_runS (As := As) (rest := st) ⟨hx, hb, hml, hown, hts⟩ (hM l) (va_cwS n hts (bz_gS hlink hstat hini hcode) rfl rfl rfl hd ⟨by show d2 + 1 ≤ R.frames; omega, by show 8 + (maxL + 11) + 40 * d2 ≤ R.locals; omega⟩) ⟨bzBlind g σ _, fun U hU hWm => ⟨rfl, by rw [hU]; exact hP, va_K.moved hWm.alike hK, hD σ, by rw [hU]; exact (hT.kept (fun a h1 h2 => hS.2.1 a h1 h2)).moved hWm.alike, hW.warm hWm⟩⟩ rfl hn hl.1 rfl (lv_room hst) hdg ⟨hR3, hR4⟩) hS (fun _ _ h => h) (fun _ h => h) (fun r u t H1 locs1 ht hvm hw hB hz hk1 hS1 => ?_)
  obtain ⟨rfl, rfl⟩ := hw
  have hB : va_P _ _ _ _ := hB
  rw [ht] at hB
  exact K H1 locs1 ls hB hS1 hl

theorem j_callqVN (hF : bzE g d nL cc own x) {y : MethodName} {bytes : ByteArray} {maxL d2 index n : Nat} {ret2 : Option FieldType} {C : String} {o : Nat} {host : String} {As : List Value} {r0 : Option Nat} {τ : bzS} (hM : ∀ l, Met l y (Cond.code y bytes maxL ret2 :: GW) (bzR d2) (va_Pc (.ref (ga g o) :: As) (bzP g σ)) (va_Qq (fun (r : Option Nat) (u : bzS) => r = r0.map (ga g) ∧ u = τ) (bzB g) (gA g)) 0 0 (gA g)) (hlink : Cond.methodLinkNest own index y host ∈ NW) (hcode : Cond.code y bytes maxL ret2 ∈ GW) (hini : Cond.initialized y.cls ∈ GW) (hinst : Cond.instanceMethod y ∈ GW) (hsel : Cond.selects C y y ∈ GW) {ci : Nat} {T : u_T} {N : Nat} (hc : vwCl[ci]? = some (C, T, N)) (hci : ci ≤ 10) (ho : kd o = ci) (hC : y.cls = C) (hd : y.cls ≠ "java/lang/invoke/MethodHandle" ∧ y.cls ≠ "java/lang/invoke/VarHandle" ∧ (parseMethodDescriptor y.desc).map (fun d => d.parameters.length) = some n) (hn : As.length = n) (hroom : d2 + 1 ≤ d ∧ maxL ≤ 21) (hst : (st.map fun v => v.category).sum ≤ 8) (hdg : decode cc pc = .ok (.invokevirtual index, 3)) (K : bzJ g nL x τ (pc + 3) lv (va_rf (r0.map (ga g)) :: st)) : bzJ g nL x σ pc lv (As.reverse ++ .ref (ga g o) :: st) := by
  obtain ⟨p, l, e, R, s, m, args, below, meth, c, Q, kC, nC⟩ := x
  obtain ⟨⟨hx, hb, hml, hown, hts⟩, hK, hD, hT, hW, hR1, hR2, hR3, hR4⟩ := hF
  intro H locs ls hP hS hl
  obtain ⟨hr1, hr2⟩ := hroom
  refine va_callq (va_runVN (As := As) (rest := st) ⟨hx, hb, hml, hown, hts⟩ (hM l) (⟨va_cnB n hts (bz_gC hcode) rfl rfl rfl (hW _ hlink) (hts _ hini) hd ⟨by show d2 + 1 ≤ R.frames; omega, by show 8 + (maxL + 11) + 40 * d2 ≤ R.locals; omega⟩, hts _ hinst, hts _ hsel⟩) ⟨bzBlind g σ _, va_recv hK hP hc ((bz_at (k := o) (kd_lt (by omega))).trans (by rw [bzCt_o ho hci])), fun U hU hWm => ⟨rfl, by rw [hU]; exact hP, va_K.moved hWm.alike hK, hD σ, by rw [hU]; exact (hT.kept (fun a h1 h2 => hS.2.1 a h1 h2)).moved hWm.alike, hW.warm hWm⟩⟩ rfl hn hl.1 rfl (lv_room hst) hdg ⟨hR3, hR4⟩) hS (fun _ _ h => h) (fun _ h => h) (fun r u t H1 locs1 ht hvm hw hB hz hk1 hS1 => ?_)
  obtain ⟨rfl, rfl⟩ := hw
  have hB : va_P _ _ _ _ := hB
  rw [ht] at hB
  exact K H1 locs1 ls hB hS1 hl

theorem j_callqSN (hF : bzE g d nL cc own x) {y : MethodName} {bytes : ByteArray} {maxL d2 index n : Nat} {ret2 : Option FieldType} {host : String} {As : List Value} {r0 : Option Nat} {τ : bzS} (hM : ∀ l, Met l y (Cond.code y bytes maxL ret2 :: GW) (bzR d2) (va_Pc As (bzP g σ)) (va_Qq (fun (r : Option Nat) (u : bzS) => r = r0.map (ga g) ∧ u = τ) (bzB g) (gA g)) 0 0 (gA g)) (hlink : Cond.methodLinkNest own index y host ∈ NW) (hcode : Cond.code y bytes maxL ret2 ∈ GW) (hini : Cond.initialized y.cls ∈ GW) (hstat : Cond.static y ∈ GW) (hd : y.cls ≠ "java/lang/invoke/MethodHandle" ∧ y.cls ≠ "java/lang/invoke/VarHandle" ∧ (parseMethodDescriptor y.desc).map (fun d => d.parameters.length) = some n) (hn : As.length = n) (hroom : d2 + 1 ≤ d ∧ maxL ≤ 21) (hst : (st.map fun v => v.category).sum ≤ 8) (hdg : decode cc pc = .ok (.invokestatic index, 3)) (K : bzJ g nL x τ (pc + 3) lv (va_rf (r0.map (ga g)) :: st)) : bzJ g nL x σ pc lv (As.reverse ++ st) := by
  obtain ⟨p, l, e, R, s, m, args, below, meth, c, Q, kC, nC⟩ := x
  obtain ⟨⟨hx, hb, hml, hown, hts⟩, hK, hD, hT, hW, hR1, hR2, hR3, hR4⟩ := hF
  intro H locs ls hP hS hl
  obtain ⟨hr1, hr2⟩ := hroom
  refine va_callq (va_runSN (As := As) (rest := st) ⟨hx, hb, hml, hown, hts⟩ (hM l) (⟨va_cnB n hts (bz_gC hcode) rfl rfl rfl (hW _ hlink) (hts _ hini) hd ⟨by show d2 + 1 ≤ R.frames; omega, by show 8 + (maxL + 11) + 40 * d2 ≤ R.locals; omega⟩, hts _ hstat, trivial⟩) ⟨bzBlind g σ _, fun U hU hWm => ⟨rfl, by rw [hU]; exact hP, va_K.moved hWm.alike hK, hD σ, by rw [hU]; exact (hT.kept (fun a h1 h2 => hS.2.1 a h1 h2)).moved hWm.alike, hW.warm hWm⟩⟩ rfl hn hl.1 rfl (lv_room hst) hdg ⟨hR3, hR4⟩) hS (fun _ _ h => h) (fun _ h => h) (fun r u t H1 locs1 ht hvm hw hB hz hk1 hS1 => ?_)
  obtain ⟨rfl, rfl⟩ := hw
  have hB : va_P _ _ _ _ := hB
  rw [ht] at hB
  exact K H1 locs1 ls hB hS1 hl

theorem j_callvV (hF : bzE g d nL cc own x) {y : MethodName} {bytes : ByteArray} {maxL d2 index n : Nat} {ret2 : Option FieldType} {C : String} {o : Nat} {As : List Value} {τ : bzS} (hM : ∀ l, Met l y (Cond.code y bytes maxL ret2 :: GW) (bzR d2) (va_Pc (.ref (ga g o) :: As) (bzP g σ)) (va_Qv (fun (u : bzS) => u = τ) (bzB g) (gA g)) 0 0 (gA g)) (hlink : Cond.methodLink own index y ∈ GW) (hcode : Cond.code y bytes maxL ret2 ∈ GW) (hini : Cond.initialized y.cls ∈ GW) (hinst : Cond.instanceMethod y ∈ GW) (hsel : Cond.selects C y y ∈ GW) {ci : Nat} {T : u_T} {N : Nat} (hc : vwCl[ci]? = some (C, T, N)) (hci : ci ≤ 10) (ho : kd o = ci) (hC : y.cls = C) (hd : y.cls ≠ "java/lang/invoke/MethodHandle" ∧ y.cls ≠ "java/lang/invoke/VarHandle" ∧ (parseMethodDescriptor y.desc).map (fun d => d.parameters.length) = some n) (hn : As.length = n) (hroom : d2 + 1 ≤ d ∧ maxL ≤ 21) (hst : (st.map fun v => v.category).sum ≤ 8) (hdg : decode cc pc = .ok (.invokevirtual index, 3)) (K : bzJ g nL x τ (pc + 3) lv (st)) : bzJ g nL x σ pc lv (As.reverse ++ .ref (ga g o) :: st) := by
  obtain ⟨p, l, e, R, s, m, args, below, meth, c, Q, kC, nC⟩ := x
  obtain ⟨⟨hx, hb, hml, hown, hts⟩, hK, hD, hT, hW, hR1, hR2, hR3, hR4⟩ := hF
  intro H locs ls hP hS hl
  obtain ⟨hr1, hr2⟩ := hroom
  refine va_callv (va_runV (As := As) (rest := st) ⟨hx, hb, hml, hown, hts⟩ (hM l) (cwV n hts (bz_gV hlink hinst hsel (hC ▸ hini) hcode) rfl rfl rfl ⟨hC, hd⟩ ⟨by show d2 + 1 ≤ R.frames; omega, by show 8 + (maxL + 11) + 40 * d2 ≤ R.locals; omega⟩) ⟨bzBlind g σ _, va_recv hK hP hc ((bz_at (k := o) (kd_lt (by omega))).trans (by rw [bzCt_o ho hci])), fun U hU hWm => ⟨rfl, by rw [hU]; exact hP, va_K.moved hWm.alike hK, hD σ, by rw [hU]; exact (hT.kept (fun a h1 h2 => hS.2.1 a h1 h2)).moved hWm.alike, hW.warm hWm⟩⟩ rfl hn hl.1 rfl (lv_room hst) hdg ⟨hR3, hR4⟩) hS (fun _ _ h => h) (fun _ h => h) (fun u t H1 locs1 ht hvm hw hB hz hk1 hS1 => ?_)
  subst hw
  have hB : va_P _ _ _ _ := hB
  rw [ht] at hB
  exact K H1 locs1 ls hB hS1 hl

theorem j_callvS (hF : bzE g d nL cc own x) {y : MethodName} {bytes : ByteArray} {maxL d2 index n : Nat} {ret2 : Option FieldType} {As : List Value} {τ : bzS} (hM : ∀ l, Met l y (Cond.code y bytes maxL ret2 :: GW) (bzR d2) (va_Pc As (bzP g σ)) (va_Qv (fun (u : bzS) => u = τ) (bzB g) (gA g)) 0 0 (gA g)) (hlink : Cond.methodLink own index y ∈ GW) (hcode : Cond.code y bytes maxL ret2 ∈ GW) (hini : Cond.initialized y.cls ∈ GW) (hstat : Cond.static y ∈ GW) (hd : y.cls ≠ "java/lang/invoke/MethodHandle" ∧ y.cls ≠ "java/lang/invoke/VarHandle" ∧ (parseMethodDescriptor y.desc).map (fun d => d.parameters.length) = some n) (hn : As.length = n) (hroom : d2 + 1 ≤ d ∧ maxL ≤ 21) (hst : (st.map fun v => v.category).sum ≤ 8) (hdg : decode cc pc = .ok (.invokestatic index, 3)) (K : bzJ g nL x τ (pc + 3) lv (st)) : bzJ g nL x σ pc lv (As.reverse ++ st) := by
  obtain ⟨p, l, e, R, s, m, args, below, meth, c, Q, kC, nC⟩ := x
  obtain ⟨⟨hx, hb, hml, hown, hts⟩, hK, hD, hT, hW, hR1, hR2, hR3, hR4⟩ := hF
  intro H locs ls hP hS hl
  obtain ⟨hr1, hr2⟩ := hroom
  refine va_callv (va_runS (As := As) (rest := st) ⟨hx, hb, hml, hown, hts⟩ (hM l) (va_cwS n hts (bz_gS hlink hstat hini hcode) rfl rfl rfl hd ⟨by show d2 + 1 ≤ R.frames; omega, by show 8 + (maxL + 11) + 40 * d2 ≤ R.locals; omega⟩) ⟨bzBlind g σ _, fun U hU hWm => ⟨rfl, by rw [hU]; exact hP, va_K.moved hWm.alike hK, hD σ, by rw [hU]; exact (hT.kept (fun a h1 h2 => hS.2.1 a h1 h2)).moved hWm.alike, hW.warm hWm⟩⟩ rfl hn hl.1 rfl (lv_room hst) hdg ⟨hR3, hR4⟩) hS (fun _ _ h => h) (fun _ h => h) (fun u t H1 locs1 ht hvm hw hB hz hk1 hS1 => ?_)
  subst hw
  have hB : va_P _ _ _ _ := hB
  rw [ht] at hB
  exact K H1 locs1 ls hB hS1 hl

theorem j_callvVN (hF : bzE g d nL cc own x) {y : MethodName} {bytes : ByteArray} {maxL d2 index n : Nat} {ret2 : Option FieldType} {C : String} {o : Nat} {host : String} {As : List Value} {τ : bzS} (hM : ∀ l, Met l y (Cond.code y bytes maxL ret2 :: GW) (bzR d2) (va_Pc (.ref (ga g o) :: As) (bzP g σ)) (va_Qv (fun (u : bzS) => u = τ) (bzB g) (gA g)) 0 0 (gA g)) (hlink : Cond.methodLinkNest own index y host ∈ NW) (hcode : Cond.code y bytes maxL ret2 ∈ GW) (hini : Cond.initialized y.cls ∈ GW) (hinst : Cond.instanceMethod y ∈ GW) (hsel : Cond.selects C y y ∈ GW) {ci : Nat} {T : u_T} {N : Nat} (hc : vwCl[ci]? = some (C, T, N)) (hci : ci ≤ 10) (ho : kd o = ci) (hC : y.cls = C) (hd : y.cls ≠ "java/lang/invoke/MethodHandle" ∧ y.cls ≠ "java/lang/invoke/VarHandle" ∧ (parseMethodDescriptor y.desc).map (fun d => d.parameters.length) = some n) (hn : As.length = n) (hroom : d2 + 1 ≤ d ∧ maxL ≤ 21) (hst : (st.map fun v => v.category).sum ≤ 8) (hdg : decode cc pc = .ok (.invokevirtual index, 3)) (K : bzJ g nL x τ (pc + 3) lv (st)) : bzJ g nL x σ pc lv (As.reverse ++ .ref (ga g o) :: st) := by
  obtain ⟨p, l, e, R, s, m, args, below, meth, c, Q, kC, nC⟩ := x
  obtain ⟨⟨hx, hb, hml, hown, hts⟩, hK, hD, hT, hW, hR1, hR2, hR3, hR4⟩ := hF
  intro H locs ls hP hS hl
  obtain ⟨hr1, hr2⟩ := hroom
  refine va_callv (va_runVN (As := As) (rest := st) ⟨hx, hb, hml, hown, hts⟩ (hM l) (⟨va_cnB n hts (bz_gC hcode) rfl rfl rfl (hW _ hlink) (hts _ hini) hd ⟨by show d2 + 1 ≤ R.frames; omega, by show 8 + (maxL + 11) + 40 * d2 ≤ R.locals; omega⟩, hts _ hinst, hts _ hsel⟩) ⟨bzBlind g σ _, va_recv hK hP hc ((bz_at (k := o) (kd_lt (by omega))).trans (by rw [bzCt_o ho hci])), fun U hU hWm => ⟨rfl, by rw [hU]; exact hP, va_K.moved hWm.alike hK, hD σ, by rw [hU]; exact (hT.kept (fun a h1 h2 => hS.2.1 a h1 h2)).moved hWm.alike, hW.warm hWm⟩⟩ rfl hn hl.1 rfl (lv_room hst) hdg ⟨hR3, hR4⟩) hS (fun _ _ h => h) (fun _ h => h) (fun u t H1 locs1 ht hvm hw hB hz hk1 hS1 => ?_)
  subst hw
  have hB : va_P _ _ _ _ := hB
  rw [ht] at hB
  exact K H1 locs1 ls hB hS1 hl

theorem j_callvSN (hF : bzE g d nL cc own x) {y : MethodName} {bytes : ByteArray} {maxL d2 index n : Nat} {ret2 : Option FieldType} {host : String} {As : List Value} {τ : bzS} (hM : ∀ l, Met l y (Cond.code y bytes maxL ret2 :: GW) (bzR d2) (va_Pc As (bzP g σ)) (va_Qv (fun (u : bzS) => u = τ) (bzB g) (gA g)) 0 0 (gA g)) (hlink : Cond.methodLinkNest own index y host ∈ NW) (hcode : Cond.code y bytes maxL ret2 ∈ GW) (hini : Cond.initialized y.cls ∈ GW) (hstat : Cond.static y ∈ GW) (hd : y.cls ≠ "java/lang/invoke/MethodHandle" ∧ y.cls ≠ "java/lang/invoke/VarHandle" ∧ (parseMethodDescriptor y.desc).map (fun d => d.parameters.length) = some n) (hn : As.length = n) (hroom : d2 + 1 ≤ d ∧ maxL ≤ 21) (hst : (st.map fun v => v.category).sum ≤ 8) (hdg : decode cc pc = .ok (.invokestatic index, 3)) (K : bzJ g nL x τ (pc + 3) lv (st)) : bzJ g nL x σ pc lv (As.reverse ++ st) := by
  obtain ⟨p, l, e, R, s, m, args, below, meth, c, Q, kC, nC⟩ := x
  obtain ⟨⟨hx, hb, hml, hown, hts⟩, hK, hD, hT, hW, hR1, hR2, hR3, hR4⟩ := hF
  intro H locs ls hP hS hl
  obtain ⟨hr1, hr2⟩ := hroom
  refine va_callv (va_runSN (As := As) (rest := st) ⟨hx, hb, hml, hown, hts⟩ (hM l) (⟨va_cnB n hts (bz_gC hcode) rfl rfl rfl (hW _ hlink) (hts _ hini) hd ⟨by show d2 + 1 ≤ R.frames; omega, by show 8 + (maxL + 11) + 40 * d2 ≤ R.locals; omega⟩, hts _ hstat, trivial⟩) ⟨bzBlind g σ _, fun U hU hWm => ⟨rfl, by rw [hU]; exact hP, va_K.moved hWm.alike hK, hD σ, by rw [hU]; exact (hT.kept (fun a h1 h2 => hS.2.1 a h1 h2)).moved hWm.alike, hW.warm hWm⟩⟩ rfl hn hl.1 rfl (lv_room hst) hdg ⟨hR3, hR4⟩) hS (fun _ _ h => h) (fun _ h => h) (fun u t H1 locs1 ht hvm hw hB hz hk1 hS1 => ?_)
  subst hw
  have hB : va_P _ _ _ _ := hB
  rw [ht] at hB
  exact K H1 locs1 ls hB hS1 hl

theorem j_copy (hF : bzE g d nL cc own x) {a b na nb c1 c2 c3 : Nat} {sp dp n : Int32} {index : Nat} (hlink : Cond.methodLink own index arraycopyName ∈ GW) (ha : kd a = 11) (hb2 : kd b = 11) (hna : ln a = na) (hnb : ln b = nb) (hcp : bzCp sp dp n na nb) (hc1 : sp.toNatClampNeg = c1) (hc2 : dp.toNatClampNeg = c2) (hc3 : n.toNatClampNeg = c3) (hroom : 2 ≤ d) (hst : (st.map fun v => v.category).sum ≤ 8) (hdg : decode cc pc = .ok (.invokestatic index, 3)) (K : bzJ g nL x (bzSa σ b (va_cpy (σ a) (σ b) c1 c2 c3)) (pc + 3) lv st) : bzJ g nL x σ pc lv (.int n :: .int dp :: .ref (ga g b) :: .int sp :: .ref (ga g a) :: st) := by
  subst hna
  subst hnb
  subst hc1
  subst hc2
  subst hc3
  obtain ⟨h1, h2, h3, h4, h5⟩ := hcp
  obtain ⟨p, l, e, R, s, m, args, below, meth, c, Q, kC, nC⟩ := x
  obtain ⟨⟨hx, hb, hml, hown, hts⟩, hK, hD, hT, hW, hR1, hR2, hR3, hR4⟩ := hF
  intro H locs ls hP hS hl
  have hq : nativeFrameWords "java/lang/System" "arraycopy" 5 ≤ 40 := by decide
  have h6 : 1 ≤ R.frames := by omega
  have h7 : (st.map fun v => v.category).sum + (nativeFrameWords "java/lang/System" "arraycopy" 5 + 11) ≤ R.locals := by omega
  refine va_copyi (R := R) (rest := st) (D := g.1) (cl := vwCl) (tys := bzTy g) hx hb (hml.trans hl.1.symm) hown (hts _ hlink) (hts _ kx_native) (hts _ kx_static) (hts _ kn_JS) hK hP (hD σ) hS a b 0 0 (ty := .int) ((bz_at (kd_lt (by omega))).trans (by rw [bzCt_i ha])) ((bz_at (kd_lt (by omega))).trans (by rw [bzCt_i hb2])) rfl rfl rfl (by rw [Int32.lt_iff_toInt_lt]; exact Int.not_lt.mpr h1) (by rw [Int32.lt_iff_toInt_lt]; exact Int.not_lt.mpr h2) (by rw [Int32.lt_iff_toInt_lt]; exact Int.not_lt.mpr h3) (by simp only [Int32.toNatClampNeg]; omega) (by simp only [Int32.toNatClampNeg]; omega) (fun _ _ => rfl) h6 h7 hdg (fun H1 locs1 hP1 _ hS1 => ?_)
  rw [bz_set (σ' := bzSa σ b (va_cpy (σ a) (σ b) sp.toNatClampNeg dp.toNatClampNeg n.toNatClampNeg)) (by rw [bzCt_i hb2]; simp [bzSa]) (fun q hq => by simp [bzSa, hq])] at hP1
  exact K H1 locs1 ls hP1 hS1 hl

end JR
