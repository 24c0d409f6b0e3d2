set_option linter.unusedVariables false
def fb_X10_tallOf_4 (K4 : Int32 → Int32 → Option Int32) (o : Nat) (a1 : Int32) (σ : bzS) (v2 : Int32) (v3 : Int32) : Option Int32 :=
  if 10 ≤ v3 then (some v2) else (if ((a1 >>> (v3 &&& 31)) &&& 1) = 1 then (bzGd (bzIn (24 + (2 * v3)) 254) (bzLet ((v2 + (σ (ly o 0) (((24 + (2 * v3))).toNatClampNeg)))) (fun x6 => bzLet (v3 + 1) (fun x7 => K4 x6 x7)))) else (bzLet ((v2 + 0)) (fun x3 => bzLet (v3 + 1) (fun x4 => K4 x3 x4))))
def fl_X10_tallOf_4 (o : Nat) (a1 : Int32) (σ : bzS) : Nat → Int32 → Int32 → Option Int32
  | 0, _, _ => none
  | n + 1, v2, v3 => fb_X10_tallOf_4   (fl_X10_tallOf_4   o a1 σ n) o a1 σ v2 v3
def f_X10_tallOf (o : Nat) (a1 : Int32) (σ : bzS) : Option Int32 :=
  bzGd (kd o = 10) (fl_X10_tallOf_4 o a1 σ 2000 0 0)
set_option maxHeartbeats 4000000 in
set_option maxRecDepth 20000 in
theorem mt_X10_tallOf {g : bzGeo} {o : Nat} {a1 : Int32} {σ : bzS} {r0 : Int32} (l : Launch) (h : f_X10_tallOf  o a1 σ = some r0) : Met l yX10_tallOf (Cond.code yX10_tallOf cX10_tallOf 4 (some .int) :: GW) (bzR (1)) (va_Pc [.ref (ga g o), .int a1] (bzP g σ)) (va_Qi (fun (r : Int32) (u : bzS) => r = r0 ∧ u = σ) (bzB g) (gA g)) 0 0 (gA g) := by
  unfold f_X10_tallOf at h
  obtain ⟨ho, h⟩ := bzGdE h
  refine j_start l (by decide +kernel) [.ref (ga g o), .int a1] [(0, .ref (ga g o)), (1, .int a1)] (Nat.le_of_ble_eq_true rfl) rfl (fun x hF hG => ?_)
  have J4 : (K4 : Int32 → Int32 → Option Int32) → (hK4 : ∀ (v2 : Int32) (v3 : Int32), K4 v2 v3 = some r0 → bzJ g 4 x σ 4 [(0, .ref (ga g o)), (1, .int a1), (2, .int v2), (3, .int v3)] []) → ∀ (v2 : Int32) (v3 : Int32), fb_X10_tallOf_4 K4 o a1 σ v2 v3 = some r0 → bzJ g 4 x σ 4 [(0, .ref (ga g o)), (1, .int a1), (2, .int v2), (3, .int v3)] [] := by
    intro K4 hK4 v2 v3 h
    unfold fb_X10_tallOf_4 at h
    refine j_iload_n hF 3 dX10_tallOf_4 rfl ?_
    refine j_bipush hF (v := 10) dX10_tallOf_5 (by decide) ?_
    refine j_icmp_ge hF (tgt := 43) dX10_tallOf_7 (by decide) (fun c1 => ?_) (fun c1 => ?_)
    · replace h := bzIfT h c1
      refine j_iload_n hF 2 dX10_tallOf_43 rfl ?_
      exact j_iret hF hG dX10_tallOf_44 (Option.some.inj h) rfl
    · replace h := bzIfF h c1
      refine j_iload_n hF 2 dX10_tallOf_10 rfl ?_
      refine j_iload_n hF 1 dX10_tallOf_11 rfl ?_
      refine j_iload_n hF 3 dX10_tallOf_12 rfl ?_
      refine j_ishr hF dX10_tallOf_13 ?_
      refine j_iconst hF (v := 1) dX10_tallOf_14 (by decide) ?_
      refine j_iand hF dX10_tallOf_15 ?_
      refine j_iconst hF (v := 1) dX10_tallOf_16 (by decide) ?_
      refine j_icmp_ne hF (tgt := 34) dX10_tallOf_17 (by decide) (fun c2 => ?_) (fun c2 => ?_)
      · replace h := bzIfF h c2
        refine j_iconst hF (v := 0) dX10_tallOf_34 (by decide) ?_
        refine j_iadd hF dX10_tallOf_35 ?_
        refine j_topi (fun x3 ex3 => ?_)
        replace h := bzLetE h ex3
        refine j_istore_n hF (lv1 := [(2, .int x3), (0, .ref (ga g o)), (1, .int a1), (3, .int v3)]) dX10_tallOf_36 (by decide) rfl ?_
        obtain ⟨x4, ex4⟩ : ∃ y : Int32, y = v3 + 1 := ⟨_, rfl⟩
        replace h := bzLetE h ex4
        refine j_iinc hF (v := x4) (lv1 := [(3, .int x4), (2, .int x3), (0, .ref (ga g o)), (1, .int a1)]) 3 dX10_tallOf_37 rfl (by rw [ex4]; rfl) (by decide) rfl ?_
        refine j_goto hF (tgt := 4) dX10_tallOf_40 (by decide) ?_
        refine j_sub [2, 3, 1, 0] rfl ?_
        exact hK4 x3 x4 h
      · replace h := bzIfT h c2
        refine j_aload_n hF 0 dX10_tallOf_20 rfl ?_
        refine gf_X10_7 hF ho dX10_tallOf_21 ?_
        refine j_bipush hF (v := 24) dX10_tallOf_24 (by decide) ?_
        refine j_iconst hF (v := 2) dX10_tallOf_26 (by decide) ?_
        refine j_iload_n hF 3 dX10_tallOf_27 rfl ?_
        refine j_imul hF dX10_tallOf_28 ?_
        refine j_iadd hF dX10_tallOf_29 ?_
        obtain ⟨g5, h⟩ := bzGdE h
        refine j_iald hF (c := ((24 + (2 * v3))).toNatClampNeg) (kl_10_0 ho) (nl_10_0 ho) g5 rfl dX10_tallOf_30 ?_
        refine j_goto hF (tgt := 35) dX10_tallOf_31 (by decide) ?_
        refine j_iadd hF dX10_tallOf_35 ?_
        refine j_topi (fun x6 ex6 => ?_)
        replace h := bzLetE h ex6
        refine j_istore_n hF (lv1 := [(2, .int x6), (0, .ref (ga g o)), (1, .int a1), (3, .int v3)]) dX10_tallOf_36 (by decide) rfl ?_
        obtain ⟨x7, ex7⟩ : ∃ y : Int32, y = v3 + 1 := ⟨_, rfl⟩
        replace h := bzLetE h ex7
        refine j_iinc hF (v := x7) (lv1 := [(3, .int x7), (2, .int x6), (0, .ref (ga g o)), (1, .int a1)]) 3 dX10_tallOf_37 rfl (by rw [ex7]; rfl) (by decide) rfl ?_
        refine j_goto hF (tgt := 4) dX10_tallOf_40 (by decide) ?_
        refine j_sub [2, 3, 1, 0] rfl ?_
        exact hK4 x6 x7 h
  have L4 : ∀ (n : Nat) (v2 : Int32) (v3 : Int32) , fl_X10_tallOf_4   o a1 σ n v2 v3 = some r0 → bzJ g 4 x σ 4 [(0, .ref (ga g o)), (1, .int a1), (2, .int v2), (3, .int v3)] [] := by
    intro  n
    induction n with
    | zero =>
      intro v2 v3   h
      cases h
    | succ n ih =>
      intro v2 v3   h
      exact J4  (fl_X10_tallOf_4   o a1 σ n) ih v2 v3   h
  refine j_iconst hF (v := 0) dX10_tallOf_0 (by decide) ?_
  refine j_istore_n hF (lv1 := [(2, .int 0), (0, .ref (ga g o)), (1, .int a1)]) dX10_tallOf_1 (by decide) rfl ?_
  refine j_iconst hF (v := 0) dX10_tallOf_2 (by decide) ?_
  refine j_istore_n hF (lv1 := [(3, .int 0), (2, .int 0), (0, .ref (ga g o)), (1, .int a1)]) dX10_tallOf_3 (by decide) rfl ?_
  refine j_sub [2, 3, 1, 0] rfl ?_
  exact L4 2000 0 0 h
def fb_X10_stair_26 (K26 : Int32 → Int32 → Int32 → bzS → Option (Int32 × bzS)) (o : Nat) (a1 : Int32) (v2 : Int32) (v3 : Int32) (v4 : Int32) (σ1 : bzS) : Option (Int32 × bzS) :=
  if v2 < v4 then (if 0 ≤ v3 then (if a1 = 0 then (some (v3, σ1)) else (bzBd (f_X10_ones v3) (fun x10 => some (x10, σ1)))) else (bzBp (f_X10_errs o ((-1000000002)) σ1) (fun x12 σ13 => some (x12, σ13)))) else (if (v4 &&& (v2 ^^^ (-1))) = 0 then (if v3 < 0 then (bzBd (f_X10_tallOf o v4 σ1) (fun x18 => if x18 < (σ1 (ly o 0) 6) then (bzLet (v4 + 1) (fun x20 => K26 v2 v3 x20 σ1)) else (bzLet (v4 + 1) (fun x21 => K26 v2 v4 x21 σ1)))) else (bzBd (f_X10_ones v4) (fun x23 => bzBd (f_X10_ones v3) (fun x25 => if x25 ≤ x23 then (bzLet (v4 + 1) (fun x27 => K26 v2 v3 x27 σ1)) else (bzBd (f_X10_tallOf o v4 σ1) (fun x29 => if x29 < (σ1 (ly o 0) 6) then (bzLet (v4 + 1) (fun x31 => K26 v2 v3 x31 σ1)) else (bzLet (v4 + 1) (fun x32 => K26 v2 v4 x32 σ1)))))))) else (bzLet (v4 + 1) (fun x15 => K26 v2 v3 x15 σ1)))
def fl_X10_stair_26 (o : Nat) (a1 : Int32) : Nat → Int32 → Int32 → Int32 → bzS → Option (Int32 × bzS)
  | 0, _, _, _, _ => none
  | n + 1, v2, v3, v4, σ1 => fb_X10_stair_26   (fl_X10_stair_26   o a1 n) o a1 v2 v3 v4 σ1
def f_X10_stair (o : Nat) (a1 : Int32) (σ : bzS) : Option (Int32 × bzS) :=
  bzGd (kd o = 10) (bzBd (f_X10_in a1 0 1) (fun x2 => if x2 = 0 then (bzBp (f_X10_errs o ((-1000000001)) σ) (fun x34 σ35 => some (x34, σ35))) else (bzBd (f_X10_goodSet o σ) (fun x5 => fl_X10_stair_26 o a1 2000 x5 ((-1)) 0 σ))))
set_option maxHeartbeats 4000000 in
set_option maxRecDepth 20000 in
theorem mt_X10_stair {g : bzGeo} {o : Nat} {a1 : Int32} {σ : bzS} {r0 : Int32} {σ0 : bzS} (l : Launch) (h : f_X10_stair  o a1 σ = some (r0, σ0)) : Met l yX10_stair (Cond.code yX10_stair cX10_stair 5 (some .int) :: GW) (bzR (4)) (va_Pc [.ref (ga g o), .int a1] (bzP g σ)) (va_Qi (fun (r : Int32) (u : bzS) => r = r0 ∧ u = σ0) (bzB g) (gA g)) 0 0 (gA g) := by
  unfold f_X10_stair at h
  obtain ⟨ho, h⟩ := bzGdE h
  refine j_start l (by decide +kernel) [.ref (ga g o), .int a1] [(0, .ref (ga g o)), (1, .int a1)] (Nat.le_of_ble_eq_true rfl) rfl (fun x hF hG => ?_)
  have J26 : (K26 : Int32 → Int32 → Int32 → bzS → Option (Int32 × bzS)) → (hK26 : ∀ (v2 : Int32) (v3 : Int32) (v4 : Int32) (σ1 : bzS), K26 v2 v3 v4 σ1 = some (r0, σ0) → bzJ g 5 x σ1 26 [(0, .ref (ga g o)), (1, .int a1), (2, .int v2), (3, .int v3), (4, .int v4)] []) → ∀ (v2 : Int32) (v3 : Int32) (v4 : Int32) (σ1 : bzS), fb_X10_stair_26 K26 o a1 v2 v3 v4 σ1 = some (r0, σ0) → bzJ g 5 x σ1 26 [(0, .ref (ga g o)), (1, .int a1), (2, .int v2), (3, .int v3), (4, .int v4)] [] := by
    intro K26 hK26 v2 v3 v4 σ1 h
    unfold fb_X10_stair_26 at h
    refine j_iload hF 4 dX10_stair_26 rfl ?_
    refine j_iload_n hF 2 dX10_stair_28 rfl ?_
    refine j_icmp_gt hF (tgt := 82) dX10_stair_29 (by decide) (fun c6 => ?_) (fun c6 => ?_)
    · replace h := bzIfT h c6
      refine j_iload_n hF 3 dX10_stair_82 rfl ?_
      refine j_if_ge hF (tgt := 95) dX10_stair_83 (by decide) (fun c7 => ?_) (fun c7 => ?_)
      · replace h := bzIfT h c7
        refine j_iload_n hF 1 dX10_stair_95 rfl ?_
        refine j_if_ne hF (tgt := 103) dX10_stair_96 (by decide) (fun c8 => ?_) (fun c8 => ?_)
        · replace h := bzIfF h c8
          refine j_iload_n hF 3 dX10_stair_103 rfl ?_
          obtain ⟨x10, e9, h⟩ := bzBdE h
          refine cs_X10_208 hF (fun l => mt_X10_ones l e9) (by decide) (Nat.le_of_ble_eq_true rfl) dX10_stair_104 ?_
          exact j_iret hF hG dX10_stair_107 (bzRet h).1 (bzRet h).2
        · replace h := bzIfT h c8
          refine j_iload_n hF 3 dX10_stair_99 rfl ?_
          refine j_goto hF (tgt := 107) dX10_stair_100 (by decide) ?_
          exact j_iret hF hG dX10_stair_107 (bzRet h).1 (bzRet h).2
      · replace h := bzIfF h c7
        refine j_aload_n hF 0 dX10_stair_86 rfl ?_
        refine j_ldc hF (v := (-1000000002)) kc_X10_198 dX10_stair_87 ?_
        obtain ⟨x12, σ13, e11, h⟩ := bzBpE h
        refine cs_X10_60 hF ho (fun l => mt_X10_errs l e11) (by decide) (Nat.le_of_ble_eq_true rfl) dX10_stair_89 ?_
        refine j_goto hF (tgt := 107) dX10_stair_92 (by decide) ?_
        exact j_iret hF hG dX10_stair_107 (bzRet h).1 (bzRet h).2
    · replace h := bzIfF h c6
      refine j_iload hF 4 dX10_stair_32 rfl ?_
      refine j_iload_n hF 2 dX10_stair_34 rfl ?_
      refine j_iconst hF (v := (-1)) dX10_stair_35 (by decide) ?_
      refine j_ixor hF dX10_stair_36 ?_
      refine j_iand hF dX10_stair_37 ?_
      refine j_if_ne hF (tgt := 76) dX10_stair_38 (by decide) (fun c14 => ?_) (fun c14 => ?_)
      · replace h := bzIfF h c14
        obtain ⟨x15, ex15⟩ : ∃ y : Int32, y = v4 + 1 := ⟨_, rfl⟩
        replace h := bzLetE h ex15
        refine j_iinc hF (v := x15) (lv1 := [(4, .int x15), (0, .ref (ga g o)), (1, .int a1), (2, .int v2), (3, .int v3)]) 4 dX10_stair_76 rfl (by rw [ex15]; rfl) (by decide) rfl ?_
        refine j_goto hF (tgt := 26) dX10_stair_79 (by decide) ?_
        refine j_sub [1, 2, 3, 4, 0] rfl ?_
        exact hK26 v2 v3 x15 σ1 h
      · replace h := bzIfT h c14
        refine j_iload_n hF 3 dX10_stair_41 rfl ?_
        refine j_if_lt hF (tgt := 57) dX10_stair_42 (by decide) (fun c16 => ?_) (fun c16 => ?_)
        · replace h := bzIfT h c16
          refine j_aload_n hF 0 dX10_stair_57 rfl ?_
          refine j_iload hF 4 dX10_stair_58 rfl ?_
          obtain ⟨x18, e17, h⟩ := bzBdE h
          refine cs_X10_211 hF ho (fun l => mt_X10_tallOf l e17) (by decide) (Nat.le_of_ble_eq_true rfl) dX10_stair_60 ?_
          refine j_aload_n hF 0 dX10_stair_63 rfl ?_
          refine gf_X10_7 hF ho dX10_stair_64 ?_
          refine j_bipush hF (v := 6) dX10_stair_67 (by decide) ?_
          refine j_iald hF (c := 6) (kl_10_0 ho) (nl_10_0 ho) (by decide) (by decide) dX10_stair_69 ?_
          refine j_icmp_lt hF (tgt := 76) dX10_stair_70 (by decide) (fun c19 => ?_) (fun c19 => ?_)
          · replace h := bzIfT h c19
            obtain ⟨x20, ex20⟩ : ∃ y : Int32, y = v4 + 1 := ⟨_, rfl⟩
            replace h := bzLetE h ex20
            refine j_iinc hF (v := x20) (lv1 := [(4, .int x20), (0, .ref (ga g o)), (1, .int a1), (2, .int v2), (3, .int v3)]) 4 dX10_stair_76 rfl (by rw [ex20]; rfl) (by decide) rfl ?_
            refine j_goto hF (tgt := 26) dX10_stair_79 (by decide) ?_
            refine j_sub [1, 2, 3, 4, 0] rfl ?_
            exact hK26 v2 v3 x20 σ1 h
          · replace h := bzIfF h c19
            refine j_iload hF 4 dX10_stair_73 rfl ?_
            refine j_istore_n hF (lv1 := [(3, .int v4), (0, .ref (ga g o)), (1, .int a1), (2, .int v2), (4, .int v4)]) dX10_stair_75 (by decide) rfl ?_
            obtain ⟨x21, ex21⟩ : ∃ y : Int32, y = v4 + 1 := ⟨_, rfl⟩
            replace h := bzLetE h ex21
            refine j_iinc hF (v := x21) (lv1 := [(4, .int x21), (3, .int v4), (0, .ref (ga g o)), (1, .int a1), (2, .int v2)]) 4 dX10_stair_76 rfl (by rw [ex21]; rfl) (by decide) rfl ?_
            refine j_goto hF (tgt := 26) dX10_stair_79 (by decide) ?_
            refine j_sub [2, 3, 4, 1, 0] rfl ?_
            exact hK26 v2 v4 x21 σ1 h
        · replace h := bzIfF h c16
          refine j_iload hF 4 dX10_stair_45 rfl ?_
          obtain ⟨x23, e22, h⟩ := bzBdE h
          refine cs_X10_208 hF (fun l => mt_X10_ones l e22) (by decide) (Nat.le_of_ble_eq_true rfl) dX10_stair_47 ?_
          refine j_iload_n hF 3 dX10_stair_50 rfl ?_
          obtain ⟨x25, e24, h⟩ := bzBdE h
          refine cs_X10_208 hF (fun l => mt_X10_ones l e24) (by decide) (Nat.le_of_ble_eq_true rfl) dX10_stair_51 ?_
          refine j_icmp_ge hF (tgt := 76) dX10_stair_54 (by decide) (fun c26 => ?_) (fun c26 => ?_)
          · replace h := bzIfT h c26
            obtain ⟨x27, ex27⟩ : ∃ y : Int32, y = v4 + 1 := ⟨_, rfl⟩
            replace h := bzLetE h ex27
            refine j_iinc hF (v := x27) (lv1 := [(4, .int x27), (0, .ref (ga g o)), (1, .int a1), (2, .int v2), (3, .int v3)]) 4 dX10_stair_76 rfl (by rw [ex27]; rfl) (by decide) rfl ?_
            refine j_goto hF (tgt := 26) dX10_stair_79 (by decide) ?_
            refine j_sub [1, 2, 3, 4, 0] rfl ?_
            exact hK26 v2 v3 x27 σ1 h
          · replace h := bzIfF h c26
            refine j_aload_n hF 0 dX10_stair_57 rfl ?_
            refine j_iload hF 4 dX10_stair_58 rfl ?_
            obtain ⟨x29, e28, h⟩ := bzBdE h
            refine cs_X10_211 hF ho (fun l => mt_X10_tallOf l e28) (by decide) (Nat.le_of_ble_eq_true rfl) dX10_stair_60 ?_
            refine j_aload_n hF 0 dX10_stair_63 rfl ?_
            refine gf_X10_7 hF ho dX10_stair_64 ?_
            refine j_bipush hF (v := 6) dX10_stair_67 (by decide) ?_
            refine j_iald hF (c := 6) (kl_10_0 ho) (nl_10_0 ho) (by decide) (by decide) dX10_stair_69 ?_
            refine j_icmp_lt hF (tgt := 76) dX10_stair_70 (by decide) (fun c30 => ?_) (fun c30 => ?_)
            · replace h := bzIfT h c30
              obtain ⟨x31, ex31⟩ : ∃ y : Int32, y = v4 + 1 := ⟨_, rfl⟩
              replace h := bzLetE h ex31
              refine j_iinc hF (v := x31) (lv1 := [(4, .int x31), (0, .ref (ga g o)), (1, .int a1), (2, .int v2), (3, .int v3)]) 4 dX10_stair_76 rfl (by rw [ex31]; rfl) (by decide) rfl ?_
              refine j_goto hF (tgt := 26) dX10_stair_79 (by decide) ?_
              refine j_sub [1, 2, 3, 4, 0] rfl ?_
              exact hK26 v2 v3 x31 σ1 h
            · replace h := bzIfF h c30
              refine j_iload hF 4 dX10_stair_73 rfl ?_
              refine j_istore_n hF (lv1 := [(3, .int v4), (0, .ref (ga g o)), (1, .int a1), (2, .int v2), (4, .int v4)]) dX10_stair_75 (by decide) rfl ?_
              obtain ⟨x32, ex32⟩ : ∃ y : Int32, y = v4 + 1 := ⟨_, rfl⟩
              replace h := bzLetE h ex32
              refine j_iinc hF (v := x32) (lv1 := [(4, .int x32), (3, .int v4), (0, .ref (ga g o)), (1, .int a1), (2, .int v2)]) 4 dX10_stair_76 rfl (by rw [ex32]; rfl) (by decide) rfl ?_
              refine j_goto hF (tgt := 26) dX10_stair_79 (by decide) ?_
              refine j_sub [2, 3, 4, 1, 0] rfl ?_
              exact hK26 v2 v4 x32 σ1 h
  have L26 : ∀ (n : Nat) (v2 : Int32) (v3 : Int32) (v4 : Int32) (σ1 : bzS), fl_X10_stair_26   o a1 n v2 v3 v4 σ1 = some (r0, σ0) → bzJ g 5 x σ1 26 [(0, .ref (ga g o)), (1, .int a1), (2, .int v2), (3, .int v3), (4, .int v4)] [] := by
    intro  n
    induction n with
    | zero =>
      intro v2 v3 v4 σ1  h
      cases h
    | succ n ih =>
      intro v2 v3 v4 σ1  h
      exact J26  (fl_X10_stair_26   o a1 n) ih v2 v3 v4 σ1  h
  refine j_iload_n hF 1 dX10_stair_0 rfl ?_
  refine j_iconst hF (v := 0) dX10_stair_1 (by decide) ?_
  refine j_iconst hF (v := 1) dX10_stair_2 (by decide) ?_
  obtain ⟨x2, e1, h⟩ := bzBdE h
  refine cs_X10_51 hF (fun l => mt_X10_in l e1) (by decide) (Nat.le_of_ble_eq_true rfl) dX10_stair_3 ?_
  refine j_if_ne hF (tgt := 16) dX10_stair_6 (by decide) (fun c3 => ?_) (fun c3 => ?_)
  · replace h := bzIfF h c3
    refine j_aload_n hF 0 dX10_stair_16 rfl ?_
    obtain ⟨x5, e4, h⟩ := bzBdE h
    refine cs_X10_205 hF ho (fun l => mt_X10_goodSet l e4) (by decide) (Nat.le_of_ble_eq_true rfl) dX10_stair_17 ?_
    refine j_istore_n hF (lv1 := [(2, .int x5), (0, .ref (ga g o)), (1, .int a1)]) dX10_stair_20 (by decide) rfl ?_
    refine j_iconst hF (v := (-1)) dX10_stair_21 (by decide) ?_
    refine j_istore_n hF (lv1 := [(3, .int (-1)), (2, .int x5), (0, .ref (ga g o)), (1, .int a1)]) dX10_stair_22 (by decide) rfl ?_
    refine j_iconst hF (v := 0) dX10_stair_23 (by decide) ?_
    refine j_istore hF (lv1 := [(4, .int 0), (3, .int (-1)), (2, .int x5), (0, .ref (ga g o)), (1, .int a1)]) dX10_stair_24 (by decide) rfl ?_
    refine j_sub [3, 4, 2, 1, 0] rfl ?_
    exact L26 2000 x5 ((-1)) 0 σ h
  · replace h := bzIfT h c3
    refine j_aload_n hF 0 dX10_stair_9 rfl ?_
    refine j_ldc hF (v := (-1000000001)) kc_X10_59 dX10_stair_10 ?_
    obtain ⟨x34, σ35, e33, h⟩ := bzBpE h
    refine cs_X10_60 hF ho (fun l => mt_X10_errs l e33) (by decide) (Nat.le_of_ble_eq_true rfl) dX10_stair_12 ?_
    exact j_iret hF hG dX10_stair_15  (bzRet h).1 (bzRet h).2
def fb_X10_exact_9 (K9 : Int32 → Int32 → Int32 → Option Int32) (o : Nat) (σ : bzS) (v1 : Int32) (v2 : Int32) (v3 : Int32) : Option Int32 :=
  if v1 < v3 then (some v2) else (if (v3 &&& (v1 ^^^ (-1))) = 0 then (bzBd (f_X10_tallOf o v3 σ) (fun x8 => if x8 = (σ (ly o 0) 6) then (bzLet ((v2 + 1)) (fun x12 => bzLet (v3 + 1) (fun x13 => K9 v1 x12 x13))) else (bzLet ((v2 + 0)) (fun x10 => bzLet (v3 + 1) (fun x11 => K9 v1 x10 x11))))) else (bzLet ((v2 + 0)) (fun x5 => bzLet (v3 + 1) (fun x6 => K9 v1 x5 x6))))
def fl_X10_exact_9 (o : Nat) (σ : bzS) : Nat → Int32 → Int32 → Int32 → Option Int32
  | 0, _, _, _ => none
  | n + 1, v1, v2, v3 => fb_X10_exact_9   (fl_X10_exact_9   o σ n) o σ v1 v2 v3
def f_X10_exact (o : Nat) (σ : bzS) : Option Int32 :=
  bzGd (kd o = 10) (bzBd (f_X10_goodSet o σ) (fun x2 => fl_X10_exact_9 o σ 2000 x2 0 0))
set_option maxHeartbeats 4000000 in
set_option maxRecDepth 20000 in
theorem mt_X10_exact {g : bzGeo} {o : Nat} {σ : bzS} {r0 : Int32} (l : Launch) (h : f_X10_exact  o σ = some r0) : Met l yX10_exact (Cond.code yX10_exact cX10_exact 4 (some .int) :: GW) (bzR (4)) (va_Pc [.ref (ga g o)] (bzP g σ)) (va_Qi (fun (r : Int32) (u : bzS) => r = r0 ∧ u = σ) (bzB g) (gA g)) 0 0 (gA g) := by
  unfold f_X10_exact at h
  obtain ⟨ho, h⟩ := bzGdE h
  refine j_start l (by decide +kernel) [.ref (ga g o)] [(0, .ref (ga g o))] (Nat.le_of_ble_eq_true rfl) rfl (fun x hF hG => ?_)
  have J9 : (K9 : Int32 → Int32 → Int32 → Option Int32) → (hK9 : ∀ (v1 : Int32) (v2 : Int32) (v3 : Int32), K9 v1 v2 v3 = some r0 → bzJ g 4 x σ 9 [(0, .ref (ga g o)), (1, .int v1), (2, .int v2), (3, .int v3)] []) → ∀ (v1 : Int32) (v2 : Int32) (v3 : Int32), fb_X10_exact_9 K9 o σ v1 v2 v3 = some r0 → bzJ g 4 x σ 9 [(0, .ref (ga g o)), (1, .int v1), (2, .int v2), (3, .int v3)] [] := by
    intro K9 hK9 v1 v2 v3 h
    unfold fb_X10_exact_9 at h
    refine j_iload_n hF 3 dX10_exact_9 rfl ?_
    refine j_iload_n hF 1 dX10_exact_10 rfl ?_
    refine j_icmp_gt hF (tgt := 51) dX10_exact_11 (by decide) (fun c3 => ?_) (fun c3 => ?_)
    · replace h := bzIfT h c3
      refine j_iload_n hF 2 dX10_exact_51 rfl ?_
      exact j_iret hF hG dX10_exact_52 (Option.some.inj h) rfl
    · replace h := bzIfF h c3
      refine j_iload_n hF 2 dX10_exact_14 rfl ?_
      refine j_iload_n hF 3 dX10_exact_15 rfl ?_
      refine j_iload_n hF 1 dX10_exact_16 rfl ?_
      refine j_iconst hF (v := (-1)) dX10_exact_17 (by decide) ?_
      refine j_ixor hF dX10_exact_18 ?_
      refine j_iand hF dX10_exact_19 ?_
      refine j_if_ne hF (tgt := 42) dX10_exact_20 (by decide) (fun c4 => ?_) (fun c4 => ?_)
      · replace h := bzIfF h c4
        refine j_iconst hF (v := 0) dX10_exact_42 (by decide) ?_
        refine j_iadd hF dX10_exact_43 ?_
        refine j_topi (fun x5 ex5 => ?_)
        replace h := bzLetE h ex5
        refine j_istore_n hF (lv1 := [(2, .int x5), (0, .ref (ga g o)), (1, .int v1), (3, .int v3)]) dX10_exact_44 (by decide) rfl ?_
        obtain ⟨x6, ex6⟩ : ∃ y : Int32, y = v3 + 1 := ⟨_, rfl⟩
        replace h := bzLetE h ex6
        refine j_iinc hF (v := x6) (lv1 := [(3, .int x6), (2, .int x5), (0, .ref (ga g o)), (1, .int v1)]) 3 dX10_exact_45 rfl (by rw [ex6]; rfl) (by decide) rfl ?_
        refine j_goto hF (tgt := 9) dX10_exact_48 (by decide) ?_
        refine j_sub [2, 3, 1, 0] rfl ?_
        exact hK9 v1 x5 x6 h
      · replace h := bzIfT h c4
        refine j_aload_n hF 0 dX10_exact_23 rfl ?_
        refine j_iload_n hF 3 dX10_exact_24 rfl ?_
        obtain ⟨x8, e7, h⟩ := bzBdE h
        refine cs_X10_211 hF ho (fun l => mt_X10_tallOf l e7) (by decide) (Nat.le_of_ble_eq_true rfl) dX10_exact_25 ?_
        refine j_aload_n hF 0 dX10_exact_28 rfl ?_
        refine gf_X10_7 hF ho dX10_exact_29 ?_
        refine j_bipush hF (v := 6) dX10_exact_32 (by decide) ?_
        refine j_iald hF (c := 6) (kl_10_0 ho) (nl_10_0 ho) (by decide) (by decide) dX10_exact_34 ?_
        refine j_icmp_ne hF (tgt := 42) dX10_exact_35 (by decide) (fun c9 => ?_) (fun c9 => ?_)
        · replace h := bzIfF h c9
          refine j_iconst hF (v := 0) dX10_exact_42 (by decide) ?_
          refine j_iadd hF dX10_exact_43 ?_
          refine j_topi (fun x10 ex10 => ?_)
          replace h := bzLetE h ex10
          refine j_istore_n hF (lv1 := [(2, .int x10), (0, .ref (ga g o)), (1, .int v1), (3, .int v3)]) dX10_exact_44 (by decide) rfl ?_
          obtain ⟨x11, ex11⟩ : ∃ y : Int32, y = v3 + 1 := ⟨_, rfl⟩
          replace h := bzLetE h ex11
          refine j_iinc hF (v := x11) (lv1 := [(3, .int x11), (2, .int x10), (0, .ref (ga g o)), (1, .int v1)]) 3 dX10_exact_45 rfl (by rw [ex11]; rfl) (by decide) rfl ?_
          refine j_goto hF (tgt := 9) dX10_exact_48 (by decide) ?_
          refine j_sub [2, 3, 1, 0] rfl ?_
          exact hK9 v1 x10 x11 h
        · replace h := bzIfT h c9
          refine j_iconst hF (v := 1) dX10_exact_38 (by decide) ?_
          refine j_goto hF (tgt := 43) dX10_exact_39 (by decide) ?_
          refine j_iadd hF dX10_exact_43 ?_
          refine j_topi (fun x12 ex12 => ?_)
          replace h := bzLetE h ex12
          refine j_istore_n hF (lv1 := [(2, .int x12), (0, .ref (ga g o)), (1, .int v1), (3, .int v3)]) dX10_exact_44 (by decide) rfl ?_
          obtain ⟨x13, ex13⟩ : ∃ y : Int32, y = v3 + 1 := ⟨_, rfl⟩
          replace h := bzLetE h ex13
          refine j_iinc hF (v := x13) (lv1 := [(3, .int x13), (2, .int x12), (0, .ref (ga g o)), (1, .int v1)]) 3 dX10_exact_45 rfl (by rw [ex13]; rfl) (by decide) rfl ?_
          refine j_goto hF (tgt := 9) dX10_exact_48 (by decide) ?_
          refine j_sub [2, 3, 1, 0] rfl ?_
          exact hK9 v1 x12 x13 h
  have L9 : ∀ (n : Nat) (v1 : Int32) (v2 : Int32) (v3 : Int32) , fl_X10_exact_9   o σ n v1 v2 v3 = some r0 → bzJ g 4 x σ 9 [(0, .ref (ga g o)), (1, .int v1), (2, .int v2), (3, .int v3)] [] := by
    intro  n
    induction n with
    | zero =>
      intro v1 v2 v3   h
      cases h
    | succ n ih =>
      intro v1 v2 v3   h
      exact J9  (fl_X10_exact_9   o σ n) ih v1 v2 v3   h
  refine j_aload_n hF 0 dX10_exact_0 rfl ?_
  obtain ⟨x2, e1, h⟩ := bzBdE h
  refine cs_X10_205 hF ho (fun l => mt_X10_goodSet l e1) (by decide) (Nat.le_of_ble_eq_true rfl) dX10_exact_1 ?_
  refine j_istore_n hF (lv1 := [(1, .int x2), (0, .ref (ga g o))]) dX10_exact_4 (by decide) rfl ?_
  refine j_iconst hF (v := 0) dX10_exact_5 (by decide) ?_
  refine j_istore_n hF (lv1 := [(2, .int 0), (1, .int x2), (0, .ref (ga g o))]) dX10_exact_6 (by decide) rfl ?_
  refine j_iconst hF (v := 0) dX10_exact_7 (by decide) ?_
  refine j_istore_n hF (lv1 := [(3, .int 0), (2, .int 0), (1, .int x2), (0, .ref (ga g o))]) dX10_exact_8 (by decide) rfl ?_
  refine j_sub [3, 2, 1, 0] rfl ?_
  exact L9 2000 x2 0 0 h
def f_X10_tree (o : Nat) (a1 : Int32) (a2 : Int32) (σ : bzS) : Option Int32 :=
  bzGd (kd o = 10) (bzBd (f_X10_in a1 0 7) (fun x2 => if x2 = 0 then (some 0) else (bzBd (f_X10_in a2 0 7) (fun x5 => if x5 = 0 then (some 0) else (bzGd (bzIn (44 + a1) 254) (some ((((σ (ly o 0) (((44 + a1)).toNatClampNeg)) >>> (a2 &&& 31)) &&& 1))))))))
set_option maxHeartbeats 4000000 in
set_option maxRecDepth 20000 in
theorem mt_X10_tree {g : bzGeo} {o : Nat} {a1 : Int32} {a2 : Int32} {σ : bzS} {r0 : Int32} (l : Launch) (h : f_X10_tree  o a1 a2 σ = some r0) : Met l yX10_tree (Cond.code yX10_tree cX10_tree 3 (some .int) :: GW) (bzR (2)) (va_Pc [.ref (ga g o), .int a1, .int a2] (bzP g σ)) (va_Qi (fun (r : Int32) (u : bzS) => r = r0 ∧ u = σ) (bzB g) (gA g)) 0 0 (gA g) := by
  unfold f_X10_tree at h
  obtain ⟨ho, h⟩ := bzGdE h
  refine j_start l (by decide +kernel) [.ref (ga g o), .int a1, .int a2] [(0, .ref (ga g o)), (1, .int a1), (2, .int a2)] (Nat.le_of_ble_eq_true rfl) rfl (fun x hF hG => ?_)
  refine j_iload_n hF 1 dX10_tree_0 rfl ?_
  refine j_iconst hF (v := 0) dX10_tree_1 (by decide) ?_
  refine j_bipush hF (v := 7) dX10_tree_2 (by decide) ?_
  obtain ⟨x2, e1, h⟩ := bzBdE h
  refine cs_X10_51 hF (fun l => mt_X10_in l e1) (by decide) (Nat.le_of_ble_eq_true rfl) dX10_tree_4 ?_
  refine j_if_eq hF (tgt := 36) dX10_tree_7 (by decide) (fun c3 => ?_) (fun c3 => ?_)
  · replace h := bzIfT h c3
    refine j_iconst hF (v := 0) dX10_tree_36 (by decide) ?_
    exact j_iret hF hG dX10_tree_37  (Option.some.inj h) rfl
  · replace h := bzIfF h c3
    refine j_iload_n hF 2 dX10_tree_10 rfl ?_
    refine j_iconst hF (v := 0) dX10_tree_11 (by decide) ?_
    refine j_bipush hF (v := 7) dX10_tree_12 (by decide) ?_
    obtain ⟨x5, e4, h⟩ := bzBdE h
    refine cs_X10_51 hF (fun l => mt_X10_in l e4) (by decide) (Nat.le_of_ble_eq_true rfl) dX10_tree_14 ?_
    refine j_if_eq hF (tgt := 36) dX10_tree_17 (by decide) (fun c6 => ?_) (fun c6 => ?_)
    · replace h := bzIfT h c6
      refine j_iconst hF (v := 0) dX10_tree_36 (by decide) ?_
      exact j_iret hF hG dX10_tree_37  (Option.some.inj h) rfl
    · replace h := bzIfF h c6
      refine j_aload_n hF 0 dX10_tree_20 rfl ?_
      refine gf_X10_7 hF ho dX10_tree_21 ?_
      refine j_bipush hF (v := 44) dX10_tree_24 (by decide) ?_
      refine j_iload_n hF 1 dX10_tree_26 rfl ?_
      refine j_iadd hF dX10_tree_27 ?_
      obtain ⟨g7, h⟩ := bzGdE h
      refine j_iald hF (c := ((44 + a1)).toNatClampNeg) (kl_10_0 ho) (nl_10_0 ho) g7 rfl dX10_tree_28 ?_
      refine j_iload_n hF 2 dX10_tree_29 rfl ?_
      refine j_ishr hF dX10_tree_30 ?_
      refine j_iconst hF (v := 1) dX10_tree_31 (by decide) ?_
      refine j_iand hF dX10_tree_32 ?_
      refine j_goto hF (tgt := 37) dX10_tree_33 (by decide) ?_
      exact j_iret hF hG dX10_tree_37  (Option.some.inj h) rfl
def fb_X10_treesBy_53 (K53 : Int32 → Int32 → Option Int32) (o : Nat) (a1 : Int32) (a2 : Int32) (a3 : Int32) (σ : bzS) (v4 : Int32) (v5 : Int32) : Option Int32 :=
  if 9 ≤ v5 then (some v4) else (if a3 = 2 then (if v5 = 4 then (bzLet ((v4 + 0)) (fun x9 => bzLet (v5 + 1) (fun x10 => K53 x9 x10))) else (bzBd (f_X10_tree o (((a1 - 1) + (v5 / 3))) (((a2 - 1) + (v5 - v5 / 3 * 3))) σ) (fun x6 => bzLet ((v4 + x6)) (fun x7 => bzLet (v5 + 1) (fun x8 => K53 x7 x8))))) else (some v4))
def fl_X10_treesBy_53 (o : Nat) (a1 : Int32) (a2 : Int32) (a3 : Int32) (σ : bzS) : Nat → Int32 → Int32 → Option Int32
  | 0, _, _ => none
  | n + 1, v4, v5 => fb_X10_treesBy_53   (fl_X10_treesBy_53   o a1 a2 a3 σ n) o a1 a2 a3 σ v4 v5
def fb_X10_treesBy_6 (K6 : Int32 → Int32 → Option Int32) (o : Nat) (a1 : Int32) (a2 : Int32) (a3 : Int32) (σ : bzS) (v4 : Int32) (v5 : Int32) : Option Int32 :=
  if 8 ≤ v5 then (fl_X10_treesBy_53 o a1 a2 a3 σ 2000 v4 0) else (if 2 ≤ a3 then (fl_X10_treesBy_53 o a1 a2 a3 σ 2000 v4 0) else (if a3 = 0 then (bzBd (f_X10_tree o a1 v5 σ) (fun x18 => bzLet ((v4 + x18)) (fun x19 => bzLet (v5 + 1) (fun x20 => K6 x19 x20)))) else (bzBd (f_X10_tree o v5 a2 σ) (fun x14 => bzLet ((v4 + x14)) (fun x15 => bzLet (v5 + 1) (fun x16 => K6 x15 x16))))))
def fl_X10_treesBy_6 (o : Nat) (a1 : Int32) (a2 : Int32) (a3 : Int32) (σ : bzS) : Nat → Int32 → Int32 → Option Int32
  | 0, _, _ => none
  | n + 1, v4, v5 => fb_X10_treesBy_6   (fl_X10_treesBy_6   o a1 a2 a3 σ n) o a1 a2 a3 σ v4 v5
def f_X10_treesBy (o : Nat) (a1 : Int32) (a2 : Int32) (a3 : Int32) (σ : bzS) : Option Int32 :=
  bzGd (kd o = 10) (fl_X10_treesBy_6 o a1 a2 a3 σ 2000 0 0)
set_option maxHeartbeats 4000000 in
set_option maxRecDepth 20000 in
theorem mt_X10_treesBy {g : bzGeo} {o : Nat} {a1 : Int32} {a2 : Int32} {a3 : Int32} {σ : bzS} {r0 : Int32} (l : Launch) (h : f_X10_treesBy  o a1 a2 a3 σ = some r0) : Met l yX10_treesBy (Cond.code yX10_treesBy cX10_treesBy 6 (some .int) :: GW) (bzR (3)) (va_Pc [.ref (ga g o), .int a1, .int a2, .int a3] (bzP g σ)) (va_Qi (fun (r : Int32) (u : bzS) => r = r0 ∧ u = σ) (bzB g) (gA g)) 0 0 (gA g) := by
  unfold f_X10_treesBy at h
  obtain ⟨ho, h⟩ := bzGdE h
  refine j_start l (by decide +kernel) [.ref (ga g o), .int a1, .int a2, .int a3] [(0, .ref (ga g o)), (1, .int a1), (2, .int a2), (3, .int a3)] (Nat.le_of_ble_eq_true rfl) rfl (fun x hF hG => ?_)
  have J53 : (K53 : Int32 → Int32 → Option Int32) → (hK53 : ∀ (v4 : Int32) (v5 : Int32), K53 v4 v5 = some r0 → bzJ g 6 x σ 53 [(0, .ref (ga g o)), (1, .int a1), (2, .int a2), (3, .int a3), (4, .int v4), (5, .int v5)] []) → ∀ (v4 : Int32) (v5 : Int32), fb_X10_treesBy_53 K53 o a1 a2 a3 σ v4 v5 = some r0 → bzJ g 6 x σ 53 [(0, .ref (ga g o)), (1, .int a1), (2, .int a2), (3, .int a3), (4, .int v4), (5, .int v5)] [] := by
    intro K53 hK53 v4 v5 h
    unfold fb_X10_treesBy_53 at h
    refine j_iload hF 5 dX10_treesBy_53 rfl ?_
    refine j_bipush hF (v := 9) dX10_treesBy_55 (by decide) ?_
    refine j_icmp_ge hF (tgt := 106) dX10_treesBy_57 (by decide) (fun c2 => ?_) (fun c2 => ?_)
    · replace h := bzIfT h c2
      refine j_iload hF 4 dX10_treesBy_106 rfl ?_
      exact j_iret hF hG dX10_treesBy_108 (Option.some.inj h) rfl
    · replace h := bzIfF h c2
      refine j_iload_n hF 3 dX10_treesBy_60 rfl ?_
      refine j_iconst hF (v := 2) dX10_treesBy_61 (by decide) ?_
      refine j_icmp_ne hF (tgt := 106) dX10_treesBy_62 (by decide) (fun c3 => ?_) (fun c3 => ?_)
      · replace h := bzIfF h c3
        refine j_iload hF 4 dX10_treesBy_106 rfl ?_
        exact j_iret hF hG dX10_treesBy_108 (Option.some.inj h) rfl
      · replace h := bzIfT h c3
        refine j_iload hF 4 dX10_treesBy_65 rfl ?_
        refine j_iload hF 5 dX10_treesBy_67 rfl ?_
        refine j_iconst hF (v := 4) dX10_treesBy_69 (by decide) ?_
        refine j_icmp_ne hF (tgt := 77) dX10_treesBy_70 (by decide) (fun c4 => ?_) (fun c4 => ?_)
        · replace h := bzIfF h c4
          refine j_aload_n hF 0 dX10_treesBy_77 rfl ?_
          refine j_iload_n hF 1 dX10_treesBy_78 rfl ?_
          refine j_iconst hF (v := 1) dX10_treesBy_79 (by decide) ?_
          refine j_isub hF dX10_treesBy_80 ?_
          refine j_iload hF 5 dX10_treesBy_81 rfl ?_
          refine j_iconst hF (v := 3) dX10_treesBy_83 (by decide) ?_
          refine j_idiv hF dX10_treesBy_84 (by decide) ?_
          refine j_iadd hF dX10_treesBy_85 ?_
          refine j_iload_n hF 2 dX10_treesBy_86 rfl ?_
          refine j_iconst hF (v := 1) dX10_treesBy_87 (by decide) ?_
          refine j_isub hF dX10_treesBy_88 ?_
          refine j_iload hF 5 dX10_treesBy_89 rfl ?_
          refine j_iconst hF (v := 3) dX10_treesBy_91 (by decide) ?_
          refine j_irem hF dX10_treesBy_92 (by decide) ?_
          refine j_iadd hF dX10_treesBy_93 ?_
          obtain ⟨x6, e5, h⟩ := bzBdE h
          refine cs_X10_214 hF ho (fun l => mt_X10_tree l e5) (by decide) (Nat.le_of_ble_eq_true rfl) dX10_treesBy_94 ?_
          refine j_iadd hF dX10_treesBy_97 ?_
          refine j_topi (fun x7 ex7 => ?_)
          replace h := bzLetE h ex7
          refine j_istore hF (lv1 := [(4, .int x7), (0, .ref (ga g o)), (1, .int a1), (2, .int a2), (3, .int a3), (5, .int v5)]) dX10_treesBy_98 (by decide) rfl ?_
          obtain ⟨x8, ex8⟩ : ∃ y : Int32, y = v5 + 1 := ⟨_, rfl⟩
          replace h := bzLetE h ex8
          refine j_iinc hF (v := x8) (lv1 := [(5, .int x8), (4, .int x7), (0, .ref (ga g o)), (1, .int a1), (2, .int a2), (3, .int a3)]) 5 dX10_treesBy_100 rfl (by rw [ex8]; rfl) (by decide) rfl ?_
          refine j_goto hF (tgt := 53) dX10_treesBy_103 (by decide) ?_
          refine j_sub [2, 3, 4, 5, 1, 0] rfl ?_
          exact hK53 x7 x8 h
        · replace h := bzIfT h c4
          refine j_iconst hF (v := 0) dX10_treesBy_73 (by decide) ?_
          refine j_goto hF (tgt := 97) dX10_treesBy_74 (by decide) ?_
          refine j_iadd hF dX10_treesBy_97 ?_
          refine j_topi (fun x9 ex9 => ?_)
          replace h := bzLetE h ex9
          refine j_istore hF (lv1 := [(4, .int x9), (0, .ref (ga g o)), (1, .int a1), (2, .int a2), (3, .int a3), (5, .int v5)]) dX10_treesBy_98 (by decide) rfl ?_
          obtain ⟨x10, ex10⟩ : ∃ y : Int32, y = v5 + 1 := ⟨_, rfl⟩
          replace h := bzLetE h ex10
          refine j_iinc hF (v := x10) (lv1 := [(5, .int x10), (4, .int x9), (0, .ref (ga g o)), (1, .int a1), (2, .int a2), (3, .int a3)]) 5 dX10_treesBy_100 rfl (by rw [ex10]; rfl) (by decide) rfl ?_
          refine j_goto hF (tgt := 53) dX10_treesBy_103 (by decide) ?_
          refine j_sub [2, 3, 4, 5, 1, 0] rfl ?_
          exact hK53 x9 x10 h
  have L53 : ∀ (n : Nat) (v4 : Int32) (v5 : Int32) , fl_X10_treesBy_53   o a1 a2 a3 σ n v4 v5 = some r0 → bzJ g 6 x σ 53 [(0, .ref (ga g o)), (1, .int a1), (2, .int a2), (3, .int a3), (4, .int v4), (5, .int v5)] [] := by
    intro  n
    induction n with
    | zero =>
      intro v4 v5   h
      cases h
    | succ n ih =>
      intro v4 v5   h
      exact J53  (fl_X10_treesBy_53   o a1 a2 a3 σ n) ih v4 v5   h
  have J6 : (K6 : Int32 → Int32 → Option Int32) → (hK6 : ∀ (v4 : Int32) (v5 : Int32), K6 v4 v5 = some r0 → bzJ g 6 x σ 6 [(0, .ref (ga g o)), (1, .int a1), (2, .int a2), (3, .int a3), (4, .int v4), (5, .int v5)] []) → ∀ (v4 : Int32) (v5 : Int32), fb_X10_treesBy_6 K6 o a1 a2 a3 σ v4 v5 = some r0 → bzJ g 6 x σ 6 [(0, .ref (ga g o)), (1, .int a1), (2, .int a2), (3, .int a3), (4, .int v4), (5, .int v5)] [] := by
    intro K6 hK6 v4 v5 h
    unfold fb_X10_treesBy_6 at h
    refine j_iload hF 5 dX10_treesBy_6 rfl ?_
    refine j_bipush hF (v := 8) dX10_treesBy_8 (by decide) ?_
    refine j_icmp_ge hF (tgt := 50) dX10_treesBy_10 (by decide) (fun c1 => ?_) (fun c1 => ?_)
    · replace h := bzIfT h c1
      refine j_iconst hF (v := 0) dX10_treesBy_50 (by decide) ?_
      refine j_istore hF (lv1 := [(5, .int 0), (0, .ref (ga g o)), (1, .int a1), (2, .int a2), (3, .int a3), (4, .int v4)]) dX10_treesBy_51 (by decide) rfl ?_
      refine j_sub [1, 2, 3, 4, 5, 0] rfl ?_
      exact L53 2000 v4 0 h
    · replace h := bzIfF h c1
      refine j_iload_n hF 3 dX10_treesBy_13 rfl ?_
      refine j_iconst hF (v := 2) dX10_treesBy_14 (by decide) ?_
      refine j_icmp_ge hF (tgt := 50) dX10_treesBy_15 (by decide) (fun c11 => ?_) (fun c11 => ?_)
      · replace h := bzIfT h c11
        refine j_iconst hF (v := 0) dX10_treesBy_50 (by decide) ?_
        refine j_istore hF (lv1 := [(5, .int 0), (0, .ref (ga g o)), (1, .int a1), (2, .int a2), (3, .int a3), (4, .int v4)]) dX10_treesBy_51 (by decide) rfl ?_
        refine j_sub [1, 2, 3, 4, 5, 0] rfl ?_
        exact L53 2000 v4 0 h
      · replace h := bzIfF h c11
        refine j_iload hF 4 dX10_treesBy_18 rfl ?_
        refine j_iload_n hF 3 dX10_treesBy_20 rfl ?_
        refine j_if_ne hF (tgt := 34) dX10_treesBy_21 (by decide) (fun c12 => ?_) (fun c12 => ?_)
        · replace h := bzIfF h c12
          refine j_aload_n hF 0 dX10_treesBy_34 rfl ?_
          refine j_iload hF 5 dX10_treesBy_35 rfl ?_
          refine j_iload_n hF 2 dX10_treesBy_37 rfl ?_
          obtain ⟨x14, e13, h⟩ := bzBdE h
          refine cs_X10_214 hF ho (fun l => mt_X10_tree l e13) (by decide) (Nat.le_of_ble_eq_true rfl) dX10_treesBy_38 ?_
          refine j_iadd hF dX10_treesBy_41 ?_
          refine j_topi (fun x15 ex15 => ?_)
          replace h := bzLetE h ex15
          refine j_istore hF (lv1 := [(4, .int x15), (0, .ref (ga g o)), (1, .int a1), (2, .int a2), (3, .int a3), (5, .int v5)]) dX10_treesBy_42 (by decide) rfl ?_
          obtain ⟨x16, ex16⟩ : ∃ y : Int32, y = v5 + 1 := ⟨_, rfl⟩
          replace h := bzLetE h ex16
          refine j_iinc hF (v := x16) (lv1 := [(5, .int x16), (4, .int x15), (0, .ref (ga g o)), (1, .int a1), (2, .int a2), (3, .int a3)]) 5 dX10_treesBy_44 rfl (by rw [ex16]; rfl) (by decide) rfl ?_
          refine j_goto hF (tgt := 6) dX10_treesBy_47 (by decide) ?_
          refine j_sub [2, 3, 4, 5, 1, 0] rfl ?_
          exact hK6 x15 x16 h
        · replace h := bzIfT h c12
          refine j_aload_n hF 0 dX10_treesBy_24 rfl ?_
          refine j_iload_n hF 1 dX10_treesBy_25 rfl ?_
          refine j_iload hF 5 dX10_treesBy_26 rfl ?_
          obtain ⟨x18, e17, h⟩ := bzBdE h
          refine cs_X10_214 hF ho (fun l => mt_X10_tree l e17) (by decide) (Nat.le_of_ble_eq_true rfl) dX10_treesBy_28 ?_
          refine j_goto hF (tgt := 41) dX10_treesBy_31 (by decide) ?_
          refine j_iadd hF dX10_treesBy_41 ?_
          refine j_topi (fun x19 ex19 => ?_)
          replace h := bzLetE h ex19
          refine j_istore hF (lv1 := [(4, .int x19), (0, .ref (ga g o)), (1, .int a1), (2, .int a2), (3, .int a3), (5, .int v5)]) dX10_treesBy_42 (by decide) rfl ?_
          obtain ⟨x20, ex20⟩ : ∃ y : Int32, y = v5 + 1 := ⟨_, rfl⟩
          replace h := bzLetE h ex20
          refine j_iinc hF (v := x20) (lv1 := [(5, .int x20), (4, .int x19), (0, .ref (ga g o)), (1, .int a1), (2, .int a2), (3, .int a3)]) 5 dX10_treesBy_44 rfl (by rw [ex20]; rfl) (by decide) rfl ?_
          refine j_goto hF (tgt := 6) dX10_treesBy_47 (by decide) ?_
          refine j_sub [2, 3, 4, 5, 1, 0] rfl ?_
          exact hK6 x19 x20 h
  have L6 : ∀ (n : Nat) (v4 : Int32) (v5 : Int32) , fl_X10_treesBy_6   o a1 a2 a3 σ n v4 v5 = some r0 → bzJ g 6 x σ 6 [(0, .ref (ga g o)), (1, .int a1), (2, .int a2), (3, .int a3), (4, .int v4), (5, .int v5)] [] := by
    intro  n
    induction n with
    | zero =>
      intro v4 v5   h
      cases h
    | succ n ih =>
      intro v4 v5   h
      exact J6  (fl_X10_treesBy_6   o a1 a2 a3 σ n) ih v4 v5   h
  refine j_iconst hF (v := 0) dX10_treesBy_0 (by decide) ?_
  refine j_istore hF (lv1 := [(4, .int 0), (0, .ref (ga g o)), (1, .int a1), (2, .int a2), (3, .int a3)]) dX10_treesBy_1 (by decide) rfl ?_
  refine j_iconst hF (v := 0) dX10_treesBy_3 (by decide) ?_
  refine j_istore hF (lv1 := [(5, .int 0), (4, .int 0), (0, .ref (ga g o)), (1, .int a1), (2, .int a2), (3, .int a3)]) dX10_treesBy_4 (by decide) rfl ?_
  refine j_sub [2, 3, 4, 5, 1, 0] rfl ?_
  exact L6 2000 0 0 h
def fb_X10_isThere_19 (K19 : Int32 → Int32 → Option Int32) (o : Nat) (a1 : Int32) (a2 : Int32) (σ : bzS) (v3 : Int32) (v4 : Int32) : Option Int32 :=
  bzGd (bzIn a1 4) (if (σ (ly o 17) a1.toNatClampNeg) ≤ v4 then (bzGd (v3 = 0 ∨ v3 = 1) (some v3)) else (if v3 = 0 then (bzGd (v3 = 0 ∨ v3 = 1) (some v3)) else (bzGd (bzIn ((40 * a1) + v4) 160) (bzBd (f_X10_treesBy o ((a2 / 8)) ((a2 - a2 / 8 * 8)) v4 σ) (fun x10 => if (σ (ly o 18) ((((40 * a1) + v4)).toNatClampNeg)) = x10 then (bzLet (v4 + 1) (fun x13 => K19 1 x13)) else (bzLet (v4 + 1) (fun x12 => K19 0 x12)))))))
def fl_X10_isThere_19 (o : Nat) (a1 : Int32) (a2 : Int32) (σ : bzS) : Nat → Int32 → Int32 → Option Int32
  | 0, _, _ => none
  | n + 1, v3, v4 => fb_X10_isThere_19   (fl_X10_isThere_19   o a1 a2 σ n) o a1 a2 σ v3 v4
def f_X10_isThere (o : Nat) (a1 : Int32) (a2 : Int32) (σ : bzS) : Option Int32 :=
  bzGd (kd o = 10) (bzGd (bzIn a1 4) (if 3 < (σ (ly o 17) a1.toNatClampNeg) then (fl_X10_isThere_19 o a1 a2 σ 2000 0 0) else (fl_X10_isThere_19 o a1 a2 σ 2000 1 0)))
set_option maxHeartbeats 4000000 in
set_option maxRecDepth 20000 in
theorem mt_X10_isThere {g : bzGeo} {o : Nat} {a1 : Int32} {a2 : Int32} {σ : bzS} {r0 : Int32} (l : Launch) (h : f_X10_isThere  o a1 a2 σ = some r0) : Met l yX10_isThere (Cond.code yX10_isThere cX10_isThere 5 (some .boolean) :: GW) (bzR (4)) (va_Pc [.ref (ga g o), .int a1, .int a2] (bzP g σ)) (va_Qi (fun (r : Int32) (u : bzS) => r = r0 ∧ u = σ) (bzB g) (gA g)) 0 0 (gA g) := by
  unfold f_X10_isThere at h
  obtain ⟨ho, h⟩ := bzGdE h
  refine j_start l (by decide +kernel) [.ref (ga g o), .int a1, .int a2] [(0, .ref (ga g o)), (1, .int a1), (2, .int a2)] (Nat.le_of_ble_eq_true rfl) rfl (fun x hF hG => ?_)
  have J19 : (K19 : Int32 → Int32 → Option Int32) → (hK19 : ∀ (v3 : Int32) (v4 : Int32), K19 v3 v4 = some r0 → bzJ g 5 x σ 19 [(0, .ref (ga g o)), (1, .int a1), (2, .int a2), (3, .int v3), (4, .int v4)] []) → ∀ (v3 : Int32) (v4 : Int32), fb_X10_isThere_19 K19 o a1 a2 σ v3 v4 = some r0 → bzJ g 5 x σ 19 [(0, .ref (ga g o)), (1, .int a1), (2, .int a2), (3, .int v3), (4, .int v4)] [] := by
    intro K19 hK19 v3 v4 h
    unfold fb_X10_isThere_19 at h
    refine j_iload hF 4 dX10_isThere_19 rfl ?_
    refine j_aload_n hF 0 dX10_isThere_21 rfl ?_
    refine gf_X10_32 hF ho dX10_isThere_22 ?_
    refine j_iload_n hF 1 dX10_isThere_25 rfl ?_
    obtain ⟨g3, h⟩ := bzGdE h
    refine j_iald hF (c := a1.toNatClampNeg) (kl_10_17 ho) (nl_10_17 ho) g3 rfl dX10_isThere_26 ?_
    refine j_icmp_ge hF (tgt := 75) dX10_isThere_27 (by decide) (fun c4 => ?_) (fun c4 => ?_)
    · replace h := bzIfT h c4
      refine j_iload_n hF 3 dX10_isThere_75 rfl ?_
      obtain ⟨g5, h⟩ := bzGdE h
      exact j_zret hF hG dX10_isThere_76 (bz01 g5) (Option.some.inj h) rfl
    · replace h := bzIfF h c4
      refine j_iload_n hF 3 dX10_isThere_30 rfl ?_
      refine j_if_eq hF (tgt := 75) dX10_isThere_31 (by decide) (fun c6 => ?_) (fun c6 => ?_)
      · replace h := bzIfT h c6
        refine j_iload_n hF 3 dX10_isThere_75 rfl ?_
        obtain ⟨g7, h⟩ := bzGdE h
        exact j_zret hF hG dX10_isThere_76 (bz01 g7) (Option.some.inj h) rfl
      · replace h := bzIfF h c6
        refine j_aload_n hF 0 dX10_isThere_34 rfl ?_
        refine gf_X10_35 hF ho dX10_isThere_35 ?_
        refine j_bipush hF (v := 40) dX10_isThere_38 (by decide) ?_
        refine j_iload_n hF 1 dX10_isThere_40 rfl ?_
        refine j_imul hF dX10_isThere_41 ?_
        refine j_iload hF 4 dX10_isThere_42 rfl ?_
        refine j_iadd hF dX10_isThere_44 ?_
        obtain ⟨g8, h⟩ := bzGdE h
        refine j_iald hF (c := (((40 * a1) + v4)).toNatClampNeg) (kl_10_18 ho) (nl_10_18 ho) g8 rfl dX10_isThere_45 ?_
        refine j_aload_n hF 0 dX10_isThere_46 rfl ?_
        refine j_iload_n hF 2 dX10_isThere_47 rfl ?_
        refine j_bipush hF (v := 8) dX10_isThere_48 (by decide) ?_
        refine j_idiv hF dX10_isThere_50 (by decide) ?_
        refine j_iload_n hF 2 dX10_isThere_51 rfl ?_
        refine j_bipush hF (v := 8) dX10_isThere_52 (by decide) ?_
        refine j_irem hF dX10_isThere_54 (by decide) ?_
        refine j_iload hF 4 dX10_isThere_55 rfl ?_
        obtain ⟨x10, e9, h⟩ := bzBdE h
        refine cs_X10_217 hF ho (fun l => mt_X10_treesBy l e9) (by decide) (Nat.le_of_ble_eq_true rfl) dX10_isThere_57 ?_
        refine j_icmp_ne hF (tgt := 67) dX10_isThere_60 (by decide) (fun c11 => ?_) (fun c11 => ?_)
        · replace h := bzIfF h c11
          refine j_iconst hF (v := 0) dX10_isThere_67 (by decide) ?_
          refine j_istore_n hF (lv1 := [(3, .int 0), (0, .ref (ga g o)), (1, .int a1), (2, .int a2), (4, .int v4)]) dX10_isThere_68 (by decide) rfl ?_
          obtain ⟨x12, ex12⟩ : ∃ y : Int32, y = v4 + 1 := ⟨_, rfl⟩
          replace h := bzLetE h ex12
          refine j_iinc hF (v := x12) (lv1 := [(4, .int x12), (3, .int 0), (0, .ref (ga g o)), (1, .int a1), (2, .int a2)]) 4 dX10_isThere_69 rfl (by rw [ex12]; rfl) (by decide) rfl ?_
          refine j_goto hF (tgt := 19) dX10_isThere_72 (by decide) ?_
          refine j_sub [2, 3, 4, 1, 0] rfl ?_
          exact hK19 0 x12 h
        · replace h := bzIfT h c11
          refine j_iconst hF (v := 1) dX10_isThere_63 (by decide) ?_
          refine j_goto hF (tgt := 68) dX10_isThere_64 (by decide) ?_
          refine j_istore_n hF (lv1 := [(3, .int 1), (0, .ref (ga g o)), (1, .int a1), (2, .int a2), (4, .int v4)]) dX10_isThere_68 (by decide) rfl ?_
          obtain ⟨x13, ex13⟩ : ∃ y : Int32, y = v4 + 1 := ⟨_, rfl⟩
          replace h := bzLetE h ex13
          refine j_iinc hF (v := x13) (lv1 := [(4, .int x13), (3, .int 1), (0, .ref (ga g o)), (1, .int a1), (2, .int a2)]) 4 dX10_isThere_69 rfl (by rw [ex13]; rfl) (by decide) rfl ?_
          refine j_goto hF (tgt := 19) dX10_isThere_72 (by decide) ?_
          refine j_sub [2, 3, 4, 1, 0] rfl ?_
          exact hK19 1 x13 h
  have L19 : ∀ (n : Nat) (v3 : Int32) (v4 : Int32) , fl_X10_isThere_19   o a1 a2 σ n v3 v4 = some r0 → bzJ g 5 x σ 19 [(0, .ref (ga g o)), (1, .int a1), (2, .int a2), (3, .int v3), (4, .int v4)] [] := by
    intro  n
    induction n with
    | zero =>
      intro v3 v4   h
      cases h
    | succ n ih =>
      intro v3 v4   h
      exact J19  (fl_X10_isThere_19   o a1 a2 σ n) ih v3 v4   h
  refine j_aload_n hF 0 dX10_isThere_0 rfl ?_
  refine gf_X10_32 hF ho dX10_isThere_1 ?_
  refine j_iload_n hF 1 dX10_isThere_4 rfl ?_
  obtain ⟨g1, h⟩ := bzGdE h
  refine j_iald hF (c := a1.toNatClampNeg) (kl_10_17 ho) (nl_10_17 ho) g1 rfl dX10_isThere_5 ?_
  refine j_iconst hF (v := 3) dX10_isThere_6 (by decide) ?_
  refine j_icmp_gt hF (tgt := 14) dX10_isThere_7 (by decide) (fun c2 => ?_) (fun c2 => ?_)
  · replace h := bzIfT h c2
    refine j_iconst hF (v := 0) dX10_isThere_14 (by decide) ?_
    refine j_istore_n hF (lv1 := [(3, .int 0), (0, .ref (ga g o)), (1, .int a1), (2, .int a2)]) dX10_isThere_15 (by decide) rfl ?_
    refine j_iconst hF (v := 0) dX10_isThere_16 (by decide) ?_
    refine j_istore hF (lv1 := [(4, .int 0), (3, .int 0), (0, .ref (ga g o)), (1, .int a1), (2, .int a2)]) dX10_isThere_17 (by decide) rfl ?_
    refine j_sub [2, 3, 4, 1, 0] rfl ?_
    exact L19 2000 0 0 h
  · replace h := bzIfF h c2
    refine j_iconst hF (v := 1) dX10_isThere_10 (by decide) ?_
    refine j_goto hF (tgt := 15) dX10_isThere_11 (by decide) ?_
    refine j_istore_n hF (lv1 := [(3, .int 1), (0, .ref (ga g o)), (1, .int a1), (2, .int a2)]) dX10_isThere_15 (by decide) rfl ?_
    refine j_iconst hF (v := 0) dX10_isThere_16 (by decide) ?_
    refine j_istore hF (lv1 := [(4, .int 0), (3, .int 1), (0, .ref (ga g o)), (1, .int a1), (2, .int a2)]) dX10_isThere_17 (by decide) rfl ?_
    refine j_sub [2, 3, 4, 1, 0] rfl ?_
    exact L19 2000 1 0 h
def fb_X10_house_48 (K48 : Int32 → Int32 → Int32 → bzS → Option (Int32 × bzS)) (o : Nat) (a1 : Int32) (a2 : Int32) (v3 : Int32) (v4 : Int32) (v5 : Int32) (σ1 : bzS) : Option (Int32 × bzS) :=
  if v5 < 0 then (if a2 = 0 then (some (v3, σ1)) else (if 0 ≤ v4 then (some (v4, σ1)) else (bzBp (f_X10_errs o ((-1000000002)) σ1) (fun x16 σ17 => some (x16, σ17))))) else (bzBd (f_X10_isThere o a1 v5 σ1) (fun x19 => if x19 = 0 then (bzLet ((v3 + 0)) (fun x21 => if x19 = 0 then (bzLet (v5 + (-1)) (fun x23 => K48 x21 v4 x23 σ1)) else (bzLet (v5 + (-1)) (fun x24 => K48 x21 v5 x24 σ1)))) else (bzLet ((v3 + 1)) (fun x25 => if x19 = 0 then (bzLet (v5 + (-1)) (fun x27 => K48 x25 v4 x27 σ1)) else (bzLet (v5 + (-1)) (fun x28 => K48 x25 v5 x28 σ1))))))
def fl_X10_house_48 (o : Nat) (a1 : Int32) (a2 : Int32) : Nat → Int32 → Int32 → Int32 → bzS → Option (Int32 × bzS)
  | 0, _, _, _, _ => none
  | n + 1, v3, v4, v5, σ1 => fb_X10_house_48   (fl_X10_house_48   o a1 a2 n) o a1 a2 v3 v4 v5 σ1
def f_X10_house (o : Nat) (a1 : Int32) (a2 : Int32) (σ : bzS) : Option (Int32 × bzS) :=
  bzGd (kd o = 10) (bzBd (f_X10_isSheet a1) (fun x2 => if x2 = 0 then (bzBp (f_X10_errs o ((-1000000001)) σ) (fun x5 σ6 => some (x5, σ6))) else (bzBd (f_X10_in a2 0 1) (fun x8 => if x8 = 0 then (bzBp (f_X10_errs o ((-1000000001)) σ) (fun x33 σ34 => some (x33, σ34))) else (bzGd (bzIn a1 4) (if (σ (ly o 16) a1.toNatClampNeg) = 0 then (bzBp (f_X10_errs o ((-1000000002)) σ) (fun x30 σ31 => some (x30, σ31))) else (fl_X10_house_48 o a1 a2 2000 0 ((-1)) 63 σ)))))))
set_option maxHeartbeats 4000000 in
set_option maxRecDepth 20000 in
theorem mt_X10_house {g : bzGeo} {o : Nat} {a1 : Int32} {a2 : Int32} {σ : bzS} {r0 : Int32} {σ0 : bzS} (l : Launch) (h : f_X10_house  o a1 a2 σ = some (r0, σ0)) : Met l yX10_house (Cond.code yX10_house cX10_house 7 (some .int) :: GW) (bzR (5)) (va_Pc [.ref (ga g o), .int a1, .int a2] (bzP g σ)) (va_Qi (fun (r : Int32) (u : bzS) => r = r0 ∧ u = σ0) (bzB g) (gA g)) 0 0 (gA g) := by
  unfold f_X10_house at h
  obtain ⟨ho, h⟩ := bzGdE h
  refine j_start l (by decide +kernel) [.ref (ga g o), .int a1, .int a2] [(0, .ref (ga g o)), (1, .int a1), (2, .int a2)] (Nat.le_of_ble_eq_true rfl) rfl (fun x hF hG => ?_)
  have J48 : (K48 : Int32 → Int32 → Int32 → bzS → Option (Int32 × bzS)) → (hK48 : ∀ (v3 : Int32) (v4 : Int32) (v5 : Int32) (σ1 : bzS), K48 v3 v4 v5 σ1 = some (r0, σ0) → bzJ g 7 x σ1 48 [(0, .ref (ga g o)), (1, .int a1), (2, .int a2), (3, .int v3), (4, .int v4), (5, .int v5)] []) → ∀ (v3 : Int32) (v4 : Int32) (v5 : Int32) (σ1 : bzS), fb_X10_house_48 K48 o a1 a2 v3 v4 v5 σ1 = some (r0, σ0) → bzJ g 7 x σ1 48 [(0, .ref (ga g o)), (1, .int a1), (2, .int a2), (3, .int v3), (4, .int v4), (5, .int v5)] [] := by
    intro K48 hK48 v3 v4 v5 σ1 h
    unfold fb_X10_house_48 at h
    refine j_iload hF 5 dX10_house_48 rfl ?_
    refine j_if_lt hF (tgt := 95) dX10_house_50 (by decide) (fun c12 => ?_) (fun c12 => ?_)
    · replace h := bzIfT h c12
      refine j_iload_n hF 2 dX10_house_95 rfl ?_
      refine j_if_ne hF (tgt := 103) dX10_house_96 (by decide) (fun c13 => ?_) (fun c13 => ?_)
      · replace h := bzIfF h c13
        refine j_iload hF 4 dX10_house_103 rfl ?_
        refine j_if_ge hF (tgt := 117) dX10_house_105 (by decide) (fun c14 => ?_) (fun c14 => ?_)
        · replace h := bzIfT h c14
          refine j_iload hF 4 dX10_house_117 rfl ?_
          exact j_iret hF hG dX10_house_119 (bzRet h).1 (bzRet h).2
        · replace h := bzIfF h c14
          refine j_aload_n hF 0 dX10_house_108 rfl ?_
          refine j_ldc hF (v := (-1000000002)) kc_X10_198 dX10_house_109 ?_
          obtain ⟨x16, σ17, e15, h⟩ := bzBpE h
          refine cs_X10_60 hF ho (fun l => mt_X10_errs l e15) (by decide) (Nat.le_of_ble_eq_true rfl) dX10_house_111 ?_
          refine j_goto hF (tgt := 119) dX10_house_114 (by decide) ?_
          exact j_iret hF hG dX10_house_119 (bzRet h).1 (bzRet h).2
      · replace h := bzIfT h c13
        refine j_iload_n hF 3 dX10_house_99 rfl ?_
        refine j_goto hF (tgt := 119) dX10_house_100 (by decide) ?_
        exact j_iret hF hG dX10_house_119 (bzRet h).1 (bzRet h).2
    · replace h := bzIfF h c12
      refine j_aload_n hF 0 dX10_house_53 rfl ?_
      refine j_iload_n hF 1 dX10_house_54 rfl ?_
      refine j_iload hF 5 dX10_house_55 rfl ?_
      obtain ⟨x19, e18, h⟩ := bzBdE h
      refine cs_X10_220 hF ho (fun l => mt_X10_isThere l e18) (by decide) (Nat.le_of_ble_eq_true rfl) dX10_house_57 ?_
      refine j_istore hF (lv1 := [(6, .int x19), (0, .ref (ga g o)), (1, .int a1), (2, .int a2), (3, .int v3), (4, .int v4), (5, .int v5)]) dX10_house_60 (by decide) rfl ?_
      refine j_iload_n hF 4 dX10_house_62 rfl ?_
      refine j_iload hF 0 dX10_house_63 rfl ?_
      refine j_if_eq hF (tgt := 72) dX10_house_65 (by decide) (fun c20 => ?_) (fun c20 => ?_)
      · replace h := bzIfT h c20
        refine j_iconst hF (v := 0) dX10_house_72 (by decide) ?_
        refine j_iadd hF dX10_house_73 ?_
        refine j_topi (fun x21 ex21 => ?_)
        replace h := bzLetE h ex21
        refine j_istore_n hF (lv1 := [(3, .int x21), (6, .int x19), (0, .ref (ga g o)), (1, .int a1), (2, .int a2), (4, .int v4), (5, .int v5)]) dX10_house_74 (by decide) rfl ?_
        refine j_iload hF 1 dX10_house_75 rfl ?_
        refine j_if_eq hF (tgt := 85) dX10_house_77 (by decide) (fun c22 => ?_) (fun c22 => ?_)
        · replace h := bzIfT h c22
          refine j_iload hF 5 dX10_house_85 rfl ?_
          refine j_istore hF (lv1 := [(4, .int v4), (3, .int x21), (6, .int x19), (0, .ref (ga g o)), (1, .int a1), (2, .int a2), (5, .int v5)]) dX10_house_87 (by decide) rfl ?_
          obtain ⟨x23, ex23⟩ : ∃ y : Int32, y = v5 + (-1) := ⟨_, rfl⟩
          replace h := bzLetE h ex23
          refine j_iinc hF (v := x23) (lv1 := [(5, .int x23), (4, .int v4), (3, .int x21), (6, .int x19), (0, .ref (ga g o)), (1, .int a1), (2, .int a2)]) 6 dX10_house_89 rfl (by rw [ex23]; rfl) (by decide) rfl ?_
          refine j_goto hF (tgt := 48) dX10_house_92 (by decide) ?_
          refine j_sub [4, 5, 6, 2, 1, 0] rfl ?_
          exact hK48 x21 v4 x23 σ1 h
        · replace h := bzIfF h c22
          refine j_iload hF 6 dX10_house_80 rfl ?_
          refine j_goto hF (tgt := 87) dX10_house_82 (by decide) ?_
          refine j_istore hF (lv1 := [(4, .int v5), (3, .int x21), (6, .int x19), (0, .ref (ga g o)), (1, .int a1), (2, .int a2), (5, .int v5)]) dX10_house_87 (by decide) rfl ?_
          obtain ⟨x24, ex24⟩ : ∃ y : Int32, y = v5 + (-1) := ⟨_, rfl⟩
          replace h := bzLetE h ex24
          refine j_iinc hF (v := x24) (lv1 := [(5, .int x24), (4, .int v5), (3, .int x21), (6, .int x19), (0, .ref (ga g o)), (1, .int a1), (2, .int a2)]) 6 dX10_house_89 rfl (by rw [ex24]; rfl) (by decide) rfl ?_
          refine j_goto hF (tgt := 48) dX10_house_92 (by decide) ?_
          refine j_sub [4, 5, 6, 2, 1, 0] rfl ?_
          exact hK48 x21 v5 x24 σ1 h
      · replace h := bzIfF h c20
        refine j_iconst hF (v := 1) dX10_house_68 (by decide) ?_
        refine j_goto hF (tgt := 73) dX10_house_69 (by decide) ?_
        refine j_iadd hF dX10_house_73 ?_
        refine j_topi (fun x25 ex25 => ?_)
        replace h := bzLetE h ex25
        refine j_istore_n hF (lv1 := [(3, .int x25), (6, .int x19), (0, .ref (ga g o)), (1, .int a1), (2, .int a2), (4, .int v4), (5, .int v5)]) dX10_house_74 (by decide) rfl ?_
        refine j_iload hF 1 dX10_house_75 rfl ?_
        refine j_if_eq hF (tgt := 85) dX10_house_77 (by decide) (fun c26 => ?_) (fun c26 => ?_)
        · replace h := bzIfT h c26
          refine j_iload hF 5 dX10_house_85 rfl ?_
          refine j_istore hF (lv1 := [(4, .int v4), (3, .int x25), (6, .int x19), (0, .ref (ga g o)), (1, .int a1), (2, .int a2), (5, .int v5)]) dX10_house_87 (by decide) rfl ?_
          obtain ⟨x27, ex27⟩ : ∃ y : Int32, y = v5 + (-1) := ⟨_, rfl⟩
          replace h := bzLetE h ex27
          refine j_iinc hF (v := x27) (lv1 := [(5, .int x27), (4, .int v4), (3, .int x25), (6, .int x19), (0, .ref (ga g o)), (1, .int a1), (2, .int a2)]) 6 dX10_house_89 rfl (by rw [ex27]; rfl) (by decide) rfl ?_
          refine j_goto hF (tgt := 48) dX10_house_92 (by decide) ?_
          refine j_sub [4, 5, 6, 2, 1, 0] rfl ?_
          exact hK48 x25 v4 x27 σ1 h
        · replace h := bzIfF h c26
          refine j_iload hF 6 dX10_house_80 rfl ?_
          refine j_goto hF (tgt := 87) dX10_house_82 (by decide) ?_
          refine j_istore hF (lv1 := [(4, .int v5), (3, .int x25), (6, .int x19), (0, .ref (ga g o)), (1, .int a1), (2, .int a2), (5, .int v5)]) dX10_house_87 (by decide) rfl ?_
          obtain ⟨x28, ex28⟩ : ∃ y : Int32, y = v5 + (-1) := ⟨_, rfl⟩
          replace h := bzLetE h ex28
          refine j_iinc hF (v := x28) (lv1 := [(5, .int x28), (4, .int v5), (3, .int x25), (6, .int x19), (0, .ref (ga g o)), (1, .int a1), (2, .int a2)]) 6 dX10_house_89 rfl (by rw [ex28]; rfl) (by decide) rfl ?_
          refine j_goto hF (tgt := 48) dX10_house_92 (by decide) ?_
          refine j_sub [4, 5, 6, 2, 1, 0] rfl ?_
          exact hK48 x25 v5 x28 σ1 h
  have L48 : ∀ (n : Nat) (v3 : Int32) (v4 : Int32) (v5 : Int32) (σ1 : bzS), fl_X10_house_48   o a1 a2 n v3 v4 v5 σ1 = some (r0, σ0) → bzJ g 7 x σ1 48 [(0, .ref (ga g o)), (1, .int a1), (2, .int a2), (3, .int v3), (4, .int v4), (5, .int v5)] [] := by
    intro  n
    induction n with
    | zero =>
      intro v3 v4 v5 σ1  h
      cases h
    | succ n ih =>
      intro v3 v4 v5 σ1  h
      exact J48  (fl_X10_house_48   o a1 a2 n) ih v3 v4 v5 σ1  h
  refine j_iload_n hF 1 dX10_house_0 rfl ?_
  obtain ⟨x2, e1, h⟩ := bzBdE h
  refine cs_X10_199 hF (fun l => mt_X10_isSheet l e1) (by decide) (Nat.le_of_ble_eq_true rfl) dX10_house_1 ?_
  refine j_if_eq hF (tgt := 16) dX10_house_4 (by decide) (fun c3 => ?_) (fun c3 => ?_)
  · replace h := bzIfT h c3
    refine j_aload_n hF 0 dX10_house_16 rfl ?_
    refine j_ldc hF (v := (-1000000001)) kc_X10_59 dX10_house_17 ?_
    obtain ⟨x5, σ6, e4, h⟩ := bzBpE h
    refine cs_X10_60 hF ho (fun l => mt_X10_errs l e4) (by decide) (Nat.le_of_ble_eq_true rfl) dX10_house_19 ?_
    exact j_iret hF hG dX10_house_22  (bzRet h).1 (bzRet h).2
  · replace h := bzIfF h c3
    refine j_iload_n hF 2 dX10_house_7 rfl ?_
    refine j_iconst hF (v := 0) dX10_house_8 (by decide) ?_
    refine j_iconst hF (v := 1) dX10_house_9 (by decide) ?_
    obtain ⟨x8, e7, h⟩ := bzBdE h
    refine cs_X10_51 hF (fun l => mt_X10_in l e7) (by decide) (Nat.le_of_ble_eq_true rfl) dX10_house_10 ?_
    refine j_if_ne hF (tgt := 23) dX10_house_13 (by decide) (fun c9 => ?_) (fun c9 => ?_)
    · replace h := bzIfF h c9
      refine j_aload_n hF 0 dX10_house_23 rfl ?_
      refine gf_X10_29 hF ho dX10_house_24 ?_
      refine j_iload_n hF 1 dX10_house_27 rfl ?_
      obtain ⟨g10, h⟩ := bzGdE h
      refine j_iald hF (c := a1.toNatClampNeg) (kl_10_16 ho) (nl_10_16 ho) g10 rfl dX10_house_28 ?_
      refine j_if_ne hF (tgt := 39) dX10_house_29 (by decide) (fun c11 => ?_) (fun c11 => ?_)
      · replace h := bzIfF h c11
        refine j_iconst hF (v := 0) dX10_house_39 (by decide) ?_
        refine j_istore_n hF (lv1 := [(3, .int 0), (0, .ref (ga g o)), (1, .int a1), (2, .int a2)]) dX10_house_40 (by decide) rfl ?_
        refine j_iconst hF (v := (-1)) dX10_house_41 (by decide) ?_
        refine j_istore hF (lv1 := [(4, .int (-1)), (3, .int 0), (0, .ref (ga g o)), (1, .int a1), (2, .int a2)]) dX10_house_42 (by decide) rfl ?_
        refine j_bipush hF (v := 63) dX10_house_44 (by decide) ?_
        refine j_istore hF (lv1 := [(5, .int 63), (4, .int (-1)), (3, .int 0), (0, .ref (ga g o)), (1, .int a1), (2, .int a2)]) dX10_house_46 (by decide) rfl ?_
        refine j_sub [3, 4, 5, 2, 1, 0] rfl ?_
        exact L48 2000 0 ((-1)) 63 σ h
      · replace h := bzIfT h c11
        refine j_aload_n hF 0 dX10_house_32 rfl ?_
        refine j_ldc hF (v := (-1000000002)) kc_X10_198 dX10_house_33 ?_
        obtain ⟨x30, σ31, e29, h⟩ := bzBpE h
        refine cs_X10_60 hF ho (fun l => mt_X10_errs l e29) (by decide) (Nat.le_of_ble_eq_true rfl) dX10_house_35 ?_
        exact j_iret hF hG dX10_house_38  (bzRet h).1 (bzRet h).2
    · replace h := bzIfT h c9
      refine j_aload_n hF 0 dX10_house_16 rfl ?_
      refine j_ldc hF (v := (-1000000001)) kc_X10_59 dX10_house_17 ?_
      obtain ⟨x33, σ34, e32, h⟩ := bzBpE h
      refine cs_X10_60 hF ho (fun l => mt_X10_errs l e32) (by decide) (Nat.le_of_ble_eq_true rfl) dX10_house_19 ?_
      exact j_iret hF hG dX10_house_22  (bzRet h).1 (bzRet h).2
def fb_X10_loudOf_4 (K4 : Int32 → Int32 → Option Int32) (o : Nat) (a1 : Int32) (σ : bzS) (v2 : Int32) (v3 : Int32) : Option Int32 :=
  if (σ (ly o 0) 2) ≤ v3 then (some v2) else (if ((a1 >>> (v3 &&& 31)) &&& 1) = 1 then (bzBd (f_X10_its o v3 2 σ) (fun x6 => bzLet ((v2 + x6)) (fun x7 => bzLet (v3 + 1) (fun x8 => K4 x7 x8)))) else (bzLet ((v2 + 0)) (fun x3 => bzLet (v3 + 1) (fun x4 => K4 x3 x4))))
def fl_X10_loudOf_4 (o : Nat) (a1 : Int32) (σ : bzS) : Nat → Int32 → Int32 → Option Int32
  | 0, _, _ => none
  | n + 1, v2, v3 => fb_X10_loudOf_4   (fl_X10_loudOf_4   o a1 σ n) o a1 σ v2 v3
def f_X10_loudOf (o : Nat) (a1 : Int32) (σ : bzS) : Option Int32 :=
  bzGd (kd o = 10) (fl_X10_loudOf_4 o a1 σ 2000 0 0)
set_option maxHeartbeats 4000000 in
set_option maxRecDepth 20000 in
theorem mt_X10_loudOf {g : bzGeo} {o : Nat} {a1 : Int32} {σ : bzS} {r0 : Int32} (l : Launch) (h : f_X10_loudOf  o a1 σ = some r0) : Met l yX10_loudOf (Cond.code yX10_loudOf cX10_loudOf 4 (some .int) :: GW) (bzR (2)) (va_Pc [.ref (ga g o), .int a1] (bzP g σ)) (va_Qi (fun (r : Int32) (u : bzS) => r = r0 ∧ u = σ) (bzB g) (gA g)) 0 0 (gA g) := by
  unfold f_X10_loudOf at h
  obtain ⟨ho, h⟩ := bzGdE h
  refine j_start l (by decide +kernel) [.ref (ga g o), .int a1] [(0, .ref (ga g o)), (1, .int a1)] (Nat.le_of_ble_eq_true rfl) rfl (fun x hF hG => ?_)
  have J4 : (K4 : Int32 → Int32 → Option Int32) → (hK4 : ∀ (v2 : Int32) (v3 : Int32), K4 v2 v3 = some r0 → bzJ g 4 x σ 4 [(0, .ref (ga g o)), (1, .int a1), (2, .int v2), (3, .int v3)] []) → ∀ (v2 : Int32) (v3 : Int32), fb_X10_loudOf_4 K4 o a1 σ v2 v3 = some r0 → bzJ g 4 x σ 4 [(0, .ref (ga g o)), (1, .int a1), (2, .int v2), (3, .int v3)] [] := by
    intro K4 hK4 v2 v3 h
    unfold fb_X10_loudOf_4 at h
    refine j_iload_n hF 3 dX10_loudOf_4 rfl ?_
    refine j_aload_n hF 0 dX10_loudOf_5 rfl ?_
    refine gf_X10_7 hF ho dX10_loudOf_6 ?_
    refine j_iconst hF (v := 2) dX10_loudOf_9 (by decide) ?_
    refine j_iald hF (c := 2) (kl_10_0 ho) (nl_10_0 ho) (by decide) (by decide) dX10_loudOf_10 ?_
    refine j_icmp_ge hF (tgt := 42) dX10_loudOf_11 (by decide) (fun c1 => ?_) (fun c1 => ?_)
    · replace h := bzIfT h c1
      refine j_iload_n hF 2 dX10_loudOf_42 rfl ?_
      exact j_iret hF hG dX10_loudOf_43 (Option.some.inj h) rfl
    · replace h := bzIfF h c1
      refine j_iload_n hF 2 dX10_loudOf_14 rfl ?_
      refine j_iload_n hF 1 dX10_loudOf_15 rfl ?_
      refine j_iload_n hF 3 dX10_loudOf_16 rfl ?_
      refine j_ishr hF dX10_loudOf_17 ?_
      refine j_iconst hF (v := 1) dX10_loudOf_18 (by decide) ?_
      refine j_iand hF dX10_loudOf_19 ?_
      refine j_iconst hF (v := 1) dX10_loudOf_20 (by decide) ?_
      refine j_icmp_ne hF (tgt := 33) dX10_loudOf_21 (by decide) (fun c2 => ?_) (fun c2 => ?_)
      · replace h := bzIfF h c2
        refine j_iconst hF (v := 0) dX10_loudOf_33 (by decide) ?_
        refine j_iadd hF dX10_loudOf_34 ?_
        refine j_topi (fun x3 ex3 => ?_)
        replace h := bzLetE h ex3
        refine j_istore_n hF (lv1 := [(2, .int x3), (0, .ref (ga g o)), (1, .int a1), (3, .int v3)]) dX10_loudOf_35 (by decide) rfl ?_
        obtain ⟨x4, ex4⟩ : ∃ y : Int32, y = v3 + 1 := ⟨_, rfl⟩
        replace h := bzLetE h ex4
        refine j_iinc hF (v := x4) (lv1 := [(3, .int x4), (2, .int x3), (0, .ref (ga g o)), (1, .int a1)]) 3 dX10_loudOf_36 rfl (by rw [ex4]; rfl) (by decide) rfl ?_
        refine j_goto hF (tgt := 4) dX10_loudOf_39 (by decide) ?_
        refine j_sub [2, 3, 1, 0] rfl ?_
        exact hK4 x3 x4 h
      · replace h := bzIfT h c2
        refine j_aload_n hF 0 dX10_loudOf_24 rfl ?_
        refine j_iload_n hF 3 dX10_loudOf_25 rfl ?_
        refine j_iconst hF (v := 2) dX10_loudOf_26 (by decide) ?_
        obtain ⟨x6, e5, h⟩ := bzBdE h
        refine cs_X10_83 hF ho (fun l => mt_X10_its l e5) (by decide) (Nat.le_of_ble_eq_true rfl) dX10_loudOf_27 ?_
        refine j_goto hF (tgt := 34) dX10_loudOf_30 (by decide) ?_
        refine j_iadd hF dX10_loudOf_34 ?_
        refine j_topi (fun x7 ex7 => ?_)
        replace h := bzLetE h ex7
        refine j_istore_n hF (lv1 := [(2, .int x7), (0, .ref (ga g o)), (1, .int a1), (3, .int v3)]) dX10_loudOf_35 (by decide) rfl ?_
        obtain ⟨x8, ex8⟩ : ∃ y : Int32, y = v3 + 1 := ⟨_, rfl⟩
        replace h := bzLetE h ex8
        refine j_iinc hF (v := x8) (lv1 := [(3, .int x8), (2, .int x7), (0, .ref (ga g o)), (1, .int a1)]) 3 dX10_loudOf_36 rfl (by rw [ex8]; rfl) (by decide) rfl ?_
        refine j_goto hF (tgt := 4) dX10_loudOf_39 (by decide) ?_
        refine j_sub [2, 3, 1, 0] rfl ?_
        exact hK4 x7 x8 h
  have L4 : ∀ (n : Nat) (v2 : Int32) (v3 : Int32) , fl_X10_loudOf_4   o a1 σ n v2 v3 = some r0 → bzJ g 4 x σ 4 [(0, .ref (ga g o)), (1, .int a1), (2, .int v2), (3, .int v3)] [] := by
    intro  n
    induction n with
    | zero =>
      intro v2 v3   h
      cases h
    | succ n ih =>
      intro v2 v3   h
      exact J4  (fl_X10_loudOf_4   o a1 σ n) ih v2 v3   h
  refine j_iconst hF (v := 0) dX10_loudOf_0 (by decide) ?_
  refine j_istore_n hF (lv1 := [(2, .int 0), (0, .ref (ga g o)), (1, .int a1)]) dX10_loudOf_1 (by decide) rfl ?_
  refine j_iconst hF (v := 0) dX10_loudOf_2 (by decide) ?_
  refine j_istore_n hF (lv1 := [(3, .int 0), (2, .int 0), (0, .ref (ga g o)), (1, .int a1)]) dX10_loudOf_3 (by decide) rfl ?_
  refine j_sub [2, 3, 1, 0] rfl ?_
  exact L4 2000 0 0 h
def fb_X10_orders_4 (K4 : Int32 → Int32 → Option Int32) (a0 : Int32) (v1 : Int32) (v2 : Int32) : Option Int32 :=
  if a0 < v2 then (some v1) else (bzLet ((v1 * v2)) (fun x2 => bzLet (v2 + 1) (fun x3 => K4 x2 x3)))
def fl_X10_orders_4 (a0 : Int32) : Nat → Int32 → Int32 → Option Int32
  | 0, _, _ => none
  | n + 1, v1, v2 => fb_X10_orders_4   (fl_X10_orders_4   a0 n) a0 v1 v2
def f_X10_orders (a0 : Int32) : Option Int32 :=
  fl_X10_orders_4 a0 2000 1 2
set_option maxHeartbeats 4000000 in
set_option maxRecDepth 20000 in
theorem mt_X10_orders {g : bzGeo} {a0 : Int32} {σ : bzS} {r0 : Int32} (l : Launch) (h : f_X10_orders  a0 = some r0) : Met l yX10_orders (Cond.code yX10_orders cX10_orders 3 (some .int) :: GW) (bzR (1)) (va_Pc [.int a0] (bzP g σ)) (va_Qi (fun (r : Int32) (u : bzS) => r = r0 ∧ u = σ) (bzB g) (gA g)) 0 0 (gA g) := by
  unfold f_X10_orders at h
  refine j_start l (by decide +kernel) [.int a0] [(0, .int a0)] (Nat.le_of_ble_eq_true rfl) rfl (fun x hF hG => ?_)
  have J4 : (K4 : Int32 → Int32 → Option Int32) → (hK4 : ∀ (v1 : Int32) (v2 : Int32), K4 v1 v2 = some r0 → bzJ g 3 x σ 4 [(0, .int a0), (1, .int v1), (2, .int v2)] []) → ∀ (v1 : Int32) (v2 : Int32), fb_X10_orders_4 K4 a0 v1 v2 = some r0 → bzJ g 3 x σ 4 [(0, .int a0), (1, .int v1), (2, .int v2)] [] := by
    intro K4 hK4 v1 v2 h
    unfold fb_X10_orders_4 at h
    refine j_iload_n hF 2 dX10_orders_4 rfl ?_
    refine j_iload_n hF 0 dX10_orders_5 rfl ?_
    refine j_icmp_gt hF (tgt := 19) dX10_orders_6 (by decide) (fun c1 => ?_) (fun c1 => ?_)
    · replace h := bzIfT h c1
      refine j_iload_n hF 1 dX10_orders_19 rfl ?_
      exact j_iret hF hG dX10_orders_20 (Option.some.inj h) rfl
    · replace h := bzIfF h c1
      refine j_iload_n hF 1 dX10_orders_9 rfl ?_
      refine j_iload_n hF 2 dX10_orders_10 rfl ?_
      refine j_imul hF dX10_orders_11 ?_
      refine j_topi (fun x2 ex2 => ?_)
      replace h := bzLetE h ex2
      refine j_istore_n hF (lv1 := [(1, .int x2), (0, .int a0), (2, .int v2)]) dX10_orders_12 (by decide) rfl ?_
      obtain ⟨x3, ex3⟩ : ∃ y : Int32, y = v2 + 1 := ⟨_, rfl⟩
      replace h := bzLetE h ex3
      refine j_iinc hF (v := x3) (lv1 := [(2, .int x3), (1, .int x2), (0, .int a0)]) 2 dX10_orders_13 rfl (by rw [ex3]; rfl) (by decide) rfl ?_
      refine j_goto hF (tgt := 4) dX10_orders_16 (by decide) ?_
      refine j_sub [2, 1, 0] rfl ?_
      exact hK4 x2 x3 h
  have L4 : ∀ (n : Nat) (v1 : Int32) (v2 : Int32) , fl_X10_orders_4   a0 n v1 v2 = some r0 → bzJ g 3 x σ 4 [(0, .int a0), (1, .int v1), (2, .int v2)] [] := by
    intro  n
    induction n with
    | zero =>
      intro v1 v2   h
      cases h
    | succ n ih =>
      intro v1 v2   h
      exact J4  (fl_X10_orders_4   a0 n) ih v1 v2   h
  refine j_iconst hF (v := 1) dX10_orders_0 (by decide) ?_
  refine j_istore_n hF (lv1 := [(1, .int 1), (0, .int a0)]) dX10_orders_1 (by decide) rfl ?_
  refine j_iconst hF (v := 2) dX10_orders_2 (by decide) ?_
  refine j_istore_n hF (lv1 := [(2, .int 2), (1, .int 1), (0, .int a0)]) dX10_orders_3 (by decide) rfl ?_
  refine j_sub [2, 1, 0] rfl ?_
  exact L4 2000 1 2 h
def fb_X10_power_86 (K38 : Int32 → Int32 → Int32 → Int32 → bzS → Option (Int32 × bzS)) (o : Nat) (a1 : Int32) (v2 : Int32) (v3 : Int32) (v4 : Int32) (v5 : Int32) (s0 : Int32) (σ1 : bzS) : Option (Int32 × bzS) :=
  if s0 = 0 then (bzLet ((v4 + 0)) (fun x10 => bzLet (v5 + 1) (fun x11 => K38 v2 v3 x10 x11 σ1))) else (bzBd (f_X10_ones v5) (fun x13 => bzBd (f_X10_orders x13) (fun x15 => bzBd (f_X10_ones v5) (fun x17 => bzBd (f_X10_orders ((((σ1 (ly o 0) 2) - 1) - x17))) (fun x19 => bzLet ((v4 + (x15 * x19))) (fun x20 => bzLet (v5 + 1) (fun x21 => K38 v2 v3 x20 x21 σ1)))))))
def fb_X10_power_38 (K38 : Int32 → Int32 → Int32 → Int32 → bzS → Option (Int32 × bzS)) (o : Nat) (a1 : Int32) (v2 : Int32) (v3 : Int32) (v4 : Int32) (v5 : Int32) (σ1 : bzS) : Option (Int32 × bzS) :=
  if v2 < v5 then (some (v4, σ1)) else (if ((v5 >>> (a1 &&& 31)) &&& 1) = 0 then (bzBd (f_X10_loudOf o v5 σ1) (fun x23 => if v3 < (2 * x23) then (fb_X10_power_86 K38 o a1 v2 v3 v4 v5 0 σ1) else (bzBd (f_X10_loudOf o ((v5 ||| (1 <<< (a1 &&& 31)))) σ1) (fun x26 => if (2 * x26) ≤ v3 then (fb_X10_power_86 K38 o a1 v2 v3 v4 v5 0 σ1) else (fb_X10_power_86 K38 o a1 v2 v3 v4 v5 1 σ1))))) else (fb_X10_power_86 K38 o a1 v2 v3 v4 v5 0 σ1))
def fl_X10_power_38 (o : Nat) (a1 : Int32) : Nat → Int32 → Int32 → Int32 → Int32 → bzS → Option (Int32 × bzS)
  | 0, _, _, _, _, _ => none
  | n + 1, v2, v3, v4, v5, σ1 => fb_X10_power_38   (fl_X10_power_38   o a1 n) o a1 v2 v3 v4 v5 σ1
def f_X10_power (o : Nat) (a1 : Int32) (σ : bzS) : Option (Int32 × bzS) :=
  bzGd (kd o = 10) (bzBd (f_X10_isVisitor o a1 σ) (fun x2 => if x2 = 0 then (bzBp (f_X10_errs o ((-1000000001)) σ) (fun x29 σ30 => some (x29, σ30))) else (bzLet (((1 <<< ((σ (ly o 0) 2) &&& 31)) - 1)) (fun x4 => bzBd (f_X10_loudOf o x4 σ) (fun x6 => fl_X10_power_38 o a1 2000 x4 x6 0 0 σ)))))
set_option maxHeartbeats 4000000 in
set_option maxRecDepth 20000 in
theorem mt_X10_power {g : bzGeo} {o : Nat} {a1 : Int32} {σ : bzS} {r0 : Int32} {σ0 : bzS} (l : Launch) (h : f_X10_power  o a1 σ = some (r0, σ0)) : Met l yX10_power (Cond.code yX10_power cX10_power 7 (some .int) :: GW) (bzR (3)) (va_Pc [.ref (ga g o), .int a1] (bzP g σ)) (va_Qi (fun (r : Int32) (u : bzS) => r = r0 ∧ u = σ0) (bzB g) (gA g)) 0 0 (gA g) := by
  unfold f_X10_power at h
  obtain ⟨ho, h⟩ := bzGdE h
  refine j_start l (by decide +kernel) [.ref (ga g o), .int a1] [(0, .ref (ga g o)), (1, .int a1)] (Nat.le_of_ble_eq_true rfl) rfl (fun x hF hG => ?_)
  have J86 : (K38 : Int32 → Int32 → Int32 → Int32 → bzS → Option (Int32 × bzS)) → (hK38 : ∀ (v2 : Int32) (v3 : Int32) (v4 : Int32) (v5 : Int32) (σ1 : bzS), K38 v2 v3 v4 v5 σ1 = some (r0, σ0) → bzJ g 7 x σ1 38 [(0, .ref (ga g o)), (1, .int a1), (2, .int v2), (3, .int v3), (4, .int v4), (5, .int v5)] []) → ∀ (v2 : Int32) (v3 : Int32) (v4 : Int32) (v5 : Int32) (s0 : Int32) (σ1 : bzS), fb_X10_power_86 K38 o a1 v2 v3 v4 v5 s0 σ1 = some (r0, σ0) → bzJ g 7 x σ1 86 [(0, .ref (ga g o)), (1, .int a1), (2, .int v2), (3, .int v3), (4, .int v4), (5, .int v5)] [.int s0] := by
    intro K38 hK38 v2 v3 v4 v5 s0 σ1 h
    unfold fb_X10_power_86 at h
    refine j_istore hF (lv1 := [(6, .int s0), (0, .ref (ga g o)), (1, .int a1), (2, .int v2), (3, .int v3), (4, .int v4), (5, .int v5)]) dX10_power_86 (by decide) rfl ?_
    refine j_iload hF 5 dX10_power_88 rfl ?_
    refine j_iload hF 0 dX10_power_90 rfl ?_
    refine j_if_eq hF (tgt := 124) dX10_power_92 (by decide) (fun c9 => ?_) (fun c9 => ?_)
    · replace h := bzIfT h c9
      refine j_iconst hF (v := 0) dX10_power_124 (by decide) ?_
      refine j_iadd hF dX10_power_125 ?_
      refine j_topi (fun x10 ex10 => ?_)
      replace h := bzLetE h ex10
      refine j_istore hF (lv1 := [(4, .int x10), (6, .int s0), (0, .ref (ga g o)), (1, .int a1), (2, .int v2), (3, .int v3), (5, .int v5)]) dX10_power_126 (by decide) rfl ?_
      obtain ⟨x11, ex11⟩ : ∃ y : Int32, y = v5 + 1 := ⟨_, rfl⟩
      replace h := bzLetE h ex11
      refine j_iinc hF (v := x11) (lv1 := [(5, .int x11), (4, .int x10), (6, .int s0), (0, .ref (ga g o)), (1, .int a1), (2, .int v2), (3, .int v3)]) 6 dX10_power_128 rfl (by rw [ex11]; rfl) (by decide) rfl ?_
      refine j_goto hF (tgt := 38) dX10_power_131 (by decide) ?_
      refine j_sub [3, 4, 5, 6, 1, 0] rfl ?_
      exact hK38 v2 v3 x10 x11 σ1 h
    · replace h := bzIfF h c9
      refine j_iload hF 6 dX10_power_95 rfl ?_
      obtain ⟨x13, e12, h⟩ := bzBdE h
      refine cs_X10_208 hF (fun l => mt_X10_ones l e12) (by decide) (Nat.le_of_ble_eq_true rfl) dX10_power_97 ?_
      obtain ⟨x15, e14, h⟩ := bzBdE h
      refine cs_X10_227 hF (fun l => mt_X10_orders l e14) (by decide) (Nat.le_of_ble_eq_true rfl) dX10_power_100 ?_
      refine j_aload_n hF 1 dX10_power_103 rfl ?_
      refine gf_X10_7 hF ho dX10_power_104 ?_
      refine j_iconst hF (v := 2) dX10_power_107 (by decide) ?_
      refine j_iald hF (c := 2) (kl_10_0 ho) (nl_10_0 ho) (by decide) (by decide) dX10_power_108 ?_
      refine j_iconst hF (v := 1) dX10_power_109 (by decide) ?_
      refine j_isub hF dX10_power_110 ?_
      refine j_iload hF 6 dX10_power_111 rfl ?_
      obtain ⟨x17, e16, h⟩ := bzBdE h
      refine cs_X10_208 hF (fun l => mt_X10_ones l e16) (by decide) (Nat.le_of_ble_eq_true rfl) dX10_power_113 ?_
      refine j_isub hF dX10_power_116 ?_
      obtain ⟨x19, e18, h⟩ := bzBdE h
      refine cs_X10_227 hF (fun l => mt_X10_orders l e18) (by decide) (Nat.le_of_ble_eq_true rfl) dX10_power_117 ?_
      refine j_imul hF dX10_power_120 ?_
      refine j_goto hF (tgt := 125) dX10_power_121 (by decide) ?_
      refine j_iadd hF dX10_power_125 ?_
      refine j_topi (fun x20 ex20 => ?_)
      replace h := bzLetE h ex20
      refine j_istore hF (lv1 := [(4, .int x20), (6, .int s0), (0, .ref (ga g o)), (1, .int a1), (2, .int v2), (3, .int v3), (5, .int v5)]) dX10_power_126 (by decide) rfl ?_
      obtain ⟨x21, ex21⟩ : ∃ y : Int32, y = v5 + 1 := ⟨_, rfl⟩
      replace h := bzLetE h ex21
      refine j_iinc hF (v := x21) (lv1 := [(5, .int x21), (4, .int x20), (6, .int s0), (0, .ref (ga g o)), (1, .int a1), (2, .int v2), (3, .int v3)]) 6 dX10_power_128 rfl (by rw [ex21]; rfl) (by decide) rfl ?_
      refine j_goto hF (tgt := 38) dX10_power_131 (by decide) ?_
      refine j_sub [3, 4, 5, 6, 1, 0] rfl ?_
      exact hK38 v2 v3 x20 x21 σ1 h
  have J38 : (K38 : Int32 → Int32 → Int32 → Int32 → bzS → Option (Int32 × bzS)) → (hK38 : ∀ (v2 : Int32) (v3 : Int32) (v4 : Int32) (v5 : Int32) (σ1 : bzS), K38 v2 v3 v4 v5 σ1 = some (r0, σ0) → bzJ g 7 x σ1 38 [(0, .ref (ga g o)), (1, .int a1), (2, .int v2), (3, .int v3), (4, .int v4), (5, .int v5)] []) → ∀ (v2 : Int32) (v3 : Int32) (v4 : Int32) (v5 : Int32) (σ1 : bzS), fb_X10_power_38 K38 o a1 v2 v3 v4 v5 σ1 = some (r0, σ0) → bzJ g 7 x σ1 38 [(0, .ref (ga g o)), (1, .int a1), (2, .int v2), (3, .int v3), (4, .int v4), (5, .int v5)] [] := by
    intro K38 hK38 v2 v3 v4 v5 σ1 h
    unfold fb_X10_power_38 at h
    refine j_iload hF 5 dX10_power_38 rfl ?_
    refine j_iload_n hF 2 dX10_power_40 rfl ?_
    refine j_icmp_gt hF (tgt := 134) dX10_power_41 (by decide) (fun c7 => ?_) (fun c7 => ?_)
    · replace h := bzIfT h c7
      refine j_iload hF 4 dX10_power_134 rfl ?_
      exact j_iret hF hG dX10_power_136 (bzRet h).1 (bzRet h).2
    · replace h := bzIfF h c7
      refine j_iload hF 5 dX10_power_44 rfl ?_
      refine j_iload_n hF 1 dX10_power_46 rfl ?_
      refine j_ishr hF dX10_power_47 ?_
      refine j_iconst hF (v := 1) dX10_power_48 (by decide) ?_
      refine j_iand hF dX10_power_49 ?_
      refine j_if_ne hF (tgt := 85) dX10_power_50 (by decide) (fun c8 => ?_) (fun c8 => ?_)
      · replace h := bzIfF h c8
        refine j_iconst hF (v := 0) dX10_power_85 (by decide) ?_
        exact J86 K38 hK38 v2 v3 v4 v5 0 σ1 h
      · replace h := bzIfT h c8
        refine j_iconst hF (v := 2) dX10_power_53 (by decide) ?_
        refine j_aload_n hF 0 dX10_power_54 rfl ?_
        refine j_iload hF 5 dX10_power_55 rfl ?_
        obtain ⟨x23, e22, h⟩ := bzBdE h
        refine cs_X10_224 hF ho (fun l => mt_X10_loudOf l e22) (by decide) (Nat.le_of_ble_eq_true rfl) dX10_power_57 ?_
        refine j_imul hF dX10_power_60 ?_
        refine j_iload_n hF 3 dX10_power_61 rfl ?_
        refine j_icmp_gt hF (tgt := 85) dX10_power_62 (by decide) (fun c24 => ?_) (fun c24 => ?_)
        · replace h := bzIfT h c24
          refine j_iconst hF (v := 0) dX10_power_85 (by decide) ?_
          exact J86 K38 hK38 v2 v3 v4 v5 0 σ1 h
        · replace h := bzIfF h c24
          refine j_iconst hF (v := 2) dX10_power_65 (by decide) ?_
          refine j_aload_n hF 0 dX10_power_66 rfl ?_
          refine j_iload hF 5 dX10_power_67 rfl ?_
          refine j_iconst hF (v := 1) dX10_power_69 (by decide) ?_
          refine j_iload_n hF 1 dX10_power_70 rfl ?_
          refine j_ishl hF dX10_power_71 ?_
          refine j_ior hF dX10_power_72 ?_
          obtain ⟨x26, e25, h⟩ := bzBdE h
          refine cs_X10_224 hF ho (fun l => mt_X10_loudOf l e25) (by decide) (Nat.le_of_ble_eq_true rfl) dX10_power_73 ?_
          refine j_imul hF dX10_power_76 ?_
          refine j_iload_n hF 3 dX10_power_77 rfl ?_
          refine j_icmp_le hF (tgt := 85) dX10_power_78 (by decide) (fun c27 => ?_) (fun c27 => ?_)
          · replace h := bzIfT h c27
            refine j_iconst hF (v := 0) dX10_power_85 (by decide) ?_
            exact J86 K38 hK38 v2 v3 v4 v5 0 σ1 h
          · replace h := bzIfF h c27
            refine j_iconst hF (v := 1) dX10_power_81 (by decide) ?_
            refine j_goto hF (tgt := 86) dX10_power_82 (by decide) ?_
            exact J86 K38 hK38 v2 v3 v4 v5 1 σ1 h
  have L38 : ∀ (n : Nat) (v2 : Int32) (v3 : Int32) (v4 : Int32) (v5 : Int32) (σ1 : bzS), fl_X10_power_38   o a1 n v2 v3 v4 v5 σ1 = some (r0, σ0) → bzJ g 7 x σ1 38 [(0, .ref (ga g o)), (1, .int a1), (2, .int v2), (3, .int v3), (4, .int v4), (5, .int v5)] [] := by
    intro  n
    induction n with
    | zero =>
      intro v2 v3 v4 v5 σ1  h
      cases h
    | succ n ih =>
      intro v2 v3 v4 v5 σ1  h
      exact J38  (fl_X10_power_38   o a1 n) ih v2 v3 v4 v5 σ1  h
  refine j_aload_n hF 0 dX10_power_0 rfl ?_
  refine j_iload_n hF 1 dX10_power_1 rfl ?_
  obtain ⟨x2, e1, h⟩ := bzBdE h
  refine cs_X10_80 hF ho (fun l => mt_X10_isVisitor l e1) (by decide) (Nat.le_of_ble_eq_true rfl) dX10_power_2 ?_
  refine j_if_ne hF (tgt := 15) dX10_power_5 (by decide) (fun c3 => ?_) (fun c3 => ?_)
  · replace h := bzIfF h c3
    refine j_iconst hF (v := 1) dX10_power_15 (by decide) ?_
    refine j_aload_n hF 0 dX10_power_16 rfl ?_
    refine gf_X10_7 hF ho dX10_power_17 ?_
    refine j_iconst hF (v := 2) dX10_power_20 (by decide) ?_
    refine j_iald hF (c := 2) (kl_10_0 ho) (nl_10_0 ho) (by decide) (by decide) dX10_power_21 ?_
    refine j_ishl hF dX10_power_22 ?_
    refine j_iconst hF (v := 1) dX10_power_23 (by decide) ?_
    refine j_isub hF dX10_power_24 ?_
    refine j_topi (fun x4 ex4 => ?_)
    replace h := bzLetE h ex4
    refine j_istore_n hF (lv1 := [(2, .int x4), (0, .ref (ga g o)), (1, .int a1)]) dX10_power_25 (by decide) rfl ?_
    refine j_aload_n hF 1 dX10_power_26 rfl ?_
    refine j_iload_n hF 0 dX10_power_27 rfl ?_
    obtain ⟨x6, e5, h⟩ := bzBdE h
    refine cs_X10_224 hF ho (fun l => mt_X10_loudOf l e5) (by decide) (Nat.le_of_ble_eq_true rfl) dX10_power_28 ?_
    refine j_istore_n hF (lv1 := [(3, .int x6), (2, .int x4), (0, .ref (ga g o)), (1, .int a1)]) dX10_power_31 (by decide) rfl ?_
    refine j_iconst hF (v := 0) dX10_power_32 (by decide) ?_
    refine j_istore hF (lv1 := [(4, .int 0), (3, .int x6), (2, .int x4), (0, .ref (ga g o)), (1, .int a1)]) dX10_power_33 (by decide) rfl ?_
    refine j_iconst hF (v := 0) dX10_power_35 (by decide) ?_
    refine j_istore hF (lv1 := [(5, .int 0), (4, .int 0), (3, .int x6), (2, .int x4), (0, .ref (ga g o)), (1, .int a1)]) dX10_power_36 (by decide) rfl ?_
    refine j_sub [4, 5, 3, 2, 1, 0] rfl ?_
    exact L38 2000 x4 x6 0 0 σ h
  · replace h := bzIfT h c3
    refine j_aload_n hF 0 dX10_power_8 rfl ?_
    refine j_ldc hF (v := (-1000000001)) kc_X10_59 dX10_power_9 ?_
    obtain ⟨x29, σ30, e28, h⟩ := bzBpE h
    refine cs_X10_60 hF ho (fun l => mt_X10_errs l e28) (by decide) (Nat.le_of_ble_eq_true rfl) dX10_power_11 ?_
    exact j_iret hF hG dX10_power_14  (bzRet h).1 (bzRet h).2
def f_X10_stands (a0 : Int32) : Option Int32 :=
  bzBd (f_X10_ones a0) (fun x2 => if 2 < x2 then (some 0) else (if (a0 &&& 3) = 3 then (some 0) else (if (a0 &&& 12) = 12 then (some 0) else (some 1))))
set_option maxHeartbeats 4000000 in
set_option maxRecDepth 20000 in
theorem mt_X10_stands {g : bzGeo} {a0 : Int32} {σ : bzS} {r0 : Int32} (l : Launch) (h : f_X10_stands  a0 = some r0) : Met l yX10_stands (Cond.code yX10_stands cX10_stands 1 (some .boolean) :: GW) (bzR (2)) (va_Pc [.int a0] (bzP g σ)) (va_Qi (fun (r : Int32) (u : bzS) => r = r0 ∧ u = σ) (bzB g) (gA g)) 0 0 (gA g) := by
  unfold f_X10_stands at h
  refine j_start l (by decide +kernel) [.int a0] [(0, .int a0)] (Nat.le_of_ble_eq_true rfl) rfl (fun x hF hG => ?_)
  refine j_iload_n hF 0 dX10_stands_0 rfl ?_
  obtain ⟨x2, e1, h⟩ := bzBdE h
  refine cs_X10_208 hF (fun l => mt_X10_ones l e1) (by decide) (Nat.le_of_ble_eq_true rfl) dX10_stands_1 ?_
  refine j_iconst hF (v := 2) dX10_stands_4 (by decide) ?_
  refine j_icmp_gt hF (tgt := 28) dX10_stands_5 (by decide) (fun c3 => ?_) (fun c3 => ?_)
  · replace h := bzIfT h c3
    refine j_iconst hF (v := 0) dX10_stands_28 (by decide) ?_
    exact j_zret hF hG dX10_stands_29 (by decide)  (Option.some.inj h) rfl
  · replace h := bzIfF h c3
    refine j_iload_n hF 0 dX10_stands_8 rfl ?_
    refine j_iconst hF (v := 3) dX10_stands_9 (by decide) ?_
    refine j_iand hF dX10_stands_10 ?_
    refine j_iconst hF (v := 3) dX10_stands_11 (by decide) ?_
    refine j_icmp_eq hF (tgt := 28) dX10_stands_12 (by decide) (fun c4 => ?_) (fun c4 => ?_)
    · replace h := bzIfT h c4
      refine j_iconst hF (v := 0) dX10_stands_28 (by decide) ?_
      exact j_zret hF hG dX10_stands_29 (by decide)  (Option.some.inj h) rfl
    · replace h := bzIfF h c4
      refine j_iload_n hF 0 dX10_stands_15 rfl ?_
      refine j_bipush hF (v := 12) dX10_stands_16 (by decide) ?_
      refine j_iand hF dX10_stands_18 ?_
      refine j_bipush hF (v := 12) dX10_stands_19 (by decide) ?_
      refine j_icmp_eq hF (tgt := 28) dX10_stands_21 (by decide) (fun c5 => ?_) (fun c5 => ?_)
      · replace h := bzIfT h c5
        refine j_iconst hF (v := 0) dX10_stands_28 (by decide) ?_
        exact j_zret hF hG dX10_stands_29 (by decide)  (Option.some.inj h) rfl
      · replace h := bzIfF h c5
        refine j_iconst hF (v := 1) dX10_stands_24 (by decide) ?_
        refine j_goto hF (tgt := 29) dX10_stands_25 (by decide) ?_
        exact j_zret hF hG dX10_stands_29 (by decide)  (Option.some.inj h) rfl
def fb_X10_gait_136 (K62 : Int32 → bzS → Option (Int32 × bzS)) (K136 : Int32 → Int32 → bzS → Option (Int32 × bzS)) (o : Nat) (a1 : Int32) (v2 : Int32) (v3 : Int32) (σ1 : bzS) : Option (Int32 × bzS) :=
  if 16 ≤ v3 then (bzLet (v2 + 1) (fun x9 => K62 x9 σ1)) else (bzGd (bzIn v3 16) (bzGd (bzIn v3 16) (bzLet (bzSt σ1 (ly o 20) v3.toNatClampNeg (σ1 (ly o 21) v3.toNatClampNeg)) (fun σ12 => bzLet (v3 + 1) (fun x13 => K136 v2 x13 σ12)))))
def fl_X10_gait_136 (K62 : Int32 → bzS → Option (Int32 × bzS)) (o : Nat) (a1 : Int32) : Nat → Int32 → Int32 → bzS → Option (Int32 × bzS)
  | 0, _, _, _ => none
  | n + 1, v2, v3, σ1 => fb_X10_gait_136  K62 (fl_X10_gait_136  K62 o a1 n) o a1 v2 v3 σ1
def fb_X10_gait_69 (K62 : Int32 → bzS → Option (Int32 × bzS)) (K69 : Int32 → Int32 → bzS → Option (Int32 × bzS)) (o : Nat) (a1 : Int32) (v2 : Int32) (v3 : Int32) (σ1 : bzS) : Option (Int32 × bzS) :=
  if 16 ≤ v3 then (fl_X10_gait_136 K62 o a1 2000 v2 0 σ1) else (bzBd (f_X10_stands v3) (fun x15 => if x15 = 0 then (bzGd (bzIn v3 16) (bzLet (bzSt σ1 (ly o 21) v3.toNatClampNeg 0) (fun σ18 => bzLet (v3 + 1) (fun x19 => K69 v2 x19 σ18)))) else (bzGd (bzIn (v3 ^^^ 1) 16) (bzGd (bzIn (v3 ^^^ 2) 16) (bzGd (bzIn (v3 ^^^ 4) 16) (bzGd (bzIn (v3 ^^^ 8) 16) (bzGd (bzIn v3 16) (bzLet (bzSt σ1 (ly o 21) v3.toNatClampNeg ((((σ1 (ly o 20) (((v3 ^^^ 1)).toNatClampNeg)) + (σ1 (ly o 20) (((v3 ^^^ 2)).toNatClampNeg))) + (σ1 (ly o 20) (((v3 ^^^ 4)).toNatClampNeg))) + (σ1 (ly o 20) (((v3 ^^^ 8)).toNatClampNeg)))) (fun σ25 => bzLet (v3 + 1) (fun x26 => K69 v2 x26 σ25))))))))))
def fl_X10_gait_69 (K62 : Int32 → bzS → Option (Int32 × bzS)) (o : Nat) (a1 : Int32) : Nat → Int32 → Int32 → bzS → Option (Int32 × bzS)
  | 0, _, _, _ => none
  | n + 1, v2, v3, σ1 => fb_X10_gait_69  K62 (fl_X10_gait_69  K62 o a1 n) o a1 v2 v3 σ1
def fb_X10_gait_62 (K62 : Int32 → bzS → Option (Int32 × bzS)) (o : Nat) (a1 : Int32) (v2 : Int32) (σ1 : bzS) : Option (Int32 × bzS) :=
  if a1 ≤ v2 then (bzGd (bzIn (σ1 (ly o 0) 7) 16) (some ((σ1 (ly o 20) (((σ1 (ly o 0) 7)).toNatClampNeg)), σ1))) else (fl_X10_gait_69 K62 o a1 2000 v2 0 σ1)
def fl_X10_gait_62 (o : Nat) (a1 : Int32) : Nat → Int32 → bzS → Option (Int32 × bzS)
  | 0, _, _ => none
  | n + 1, v2, σ1 => fb_X10_gait_62   (fl_X10_gait_62   o a1 n) o a1 v2 σ1
def fb_X10_gait_19 (K19 : Int32 → bzS → Option (Int32 × bzS)) (o : Nat) (a1 : Int32) (v2 : Int32) (σ1 : bzS) : Option (Int32 × bzS) :=
  if 16 ≤ v2 then (fl_X10_gait_62 o a1 2000 0 σ1) else (if v2 = (σ1 (ly o 0) 7) then (bzBd (f_X10_stands v2) (fun x32 => if x32 = 0 then (bzGd (bzIn v2 16) (bzLet (bzSt σ1 (ly o 20) v2.toNatClampNeg 0) (fun σ35 => bzLet (v2 + 1) (fun x36 => K19 x36 σ35)))) else (bzGd (bzIn v2 16) (bzLet (bzSt σ1 (ly o 20) v2.toNatClampNeg 1) (fun σ38 => bzLet (v2 + 1) (fun x39 => K19 x39 σ38)))))) else (bzGd (bzIn v2 16) (bzLet (bzSt σ1 (ly o 20) v2.toNatClampNeg 0) (fun σ29 => bzLet (v2 + 1) (fun x30 => K19 x30 σ29)))))
def fl_X10_gait_19 (o : Nat) (a1 : Int32) : Nat → Int32 → bzS → Option (Int32 × bzS)
  | 0, _, _ => none
  | n + 1, v2, σ1 => fb_X10_gait_19   (fl_X10_gait_19   o a1 n) o a1 v2 σ1
def f_X10_gait (o : Nat) (a1 : Int32) (σ : bzS) : Option (Int32 × bzS) :=
  bzGd (kd o = 10) (bzBd (f_X10_in a1 0 12) (fun x2 => if x2 = 0 then (bzBp (f_X10_errs o ((-1000000001)) σ) (fun x41 σ42 => some (x41, σ42))) else (fl_X10_gait_19 o a1 2000 0 σ)))
set_option maxHeartbeats 4000000 in
set_option maxRecDepth 20000 in
theorem mt_X10_gait {g : bzGeo} {o : Nat} {a1 : Int32} {σ : bzS} {r0 : Int32} {σ0 : bzS} (l : Launch) (h : f_X10_gait  o a1 σ = some (r0, σ0)) : Met l yX10_gait (Cond.code yX10_gait cX10_gait 4 (some .int) :: GW) (bzR (3)) (va_Pc [.ref (ga g o), .int a1] (bzP g σ)) (va_Qi (fun (r : Int32) (u : bzS) => r = r0 ∧ u = σ0) (bzB g) (gA g)) 0 0 (gA g) := by
  unfold f_X10_gait at h
  obtain ⟨ho, h⟩ := bzGdE h
  refine j_start l (by decide +kernel) [.ref (ga g o), .int a1] [(0, .ref (ga g o)), (1, .int a1)] (Nat.le_of_ble_eq_true rfl) rfl (fun x hF hG => ?_)
  have J136 : (K62 : Int32 → bzS → Option (Int32 × bzS)) → (hK62 : ∀ (v2 : Int32) (σ1 : bzS), K62 v2 σ1 = some (r0, σ0) → bzJ g 4 x σ1 62 [(0, .ref (ga g o)), (1, .int a1), (2, .int v2)] []) → (K136 : Int32 → Int32 → bzS → Option (Int32 × bzS)) → (hK136 : ∀ (v2 : Int32) (v3 : Int32) (σ1 : bzS), K136 v2 v3 σ1 = some (r0, σ0) → bzJ g 4 x σ1 136 [(0, .ref (ga g o)), (1, .int a1), (2, .int v2), (3, .int v3)] []) → ∀ (v2 : Int32) (v3 : Int32) (σ1 : bzS), fb_X10_gait_136 K62 K136 o a1 v2 v3 σ1 = some (r0, σ0) → bzJ g 4 x σ1 136 [(0, .ref (ga g o)), (1, .int a1), (2, .int v2), (3, .int v3)] [] := by
    intro K62 hK62 K136 hK136 v2 v3 σ1 h
    unfold fb_X10_gait_136 at h
    refine j_iload_n hF 3 dX10_gait_136 rfl ?_
    refine j_bipush hF (v := 16) dX10_gait_137 (by decide) ?_
    refine j_icmp_ge hF (tgt := 160) dX10_gait_139 (by decide) (fun c8 => ?_) (fun c8 => ?_)
    · replace h := bzIfT h c8
      obtain ⟨x9, ex9⟩ : ∃ y : Int32, y = v2 + 1 := ⟨_, rfl⟩
      replace h := bzLetE h ex9
      refine j_iinc hF (v := x9) (lv1 := [(2, .int x9), (0, .ref (ga g o)), (1, .int a1), (3, .int v3)]) 2 dX10_gait_160 rfl (by rw [ex9]; rfl) (by decide) rfl ?_
      refine j_goto hF (tgt := 62) dX10_gait_163 (by decide) ?_
      refine j_sub [1, 2, 0] rfl ?_
      exact hK62 x9 σ1 h
    · replace h := bzIfF h c8
      refine j_aload_n hF 0 dX10_gait_142 rfl ?_
      refine gf_X10_41 hF ho dX10_gait_143 ?_
      refine j_iload_n hF 3 dX10_gait_146 rfl ?_
      refine j_aload_n hF 0 dX10_gait_147 rfl ?_
      refine gf_X10_44 hF ho dX10_gait_148 ?_
      refine j_iload_n hF 3 dX10_gait_151 rfl ?_
      obtain ⟨g10, h⟩ := bzGdE h
      refine j_iald hF (c := v3.toNatClampNeg) (kl_10_21 ho) (nl_10_21 ho) g10 rfl dX10_gait_152 ?_
      obtain ⟨g11, h⟩ := bzGdE h
      refine j_iast hF (c := v3.toNatClampNeg) (kl_10_20 ho) (nl_10_20 ho) g11 rfl dX10_gait_153 ?_
      refine j_s (fun σ12 eσ12 => ?_)
      replace h := bzLetE h eσ12
      obtain ⟨x13, ex13⟩ : ∃ y : Int32, y = v3 + 1 := ⟨_, rfl⟩
      replace h := bzLetE h ex13
      refine j_iinc hF (v := x13) (lv1 := [(3, .int x13), (0, .ref (ga g o)), (1, .int a1), (2, .int v2)]) 3 dX10_gait_154 rfl (by rw [ex13]; rfl) (by decide) rfl ?_
      refine j_goto hF (tgt := 136) dX10_gait_157 (by decide) ?_
      refine j_sub [1, 2, 3, 0] rfl ?_
      exact hK136 v2 x13 σ12 h
  have L136 : (K62 : Int32 → bzS → Option (Int32 × bzS)) → (hK62 : ∀ (v2 : Int32) (σ1 : bzS),  K62 v2 σ1 = some (r0, σ0) → bzJ g 4 x σ1 62 [(0, .ref (ga g o)), (1, .int a1), (2, .int v2)] []) → ∀ (n : Nat) (v2 : Int32) (v3 : Int32) (σ1 : bzS), fl_X10_gait_136  K62 o a1 n v2 v3 σ1 = some (r0, σ0) → bzJ g 4 x σ1 136 [(0, .ref (ga g o)), (1, .int a1), (2, .int v2), (3, .int v3)] [] := by
    intro K62 hK62 n
    induction n with
    | zero =>
      intro v2 v3 σ1  h
      cases h
    | succ n ih =>
      intro v2 v3 σ1  h
      exact J136 K62 hK62 (fl_X10_gait_136  K62 o a1 n) ih v2 v3 σ1  h
  have J69 : (K62 : Int32 → bzS → Option (Int32 × bzS)) → (hK62 : ∀ (v2 : Int32) (σ1 : bzS), K62 v2 σ1 = some (r0, σ0) → bzJ g 4 x σ1 62 [(0, .ref (ga g o)), (1, .int a1), (2, .int v2)] []) → (K69 : Int32 → Int32 → bzS → Option (Int32 × bzS)) → (hK69 : ∀ (v2 : Int32) (v3 : Int32) (σ1 : bzS), K69 v2 v3 σ1 = some (r0, σ0) → bzJ g 4 x σ1 69 [(0, .ref (ga g o)), (1, .int a1), (2, .int v2), (3, .int v3)] []) → ∀ (v2 : Int32) (v3 : Int32) (σ1 : bzS), fb_X10_gait_69 K62 K69 o a1 v2 v3 σ1 = some (r0, σ0) → bzJ g 4 x σ1 69 [(0, .ref (ga g o)), (1, .int a1), (2, .int v2), (3, .int v3)] [] := by
    intro K62 hK62 K69 hK69 v2 v3 σ1 h
    unfold fb_X10_gait_69 at h
    refine j_iload_n hF 3 dX10_gait_69 rfl ?_
    refine j_bipush hF (v := 16) dX10_gait_70 (by decide) ?_
    refine j_icmp_ge hF (tgt := 134) dX10_gait_72 (by decide) (fun c7 => ?_) (fun c7 => ?_)
    · replace h := bzIfT h c7
      refine j_iconst hF (v := 0) dX10_gait_134 (by decide) ?_
      refine j_istore_n hF (lv1 := [(3, .int 0), (0, .ref (ga g o)), (1, .int a1), (2, .int v2)]) dX10_gait_135 (by decide) rfl ?_
      refine j_sub [1, 2, 3, 0] rfl ?_
      exact L136 K62 hK62 2000 v2 0 σ1 h
    · replace h := bzIfF h c7
      refine j_aload_n hF 0 dX10_gait_75 rfl ?_
      refine gf_X10_44 hF ho dX10_gait_76 ?_
      refine j_iload_n hF 3 dX10_gait_79 rfl ?_
      refine j_iload_n hF 3 dX10_gait_80 rfl ?_
      obtain ⟨x15, e14, h⟩ := bzBdE h
      refine cs_X10_230 hF (fun l => mt_X10_stands l e14) (by decide) (Nat.le_of_ble_eq_true rfl) dX10_gait_81 ?_
      refine j_if_eq hF (tgt := 126) dX10_gait_84 (by decide) (fun c16 => ?_) (fun c16 => ?_)
      · replace h := bzIfT h c16
        refine j_iconst hF (v := 0) dX10_gait_126 (by decide) ?_
        obtain ⟨g17, h⟩ := bzGdE h
        refine j_iast hF (c := v3.toNatClampNeg) (kl_10_21 ho) (nl_10_21 ho) g17 rfl dX10_gait_127 ?_
        refine j_s (fun σ18 eσ18 => ?_)
        replace h := bzLetE h eσ18
        obtain ⟨x19, ex19⟩ : ∃ y : Int32, y = v3 + 1 := ⟨_, rfl⟩
        replace h := bzLetE h ex19
        refine j_iinc hF (v := x19) (lv1 := [(3, .int x19), (0, .ref (ga g o)), (1, .int a1), (2, .int v2)]) 3 dX10_gait_128 rfl (by rw [ex19]; rfl) (by decide) rfl ?_
        refine j_goto hF (tgt := 69) dX10_gait_131 (by decide) ?_
        refine j_sub [1, 2, 3, 0] rfl ?_
        exact hK69 v2 x19 σ18 h
      · replace h := bzIfF h c16
        refine j_aload_n hF 0 dX10_gait_87 rfl ?_
        refine gf_X10_41 hF ho dX10_gait_88 ?_
        refine j_iload_n hF 3 dX10_gait_91 rfl ?_
        refine j_iconst hF (v := 1) dX10_gait_92 (by decide) ?_
        refine j_ixor hF dX10_gait_93 ?_
        obtain ⟨g20, h⟩ := bzGdE h
        refine j_iald hF (c := ((v3 ^^^ 1)).toNatClampNeg) (kl_10_20 ho) (nl_10_20 ho) g20 rfl dX10_gait_94 ?_
        refine j_aload_n hF 0 dX10_gait_95 rfl ?_
        refine gf_X10_41 hF ho dX10_gait_96 ?_
        refine j_iload_n hF 3 dX10_gait_99 rfl ?_
        refine j_iconst hF (v := 2) dX10_gait_100 (by decide) ?_
        refine j_ixor hF dX10_gait_101 ?_
        obtain ⟨g21, h⟩ := bzGdE h
        refine j_iald hF (c := ((v3 ^^^ 2)).toNatClampNeg) (kl_10_20 ho) (nl_10_20 ho) g21 rfl dX10_gait_102 ?_
        refine j_iadd hF dX10_gait_103 ?_
        refine j_aload_n hF 0 dX10_gait_104 rfl ?_
        refine gf_X10_41 hF ho dX10_gait_105 ?_
        refine j_iload_n hF 3 dX10_gait_108 rfl ?_
        refine j_iconst hF (v := 4) dX10_gait_109 (by decide) ?_
        refine j_ixor hF dX10_gait_110 ?_
        obtain ⟨g22, h⟩ := bzGdE h
        refine j_iald hF (c := ((v3 ^^^ 4)).toNatClampNeg) (kl_10_20 ho) (nl_10_20 ho) g22 rfl dX10_gait_111 ?_
        refine j_iadd hF dX10_gait_112 ?_
        refine j_aload_n hF 0 dX10_gait_113 rfl ?_
        refine gf_X10_41 hF ho dX10_gait_114 ?_
        refine j_iload_n hF 3 dX10_gait_117 rfl ?_
        refine j_bipush hF (v := 8) dX10_gait_118 (by decide) ?_
        refine j_ixor hF dX10_gait_120 ?_
        obtain ⟨g23, h⟩ := bzGdE h
        refine j_iald hF (c := ((v3 ^^^ 8)).toNatClampNeg) (kl_10_20 ho) (nl_10_20 ho) g23 rfl dX10_gait_121 ?_
        refine j_iadd hF dX10_gait_122 ?_
        refine j_goto hF (tgt := 127) dX10_gait_123 (by decide) ?_
        obtain ⟨g24, h⟩ := bzGdE h
        refine j_iast hF (c := v3.toNatClampNeg) (kl_10_21 ho) (nl_10_21 ho) g24 rfl dX10_gait_127 ?_
        refine j_s (fun σ25 eσ25 => ?_)
        replace h := bzLetE h eσ25
        obtain ⟨x26, ex26⟩ : ∃ y : Int32, y = v3 + 1 := ⟨_, rfl⟩
        replace h := bzLetE h ex26
        refine j_iinc hF (v := x26) (lv1 := [(3, .int x26), (0, .ref (ga g o)), (1, .int a1), (2, .int v2)]) 3 dX10_gait_128 rfl (by rw [ex26]; rfl) (by decide) rfl ?_
        refine j_goto hF (tgt := 69) dX10_gait_131 (by decide) ?_
        refine j_sub [1, 2, 3, 0] rfl ?_
        exact hK69 v2 x26 σ25 h
  have L69 : (K62 : Int32 → bzS → Option (Int32 × bzS)) → (hK62 : ∀ (v2 : Int32) (σ1 : bzS),  K62 v2 σ1 = some (r0, σ0) → bzJ g 4 x σ1 62 [(0, .ref (ga g o)), (1, .int a1), (2, .int v2)] []) → ∀ (n : Nat) (v2 : Int32) (v3 : Int32) (σ1 : bzS), fl_X10_gait_69  K62 o a1 n v2 v3 σ1 = some (r0, σ0) → bzJ g 4 x σ1 69 [(0, .ref (ga g o)), (1, .int a1), (2, .int v2), (3, .int v3)] [] := by
    intro K62 hK62 n
    induction n with
    | zero =>
      intro v2 v3 σ1  h
      cases h
    | succ n ih =>
      intro v2 v3 σ1  h
      exact J69 K62 hK62 (fl_X10_gait_69  K62 o a1 n) ih v2 v3 σ1  h
  have J62 : (K62 : Int32 → bzS → Option (Int32 × bzS)) → (hK62 : ∀ (v2 : Int32) (σ1 : bzS), K62 v2 σ1 = some (r0, σ0) → bzJ g 4 x σ1 62 [(0, .ref (ga g o)), (1, .int a1), (2, .int v2)] []) → ∀ (v2 : Int32) (σ1 : bzS), fb_X10_gait_62 K62 o a1 v2 σ1 = some (r0, σ0) → bzJ g 4 x σ1 62 [(0, .ref (ga g o)), (1, .int a1), (2, .int v2)] [] := by
    intro K62 hK62 v2 σ1 h
    unfold fb_X10_gait_62 at h
    refine j_iload_n hF 2 dX10_gait_62 rfl ?_
    refine j_iload_n hF 1 dX10_gait_63 rfl ?_
    refine j_icmp_ge hF (tgt := 166) dX10_gait_64 (by decide) (fun c5 => ?_) (fun c5 => ?_)
    · replace h := bzIfT h c5
      refine j_aload_n hF 0 dX10_gait_166 rfl ?_
      refine gf_X10_41 hF ho dX10_gait_167 ?_
      refine j_aload_n hF 0 dX10_gait_170 rfl ?_
      refine gf_X10_7 hF ho dX10_gait_171 ?_
      refine j_bipush hF (v := 7) dX10_gait_174 (by decide) ?_
      refine j_iald hF (c := 7) (kl_10_0 ho) (nl_10_0 ho) (by decide) (by decide) dX10_gait_176 ?_
      obtain ⟨g6, h⟩ := bzGdE h
      refine j_iald hF (c := ((σ1 (ly o 0) 7)).toNatClampNeg) (kl_10_20 ho) (nl_10_20 ho) g6 rfl dX10_gait_177 ?_
      exact j_iret hF hG dX10_gait_178 (bzRet h).1 (bzRet h).2
    · replace h := bzIfF h c5
      refine j_iconst hF (v := 0) dX10_gait_67 (by decide) ?_
      refine j_istore_n hF (lv1 := [(3, .int 0), (0, .ref (ga g o)), (1, .int a1), (2, .int v2)]) dX10_gait_68 (by decide) rfl ?_
      refine j_sub [1, 2, 3, 0] rfl ?_
      exact L69 K62 hK62 2000 v2 0 σ1 h
  have L62 : ∀ (n : Nat) (v2 : Int32) (σ1 : bzS), fl_X10_gait_62   o a1 n v2 σ1 = some (r0, σ0) → bzJ g 4 x σ1 62 [(0, .ref (ga g o)), (1, .int a1), (2, .int v2)] [] := by
    intro  n
    induction n with
    | zero =>
      intro v2 σ1  h
      cases h
    | succ n ih =>
      intro v2 σ1  h
      exact J62  (fl_X10_gait_62   o a1 n) ih v2 σ1  h
  have J19 : (K19 : Int32 → bzS → Option (Int32 × bzS)) → (hK19 : ∀ (v2 : Int32) (σ1 : bzS), K19 v2 σ1 = some (r0, σ0) → bzJ g 4 x σ1 19 [(0, .ref (ga g o)), (1, .int a1), (2, .int v2)] []) → ∀ (v2 : Int32) (σ1 : bzS), fb_X10_gait_19 K19 o a1 v2 σ1 = some (r0, σ0) → bzJ g 4 x σ1 19 [(0, .ref (ga g o)), (1, .int a1), (2, .int v2)] [] := by
    intro K19 hK19 v2 σ1 h
    unfold fb_X10_gait_19 at h
    refine j_iload_n hF 2 dX10_gait_19 rfl ?_
    refine j_bipush hF (v := 16) dX10_gait_20 (by decide) ?_
    refine j_icmp_ge hF (tgt := 60) dX10_gait_22 (by decide) (fun c4 => ?_) (fun c4 => ?_)
    · replace h := bzIfT h c4
      refine j_iconst hF (v := 0) dX10_gait_60 (by decide) ?_
      refine j_istore_n hF (lv1 := [(2, .int 0), (0, .ref (ga g o)), (1, .int a1)]) dX10_gait_61 (by decide) rfl ?_
      refine j_sub [1, 2, 0] rfl ?_
      exact L62 2000 0 σ1 h
    · replace h := bzIfF h c4
      refine j_aload_n hF 0 dX10_gait_25 rfl ?_
      refine gf_X10_41 hF ho dX10_gait_26 ?_
      refine j_iload_n hF 2 dX10_gait_29 rfl ?_
      refine j_iload_n hF 2 dX10_gait_30 rfl ?_
      refine j_aload_n hF 0 dX10_gait_31 rfl ?_
      refine gf_X10_7 hF ho dX10_gait_32 ?_
      refine j_bipush hF (v := 7) dX10_gait_35 (by decide) ?_
      refine j_iald hF (c := 7) (kl_10_0 ho) (nl_10_0 ho) (by decide) (by decide) dX10_gait_37 ?_
      refine j_icmp_ne hF (tgt := 52) dX10_gait_38 (by decide) (fun c27 => ?_) (fun c27 => ?_)
      · replace h := bzIfF h c27
        refine j_iconst hF (v := 0) dX10_gait_52 (by decide) ?_
        obtain ⟨g28, h⟩ := bzGdE h
        refine j_iast hF (c := v2.toNatClampNeg) (kl_10_20 ho) (nl_10_20 ho) g28 rfl dX10_gait_53 ?_
        refine j_s (fun σ29 eσ29 => ?_)
        replace h := bzLetE h eσ29
        obtain ⟨x30, ex30⟩ : ∃ y : Int32, y = v2 + 1 := ⟨_, rfl⟩
        replace h := bzLetE h ex30
        refine j_iinc hF (v := x30) (lv1 := [(2, .int x30), (0, .ref (ga g o)), (1, .int a1)]) 2 dX10_gait_54 rfl (by rw [ex30]; rfl) (by decide) rfl ?_
        refine j_goto hF (tgt := 19) dX10_gait_57 (by decide) ?_
        refine j_sub [1, 2, 0] rfl ?_
        exact hK19 x30 σ29 h
      · replace h := bzIfT h c27
        refine j_iload_n hF 2 dX10_gait_41 rfl ?_
        obtain ⟨x32, e31, h⟩ := bzBdE h
        refine cs_X10_230 hF (fun l => mt_X10_stands l e31) (by decide) (Nat.le_of_ble_eq_true rfl) dX10_gait_42 ?_
        refine j_if_eq hF (tgt := 52) dX10_gait_45 (by decide) (fun c33 => ?_) (fun c33 => ?_)
        · replace h := bzIfT h c33
          refine j_iconst hF (v := 0) dX10_gait_52 (by decide) ?_
          obtain ⟨g34, h⟩ := bzGdE h
          refine j_iast hF (c := v2.toNatClampNeg) (kl_10_20 ho) (nl_10_20 ho) g34 rfl dX10_gait_53 ?_
          refine j_s (fun σ35 eσ35 => ?_)
          replace h := bzLetE h eσ35
          obtain ⟨x36, ex36⟩ : ∃ y : Int32, y = v2 + 1 := ⟨_, rfl⟩
          replace h := bzLetE h ex36
          refine j_iinc hF (v := x36) (lv1 := [(2, .int x36), (0, .ref (ga g o)), (1, .int a1)]) 2 dX10_gait_54 rfl (by rw [ex36]; rfl) (by decide) rfl ?_
          refine j_goto hF (tgt := 19) dX10_gait_57 (by decide) ?_
          refine j_sub [1, 2, 0] rfl ?_
          exact hK19 x36 σ35 h
        · replace h := bzIfF h c33
          refine j_iconst hF (v := 1) dX10_gait_48 (by decide) ?_
          refine j_goto hF (tgt := 53) dX10_gait_49 (by decide) ?_
          obtain ⟨g37, h⟩ := bzGdE h
          refine j_iast hF (c := v2.toNatClampNeg) (kl_10_20 ho) (nl_10_20 ho) g37 rfl dX10_gait_53 ?_
          refine j_s (fun σ38 eσ38 => ?_)
          replace h := bzLetE h eσ38
          obtain ⟨x39, ex39⟩ : ∃ y : Int32, y = v2 + 1 := ⟨_, rfl⟩
          replace h := bzLetE h ex39
          refine j_iinc hF (v := x39) (lv1 := [(2, .int x39), (0, .ref (ga g o)), (1, .int a1)]) 2 dX10_gait_54 rfl (by rw [ex39]; rfl) (by decide) rfl ?_
          refine j_goto hF (tgt := 19) dX10_gait_57 (by decide) ?_
          refine j_sub [1, 2, 0] rfl ?_
          exact hK19 x39 σ38 h
  have L19 : ∀ (n : Nat) (v2 : Int32) (σ1 : bzS), fl_X10_gait_19   o a1 n v2 σ1 = some (r0, σ0) → bzJ g 4 x σ1 19 [(0, .ref (ga g o)), (1, .int a1), (2, .int v2)] [] := by
    intro  n
    induction n with
    | zero =>
      intro v2 σ1  h
      cases h
    | succ n ih =>
      intro v2 σ1  h
      exact J19  (fl_X10_gait_19   o a1 n) ih v2 σ1  h
  refine j_iload_n hF 1 dX10_gait_0 rfl ?_
  refine j_iconst hF (v := 0) dX10_gait_1 (by decide) ?_
  refine j_bipush hF (v := 12) dX10_gait_2 (by decide) ?_
  obtain ⟨x2, e1, h⟩ := bzBdE h
  refine cs_X10_51 hF (fun l => mt_X10_in l e1) (by decide) (Nat.le_of_ble_eq_true rfl) dX10_gait_4 ?_
  refine j_if_ne hF (tgt := 17) dX10_gait_7 (by decide) (fun c3 => ?_) (fun c3 => ?_)
  · replace h := bzIfF h c3
    refine j_iconst hF (v := 0) dX10_gait_17 (by decide) ?_
    refine j_istore_n hF (lv1 := [(2, .int 0), (0, .ref (ga g o)), (1, .int a1)]) dX10_gait_18 (by decide) rfl ?_
    refine j_sub [1, 2, 0] rfl ?_
    exact L19 2000 0 σ h
  · replace h := bzIfT h c3
    refine j_aload_n hF 0 dX10_gait_10 rfl ?_
    refine j_ldc hF (v := (-1000000001)) kc_X10_59 dX10_gait_11 ?_
    obtain ⟨x41, σ42, e40, h⟩ := bzBpE h
    refine cs_X10_60 hF ho (fun l => mt_X10_errs l e40) (by decide) (Nat.le_of_ble_eq_true rfl) dX10_gait_13 ?_
    exact j_iret hF hG dX10_gait_16  (bzRet h).1 (bzRet h).2
def fb_X10_odds_54 (K54 : Int32 → Int32 → bzS → Option (Int32 × bzS)) (o : Nat) (a1 : Int32) (a2 : Int32) (a3 : Int32) (v4 : Int32) (v5 : Int32) (σ1 : bzS) : Option (Int32 × bzS) :=
  if 10 ≤ v5 then (if (v4 - v4 / 10 * 10) = 0 then (if a3 = 0 then (some ((v4 / 10), σ1)) else (some ((10 / 10), σ1))) else (if v4 = 5 then (if a3 = 0 then (some ((v4 / 5), σ1)) else (some ((10 / 5), σ1))) else (if (v4 - v4 / 2 * 2) = 0 then (if a3 = 0 then (some ((v4 / 2), σ1)) else (some ((10 / 2), σ1))) else (if a3 = 0 then (some ((v4 / 1), σ1)) else (some ((10 / 1), σ1)))))) else (bzLet (bzSt σ1 (ly o 0) 3 (10 * v5)) (fun σ26 => bzBp (f_X10_behind o a1 4 σ26) (fun x28 σ29 => if a2 < x28 then (bzLet ((v4 + 0)) (fun x31 => bzLet (v5 + 1) (fun x32 => K54 x31 x32 σ29))) else (bzLet ((v4 + 1)) (fun x33 => bzLet (v5 + 1) (fun x34 => K54 x33 x34 σ29))))))
def fl_X10_odds_54 (o : Nat) (a1 : Int32) (a2 : Int32) (a3 : Int32) : Nat → Int32 → Int32 → bzS → Option (Int32 × bzS)
  | 0, _, _, _ => none
  | n + 1, v4, v5, σ1 => fb_X10_odds_54   (fl_X10_odds_54   o a1 a2 a3 n) o a1 a2 a3 v4 v5 σ1
def f_X10_odds (o : Nat) (a1 : Int32) (a2 : Int32) (a3 : Int32) (σ : bzS) : Option (Int32 × bzS) :=
  bzGd (kd o = 10) (bzBd (f_X10_in a1 0 30) (fun x2 => if x2 = 0 then (bzBp (f_X10_errs o ((-1000000001)) σ) (fun x5 σ6 => some (x5, σ6))) else (bzBd (f_X10_in a2 0 99) (fun x8 => if x8 = 0 then (bzBp (f_X10_errs o ((-1000000001)) σ) (fun x11 σ12 => some (x11, σ12))) else (bzBd (f_X10_in a3 0 1) (fun x14 => if x14 = 0 then (bzBp (f_X10_errs o ((-1000000001)) σ) (fun x36 σ37 => some (x36, σ37))) else (bzBd (f_X10_moveAll o ((ly o 0)) ((ly o 2)) σ) (fun σ17 => fl_X10_odds_54 o a1 a2 a3 2000 0 0 σ17))))))))
set_option maxHeartbeats 4000000 in
set_option maxRecDepth 20000 in
theorem mt_X10_odds {g : bzGeo} {o : Nat} {a1 : Int32} {a2 : Int32} {a3 : Int32} {σ : bzS} {r0 : Int32} {σ0 : bzS} (l : Launch) (h : f_X10_odds  o a1 a2 a3 σ = some (r0, σ0)) : Met l yX10_odds (Cond.code yX10_odds cX10_odds 6 (some .int) :: GW) (bzR (71)) (va_Pc [.ref (ga g o), .int a1, .int a2, .int a3] (bzP g σ)) (va_Qi (fun (r : Int32) (u : bzS) => r = r0 ∧ u = σ0) (bzB g) (gA g)) 0 0 (gA g) := by
  unfold f_X10_odds at h
  obtain ⟨ho, h⟩ := bzGdE h
  refine j_start l (by decide +kernel) [.ref (ga g o), .int a1, .int a2, .int a3] [(0, .ref (ga g o)), (1, .int a1), (2, .int a2), (3, .int a3)] (Nat.le_of_ble_eq_true rfl) rfl (fun x hF hG => ?_)
  have J54 : (K54 : Int32 → Int32 → bzS → Option (Int32 × bzS)) → (hK54 : ∀ (v4 : Int32) (v5 : Int32) (σ1 : bzS), K54 v4 v5 σ1 = some (r0, σ0) → bzJ g 6 x σ1 54 [(0, .ref (ga g o)), (1, .int a1), (2, .int a2), (3, .int a3), (4, .int v4), (5, .int v5)] []) → ∀ (v4 : Int32) (v5 : Int32) (σ1 : bzS), fb_X10_odds_54 K54 o a1 a2 a3 v4 v5 σ1 = some (r0, σ0) → bzJ g 6 x σ1 54 [(0, .ref (ga g o)), (1, .int a1), (2, .int a2), (3, .int a3), (4, .int v4), (5, .int v5)] [] := by
    intro K54 hK54 v4 v5 σ1 h
    unfold fb_X10_odds_54 at h
    refine j_iload hF 5 dX10_odds_54 rfl ?_
    refine j_bipush hF (v := 10) dX10_odds_56 (by decide) ?_
    refine j_icmp_ge hF (tgt := 98) dX10_odds_58 (by decide) (fun c18 => ?_) (fun c18 => ?_)
    · replace h := bzIfT h c18
      refine j_iload hF 4 dX10_odds_98 rfl ?_
      refine j_bipush hF (v := 10) dX10_odds_100 (by decide) ?_
      refine j_irem hF dX10_odds_102 (by decide) ?_
      refine j_if_ne hF (tgt := 111) dX10_odds_103 (by decide) (fun c19 => ?_) (fun c19 => ?_)
      · replace h := bzIfF h c19
        refine j_iload hF 4 dX10_odds_111 rfl ?_
        refine j_iconst hF (v := 5) dX10_odds_113 (by decide) ?_
        refine j_icmp_ne hF (tgt := 121) dX10_odds_114 (by decide) (fun c20 => ?_) (fun c20 => ?_)
        · replace h := bzIfF h c20
          refine j_iload hF 4 dX10_odds_121 rfl ?_
          refine j_iconst hF (v := 2) dX10_odds_123 (by decide) ?_
          refine j_irem hF dX10_odds_124 (by decide) ?_
          refine j_if_ne hF (tgt := 132) dX10_odds_125 (by decide) (fun c21 => ?_) (fun c21 => ?_)
          · replace h := bzIfF h c21
            refine j_iconst hF (v := 1) dX10_odds_132 (by decide) ?_
            refine j_istore hF (lv1 := [(5, .int 1), (0, .ref (ga g o)), (1, .int a1), (2, .int a2), (3, .int a3), (4, .int v4)]) dX10_odds_133 (by decide) rfl ?_
            refine j_iload_n hF 4 dX10_odds_135 rfl ?_
            refine j_if_ne hF (tgt := 147) dX10_odds_136 (by decide) (fun c22 => ?_) (fun c22 => ?_)
            · replace h := bzIfF h c22
              refine j_bipush hF (v := 10) dX10_odds_147 (by decide) ?_
              refine j_iload hF 0 dX10_odds_149 rfl ?_
              refine j_idiv hF dX10_odds_151 (by decide) ?_
              exact j_iret hF hG dX10_odds_152 (bzRet h).1 (bzRet h).2
            · replace h := bzIfT h c22
              refine j_iload hF 5 dX10_odds_139 rfl ?_
              refine j_iload hF 0 dX10_odds_141 rfl ?_
              refine j_idiv hF dX10_odds_143 (by decide) ?_
              refine j_goto hF (tgt := 152) dX10_odds_144 (by decide) ?_
              exact j_iret hF hG dX10_odds_152 (bzRet h).1 (bzRet h).2
          · replace h := bzIfT h c21
            refine j_iconst hF (v := 2) dX10_odds_128 (by decide) ?_
            refine j_goto hF (tgt := 133) dX10_odds_129 (by decide) ?_
            refine j_istore hF (lv1 := [(5, .int 2), (0, .ref (ga g o)), (1, .int a1), (2, .int a2), (3, .int a3), (4, .int v4)]) dX10_odds_133 (by decide) rfl ?_
            refine j_iload_n hF 4 dX10_odds_135 rfl ?_
            refine j_if_ne hF (tgt := 147) dX10_odds_136 (by decide) (fun c23 => ?_) (fun c23 => ?_)
            · replace h := bzIfF h c23
              refine j_bipush hF (v := 10) dX10_odds_147 (by decide) ?_
              refine j_iload hF 0 dX10_odds_149 rfl ?_
              refine j_idiv hF dX10_odds_151 (by decide) ?_
              exact j_iret hF hG dX10_odds_152 (bzRet h).1 (bzRet h).2
            · replace h := bzIfT h c23
              refine j_iload hF 5 dX10_odds_139 rfl ?_
              refine j_iload hF 0 dX10_odds_141 rfl ?_
              refine j_idiv hF dX10_odds_143 (by decide) ?_
              refine j_goto hF (tgt := 152) dX10_odds_144 (by decide) ?_
              exact j_iret hF hG dX10_odds_152 (bzRet h).1 (bzRet h).2
        · replace h := bzIfT h c20
          refine j_iconst hF (v := 5) dX10_odds_117 (by decide) ?_
          refine j_goto hF (tgt := 133) dX10_odds_118 (by decide) ?_
          refine j_istore hF (lv1 := [(5, .int 5), (0, .ref (ga g o)), (1, .int a1), (2, .int a2), (3, .int a3), (4, .int v4)]) dX10_odds_133 (by decide) rfl ?_
          refine j_iload_n hF 4 dX10_odds_135 rfl ?_
          refine j_if_ne hF (tgt := 147) dX10_odds_136 (by decide) (fun c24 => ?_) (fun c24 => ?_)
          · replace h := bzIfF h c24
            refine j_bipush hF (v := 10) dX10_odds_147 (by decide) ?_
            refine j_iload hF 0 dX10_odds_149 rfl ?_
            refine j_idiv hF dX10_odds_151 (by decide) ?_
            exact j_iret hF hG dX10_odds_152 (bzRet h).1 (bzRet h).2
          · replace h := bzIfT h c24
            refine j_iload hF 5 dX10_odds_139 rfl ?_
            refine j_iload hF 0 dX10_odds_141 rfl ?_
            refine j_idiv hF dX10_odds_143 (by decide) ?_
            refine j_goto hF (tgt := 152) dX10_odds_144 (by decide) ?_
            exact j_iret hF hG dX10_odds_152 (bzRet h).1 (bzRet h).2
      · replace h := bzIfT h c19
        refine j_bipush hF (v := 10) dX10_odds_106 (by decide) ?_
        refine j_goto hF (tgt := 133) dX10_odds_108 (by decide) ?_
        refine j_istore hF (lv1 := [(5, .int 10), (0, .ref (ga g o)), (1, .int a1), (2, .int a2), (3, .int a3), (4, .int v4)]) dX10_odds_133 (by decide) rfl ?_
        refine j_iload_n hF 4 dX10_odds_135 rfl ?_
        refine j_if_ne hF (tgt := 147) dX10_odds_136 (by decide) (fun c25 => ?_) (fun c25 => ?_)
        · replace h := bzIfF h c25
          refine j_bipush hF (v := 10) dX10_odds_147 (by decide) ?_
          refine j_iload hF 0 dX10_odds_149 rfl ?_
          refine j_idiv hF dX10_odds_151 (by decide) ?_
          exact j_iret hF hG dX10_odds_152 (bzRet h).1 (bzRet h).2
        · replace h := bzIfT h c25
          refine j_iload hF 5 dX10_odds_139 rfl ?_
          refine j_iload hF 0 dX10_odds_141 rfl ?_
          refine j_idiv hF dX10_odds_143 (by decide) ?_
          refine j_goto hF (tgt := 152) dX10_odds_144 (by decide) ?_
          exact j_iret hF hG dX10_odds_152 (bzRet h).1 (bzRet h).2
    · replace h := bzIfF h c18
      refine j_aload_n hF 0 dX10_odds_61 rfl ?_
      refine gf_X10_7 hF ho dX10_odds_62 ?_
      refine j_iconst hF (v := 3) dX10_odds_65 (by decide) ?_
      refine j_bipush hF (v := 10) dX10_odds_66 (by decide) ?_
      refine j_iload hF 5 dX10_odds_68 rfl ?_
      refine j_imul hF dX10_odds_70 ?_
      refine j_iast hF (c := 3) (kl_10_0 ho) (nl_10_0 ho) (by decide) (by decide) dX10_odds_71 ?_
      refine j_s (fun σ26 eσ26 => ?_)
      replace h := bzLetE h eσ26
      refine j_iload hF 4 dX10_odds_72 rfl ?_
      refine j_aload_n hF 0 dX10_odds_74 rfl ?_
      refine j_iload_n hF 1 dX10_odds_75 rfl ?_
      refine j_iconst hF (v := 4) dX10_odds_76 (by decide) ?_
      obtain ⟨x28, σ29, e27, h⟩ := bzBpE h
      refine cs_X10_195 hF ho (fun l => mt_X10_behind l e27) (by decide) (Nat.le_of_ble_eq_true rfl) dX10_odds_77 ?_
      refine j_iload_n hF 2 dX10_odds_80 rfl ?_
      refine j_icmp_gt hF (tgt := 88) dX10_odds_81 (by decide) (fun c30 => ?_) (fun c30 => ?_)
      · replace h := bzIfT h c30
        refine j_iconst hF (v := 0) dX10_odds_88 (by decide) ?_
        refine j_iadd hF dX10_odds_89 ?_
        refine j_topi (fun x31 ex31 => ?_)
        replace h := bzLetE h ex31
        refine j_istore hF (lv1 := [(4, .int x31), (0, .ref (ga g o)), (1, .int a1), (2, .int a2), (3, .int a3), (5, .int v5)]) dX10_odds_90 (by decide) rfl ?_
        obtain ⟨x32, ex32⟩ : ∃ y : Int32, y = v5 + 1 := ⟨_, rfl⟩
        replace h := bzLetE h ex32
        refine j_iinc hF (v := x32) (lv1 := [(5, .int x32), (4, .int x31), (0, .ref (ga g o)), (1, .int a1), (2, .int a2), (3, .int a3)]) 5 dX10_odds_92 rfl (by rw [ex32]; rfl) (by decide) rfl ?_
        refine j_goto hF (tgt := 54) dX10_odds_95 (by decide) ?_
        refine j_sub [2, 3, 4, 5, 1, 0] rfl ?_
        exact hK54 x31 x32 σ29 h
      · replace h := bzIfF h c30
        refine j_iconst hF (v := 1) dX10_odds_84 (by decide) ?_
        refine j_goto hF (tgt := 89) dX10_odds_85 (by decide) ?_
        refine j_iadd hF dX10_odds_89 ?_
        refine j_topi (fun x33 ex33 => ?_)
        replace h := bzLetE h ex33
        refine j_istore hF (lv1 := [(4, .int x33), (0, .ref (ga g o)), (1, .int a1), (2, .int a2), (3, .int a3), (5, .int v5)]) dX10_odds_90 (by decide) rfl ?_
        obtain ⟨x34, ex34⟩ : ∃ y : Int32, y = v5 + 1 := ⟨_, rfl⟩
        replace h := bzLetE h ex34
        refine j_iinc hF (v := x34) (lv1 := [(5, .int x34), (4, .int x33), (0, .ref (ga g o)), (1, .int a1), (2, .int a2), (3, .int a3)]) 5 dX10_odds_92 rfl (by rw [ex34]; rfl) (by decide) rfl ?_
        refine j_goto hF (tgt := 54) dX10_odds_95 (by decide) ?_
        refine j_sub [2, 3, 4, 5, 1, 0] rfl ?_
        exact hK54 x33 x34 σ29 h
  have L54 : ∀ (n : Nat) (v4 : Int32) (v5 : Int32) (σ1 : bzS), fl_X10_odds_54   o a1 a2 a3 n v4 v5 σ1 = some (r0, σ0) → bzJ g 6 x σ1 54 [(0, .ref (ga g o)), (1, .int a1), (2, .int a2), (3, .int a3), (4, .int v4), (5, .int v5)] [] := by
    intro  n
    induction n with
    | zero =>
      intro v4 v5 σ1  h
      cases h
    | succ n ih =>
      intro v4 v5 σ1  h
      exact J54  (fl_X10_odds_54   o a1 a2 a3 n) ih v4 v5 σ1  h
  refine j_iload_n hF 1 dX10_odds_0 rfl ?_
  refine j_iconst hF (v := 0) dX10_odds_1 (by decide) ?_
  refine j_bipush hF (v := 30) dX10_odds_2 (by decide) ?_
  obtain ⟨x2, e1, h⟩ := bzBdE h
  refine cs_X10_51 hF (fun l => mt_X10_in l e1) (by decide) (Nat.le_of_ble_eq_true rfl) dX10_odds_4 ?_
  refine j_if_eq hF (tgt := 29) dX10_odds_7 (by decide) (fun c3 => ?_) (fun c3 => ?_)
  · replace h := bzIfT h c3
    refine j_aload_n hF 0 dX10_odds_29 rfl ?_
    refine j_ldc hF (v := (-1000000001)) kc_X10_59 dX10_odds_30 ?_
    obtain ⟨x5, σ6, e4, h⟩ := bzBpE h
    refine cs_X10_60 hF ho (fun l => mt_X10_errs l e4) (by decide) (Nat.le_of_ble_eq_true rfl) dX10_odds_32 ?_
    exact j_iret hF hG dX10_odds_35  (bzRet h).1 (bzRet h).2
  · replace h := bzIfF h c3
    refine j_iload_n hF 2 dX10_odds_10 rfl ?_
    refine j_iconst hF (v := 0) dX10_odds_11 (by decide) ?_
    refine j_bipush hF (v := 99) dX10_odds_12 (by decide) ?_
    obtain ⟨x8, e7, h⟩ := bzBdE h
    refine cs_X10_51 hF (fun l => mt_X10_in l e7) (by decide) (Nat.le_of_ble_eq_true rfl) dX10_odds_14 ?_
    refine j_if_eq hF (tgt := 29) dX10_odds_17 (by decide) (fun c9 => ?_) (fun c9 => ?_)
    · replace h := bzIfT h c9
      refine j_aload_n hF 0 dX10_odds_29 rfl ?_
      refine j_ldc hF (v := (-1000000001)) kc_X10_59 dX10_odds_30 ?_
      obtain ⟨x11, σ12, e10, h⟩ := bzBpE h
      refine cs_X10_60 hF ho (fun l => mt_X10_errs l e10) (by decide) (Nat.le_of_ble_eq_true rfl) dX10_odds_32 ?_
      exact j_iret hF hG dX10_odds_35  (bzRet h).1 (bzRet h).2
    · replace h := bzIfF h c9
      refine j_iload_n hF 3 dX10_odds_20 rfl ?_
      refine j_iconst hF (v := 0) dX10_odds_21 (by decide) ?_
      refine j_iconst hF (v := 1) dX10_odds_22 (by decide) ?_
      obtain ⟨x14, e13, h⟩ := bzBdE h
      refine cs_X10_51 hF (fun l => mt_X10_in l e13) (by decide) (Nat.le_of_ble_eq_true rfl) dX10_odds_23 ?_
      refine j_if_ne hF (tgt := 36) dX10_odds_26 (by decide) (fun c15 => ?_) (fun c15 => ?_)
      · replace h := bzIfF h c15
        refine j_aload_n hF 0 dX10_odds_36 rfl ?_
        refine j_aload_n hF 0 dX10_odds_37 rfl ?_
        refine gf_X10_7 hF ho dX10_odds_38 ?_
        refine j_aload_n hF 0 dX10_odds_41 rfl ?_
        refine gf_X10_16 hF ho dX10_odds_42 ?_
        obtain ⟨σ17, e16, h⟩ := bzBdE h
        refine cs_X10_167 hF ho (fun l => mt_X10_moveAll l e16) (by decide) (Nat.le_of_ble_eq_true rfl) dX10_odds_45 ?_
        refine j_iconst hF (v := 0) dX10_odds_48 (by decide) ?_
        refine j_istore hF (lv1 := [(4, .int 0), (0, .ref (ga g o)), (1, .int a1), (2, .int a2), (3, .int a3)]) dX10_odds_49 (by decide) rfl ?_
        refine j_iconst hF (v := 0) dX10_odds_51 (by decide) ?_
        refine j_istore hF (lv1 := [(5, .int 0), (4, .int 0), (0, .ref (ga g o)), (1, .int a1), (2, .int a2), (3, .int a3)]) dX10_odds_52 (by decide) rfl ?_
        refine j_sub [2, 3, 4, 5, 1, 0] rfl ?_
        exact L54 2000 0 0 σ17 h
      · replace h := bzIfT h c15
        refine j_aload_n hF 0 dX10_odds_29 rfl ?_
        refine j_ldc hF (v := (-1000000001)) kc_X10_59 dX10_odds_30 ?_
        obtain ⟨x36, σ37, e35, h⟩ := bzBpE h
        refine cs_X10_60 hF ho (fun l => mt_X10_errs l e35) (by decide) (Nat.le_of_ble_eq_true rfl) dX10_odds_32 ?_
        exact j_iret hF hG dX10_odds_35  (bzRet h).1 (bzRet h).2
def f_X10_seed (o : Nat) (a1 : Int32) (σ : bzS) : Option (Int32 × bzS) :=
  bzGd (kd o = 10) (bzLet ((σ (ly o 0) 1)) (fun x1 => bzLet (bzSt σ (ly o 0) 1 a1) (fun σ2 => some (x1, σ2))))
set_option maxHeartbeats 4000000 in
set_option maxRecDepth 20000 in
theorem mt_X10_seed {g : bzGeo} {o : Nat} {a1 : Int32} {σ : bzS} {r0 : Int32} {σ0 : bzS} (l : Launch) (h : f_X10_seed  o a1 σ = some (r0, σ0)) : Met l yX10_seed (Cond.code yX10_seed cX10_seed 3 (some .int) :: GW) (bzR (1)) (va_Pc [.ref (ga g o), .int a1] (bzP g σ)) (va_Qi (fun (r : Int32) (u : bzS) => r = r0 ∧ u = σ0) (bzB g) (gA g)) 0 0 (gA g) := by
  unfold f_X10_seed at h
  obtain ⟨ho, h⟩ := bzGdE h
  refine j_start l (by decide +kernel) [.ref (ga g o), .int a1] [(0, .ref (ga g o)), (1, .int a1)] (Nat.le_of_ble_eq_true rfl) rfl (fun x hF hG => ?_)
  refine j_aload_n hF 0 dX10_seed_0 rfl ?_
  refine gf_X10_7 hF ho dX10_seed_1 ?_
  refine j_iconst hF (v := 1) dX10_seed_4 (by decide) ?_
  refine j_iald hF (c := 1) (kl_10_0 ho) (nl_10_0 ho) (by decide) (by decide) dX10_seed_5 ?_
  refine j_topi (fun x1 ex1 => ?_)
  replace h := bzLetE h ex1
  refine j_istore_n hF (lv1 := [(2, .int x1), (0, .ref (ga g o)), (1, .int a1)]) dX10_seed_6 (by decide) rfl ?_
  refine j_aload_n hF 1 dX10_seed_7 rfl ?_
  refine gf_X10_7 hF ho dX10_seed_8 ?_
  refine j_iconst hF (v := 1) dX10_seed_11 (by decide) ?_
  refine j_iload_n hF 2 dX10_seed_12 rfl ?_
  refine j_iast hF (c := 1) (kl_10_0 ho) (nl_10_0 ho) (by decide) (by decide) dX10_seed_13 ?_
  refine j_s (fun σ2 eσ2 => ?_)
  replace h := bzLetE h eσ2
  refine j_iload_n hF 0 dX10_seed_14 rfl ?_
  exact j_iret hF hG dX10_seed_15  (bzRet h).1 (bzRet h).2
def f_X10_ran (o : Nat) (a1 : Int32) (σ : bzS) : Option bzS :=
  bzGd (kd o = 10) (if 40 ≤ (σ o 23) then (some σ) else (bzGd (bzIn (σ o 23) 40) (bzLet (bzSt σ (ly o 22) (((σ o 23)).toNatClampNeg) a1) (fun σ3 => bzLet (bzSt σ3 o 23 ((σ3 o 23) + 1)) (fun σ4 => some σ4)))))
set_option maxHeartbeats 4000000 in
set_option maxRecDepth 20000 in
theorem mt_X10_ran {g : bzGeo} {o : Nat} {a1 : Int32} {σ : bzS} {σ0 : bzS} (l : Launch) (h : f_X10_ran  o a1 σ = some σ0) : Met l yX10_ran (Cond.code yX10_ran cX10_ran 2 none :: GW) (bzR (1)) (va_Pc [.ref (ga g o), .int a1] (bzP g σ)) (va_Qv (fun (u : bzS) => u = σ0) (bzB g) (gA g)) 0 0 (gA g) := by
  unfold f_X10_ran at h
  obtain ⟨ho, h⟩ := bzGdE h
  refine j_start l (by decide +kernel) [.ref (ga g o), .int a1] [(0, .ref (ga g o)), (1, .int a1)] (Nat.le_of_ble_eq_true rfl) rfl (fun x hF hG => ?_)
  refine j_aload_n hF 0 dX10_ran_0 rfl ?_
  refine gf_X10_233 hF ho dX10_ran_1 ?_
  refine j_bipush hF (v := 40) dX10_ran_4 (by decide) ?_
  refine j_icmp_ge hF (tgt := 29) dX10_ran_6 (by decide) (fun c1 => ?_) (fun c1 => ?_)
  · replace h := bzIfT h c1
    exact j_vret hF hG dX10_ran_29 (Option.some.inj h)
  · replace h := bzIfF h c1
    refine j_aload_n hF 0 dX10_ran_9 rfl ?_
    refine gf_X10_47 hF ho dX10_ran_10 ?_
    refine j_aload_n hF 0 dX10_ran_13 rfl ?_
    refine gf_X10_233 hF ho dX10_ran_14 ?_
    refine j_iload_n hF 1 dX10_ran_17 rfl ?_
    obtain ⟨g2, h⟩ := bzGdE h
    refine j_iast hF (c := ((σ o 23)).toNatClampNeg) (kl_10_22 ho) (nl_10_22 ho) g2 rfl dX10_ran_18 ?_
    refine j_s (fun σ3 eσ3 => ?_)
    replace h := bzLetE h eσ3
    refine j_aload_n hF 0 dX10_ran_19 rfl ?_
    refine j_dup hF dX10_ran_20 rfl ?_
    refine gf_X10_233 hF ho dX10_ran_21 ?_
    refine j_iconst hF (v := 1) dX10_ran_24 (by decide) ?_
    refine j_iadd hF dX10_ran_25 ?_
    refine pf_X10_233 hF ho dX10_ran_26 ?_
    refine j_s (fun σ4 eσ4 => ?_)
    replace h := bzLetE h eσ4
    exact j_vret hF hG dX10_ran_29 (Option.some.inj h)
def fm_X10_callsIn (qX10_callsIn : Nat → Int32 → Int32 → bzS → Option (Int32 × bzS)) (o : Nat) (a1 : Int32) (a2 : Int32) (σ : bzS) : Option (Int32 × bzS) :=
  bzGd (kd o = 10) (if a1 = 0 then (bzBd (f_X10_ran o 10 σ) (fun σ14 => some ((a2 + (σ14 o 25)), σ14))) else (if a1 = 1 then (bzBd (f_X10_ran o 20 σ) (fun σ9 => bzBp (qX10_callsIn o 0 a2 σ9) (fun x11 σ12 => some ((x11 * 3), σ12)))) else (bzBd (f_X10_above a1) (fun x4 => bzBp (qX10_callsIn o x4 a2 σ) (fun x6 σ7 => some (x6, σ7))))))
set_option maxHeartbeats 4000000 in
set_option maxRecDepth 20000 in
theorem mm_X10_callsIn {d : Nat} (hd : 2 ≤ d) {qX10_callsIn : Nat → Int32 → Int32 → bzS → Option (Int32 × bzS)} (hqX10_callsIn : ∀ {g : bzGeo} {o : Nat} {a1 : Int32} {a2 : Int32} {σ : bzS} {r0 : Int32} {σ0 : bzS} , qX10_callsIn o a1 a2 σ = some (r0, σ0) → ∀ l : Launch, Met l yX10_callsIn (Cond.code yX10_callsIn cX10_callsIn 3 (some .int) :: GW) (bzR (d)) (va_Pc [.ref (ga g o), .int a1, .int a2] (bzP g σ)) (va_Qi (fun (r : Int32) (u : bzS) => r = r0 ∧ u = σ0) (bzB g) (gA g)) 0 0 (gA g)) {g : bzGeo} {o : Nat} {a1 : Int32} {a2 : Int32} {σ : bzS} {r0 : Int32} {σ0 : bzS} (l : Launch) (h : fm_X10_callsIn qX10_callsIn o a1 a2 σ = some (r0, σ0)) : Met l yX10_callsIn (Cond.code yX10_callsIn cX10_callsIn 3 (some .int) :: GW) (bzR (d + 1)) (va_Pc [.ref (ga g o), .int a1, .int a2] (bzP g σ)) (va_Qi (fun (r : Int32) (u : bzS) => r = r0 ∧ u = σ0) (bzB g) (gA g)) 0 0 (gA g) := by
  unfold fm_X10_callsIn at h
  obtain ⟨ho, h⟩ := bzGdE h
  refine j_start l (by decide +kernel) [.ref (ga g o), .int a1, .int a2] [(0, .ref (ga g o)), (1, .int a1), (2, .int a2)] (Nat.le_of_ble_eq_true rfl) rfl (fun x hF hG => ?_)
  refine j_iload_n hF 1 dX10_callsIn_0 rfl ?_
  refine j_if_ne hF (tgt := 17) dX10_callsIn_1 (by decide) (fun c1 => ?_) (fun c1 => ?_)
  · replace h := bzIfF h c1
    refine j_iload_n hF 1 dX10_callsIn_17 rfl ?_
    refine j_iconst hF (v := 1) dX10_callsIn_18 (by decide) ?_
    refine j_icmp_ne hF (tgt := 37) dX10_callsIn_19 (by decide) (fun c2 => ?_) (fun c2 => ?_)
    · replace h := bzIfF h c2
      refine j_aload_n hF 0 dX10_callsIn_37 rfl ?_
      refine j_iload_n hF 1 dX10_callsIn_38 rfl ?_
      obtain ⟨x4, e3, h⟩ := bzBdE h
      refine cs_X10_92 hF (fun l => mt_X10_above l e3) (by omega) (Nat.le_of_ble_eq_true rfl) dX10_callsIn_39 ?_
      refine j_iload_n hF 2 dX10_callsIn_42 rfl ?_
      obtain ⟨x6, σ7, e5, h⟩ := bzBpE h
      refine cs_X10_242 hF ho (hqX10_callsIn e5) (by omega) (Nat.le_of_ble_eq_true rfl) dX10_callsIn_43 ?_
      exact j_iret hF hG dX10_callsIn_46  (bzRet h).1 (bzRet h).2
    · replace h := bzIfT h c2
      refine j_aload_n hF 0 dX10_callsIn_22 rfl ?_
      refine j_bipush hF (v := 20) dX10_callsIn_23 (by decide) ?_
      obtain ⟨σ9, e8, h⟩ := bzBdE h
      refine cs_X10_236 hF ho (fun l => mt_X10_ran l e8) (by omega) (Nat.le_of_ble_eq_true rfl) dX10_callsIn_25 ?_
      refine j_aload_n hF 0 dX10_callsIn_28 rfl ?_
      refine j_iconst hF (v := 0) dX10_callsIn_29 (by decide) ?_
      refine j_iload_n hF 2 dX10_callsIn_30 rfl ?_
      obtain ⟨x11, σ12, e10, h⟩ := bzBpE h
      refine cs_X10_242 hF ho (hqX10_callsIn e10) (by omega) (Nat.le_of_ble_eq_true rfl) dX10_callsIn_31 ?_
      refine j_iconst hF (v := 3) dX10_callsIn_34 (by decide) ?_
      refine j_imul hF dX10_callsIn_35 ?_
      exact j_iret hF hG dX10_callsIn_36  (bzRet h).1 (bzRet h).2
  · replace h := bzIfT h c1
    refine j_aload_n hF 0 dX10_callsIn_4 rfl ?_
    refine j_bipush hF (v := 10) dX10_callsIn_5 (by decide) ?_
    obtain ⟨σ14, e13, h⟩ := bzBdE h
    refine cs_X10_236 hF ho (fun l => mt_X10_ran l e13) (by omega) (Nat.le_of_ble_eq_true rfl) dX10_callsIn_7 ?_
    refine j_iload_n hF 2 dX10_callsIn_10 rfl ?_
    refine j_aload_n hF 0 dX10_callsIn_11 rfl ?_
    refine gf_X10_239 hF ho dX10_callsIn_12 ?_
    refine j_iadd hF dX10_callsIn_15 ?_
    exact j_iret hF hG dX10_callsIn_16  (bzRet h).1 (bzRet h).2
def fr_X10_callsIn : Nat → (Nat → Int32 → Int32 → bzS → Option (Int32 × bzS))
  | 0 => fun _ _ _ _ => none
  | n + 1 => fm_X10_callsIn (fr_X10_callsIn n)
def f_X10_callsIn : Nat → Int32 → Int32 → bzS → Option (Int32 × bzS) := (fr_X10_callsIn 60)
set_option maxHeartbeats 4000000 in
theorem mr_X10_callsIn : ∀ n : Nat, (∀ {g : bzGeo} {o : Nat} {a1 : Int32} {a2 : Int32} {σ : bzS} {r0 : Int32} {σ0 : bzS} , (fr_X10_callsIn n) o a1 a2 σ = some (r0, σ0) → ∀ l : Launch, Met l yX10_callsIn (Cond.code yX10_callsIn cX10_callsIn 3 (some .int) :: GW) (bzR (n + 2)) (va_Pc [.ref (ga g o), .int a1, .int a2] (bzP g σ)) (va_Qi (fun (r : Int32) (u : bzS) => r = r0 ∧ u = σ0) (bzB g) (gA g)) 0 0 (gA g)) := by
  intro n
  induction n with
  | zero => exact by intros; contradiction
  | succ n ih =>
    exact fun {g} {o} {a1} {a2} {σ} {r0} {σ0} h l => (by have q := mm_X10_callsIn (g := g) (d := n + 2) (by omega) (fun {g} {o} {a1} {a2} {σ} {r0} {σ0} h l => ih h l) l h; rw [show n + 1 + 2 = n + 2 + 1 by omega]; exact q)
theorem mt_X10_callsIn {g : bzGeo} {o : Nat} {a1 : Int32} {a2 : Int32} {σ : bzS} {r0 : Int32} {σ0 : bzS} (l : Launch) (h : f_X10_callsIn o a1 a2 σ = some (r0, σ0)) : Met l yX10_callsIn (Cond.code yX10_callsIn cX10_callsIn 3 (some .int) :: GW) (bzR (62)) (va_Pc [.ref (ga g o), .int a1, .int a2] (bzP g σ)) (va_Qi (fun (r : Int32) (u : bzS) => r = r0 ∧ u = σ0) (bzB g) (gA g)) 0 0 (gA g) := (mr_X10_callsIn 60) h l
def fm_X10_nodsIn (qX10_nodsIn : Nat → Int32 → Int32 → bzS → Option (Int32 × bzS)) (o : Nat) (a1 : Int32) (a2 : Int32) (σ : bzS) : Option (Int32 × bzS) :=
  bzGd (kd o = 10) (if a1 = 0 then (bzBd (f_X10_ran o 12 σ) (fun σ20 => some ((a2 - (σ20 o 26)), σ20))) else (if a1 = 3 then (bzBd (f_X10_ran o 40 σ) (fun σ15 => bzBp (qX10_nodsIn o 0 a2 σ15) (fun x17 σ18 => some ((-x17), σ18)))) else (if a1 = 6 then (bzBd (f_X10_ran o 70 σ) (fun σ10 => bzBp (qX10_nodsIn o 3 a2 σ10) (fun x12 σ13 => some ((x12 ^^^ (σ13 o 25)), σ13)))) else (bzBd (f_X10_above a1) (fun x5 => bzBp (qX10_nodsIn o x5 a2 σ) (fun x7 σ8 => some (x7, σ8)))))))
set_option maxHeartbeats 4000000 in
set_option maxRecDepth 20000 in
theorem mm_X10_nodsIn {d : Nat} (hd : 2 ≤ d) {qX10_nodsIn : Nat → Int32 → Int32 → bzS → Option (Int32 × bzS)} (hqX10_nodsIn : ∀ {g : bzGeo} {o : Nat} {a1 : Int32} {a2 : Int32} {σ : bzS} {r0 : Int32} {σ0 : bzS} , qX10_nodsIn o a1 a2 σ = some (r0, σ0) → ∀ l : Launch, Met l yX10_nodsIn (Cond.code yX10_nodsIn cX10_nodsIn 3 (some .int) :: GW) (bzR (d)) (va_Pc [.ref (ga g o), .int a1, .int a2] (bzP g σ)) (va_Qi (fun (r : Int32) (u : bzS) => r = r0 ∧ u = σ0) (bzB g) (gA g)) 0 0 (gA g)) {g : bzGeo} {o : Nat} {a1 : Int32} {a2 : Int32} {σ : bzS} {r0 : Int32} {σ0 : bzS} (l : Launch) (h : fm_X10_nodsIn qX10_nodsIn o a1 a2 σ = some (r0, σ0)) : Met l yX10_nodsIn (Cond.code yX10_nodsIn cX10_nodsIn 3 (some .int) :: GW) (bzR (d + 1)) (va_Pc [.ref (ga g o), .int a1, .int a2] (bzP g σ)) (va_Qi (fun (r : Int32) (u : bzS) => r = r0 ∧ u = σ0) (bzB g) (gA g)) 0 0 (gA g) := by
  unfold fm_X10_nodsIn at h
  obtain ⟨ho, h⟩ := bzGdE h
  refine j_start l (by decide +kernel) [.ref (ga g o), .int a1, .int a2] [(0, .ref (ga g o)), (1, .int a1), (2, .int a2)] (Nat.le_of_ble_eq_true rfl) rfl (fun x hF hG => ?_)
  refine j_iload_n hF 1 dX10_nodsIn_0 rfl ?_
  refine j_if_ne hF (tgt := 17) dX10_nodsIn_1 (by decide) (fun c1 => ?_) (fun c1 => ?_)
  · replace h := bzIfF h c1
    refine j_iload_n hF 1 dX10_nodsIn_17 rfl ?_
    refine j_iconst hF (v := 3) dX10_nodsIn_18 (by decide) ?_
    refine j_icmp_ne hF (tgt := 36) dX10_nodsIn_19 (by decide) (fun c2 => ?_) (fun c2 => ?_)
    · replace h := bzIfF h c2
      refine j_iload_n hF 1 dX10_nodsIn_36 rfl ?_
      refine j_bipush hF (v := 6) dX10_nodsIn_37 (by decide) ?_
      refine j_icmp_ne hF (tgt := 60) dX10_nodsIn_39 (by decide) (fun c3 => ?_) (fun c3 => ?_)
      · replace h := bzIfF h c3
        refine j_aload_n hF 0 dX10_nodsIn_60 rfl ?_
        refine j_iload_n hF 1 dX10_nodsIn_61 rfl ?_
        obtain ⟨x5, e4, h⟩ := bzBdE h
        refine cs_X10_92 hF (fun l => mt_X10_above l e4) (by omega) (Nat.le_of_ble_eq_true rfl) dX10_nodsIn_62 ?_
        refine j_iload_n hF 2 dX10_nodsIn_65 rfl ?_
        obtain ⟨x7, σ8, e6, h⟩ := bzBpE h
        refine cs_X10_248 hF ho (hqX10_nodsIn e6) (by omega) (Nat.le_of_ble_eq_true rfl) dX10_nodsIn_66 ?_
        exact j_iret hF hG dX10_nodsIn_69  (bzRet h).1 (bzRet h).2
      · replace h := bzIfT h c3
        refine j_aload_n hF 0 dX10_nodsIn_42 rfl ?_
        refine j_bipush hF (v := 70) dX10_nodsIn_43 (by decide) ?_
        obtain ⟨σ10, e9, h⟩ := bzBdE h
        refine cs_X10_236 hF ho (fun l => mt_X10_ran l e9) (by omega) (Nat.le_of_ble_eq_true rfl) dX10_nodsIn_45 ?_
        refine j_aload_n hF 0 dX10_nodsIn_48 rfl ?_
        refine j_iconst hF (v := 3) dX10_nodsIn_49 (by decide) ?_
        refine j_iload_n hF 2 dX10_nodsIn_50 rfl ?_
        obtain ⟨x12, σ13, e11, h⟩ := bzBpE h
        refine cs_X10_248 hF ho (hqX10_nodsIn e11) (by omega) (Nat.le_of_ble_eq_true rfl) dX10_nodsIn_51 ?_
        refine j_aload_n hF 0 dX10_nodsIn_54 rfl ?_
        refine gf_X10_239 hF ho dX10_nodsIn_55 ?_
        refine j_ixor hF dX10_nodsIn_58 ?_
        exact j_iret hF hG dX10_nodsIn_59  (bzRet h).1 (bzRet h).2
    · replace h := bzIfT h c2
      refine j_aload_n hF 0 dX10_nodsIn_22 rfl ?_
      refine j_bipush hF (v := 40) dX10_nodsIn_23 (by decide) ?_
      obtain ⟨σ15, e14, h⟩ := bzBdE h
      refine cs_X10_236 hF ho (fun l => mt_X10_ran l e14) (by omega) (Nat.le_of_ble_eq_true rfl) dX10_nodsIn_25 ?_
      refine j_aload_n hF 0 dX10_nodsIn_28 rfl ?_
      refine j_iconst hF (v := 0) dX10_nodsIn_29 (by decide) ?_
      refine j_iload_n hF 2 dX10_nodsIn_30 rfl ?_
      obtain ⟨x17, σ18, e16, h⟩ := bzBpE h
      refine cs_X10_248 hF ho (hqX10_nodsIn e16) (by omega) (Nat.le_of_ble_eq_true rfl) dX10_nodsIn_31 ?_
      refine j_ineg hF dX10_nodsIn_34 ?_
      exact j_iret hF hG dX10_nodsIn_35  (bzRet h).1 (bzRet h).2
  · replace h := bzIfT h c1
    refine j_aload_n hF 0 dX10_nodsIn_4 rfl ?_
    refine j_bipush hF (v := 12) dX10_nodsIn_5 (by decide) ?_
    obtain ⟨σ20, e19, h⟩ := bzBdE h
    refine cs_X10_236 hF ho (fun l => mt_X10_ran l e19) (by omega) (Nat.le_of_ble_eq_true rfl) dX10_nodsIn_7 ?_
    refine j_iload_n hF 2 dX10_nodsIn_10 rfl ?_
    refine j_aload_n hF 0 dX10_nodsIn_11 rfl ?_
    refine gf_X10_245 hF ho dX10_nodsIn_12 ?_
    refine j_isub hF dX10_nodsIn_15 ?_
    exact j_iret hF hG dX10_nodsIn_16  (bzRet h).1 (bzRet h).2
def fr_X10_nodsIn : Nat → (Nat → Int32 → Int32 → bzS → Option (Int32 × bzS))
  | 0 => fun _ _ _ _ => none
  | n + 1 => fm_X10_nodsIn (fr_X10_nodsIn n)
def f_X10_nodsIn : Nat → Int32 → Int32 → bzS → Option (Int32 × bzS) := (fr_X10_nodsIn 60)
set_option maxHeartbeats 4000000 in
theorem mr_X10_nodsIn : ∀ n : Nat, (∀ {g : bzGeo} {o : Nat} {a1 : Int32} {a2 : Int32} {σ : bzS} {r0 : Int32} {σ0 : bzS} , (fr_X10_nodsIn n) o a1 a2 σ = some (r0, σ0) → ∀ l : Launch, Met l yX10_nodsIn (Cond.code yX10_nodsIn cX10_nodsIn 3 (some .int) :: GW) (bzR (n + 2)) (va_Pc [.ref (ga g o), .int a1, .int a2] (bzP g σ)) (va_Qi (fun (r : Int32) (u : bzS) => r = r0 ∧ u = σ0) (bzB g) (gA g)) 0 0 (gA g)) := by
  intro n
  induction n with
  | zero => exact by intros; contradiction
  | succ n ih =>
    exact fun {g} {o} {a1} {a2} {σ} {r0} {σ0} h l => (by have q := mm_X10_nodsIn (g := g) (d := n + 2) (by omega) (fun {g} {o} {a1} {a2} {σ} {r0} {σ0} h l => ih h l) l h; rw [show n + 1 + 2 = n + 2 + 1 by omega]; exact q)
theorem mt_X10_nodsIn {g : bzGeo} {o : Nat} {a1 : Int32} {a2 : Int32} {σ : bzS} {r0 : Int32} {σ0 : bzS} (l : Launch) (h : f_X10_nodsIn o a1 a2 σ = some (r0, σ0)) : Met l yX10_nodsIn (Cond.code yX10_nodsIn cX10_nodsIn 3 (some .int) :: GW) (bzR (62)) (va_Pc [.ref (ga g o), .int a1, .int a2] (bzP g σ)) (va_Qi (fun (r : Int32) (u : bzS) => r = r0 ∧ u = σ0) (bzB g) (gA g)) 0 0 (gA g) := (mr_X10_nodsIn 60) h l
def fm_X10_holdsIn (qX10_holdsIn : Nat → Int32 → Int32 → bzS → Option (Int32 × bzS)) (o : Nat) (a1 : Int32) (a2 : Int32) (σ : bzS) : Option (Int32 × bzS) :=
  bzGd (kd o = 10) (if a1 = 0 then (bzBd (f_X10_ran o 11 σ) (fun σ23 => bzBp (f_X10_callsIn o ((σ23 o 24)) a2 σ23) (fun x25 σ26 => some ((x25 * 2), σ26)))) else (if a1 = 2 then (bzBd (f_X10_ran o 30 σ) (fun σ15 => bzBp (qX10_holdsIn o 0 a2 σ15) (fun x17 σ18 => bzBp (f_X10_nodsIn o ((σ18 o 24)) 1 σ18) (fun x20 σ21 => some ((x17 - x20), σ21))))) else (if a1 = 5 then (bzBd (f_X10_ran o 60 σ) (fun σ10 => bzBp (qX10_holdsIn o 2 ((a2 + 1)) σ10) (fun x12 σ13 => some (x12, σ13)))) else (bzBd (f_X10_above a1) (fun x5 => bzBp (qX10_holdsIn o x5 a2 σ) (fun x7 σ8 => some (x7, σ8)))))))
set_option maxHeartbeats 4000000 in
set_option maxRecDepth 20000 in
theorem mm_X10_holdsIn {d : Nat} (hd : 63 ≤ d) {qX10_holdsIn : Nat → Int32 → Int32 → bzS → Option (Int32 × bzS)} (hqX10_holdsIn : ∀ {g : bzGeo} {o : Nat} {a1 : Int32} {a2 : Int32} {σ : bzS} {r0 : Int32} {σ0 : bzS} , qX10_holdsIn o a1 a2 σ = some (r0, σ0) → ∀ l : Launch, Met l yX10_holdsIn (Cond.code yX10_holdsIn cX10_holdsIn 4 (some .int) :: GW) (bzR (d)) (va_Pc [.ref (ga g o), .int a1, .int a2] (bzP g σ)) (va_Qi (fun (r : Int32) (u : bzS) => r = r0 ∧ u = σ0) (bzB g) (gA g)) 0 0 (gA g)) {g : bzGeo} {o : Nat} {a1 : Int32} {a2 : Int32} {σ : bzS} {r0 : Int32} {σ0 : bzS} (l : Launch) (h : fm_X10_holdsIn qX10_holdsIn o a1 a2 σ = some (r0, σ0)) : Met l yX10_holdsIn (Cond.code yX10_holdsIn cX10_holdsIn 4 (some .int) :: GW) (bzR (d + 1)) (va_Pc [.ref (ga g o), .int a1, .int a2] (bzP g σ)) (va_Qi (fun (r : Int32) (u : bzS) => r = r0 ∧ u = σ0) (bzB g) (gA g)) 0 0 (gA g) := by
  unfold fm_X10_holdsIn at h
  obtain ⟨ho, h⟩ := bzGdE h
  refine j_start l (by decide +kernel) [.ref (ga g o), .int a1, .int a2] [(0, .ref (ga g o)), (1, .int a1), (2, .int a2)] (Nat.le_of_ble_eq_true rfl) rfl (fun x hF hG => ?_)
  refine j_iload_n hF 1 dX10_holdsIn_0 rfl ?_
  refine j_if_ne hF (tgt := 22) dX10_holdsIn_1 (by decide) (fun c1 => ?_) (fun c1 => ?_)
  · replace h := bzIfF h c1
    refine j_iload_n hF 1 dX10_holdsIn_22 rfl ?_
    refine j_iconst hF (v := 2) dX10_holdsIn_23 (by decide) ?_
    refine j_icmp_ne hF (tgt := 52) dX10_holdsIn_24 (by decide) (fun c2 => ?_) (fun c2 => ?_)
    · replace h := bzIfF h c2
      refine j_iload_n hF 1 dX10_holdsIn_52 rfl ?_
      refine j_iconst hF (v := 5) dX10_holdsIn_53 (by decide) ?_
      refine j_icmp_ne hF (tgt := 72) dX10_holdsIn_54 (by decide) (fun c3 => ?_) (fun c3 => ?_)
      · replace h := bzIfF h c3
        refine j_aload_n hF 0 dX10_holdsIn_72 rfl ?_
        refine j_iload_n hF 1 dX10_holdsIn_73 rfl ?_
        obtain ⟨x5, e4, h⟩ := bzBdE h
        refine cs_X10_92 hF (fun l => mt_X10_above l e4) (by omega) (Nat.le_of_ble_eq_true rfl) dX10_holdsIn_74 ?_
        refine j_iload_n hF 2 dX10_holdsIn_77 rfl ?_
        obtain ⟨x7, σ8, e6, h⟩ := bzBpE h
        refine cs_X10_254 hF ho (hqX10_holdsIn e6) (by omega) (Nat.le_of_ble_eq_true rfl) dX10_holdsIn_78 ?_
        exact j_iret hF hG dX10_holdsIn_81  (bzRet h).1 (bzRet h).2
      · replace h := bzIfT h c3
        refine j_aload_n hF 0 dX10_holdsIn_57 rfl ?_
        refine j_bipush hF (v := 60) dX10_holdsIn_58 (by decide) ?_
        obtain ⟨σ10, e9, h⟩ := bzBdE h
        refine cs_X10_236 hF ho (fun l => mt_X10_ran l e9) (by omega) (Nat.le_of_ble_eq_true rfl) dX10_holdsIn_60 ?_
        refine j_aload_n hF 0 dX10_holdsIn_63 rfl ?_
        refine j_iconst hF (v := 2) dX10_holdsIn_64 (by decide) ?_
        refine j_iload_n hF 2 dX10_holdsIn_65 rfl ?_
        refine j_iconst hF (v := 1) dX10_holdsIn_66 (by decide) ?_
        refine j_iadd hF dX10_holdsIn_67 ?_
        obtain ⟨x12, σ13, e11, h⟩ := bzBpE h
        refine cs_X10_254 hF ho (hqX10_holdsIn e11) (by omega) (Nat.le_of_ble_eq_true rfl) dX10_holdsIn_68 ?_
        exact j_iret hF hG dX10_holdsIn_71  (bzRet h).1 (bzRet h).2
    · replace h := bzIfT h c2
      refine j_aload_n hF 0 dX10_holdsIn_27 rfl ?_
      refine j_bipush hF (v := 30) dX10_holdsIn_28 (by decide) ?_
      obtain ⟨σ15, e14, h⟩ := bzBdE h
      refine cs_X10_236 hF ho (fun l => mt_X10_ran l e14) (by omega) (Nat.le_of_ble_eq_true rfl) dX10_holdsIn_30 ?_
      refine j_aload_n hF 0 dX10_holdsIn_33 rfl ?_
      refine j_iconst hF (v := 0) dX10_holdsIn_34 (by decide) ?_
      refine j_iload_n hF 2 dX10_holdsIn_35 rfl ?_
      obtain ⟨x17, σ18, e16, h⟩ := bzBpE h
      refine cs_X10_254 hF ho (hqX10_holdsIn e16) (by omega) (Nat.le_of_ble_eq_true rfl) dX10_holdsIn_36 ?_
      refine j_istore_n hF (lv1 := [(3, .int x17), (0, .ref (ga g o)), (1, .int a1), (2, .int a2)]) dX10_holdsIn_39 (by decide) rfl ?_
      refine j_iload_n hF 0 dX10_holdsIn_40 rfl ?_
      refine j_aload_n hF 1 dX10_holdsIn_41 rfl ?_
      refine j_aload_n hF 1 dX10_holdsIn_42 rfl ?_
      refine gf_X10_251 hF ho dX10_holdsIn_43 ?_
      refine j_iconst hF (v := 1) dX10_holdsIn_46 (by decide) ?_
      obtain ⟨x20, σ21, e19, h⟩ := bzBpE h
      refine cs_X10_248 hF ho (fun l => mt_X10_nodsIn l e19) (by omega) (Nat.le_of_ble_eq_true rfl) dX10_holdsIn_47 ?_
      refine j_isub hF dX10_holdsIn_50 ?_
      exact j_iret hF hG dX10_holdsIn_51  (bzRet h).1 (bzRet h).2
  · replace h := bzIfT h c1
    refine j_aload_n hF 0 dX10_holdsIn_4 rfl ?_
    refine j_bipush hF (v := 11) dX10_holdsIn_5 (by decide) ?_
    obtain ⟨σ23, e22, h⟩ := bzBdE h
    refine cs_X10_236 hF ho (fun l => mt_X10_ran l e22) (by omega) (Nat.le_of_ble_eq_true rfl) dX10_holdsIn_7 ?_
    refine j_aload_n hF 0 dX10_holdsIn_10 rfl ?_
    refine j_aload_n hF 0 dX10_holdsIn_11 rfl ?_
    refine gf_X10_251 hF ho dX10_holdsIn_12 ?_
    refine j_iload_n hF 2 dX10_holdsIn_15 rfl ?_
    obtain ⟨x25, σ26, e24, h⟩ := bzBpE h
    refine cs_X10_242 hF ho (fun l => mt_X10_callsIn l e24) (by omega) (Nat.le_of_ble_eq_true rfl) dX10_holdsIn_16 ?_
    refine j_iconst hF (v := 2) dX10_holdsIn_19 (by decide) ?_
    refine j_imul hF dX10_holdsIn_20 ?_
    exact j_iret hF hG dX10_holdsIn_21  (bzRet h).1 (bzRet h).2
def fr_X10_holdsIn : Nat → (Nat → Int32 → Int32 → bzS → Option (Int32 × bzS))
  | 0 => fun _ _ _ _ => none
  | n + 1 => fm_X10_holdsIn (fr_X10_holdsIn n)
def f_X10_holdsIn : Nat → Int32 → Int32 → bzS → Option (Int32 × bzS) := (fr_X10_holdsIn 60)
set_option maxHeartbeats 4000000 in
theorem mr_X10_holdsIn : ∀ n : Nat, (∀ {g : bzGeo} {o : Nat} {a1 : Int32} {a2 : Int32} {σ : bzS} {r0 : Int32} {σ0 : bzS} , (fr_X10_holdsIn n) o a1 a2 σ = some (r0, σ0) → ∀ l : Launch, Met l yX10_holdsIn (Cond.code yX10_holdsIn cX10_holdsIn 4 (some .int) :: GW) (bzR (n + 63)) (va_Pc [.ref (ga g o), .int a1, .int a2] (bzP g σ)) (va_Qi (fun (r : Int32) (u : bzS) => r = r0 ∧ u = σ0) (bzB g) (gA g)) 0 0 (gA g)) := by
  intro n
  induction n with
  | zero => exact by intros; contradiction
  | succ n ih =>
    exact fun {g} {o} {a1} {a2} {σ} {r0} {σ0} h l => (by have q := mm_X10_holdsIn (g := g) (d := n + 63) (by omega) (fun {g} {o} {a1} {a2} {σ} {r0} {σ0} h l => ih h l) l h; rw [show n + 1 + 63 = n + 63 + 1 by omega]; exact q)
theorem mt_X10_holdsIn {g : bzGeo} {o : Nat} {a1 : Int32} {a2 : Int32} {σ : bzS} {r0 : Int32} {σ0 : bzS} (l : Launch) (h : f_X10_holdsIn o a1 a2 σ = some (r0, σ0)) : Met l yX10_holdsIn (Cond.code yX10_holdsIn cX10_holdsIn 4 (some .int) :: GW) (bzR (123)) (va_Pc [.ref (ga g o), .int a1, .int a2] (bzP g σ)) (va_Qi (fun (r : Int32) (u : bzS) => r = r0 ∧ u = σ0) (bzB g) (gA g)) 0 0 (gA g) := (mr_X10_holdsIn 60) h l
def fm_X10_tellsIn (qX10_tellsIn : Nat → Int32 → Int32 → bzS → Option (Int32 × bzS)) (o : Nat) (a1 : Int32) (a2 : Int32) (σ : bzS) : Option (Int32 × bzS) :=
  bzGd (kd o = 10) (if a1 = 0 then (bzBd (f_X10_ran o 13 σ) (fun σ26 => bzBp (f_X10_holdsIn o ((σ26 o 24)) a2 σ26) (fun x28 σ29 => bzBp (f_X10_nodsIn o ((σ29 o 24)) a2 σ29) (fun x31 σ32 => some ((x28 ^^^ x31), σ32))))) else (if a1 = 4 then (bzBd (f_X10_ran o 50 σ) (fun σ18 => bzBp (qX10_tellsIn o 1 a2 σ18) (fun x20 σ21 => bzBp (f_X10_callsIn o ((σ21 o 24)) 2 σ21) (fun x23 σ24 => some ((x20 - x23), σ24))))) else (if a1 = 6 then (bzBd (f_X10_ran o 71 σ) (fun σ10 => bzBp (f_X10_holdsIn o ((σ10 o 24)) a2 σ10) (fun x12 σ13 => bzBp (qX10_tellsIn o 3 a2 σ13) (fun x15 σ16 => some ((x12 - x15), σ16))))) else (bzBd (f_X10_above a1) (fun x5 => bzBp (qX10_tellsIn o x5 a2 σ) (fun x7 σ8 => some (x7, σ8)))))))
set_option maxHeartbeats 4000000 in
set_option maxRecDepth 20000 in
theorem mm_X10_tellsIn {d : Nat} (hd : 124 ≤ d) {qX10_tellsIn : Nat → Int32 → Int32 → bzS → Option (Int32 × bzS)} (hqX10_tellsIn : ∀ {g : bzGeo} {o : Nat} {a1 : Int32} {a2 : Int32} {σ : bzS} {r0 : Int32} {σ0 : bzS} , qX10_tellsIn o a1 a2 σ = some (r0, σ0) → ∀ l : Launch, Met l yX10_tellsIn (Cond.code yX10_tellsIn cX10_tellsIn 4 (some .int) :: GW) (bzR (d)) (va_Pc [.ref (ga g o), .int a1, .int a2] (bzP g σ)) (va_Qi (fun (r : Int32) (u : bzS) => r = r0 ∧ u = σ0) (bzB g) (gA g)) 0 0 (gA g)) {g : bzGeo} {o : Nat} {a1 : Int32} {a2 : Int32} {σ : bzS} {r0 : Int32} {σ0 : bzS} (l : Launch) (h : fm_X10_tellsIn qX10_tellsIn o a1 a2 σ = some (r0, σ0)) : Met l yX10_tellsIn (Cond.code yX10_tellsIn cX10_tellsIn 4 (some .int) :: GW) (bzR (d + 1)) (va_Pc [.ref (ga g o), .int a1, .int a2] (bzP g σ)) (va_Qi (fun (r : Int32) (u : bzS) => r = r0 ∧ u = σ0) (bzB g) (gA g)) 0 0 (gA g) := by
  unfold fm_X10_tellsIn at h
  obtain ⟨ho, h⟩ := bzGdE h
  refine j_start l (by decide +kernel) [.ref (ga g o), .int a1, .int a2] [(0, .ref (ga g o)), (1, .int a1), (2, .int a2)] (Nat.le_of_ble_eq_true rfl) rfl (fun x hF hG => ?_)
  refine j_iload_n hF 1 dX10_tellsIn_0 rfl ?_
  refine j_if_ne hF (tgt := 32) dX10_tellsIn_1 (by decide) (fun c1 => ?_) (fun c1 => ?_)
  · replace h := bzIfF h c1
    refine j_iload_n hF 1 dX10_tellsIn_32 rfl ?_
    refine j_iconst hF (v := 4) dX10_tellsIn_33 (by decide) ?_
    refine j_icmp_ne hF (tgt := 62) dX10_tellsIn_34 (by decide) (fun c2 => ?_) (fun c2 => ?_)
    · replace h := bzIfF h c2
      refine j_iload_n hF 1 dX10_tellsIn_62 rfl ?_
      refine j_bipush hF (v := 6) dX10_tellsIn_63 (by decide) ?_
      refine j_icmp_ne hF (tgt := 93) dX10_tellsIn_65 (by decide) (fun c3 => ?_) (fun c3 => ?_)
      · replace h := bzIfF h c3
        refine j_aload_n hF 0 dX10_tellsIn_93 rfl ?_
        refine j_iload_n hF 1 dX10_tellsIn_94 rfl ?_
        obtain ⟨x5, e4, h⟩ := bzBdE h
        refine cs_X10_92 hF (fun l => mt_X10_above l e4) (by omega) (Nat.le_of_ble_eq_true rfl) dX10_tellsIn_95 ?_
        refine j_iload_n hF 2 dX10_tellsIn_98 rfl ?_
        obtain ⟨x7, σ8, e6, h⟩ := bzBpE h
        refine cs_X10_257 hF ho (hqX10_tellsIn e6) (by omega) (Nat.le_of_ble_eq_true rfl) dX10_tellsIn_99 ?_
        exact j_iret hF hG dX10_tellsIn_102  (bzRet h).1 (bzRet h).2
      · replace h := bzIfT h c3
        refine j_aload_n hF 0 dX10_tellsIn_68 rfl ?_
        refine j_bipush hF (v := 71) dX10_tellsIn_69 (by decide) ?_
        obtain ⟨σ10, e9, h⟩ := bzBdE h
        refine cs_X10_236 hF ho (fun l => mt_X10_ran l e9) (by omega) (Nat.le_of_ble_eq_true rfl) dX10_tellsIn_71 ?_
        refine j_aload_n hF 0 dX10_tellsIn_74 rfl ?_
        refine j_aload_n hF 0 dX10_tellsIn_75 rfl ?_
        refine gf_X10_251 hF ho dX10_tellsIn_76 ?_
        refine j_iload_n hF 2 dX10_tellsIn_79 rfl ?_
        obtain ⟨x12, σ13, e11, h⟩ := bzBpE h
        refine cs_X10_254 hF ho (fun l => mt_X10_holdsIn l e11) (by omega) (Nat.le_of_ble_eq_true rfl) dX10_tellsIn_80 ?_
        refine j_istore_n hF (lv1 := [(3, .int x12), (0, .ref (ga g o)), (1, .int a1), (2, .int a2)]) dX10_tellsIn_83 (by decide) rfl ?_
        refine j_iload_n hF 0 dX10_tellsIn_84 rfl ?_
        refine j_aload_n hF 1 dX10_tellsIn_85 rfl ?_
        refine j_iconst hF (v := 3) dX10_tellsIn_86 (by decide) ?_
        refine j_iload_n hF 3 dX10_tellsIn_87 rfl ?_
        obtain ⟨x15, σ16, e14, h⟩ := bzBpE h
        refine cs_X10_257 hF ho (hqX10_tellsIn e14) (by omega) (Nat.le_of_ble_eq_true rfl) dX10_tellsIn_88 ?_
        refine j_isub hF dX10_tellsIn_91 ?_
        exact j_iret hF hG dX10_tellsIn_92  (bzRet h).1 (bzRet h).2
    · replace h := bzIfT h c2
      refine j_aload_n hF 0 dX10_tellsIn_37 rfl ?_
      refine j_bipush hF (v := 50) dX10_tellsIn_38 (by decide) ?_
      obtain ⟨σ18, e17, h⟩ := bzBdE h
      refine cs_X10_236 hF ho (fun l => mt_X10_ran l e17) (by omega) (Nat.le_of_ble_eq_true rfl) dX10_tellsIn_40 ?_
      refine j_aload_n hF 0 dX10_tellsIn_43 rfl ?_
      refine j_iconst hF (v := 1) dX10_tellsIn_44 (by decide) ?_
      refine j_iload_n hF 2 dX10_tellsIn_45 rfl ?_
      obtain ⟨x20, σ21, e19, h⟩ := bzBpE h
      refine cs_X10_257 hF ho (hqX10_tellsIn e19) (by omega) (Nat.le_of_ble_eq_true rfl) dX10_tellsIn_46 ?_
      refine j_istore_n hF (lv1 := [(3, .int x20), (0, .ref (ga g o)), (1, .int a1), (2, .int a2)]) dX10_tellsIn_49 (by decide) rfl ?_
      refine j_iload_n hF 0 dX10_tellsIn_50 rfl ?_
      refine j_aload_n hF 1 dX10_tellsIn_51 rfl ?_
      refine j_aload_n hF 1 dX10_tellsIn_52 rfl ?_
      refine gf_X10_251 hF ho dX10_tellsIn_53 ?_
      refine j_iconst hF (v := 2) dX10_tellsIn_56 (by decide) ?_
      obtain ⟨x23, σ24, e22, h⟩ := bzBpE h
      refine cs_X10_242 hF ho (fun l => mt_X10_callsIn l e22) (by omega) (Nat.le_of_ble_eq_true rfl) dX10_tellsIn_57 ?_
      refine j_isub hF dX10_tellsIn_60 ?_
      exact j_iret hF hG dX10_tellsIn_61  (bzRet h).1 (bzRet h).2
  · replace h := bzIfT h c1
    refine j_aload_n hF 0 dX10_tellsIn_4 rfl ?_
    refine j_bipush hF (v := 13) dX10_tellsIn_5 (by decide) ?_
    obtain ⟨σ26, e25, h⟩ := bzBdE h
    refine cs_X10_236 hF ho (fun l => mt_X10_ran l e25) (by omega) (Nat.le_of_ble_eq_true rfl) dX10_tellsIn_7 ?_
    refine j_aload_n hF 0 dX10_tellsIn_10 rfl ?_
    refine j_aload_n hF 0 dX10_tellsIn_11 rfl ?_
    refine gf_X10_251 hF ho dX10_tellsIn_12 ?_
    refine j_iload_n hF 2 dX10_tellsIn_15 rfl ?_
    obtain ⟨x28, σ29, e27, h⟩ := bzBpE h
    refine cs_X10_254 hF ho (fun l => mt_X10_holdsIn l e27) (by omega) (Nat.le_of_ble_eq_true rfl) dX10_tellsIn_16 ?_
    refine j_istore_n hF (lv1 := [(3, .int x28), (0, .ref (ga g o)), (1, .int a1), (2, .int a2)]) dX10_tellsIn_19 (by decide) rfl ?_
    refine j_iload_n hF 0 dX10_tellsIn_20 rfl ?_
    refine j_aload_n hF 1 dX10_tellsIn_21 rfl ?_
    refine j_aload_n hF 1 dX10_tellsIn_22 rfl ?_
    refine gf_X10_251 hF ho dX10_tellsIn_23 ?_
    refine j_iload_n hF 3 dX10_tellsIn_26 rfl ?_
    obtain ⟨x31, σ32, e30, h⟩ := bzBpE h
    refine cs_X10_248 hF ho (fun l => mt_X10_nodsIn l e30) (by omega) (Nat.le_of_ble_eq_true rfl) dX10_tellsIn_27 ?_
    refine j_ixor hF dX10_tellsIn_30 ?_
    exact j_iret hF hG dX10_tellsIn_31  (bzRet h).1 (bzRet h).2
def fr_X10_tellsIn : Nat → (Nat → Int32 → Int32 → bzS → Option (Int32 × bzS))
  | 0 => fun _ _ _ _ => none
  | n + 1 => fm_X10_tellsIn (fr_X10_tellsIn n)
def f_X10_tellsIn : Nat → Int32 → Int32 → bzS → Option (Int32 × bzS) := (fr_X10_tellsIn 60)
set_option maxHeartbeats 4000000 in
theorem mr_X10_tellsIn : ∀ n : Nat, (∀ {g : bzGeo} {o : Nat} {a1 : Int32} {a2 : Int32} {σ : bzS} {r0 : Int32} {σ0 : bzS} , (fr_X10_tellsIn n) o a1 a2 σ = some (r0, σ0) → ∀ l : Launch, Met l yX10_tellsIn (Cond.code yX10_tellsIn cX10_tellsIn 4 (some .int) :: GW) (bzR (n + 124)) (va_Pc [.ref (ga g o), .int a1, .int a2] (bzP g σ)) (va_Qi (fun (r : Int32) (u : bzS) => r = r0 ∧ u = σ0) (bzB g) (gA g)) 0 0 (gA g)) := by
  intro n
  induction n with
  | zero => exact by intros; contradiction
  | succ n ih =>
    exact fun {g} {o} {a1} {a2} {σ} {r0} {σ0} h l => (by have q := mm_X10_tellsIn (g := g) (d := n + 124) (by omega) (fun {g} {o} {a1} {a2} {σ} {r0} {σ0} h l => ih h l) l h; rw [show n + 1 + 124 = n + 124 + 1 by omega]; exact q)
theorem mt_X10_tellsIn {g : bzGeo} {o : Nat} {a1 : Int32} {a2 : Int32} {σ : bzS} {r0 : Int32} {σ0 : bzS} (l : Launch) (h : f_X10_tellsIn o a1 a2 σ = some (r0, σ0)) : Met l yX10_tellsIn (Cond.code yX10_tellsIn cX10_tellsIn 4 (some .int) :: GW) (bzR (184)) (va_Pc [.ref (ga g o), .int a1, .int a2] (bzP g σ)) (va_Qi (fun (r : Int32) (u : bzS) => r = r0 ∧ u = σ0) (bzB g) (gA g)) 0 0 (gA g) := (mr_X10_tellsIn 60) h l
def f_X10_voice (o : Nat) (a1 : Int32) (a2 : Int32) (a3 : Int32) (σ : bzS) : Option (Int32 × bzS) :=
  bzGd (kd o = 10) (bzBd (f_X10_isVisitor o a1 σ) (fun x2 => if x2 = 0 then (bzBp (f_X10_errs o ((-1000000001)) σ) (fun x5 σ6 => some (x5, σ6))) else (bzBd (f_X10_in a2 0 3) (fun x8 => if x8 = 0 then (bzBp (f_X10_errs o ((-1000000001)) σ) (fun x34 σ35 => some (x34, σ35))) else (bzLet (bzSt σ o 23 0) (fun σ10 => bzBd (f_X10_its o a1 0 σ10) (fun x12 => bzLet (bzSt σ10 o 24 x12) (fun σ13 => bzLet (bzSt σ13 o 25 a1) (fun σ14 => bzBd (f_X10_its o a1 1 σ14) (fun x16 => bzLet (bzSt σ14 o 26 x16) (fun σ17 => if a2 = 0 then (bzBp (f_X10_callsIn o ((σ17 o 24)) a3 σ17) (fun x20 σ21 => some (x20, σ21))) else if a2 = 1 then (bzBp (f_X10_holdsIn o ((σ17 o 24)) a3 σ17) (fun x24 σ25 => some (x24, σ25))) else if a2 = 2 then (bzBp (f_X10_nodsIn o ((σ17 o 24)) a3 σ17) (fun x28 σ29 => some (x28, σ29))) else (bzBp (f_X10_tellsIn o ((σ17 o 24)) a3 σ17) (fun x31 σ32 => some (x31, σ32))))))))))))))
set_option maxHeartbeats 4000000 in
set_option maxRecDepth 20000 in
theorem mt_X10_voice {g : bzGeo} {o : Nat} {a1 : Int32} {a2 : Int32} {a3 : Int32} {σ : bzS} {r0 : Int32} {σ0 : bzS} (l : Launch) (h : f_X10_voice  o a1 a2 a3 σ = some (r0, σ0)) : Met l yX10_voice (Cond.code yX10_voice cX10_voice 4 (some .int) :: GW) (bzR (185)) (va_Pc [.ref (ga g o), .int a1, .int a2, .int a3] (bzP g σ)) (va_Qi (fun (r : Int32) (u : bzS) => r = r0 ∧ u = σ0) (bzB g) (gA g)) 0 0 (gA g) := by
  unfold f_X10_voice at h
  obtain ⟨ho, h⟩ := bzGdE h
  refine j_start l (by decide +kernel) [.ref (ga g o), .int a1, .int a2, .int a3] [(0, .ref (ga g o)), (1, .int a1), (2, .int a2), (3, .int a3)] (Nat.le_of_ble_eq_true rfl) rfl (fun x hF hG => ?_)
  refine j_aload_n hF 0 dX10_voice_0 rfl ?_
  refine j_iload_n hF 1 dX10_voice_1 rfl ?_
  obtain ⟨x2, e1, h⟩ := bzBdE h
  refine cs_X10_80 hF ho (fun l => mt_X10_isVisitor l e1) (by decide) (Nat.le_of_ble_eq_true rfl) dX10_voice_2 ?_
  refine j_if_eq hF (tgt := 17) dX10_voice_5 (by decide) (fun c3 => ?_) (fun c3 => ?_)
  · replace h := bzIfT h c3
    refine j_aload_n hF 0 dX10_voice_17 rfl ?_
    refine j_ldc hF (v := (-1000000001)) kc_X10_59 dX10_voice_18 ?_
    obtain ⟨x5, σ6, e4, h⟩ := bzBpE h
    refine cs_X10_60 hF ho (fun l => mt_X10_errs l e4) (by decide) (Nat.le_of_ble_eq_true rfl) dX10_voice_20 ?_
    exact j_iret hF hG dX10_voice_23  (bzRet h).1 (bzRet h).2
  · replace h := bzIfF h c3
    refine j_iload_n hF 2 dX10_voice_8 rfl ?_
    refine j_iconst hF (v := 0) dX10_voice_9 (by decide) ?_
    refine j_iconst hF (v := 3) dX10_voice_10 (by decide) ?_
    obtain ⟨x8, e7, h⟩ := bzBdE h
    refine cs_X10_51 hF (fun l => mt_X10_in l e7) (by decide) (Nat.le_of_ble_eq_true rfl) dX10_voice_11 ?_
    refine j_if_ne hF (tgt := 24) dX10_voice_14 (by decide) (fun c9 => ?_) (fun c9 => ?_)
    · replace h := bzIfF h c9
      refine j_aload_n hF 0 dX10_voice_24 rfl ?_
      refine j_iconst hF (v := 0) dX10_voice_25 (by decide) ?_
      refine pf_X10_233 hF ho dX10_voice_26 ?_
      refine j_s (fun σ10 eσ10 => ?_)
      replace h := bzLetE h eσ10
      refine j_aload_n hF 0 dX10_voice_29 rfl ?_
      refine j_aload_n hF 0 dX10_voice_30 rfl ?_
      refine j_iload_n hF 1 dX10_voice_31 rfl ?_
      refine j_iconst hF (v := 0) dX10_voice_32 (by decide) ?_
      obtain ⟨x12, e11, h⟩ := bzBdE h
      refine cs_X10_83 hF ho (fun l => mt_X10_its l e11) (by decide) (Nat.le_of_ble_eq_true rfl) dX10_voice_33 ?_
      refine pf_X10_251 hF ho dX10_voice_36 ?_
      refine j_s (fun σ13 eσ13 => ?_)
      replace h := bzLetE h eσ13
      refine j_aload_n hF 0 dX10_voice_39 rfl ?_
      refine j_iload_n hF 1 dX10_voice_40 rfl ?_
      refine pf_X10_239 hF ho dX10_voice_41 ?_
      refine j_s (fun σ14 eσ14 => ?_)
      replace h := bzLetE h eσ14
      refine j_aload_n hF 0 dX10_voice_44 rfl ?_
      refine j_aload_n hF 0 dX10_voice_45 rfl ?_
      refine j_iload_n hF 1 dX10_voice_46 rfl ?_
      refine j_iconst hF (v := 1) dX10_voice_47 (by decide) ?_
      obtain ⟨x16, e15, h⟩ := bzBdE h
      refine cs_X10_83 hF ho (fun l => mt_X10_its l e15) (by decide) (Nat.le_of_ble_eq_true rfl) dX10_voice_48 ?_
      refine pf_X10_245 hF ho dX10_voice_51 ?_
      refine j_s (fun σ17 eσ17 => ?_)
      replace h := bzLetE h eσ17
      refine j_iload_n hF 2 dX10_voice_54 rfl ?_
      rcases Decidable.em (a2 = 0) with c18 | c18
      · replace h := bzIfT h c18
        refine j_tableIn hF (tgt := 80) dX10_voice_55 (by rw [c18] <;> decide) (by rw [c18] <;> decide) (by rw [c18] <;> rfl) (by decide) ?_
        refine j_aload_n hF 0 dX10_voice_80 rfl ?_
        refine j_aload_n hF 0 dX10_voice_81 rfl ?_
        refine gf_X10_251 hF ho dX10_voice_82 ?_
        refine j_iload_n hF 3 dX10_voice_85 rfl ?_
        obtain ⟨x20, σ21, e19, h⟩ := bzBpE h
        refine cs_X10_242 hF ho (fun l => mt_X10_callsIn l e19) (by decide) (Nat.le_of_ble_eq_true rfl) dX10_voice_86 ?_
        exact j_iret hF hG dX10_voice_89  (bzRet h).1 (bzRet h).2
      · replace h := bzIfF h c18
        rcases Decidable.em (a2 = 1) with c22 | c22
        · replace h := bzIfT h c22
          refine j_tableIn hF (tgt := 90) dX10_voice_55 (by rw [c22] <;> decide) (by rw [c22] <;> decide) (by rw [c22] <;> rfl) (by decide) ?_
          refine j_aload_n hF 0 dX10_voice_90 rfl ?_
          refine j_aload_n hF 0 dX10_voice_91 rfl ?_
          refine gf_X10_251 hF ho dX10_voice_92 ?_
          refine j_iload_n hF 3 dX10_voice_95 rfl ?_
          obtain ⟨x24, σ25, e23, h⟩ := bzBpE h
          refine cs_X10_254 hF ho (fun l => mt_X10_holdsIn l e23) (by decide) (Nat.le_of_ble_eq_true rfl) dX10_voice_96 ?_
          exact j_iret hF hG dX10_voice_99  (bzRet h).1 (bzRet h).2
        · replace h := bzIfF h c22
          rcases Decidable.em (a2 = 2) with c26 | c26
          · replace h := bzIfT h c26
            refine j_tableIn hF (tgt := 100) dX10_voice_55 (by rw [c26] <;> decide) (by rw [c26] <;> decide) (by rw [c26] <;> rfl) (by decide) ?_
            refine j_aload_n hF 0 dX10_voice_100 rfl ?_
            refine j_aload_n hF 0 dX10_voice_101 rfl ?_
            refine gf_X10_251 hF ho dX10_voice_102 ?_
            refine j_iload_n hF 3 dX10_voice_105 rfl ?_
            obtain ⟨x28, σ29, e27, h⟩ := bzBpE h
            refine cs_X10_248 hF ho (fun l => mt_X10_nodsIn l e27) (by decide) (Nat.le_of_ble_eq_true rfl) dX10_voice_106 ?_
            exact j_iret hF hG dX10_voice_109  (bzRet h).1 (bzRet h).2
          · replace h := bzIfF h c26
            refine j_tableOut hF (tgt := 110) dX10_voice_55 (by have q0 := lv_neT (a := 0) c18 (by decide); have q1 := lv_neT (a := 1) c22 (by decide); have q2 := lv_neT (a := 2) c26 (by decide); omega) (by decide) ?_
            refine j_aload_n hF 0 dX10_voice_110 rfl ?_
            refine j_aload_n hF 0 dX10_voice_111 rfl ?_
            refine gf_X10_251 hF ho dX10_voice_112 ?_
            refine j_iload_n hF 3 dX10_voice_115 rfl ?_
            obtain ⟨x31, σ32, e30, h⟩ := bzBpE h
            refine cs_X10_257 hF ho (fun l => mt_X10_tellsIn l e30) (by decide) (Nat.le_of_ble_eq_true rfl) dX10_voice_116 ?_
            exact j_iret hF hG dX10_voice_119  (bzRet h).1 (bzRet h).2
    · replace h := bzIfT h c9
      refine j_aload_n hF 0 dX10_voice_17 rfl ?_
      refine j_ldc hF (v := (-1000000001)) kc_X10_59 dX10_voice_18 ?_
      obtain ⟨x34, σ35, e33, h⟩ := bzBpE h
      refine cs_X10_60 hF ho (fun l => mt_X10_errs l e33) (by decide) (Nat.le_of_ble_eq_true rfl) dX10_voice_20 ?_
      exact j_iret hF hG dX10_voice_23  (bzRet h).1 (bzRet h).2
def f_X10_trace (o : Nat) (a1 : Int32) (σ : bzS) : Option (Int32 × bzS) :=
  bzGd (kd o = 10) (bzBd (f_X10_in a1 0 (((σ o 23) - 1))) (fun x2 => if x2 = 0 then (bzBp (f_X10_errs o ((-1000000002)) σ) (fun x5 σ6 => some (x5, σ6))) else (bzGd (bzIn a1 40) (some ((σ (ly o 22) a1.toNatClampNeg), σ)))))
set_option maxHeartbeats 4000000 in
set_option maxRecDepth 20000 in
theorem mt_X10_trace {g : bzGeo} {o : Nat} {a1 : Int32} {σ : bzS} {r0 : Int32} {σ0 : bzS} (l : Launch) (h : f_X10_trace  o a1 σ = some (r0, σ0)) : Met l yX10_trace (Cond.code yX10_trace cX10_trace 2 (some .int) :: GW) (bzR (2)) (va_Pc [.ref (ga g o), .int a1] (bzP g σ)) (va_Qi (fun (r : Int32) (u : bzS) => r = r0 ∧ u = σ0) (bzB g) (gA g)) 0 0 (gA g) := by
  unfold f_X10_trace at h
  obtain ⟨ho, h⟩ := bzGdE h
  refine j_start l (by decide +kernel) [.ref (ga g o), .int a1] [(0, .ref (ga g o)), (1, .int a1)] (Nat.le_of_ble_eq_true rfl) rfl (fun x hF hG => ?_)
  refine j_iload_n hF 1 dX10_trace_0 rfl ?_
  refine j_iconst hF (v := 0) dX10_trace_1 (by decide) ?_
  refine j_aload_n hF 0 dX10_trace_2 rfl ?_
  refine gf_X10_233 hF ho dX10_trace_3 ?_
  refine j_iconst hF (v := 1) dX10_trace_6 (by decide) ?_
  refine j_isub hF dX10_trace_7 ?_
  obtain ⟨x2, e1, h⟩ := bzBdE h
  refine cs_X10_51 hF (fun l => mt_X10_in l e1) (by decide) (Nat.le_of_ble_eq_true rfl) dX10_trace_8 ?_
  refine j_if_eq hF (tgt := 23) dX10_trace_11 (by decide) (fun c3 => ?_) (fun c3 => ?_)
  · replace h := bzIfT h c3
    refine j_aload_n hF 0 dX10_trace_23 rfl ?_
    refine j_ldc hF (v := (-1000000002)) kc_X10_198 dX10_trace_24 ?_
    obtain ⟨x5, σ6, e4, h⟩ := bzBpE h
    refine cs_X10_60 hF ho (fun l => mt_X10_errs l e4) (by decide) (Nat.le_of_ble_eq_true rfl) dX10_trace_26 ?_
    exact j_iret hF hG dX10_trace_29  (bzRet h).1 (bzRet h).2
  · replace h := bzIfF h c3
    refine j_aload_n hF 0 dX10_trace_14 rfl ?_
    refine gf_X10_47 hF ho dX10_trace_15 ?_
    refine j_iload_n hF 1 dX10_trace_18 rfl ?_
    obtain ⟨g7, h⟩ := bzGdE h
    refine j_iald hF (c := a1.toNatClampNeg) (kl_10_22 ho) (nl_10_22 ho) g7 rfl dX10_trace_19 ?_
    refine j_goto hF (tgt := 29) dX10_trace_20 (by decide) ?_
    exact j_iret hF hG dX10_trace_29  (bzRet h).1 (bzRet h).2
def f_X10_narrow (a0 : Int32) (a1 : Int32) : Option Int32 :=
  if a0 = 8 then (some a1.toInt8.toInt32) else (if a0 = 16 then (some a1.toInt16.toInt32) else (some a1))
set_option maxHeartbeats 4000000 in
set_option maxRecDepth 20000 in
theorem mt_X10_narrow {g : bzGeo} {a0 : Int32} {a1 : Int32} {σ : bzS} {r0 : Int32} (l : Launch) (h : f_X10_narrow  a0 a1 = some r0) : Met l yX10_narrow (Cond.code yX10_narrow cX10_narrow 2 (some .int) :: GW) (bzR (1)) (va_Pc [.int a0, .int a1] (bzP g σ)) (va_Qi (fun (r : Int32) (u : bzS) => r = r0 ∧ u = σ) (bzB g) (gA g)) 0 0 (gA g) := by
  unfold f_X10_narrow at h
  refine j_start l (by decide +kernel) [.int a0, .int a1] [(0, .int a0), (1, .int a1)] (Nat.le_of_ble_eq_true rfl) rfl (fun x hF hG => ?_)
  refine j_iload_n hF 0 dX10_narrow_0 rfl ?_
  refine j_bipush hF (v := 8) dX10_narrow_1 (by decide) ?_
  refine j_icmp_ne hF (tgt := 11) dX10_narrow_3 (by decide) (fun c1 => ?_) (fun c1 => ?_)
  · replace h := bzIfF h c1
    refine j_iload_n hF 0 dX10_narrow_11 rfl ?_
    refine j_bipush hF (v := 16) dX10_narrow_12 (by decide) ?_
    refine j_icmp_ne hF (tgt := 22) dX10_narrow_14 (by decide) (fun c2 => ?_) (fun c2 => ?_)
    · replace h := bzIfF h c2
      refine j_iload_n hF 1 dX10_narrow_22 rfl ?_
      exact j_iret hF hG dX10_narrow_23  (Option.some.inj h) rfl
    · replace h := bzIfT h c2
      refine j_iload_n hF 1 dX10_narrow_17 rfl ?_
      refine j_i2s hF dX10_narrow_18 ?_
      refine j_goto hF (tgt := 23) dX10_narrow_19 (by decide) ?_
      exact j_iret hF hG dX10_narrow_23  (Option.some.inj h) rfl
  · replace h := bzIfT h c1
    refine j_iload_n hF 1 dX10_narrow_6 rfl ?_
    refine j_i2b hF dX10_narrow_7 ?_
    refine j_goto hF (tgt := 23) dX10_narrow_8 (by decide) ?_
    exact j_iret hF hG dX10_narrow_23  (Option.some.inj h) rfl
