set_option linter.unusedVariables false
def fb_X10_sheet_93 (K93 : Int32 → bzS → Option (Int32 × bzS)) (o : Nat) (a1 : Int32) (a2 : Int32) (a3 : Int32) (v4 : Int32) (σ1 : bzS) : Option (Int32 × bzS) :=
  if 40 ≤ v4 then (some (1, σ1)) else (bzGd (bzIn ((40 * a1) + v4) 160) (bzLet (bzSt σ1 (ly o 18) ((((40 * a1) + v4)).toNatClampNeg) 0) (fun σ17 => bzLet (v4 + 1) (fun x18 => K93 x18 σ17))))
def fl_X10_sheet_93 (o : Nat) (a1 : Int32) (a2 : Int32) (a3 : Int32) : Nat → Int32 → bzS → Option (Int32 × bzS)
  | 0, _, _ => none
  | n + 1, v4, σ1 => fb_X10_sheet_93   (fl_X10_sheet_93   o a1 a2 a3 n) o a1 a2 a3 v4 σ1
def fb_X10_sheet_68 (o : Nat) (a1 : Int32) (a2 : Int32) (a3 : Int32) (σ1 : bzS) : Option (Int32 × bzS) :=
  bzGd (bzIn a1 4) (bzLet (bzSt σ1 (ly o 16) a1.toNatClampNeg a2) (fun σ11 => if a2 = 0 then (bzGd (bzIn a1 4) (bzLet (bzSt σ11 (ly o 17) a1.toNatClampNeg 0) (fun σ20 => fl_X10_sheet_93 o a1 a2 a3 2000 0 σ20))) else (bzGd (bzIn a1 4) (bzLet (bzSt σ11 (ly o 17) a1.toNatClampNeg a3) (fun σ14 => fl_X10_sheet_93 o a1 a2 a3 2000 0 σ14)))))
def fb_X10_sheet_36 (o : Nat) (a1 : Int32) (a2 : Int32) (a3 : Int32) (σ1 : bzS) : Option (Int32 × bzS) :=
  if a2 = 0 then (if a2 = 0 then (fb_X10_sheet_68 o a1 a2 a3 σ1) else (if a3 ≤ 40 then (fb_X10_sheet_68 o a1 a2 a3 σ1) else (bzBp (f_X10_errs o ((-1000000001)) σ1) (fun x23 σ24 => some (x23, σ24))))) else (if 0 ≤ a3 then (if a2 = 0 then (fb_X10_sheet_68 o a1 a2 a3 σ1) else (if a3 ≤ 40 then (fb_X10_sheet_68 o a1 a2 a3 σ1) else (bzBp (f_X10_errs o ((-1000000001)) σ1) (fun x29 σ30 => some (x29, σ30))))) else (bzBp (f_X10_errs o ((-1000000003)) σ1) (fun x32 σ33 => some (x32, σ33))))
def f_X10_sheet (o : Nat) (a1 : Int32) (a2 : Int32) (a3 : Int32) (σ : bzS) : Option (Int32 × bzS) :=
  bzGd (kd o = 10) (bzBd (f_X10_isSheet a1) (fun x2 => if x2 = 0 then (bzBp (f_X10_errs o ((-1000000001)) σ) (fun x5 σ6 => some (x5, σ6))) else (if a2 = 0 then (fb_X10_sheet_36 o a1 a2 a3 σ) else (if a2 = 8 then (fb_X10_sheet_36 o a1 a2 a3 σ) else (if a2 = 16 then (fb_X10_sheet_36 o a1 a2 a3 σ) else (if a2 = 32 then (fb_X10_sheet_36 o a1 a2 a3 σ) else (bzBp (f_X10_errs o ((-1000000001)) σ) (fun x38 σ39 => some (x38, σ39)))))))))
set_option maxHeartbeats 4000000 in
set_option maxRecDepth 20000 in
theorem mt_X10_sheet {g : bzGeo} {o : Nat} {a1 : Int32} {a2 : Int32} {a3 : Int32} {σ : bzS} {r0 : Int32} {σ0 : bzS} (l : Launch) (h : f_X10_sheet  o a1 a2 a3 σ = some (r0, σ0)) : Met l yX10_sheet (Cond.code yX10_sheet cX10_sheet 5 (some .int) :: GW) (bzR (3)) (va_Pc [.ref (ga g o), .int a1, .int a2, .int a3] (bzP g σ)) (va_Qi (fun (r : Int32) (u : bzS) => r = r0 ∧ u = σ0) (bzB g) (gA g)) 0 0 (gA g) := by
  unfold f_X10_sheet at h
  obtain ⟨ho, h⟩ := bzGdE h
  refine j_start l (by decide +kernel) [.ref (ga g o), .int a1, .int a2, .int a3] [(0, .ref (ga g o)), (1, .int a1), (2, .int a2), (3, .int a3)] (Nat.le_of_ble_eq_true rfl) rfl (fun x hF hG => ?_)
  have J93 : (K93 : Int32 → bzS → Option (Int32 × bzS)) → (hK93 : ∀ (v4 : Int32) (σ1 : bzS), K93 v4 σ1 = some (r0, σ0) → bzJ g 5 x σ1 93 [(0, .ref (ga g o)), (1, .int a1), (2, .int a2), (3, .int a3), (4, .int v4)] []) → ∀ (v4 : Int32) (σ1 : bzS), fb_X10_sheet_93 K93 o a1 a2 a3 v4 σ1 = some (r0, σ0) → bzJ g 5 x σ1 93 [(0, .ref (ga g o)), (1, .int a1), (2, .int a2), (3, .int a3), (4, .int v4)] [] := by
    intro K93 hK93 v4 σ1 h
    unfold fb_X10_sheet_93 at h
    refine j_iload hF 4 dX10_sheet_93 rfl ?_
    refine j_bipush hF (v := 40) dX10_sheet_95 (by decide) ?_
    refine j_icmp_ge hF (tgt := 119) dX10_sheet_97 (by decide) (fun c15 => ?_) (fun c15 => ?_)
    · replace h := bzIfT h c15
      refine j_iconst hF (v := 1) dX10_sheet_119 (by decide) ?_
      exact j_iret hF hG dX10_sheet_120 (bzRet h).1 (bzRet h).2
    · replace h := bzIfF h c15
      refine j_aload_n hF 0 dX10_sheet_100 rfl ?_
      refine gf_X10_35 hF ho dX10_sheet_101 ?_
      refine j_bipush hF (v := 40) dX10_sheet_104 (by decide) ?_
      refine j_iload_n hF 1 dX10_sheet_106 rfl ?_
      refine j_imul hF dX10_sheet_107 ?_
      refine j_iload hF 4 dX10_sheet_108 rfl ?_
      refine j_iadd hF dX10_sheet_110 ?_
      refine j_iconst hF (v := 0) dX10_sheet_111 (by decide) ?_
      obtain ⟨g16, h⟩ := bzGdE h
      refine j_iast hF (c := (((40 * a1) + v4)).toNatClampNeg) (kl_10_18 ho) (nl_10_18 ho) g16 rfl dX10_sheet_112 ?_
      refine j_s (fun σ17 eσ17 => ?_)
      replace h := bzLetE h eσ17
      obtain ⟨x18, ex18⟩ : ∃ y : Int32, y = v4 + 1 := ⟨_, rfl⟩
      replace h := bzLetE h ex18
      refine j_iinc hF (v := x18) (lv1 := [(4, .int x18), (0, .ref (ga g o)), (1, .int a1), (2, .int a2), (3, .int a3)]) 4 dX10_sheet_113 rfl (by rw [ex18]; rfl) (by decide) rfl ?_
      refine j_goto hF (tgt := 93) dX10_sheet_116 (by decide) ?_
      refine j_sub [1, 2, 3, 4, 0] rfl ?_
      exact hK93 x18 σ17 h
  have L93 : ∀ (n : Nat) (v4 : Int32) (σ1 : bzS), fl_X10_sheet_93   o a1 a2 a3 n v4 σ1 = some (r0, σ0) → bzJ g 5 x σ1 93 [(0, .ref (ga g o)), (1, .int a1), (2, .int a2), (3, .int a3), (4, .int v4)] [] := by
    intro  n
    induction n with
    | zero =>
      intro v4 σ1  h
      cases h
    | succ n ih =>
      intro v4 σ1  h
      exact J93  (fl_X10_sheet_93   o a1 a2 a3 n) ih v4 σ1  h
  have J68 : ∀ (σ1 : bzS), fb_X10_sheet_68 o a1 a2 a3 σ1 = some (r0, σ0) → bzJ g 5 x σ1 68 [(0, .ref (ga g o)), (1, .int a1), (2, .int a2), (3, .int a3)] [] := by
    intro σ1 h
    unfold fb_X10_sheet_68 at h
    refine j_aload_n hF 0 dX10_sheet_68 rfl ?_
    refine gf_X10_29 hF ho dX10_sheet_69 ?_
    refine j_iload_n hF 1 dX10_sheet_72 rfl ?_
    refine j_iload_n hF 2 dX10_sheet_73 rfl ?_
    obtain ⟨g10, h⟩ := bzGdE h
    refine j_iast hF (c := a1.toNatClampNeg) (kl_10_16 ho) (nl_10_16 ho) g10 rfl dX10_sheet_74 ?_
    refine j_s (fun σ11 eσ11 => ?_)
    replace h := bzLetE h eσ11
    refine j_aload_n hF 0 dX10_sheet_75 rfl ?_
    refine gf_X10_32 hF ho dX10_sheet_76 ?_
    refine j_iload_n hF 1 dX10_sheet_79 rfl ?_
    refine j_iload_n hF 2 dX10_sheet_80 rfl ?_
    refine j_if_ne hF (tgt := 88) dX10_sheet_81 (by decide) (fun c12 => ?_) (fun c12 => ?_)
    · replace h := bzIfF h c12
      refine j_iload_n hF 3 dX10_sheet_88 rfl ?_
      obtain ⟨g13, h⟩ := bzGdE h
      refine j_iast hF (c := a1.toNatClampNeg) (kl_10_17 ho) (nl_10_17 ho) g13 rfl dX10_sheet_89 ?_
      refine j_s (fun σ14 eσ14 => ?_)
      replace h := bzLetE h eσ14
      refine j_iconst hF (v := 0) dX10_sheet_90 (by decide) ?_
      refine j_istore hF (lv1 := [(4, .int 0), (0, .ref (ga g o)), (1, .int a1), (2, .int a2), (3, .int a3)]) dX10_sheet_91 (by decide) rfl ?_
      refine j_sub [1, 2, 3, 4, 0] rfl ?_
      exact L93 2000 0 σ14 h
    · replace h := bzIfT h c12
      refine j_iconst hF (v := 0) dX10_sheet_84 (by decide) ?_
      refine j_goto hF (tgt := 89) dX10_sheet_85 (by decide) ?_
      obtain ⟨g19, h⟩ := bzGdE h
      refine j_iast hF (c := a1.toNatClampNeg) (kl_10_17 ho) (nl_10_17 ho) g19 rfl dX10_sheet_89 ?_
      refine j_s (fun σ20 eσ20 => ?_)
      replace h := bzLetE h eσ20
      refine j_iconst hF (v := 0) dX10_sheet_90 (by decide) ?_
      refine j_istore hF (lv1 := [(4, .int 0), (0, .ref (ga g o)), (1, .int a1), (2, .int a2), (3, .int a3)]) dX10_sheet_91 (by decide) rfl ?_
      refine j_sub [1, 2, 3, 4, 0] rfl ?_
      exact L93 2000 0 σ20 h
  have J36 : ∀ (σ1 : bzS), fb_X10_sheet_36 o a1 a2 a3 σ1 = some (r0, σ0) → bzJ g 5 x σ1 36 [(0, .ref (ga g o)), (1, .int a1), (2, .int a2), (3, .int a3)] [] := by
    intro σ1 h
    unfold fb_X10_sheet_36 at h
    refine j_iload_n hF 2 dX10_sheet_36 rfl ?_
    refine j_if_eq hF (tgt := 51) dX10_sheet_37 (by decide) (fun c8 => ?_) (fun c8 => ?_)
    · replace h := bzIfT h c8
      refine j_iload_n hF 2 dX10_sheet_51 rfl ?_
      refine j_if_eq hF (tgt := 68) dX10_sheet_52 (by decide) (fun c9 => ?_) (fun c9 => ?_)
      · replace h := bzIfT h c9
        exact J68 σ1 h
      · replace h := bzIfF h c9
        refine j_iload_n hF 3 dX10_sheet_55 rfl ?_
        refine j_bipush hF (v := 40) dX10_sheet_56 (by decide) ?_
        refine j_icmp_le hF (tgt := 68) dX10_sheet_58 (by decide) (fun c21 => ?_) (fun c21 => ?_)
        · replace h := bzIfT h c21
          exact J68 σ1 h
        · replace h := bzIfF h c21
          refine j_aload_n hF 0 dX10_sheet_61 rfl ?_
          refine j_ldc hF (v := (-1000000001)) kc_X10_59 dX10_sheet_62 ?_
          obtain ⟨x23, σ24, e22, h⟩ := bzBpE h
          refine cs_X10_60 hF ho (fun l => mt_X10_errs l e22) (by decide) (Nat.le_of_ble_eq_true rfl) dX10_sheet_64 ?_
          exact j_iret hF hG dX10_sheet_67 (bzRet h).1 (bzRet h).2
    · replace h := bzIfF h c8
      refine j_iload_n hF 3 dX10_sheet_40 rfl ?_
      refine j_if_ge hF (tgt := 51) dX10_sheet_41 (by decide) (fun c25 => ?_) (fun c25 => ?_)
      · replace h := bzIfT h c25
        refine j_iload_n hF 2 dX10_sheet_51 rfl ?_
        refine j_if_eq hF (tgt := 68) dX10_sheet_52 (by decide) (fun c26 => ?_) (fun c26 => ?_)
        · replace h := bzIfT h c26
          exact J68 σ1 h
        · replace h := bzIfF h c26
          refine j_iload_n hF 3 dX10_sheet_55 rfl ?_
          refine j_bipush hF (v := 40) dX10_sheet_56 (by decide) ?_
          refine j_icmp_le hF (tgt := 68) dX10_sheet_58 (by decide) (fun c27 => ?_) (fun c27 => ?_)
          · replace h := bzIfT h c27
            exact J68 σ1 h
          · replace h := bzIfF h c27
            refine j_aload_n hF 0 dX10_sheet_61 rfl ?_
            refine j_ldc hF (v := (-1000000001)) kc_X10_59 dX10_sheet_62 ?_
            obtain ⟨x29, σ30, e28, h⟩ := bzBpE h
            refine cs_X10_60 hF ho (fun l => mt_X10_errs l e28) (by decide) (Nat.le_of_ble_eq_true rfl) dX10_sheet_64 ?_
            exact j_iret hF hG dX10_sheet_67 (bzRet h).1 (bzRet h).2
      · replace h := bzIfF h c25
        refine j_aload_n hF 0 dX10_sheet_44 rfl ?_
        refine j_ldc hF (v := (-1000000003)) kc_X10_186 dX10_sheet_45 ?_
        obtain ⟨x32, σ33, e31, h⟩ := bzBpE h
        refine cs_X10_60 hF ho (fun l => mt_X10_errs l e31) (by decide) (Nat.le_of_ble_eq_true rfl) dX10_sheet_47 ?_
        exact j_iret hF hG dX10_sheet_50 (bzRet h).1 (bzRet h).2
  refine j_iload_n hF 1 dX10_sheet_0 rfl ?_
  obtain ⟨x2, e1, h⟩ := bzBdE h
  refine cs_X10_199 hF (fun l => mt_X10_isSheet l e1) (by decide) (Nat.le_of_ble_eq_true rfl) dX10_sheet_1 ?_
  refine j_if_eq hF (tgt := 29) dX10_sheet_4 (by decide) (fun c3 => ?_) (fun c3 => ?_)
  · replace h := bzIfT h c3
    refine j_aload_n hF 0 dX10_sheet_29 rfl ?_
    refine j_ldc hF (v := (-1000000001)) kc_X10_59 dX10_sheet_30 ?_
    obtain ⟨x5, σ6, e4, h⟩ := bzBpE h
    refine cs_X10_60 hF ho (fun l => mt_X10_errs l e4) (by decide) (Nat.le_of_ble_eq_true rfl) dX10_sheet_32 ?_
    exact j_iret hF hG dX10_sheet_35  (bzRet h).1 (bzRet h).2
  · replace h := bzIfF h c3
    refine j_iload_n hF 2 dX10_sheet_7 rfl ?_
    refine j_if_eq hF (tgt := 36) dX10_sheet_8 (by decide) (fun c7 => ?_) (fun c7 => ?_)
    · replace h := bzIfT h c7
      exact J36 σ h
    · replace h := bzIfF h c7
      refine j_iload_n hF 2 dX10_sheet_11 rfl ?_
      refine j_bipush hF (v := 8) dX10_sheet_12 (by decide) ?_
      refine j_icmp_eq hF (tgt := 36) dX10_sheet_14 (by decide) (fun c34 => ?_) (fun c34 => ?_)
      · replace h := bzIfT h c34
        exact J36 σ h
      · replace h := bzIfF h c34
        refine j_iload_n hF 2 dX10_sheet_17 rfl ?_
        refine j_bipush hF (v := 16) dX10_sheet_18 (by decide) ?_
        refine j_icmp_eq hF (tgt := 36) dX10_sheet_20 (by decide) (fun c35 => ?_) (fun c35 => ?_)
        · replace h := bzIfT h c35
          exact J36 σ h
        · replace h := bzIfF h c35
          refine j_iload_n hF 2 dX10_sheet_23 rfl ?_
          refine j_bipush hF (v := 32) dX10_sheet_24 (by decide) ?_
          refine j_icmp_eq hF (tgt := 36) dX10_sheet_26 (by decide) (fun c36 => ?_) (fun c36 => ?_)
          · replace h := bzIfT h c36
            exact J36 σ h
          · replace h := bzIfF h c36
            refine j_aload_n hF 0 dX10_sheet_29 rfl ?_
            refine j_ldc hF (v := (-1000000001)) kc_X10_59 dX10_sheet_30 ?_
            obtain ⟨x38, σ39, e37, h⟩ := bzBpE h
            refine cs_X10_60 hF ho (fun l => mt_X10_errs l e37) (by decide) (Nat.le_of_ble_eq_true rfl) dX10_sheet_32 ?_
            exact j_iret hF hG dX10_sheet_35  (bzRet h).1 (bzRet h).2
def f_X10_put (o : Nat) (a1 : Int32) (a2 : Int32) (a3 : Int32) (σ : bzS) : Option (Int32 × bzS) :=
  bzGd (kd o = 10) (bzBd (f_X10_isSheet a1) (fun x2 => if x2 = 0 then (bzBp (f_X10_errs o ((-1000000001)) σ) (fun x22 σ23 => some (x22, σ23))) else (bzGd (bzIn a1 4) (if (σ (ly o 16) a1.toNatClampNeg) = 0 then (bzBp (f_X10_errs o ((-1000000002)) σ) (fun x19 σ20 => some (x19, σ20))) else (bzGd (bzIn a1 4) (bzBd (f_X10_in a2 0 (((σ (ly o 17) a1.toNatClampNeg) - 1))) (fun x8 => if x8 = 0 then (bzBp (f_X10_errs o ((-1000000001)) σ) (fun x16 σ17 => some (x16, σ17))) else (bzGd (bzIn a1 4) (bzBd (f_X10_narrow ((σ (ly o 16) a1.toNatClampNeg)) a3) (fun x12 => bzGd (bzIn ((40 * a1) + a2) 160) (bzLet (bzSt σ (ly o 18) ((((40 * a1) + a2)).toNatClampNeg) x12) (fun σ14 => some (1, σ14)))))))))))))
set_option maxHeartbeats 4000000 in
set_option maxRecDepth 20000 in
theorem mt_X10_put {g : bzGeo} {o : Nat} {a1 : Int32} {a2 : Int32} {a3 : Int32} {σ : bzS} {r0 : Int32} {σ0 : bzS} (l : Launch) (h : f_X10_put  o a1 a2 a3 σ = some (r0, σ0)) : Met l yX10_put (Cond.code yX10_put cX10_put 4 (some .int) :: GW) (bzR (3)) (va_Pc [.ref (ga g o), .int a1, .int a2, .int a3] (bzP g σ)) (va_Qi (fun (r : Int32) (u : bzS) => r = r0 ∧ u = σ0) (bzB g) (gA g)) 0 0 (gA g) := by
  unfold f_X10_put at h
  obtain ⟨ho, h⟩ := bzGdE h
  refine j_start l (by decide +kernel) [.ref (ga g o), .int a1, .int a2, .int a3] [(0, .ref (ga g o)), (1, .int a1), (2, .int a2), (3, .int a3)] (Nat.le_of_ble_eq_true rfl) rfl (fun x hF hG => ?_)
  refine j_iload_n hF 1 dX10_put_0 rfl ?_
  obtain ⟨x2, e1, h⟩ := bzBdE h
  refine cs_X10_199 hF (fun l => mt_X10_isSheet l e1) (by decide) (Nat.le_of_ble_eq_true rfl) dX10_put_1 ?_
  refine j_if_ne hF (tgt := 14) dX10_put_4 (by decide) (fun c3 => ?_) (fun c3 => ?_)
  · replace h := bzIfF h c3
    refine j_aload_n hF 0 dX10_put_14 rfl ?_
    refine gf_X10_29 hF ho dX10_put_15 ?_
    refine j_iload_n hF 1 dX10_put_18 rfl ?_
    obtain ⟨g4, h⟩ := bzGdE h
    refine j_iald hF (c := a1.toNatClampNeg) (kl_10_16 ho) (nl_10_16 ho) g4 rfl dX10_put_19 ?_
    refine j_if_ne hF (tgt := 30) dX10_put_20 (by decide) (fun c5 => ?_) (fun c5 => ?_)
    · replace h := bzIfF h c5
      refine j_iload_n hF 2 dX10_put_30 rfl ?_
      refine j_iconst hF (v := 0) dX10_put_31 (by decide) ?_
      refine j_aload_n hF 0 dX10_put_32 rfl ?_
      refine gf_X10_32 hF ho dX10_put_33 ?_
      refine j_iload_n hF 1 dX10_put_36 rfl ?_
      obtain ⟨g6, h⟩ := bzGdE h
      refine j_iald hF (c := a1.toNatClampNeg) (kl_10_17 ho) (nl_10_17 ho) g6 rfl dX10_put_37 ?_
      refine j_iconst hF (v := 1) dX10_put_38 (by decide) ?_
      refine j_isub hF dX10_put_39 ?_
      obtain ⟨x8, e7, h⟩ := bzBdE h
      refine cs_X10_51 hF (fun l => mt_X10_in l e7) (by decide) (Nat.le_of_ble_eq_true rfl) dX10_put_40 ?_
      refine j_if_ne hF (tgt := 53) dX10_put_43 (by decide) (fun c9 => ?_) (fun c9 => ?_)
      · replace h := bzIfF h c9
        refine j_aload_n hF 0 dX10_put_53 rfl ?_
        refine gf_X10_35 hF ho dX10_put_54 ?_
        refine j_bipush hF (v := 40) dX10_put_57 (by decide) ?_
        refine j_iload_n hF 1 dX10_put_59 rfl ?_
        refine j_imul hF dX10_put_60 ?_
        refine j_iload_n hF 2 dX10_put_61 rfl ?_
        refine j_iadd hF dX10_put_62 ?_
        refine j_aload_n hF 0 dX10_put_63 rfl ?_
        refine gf_X10_29 hF ho dX10_put_64 ?_
        refine j_iload_n hF 1 dX10_put_67 rfl ?_
        obtain ⟨g10, h⟩ := bzGdE h
        refine j_iald hF (c := a1.toNatClampNeg) (kl_10_16 ho) (nl_10_16 ho) g10 rfl dX10_put_68 ?_
        refine j_iload_n hF 3 dX10_put_69 rfl ?_
        obtain ⟨x12, e11, h⟩ := bzBdE h
        refine cs_X10_260 hF (fun l => mt_X10_narrow l e11) (by decide) (Nat.le_of_ble_eq_true rfl) dX10_put_70 ?_
        obtain ⟨g13, h⟩ := bzGdE h
        refine j_iast hF (c := (((40 * a1) + a2)).toNatClampNeg) (kl_10_18 ho) (nl_10_18 ho) g13 rfl dX10_put_73 ?_
        refine j_s (fun σ14 eσ14 => ?_)
        replace h := bzLetE h eσ14
        refine j_iconst hF (v := 1) dX10_put_74 (by decide) ?_
        exact j_iret hF hG dX10_put_75  (bzRet h).1 (bzRet h).2
      · replace h := bzIfT h c9
        refine j_aload_n hF 0 dX10_put_46 rfl ?_
        refine j_ldc hF (v := (-1000000001)) kc_X10_59 dX10_put_47 ?_
        obtain ⟨x16, σ17, e15, h⟩ := bzBpE h
        refine cs_X10_60 hF ho (fun l => mt_X10_errs l e15) (by decide) (Nat.le_of_ble_eq_true rfl) dX10_put_49 ?_
        exact j_iret hF hG dX10_put_52  (bzRet h).1 (bzRet h).2
    · replace h := bzIfT h c5
      refine j_aload_n hF 0 dX10_put_23 rfl ?_
      refine j_ldc hF (v := (-1000000002)) kc_X10_198 dX10_put_24 ?_
      obtain ⟨x19, σ20, e18, h⟩ := bzBpE h
      refine cs_X10_60 hF ho (fun l => mt_X10_errs l e18) (by decide) (Nat.le_of_ble_eq_true rfl) dX10_put_26 ?_
      exact j_iret hF hG dX10_put_29  (bzRet h).1 (bzRet h).2
  · replace h := bzIfT h c3
    refine j_aload_n hF 0 dX10_put_7 rfl ?_
    refine j_ldc hF (v := (-1000000001)) kc_X10_59 dX10_put_8 ?_
    obtain ⟨x22, σ23, e21, h⟩ := bzBpE h
    refine cs_X10_60 hF ho (fun l => mt_X10_errs l e21) (by decide) (Nat.le_of_ble_eq_true rfl) dX10_put_10 ?_
    exact j_iret hF hG dX10_put_13  (bzRet h).1 (bzRet h).2
def fb_X10_move_156 (K156 : Int32 → bzS → Option (Int32 × bzS)) (o : Nat) (a1 : Int32) (a2 : Int32) (a3 : Int32) (a4 : Int32) (a5 : Int32) (v6 : Int32) (σ1 : bzS) : Option (Int32 × bzS) :=
  if a5 ≤ v6 then (some (a5, σ1)) else (bzGd (bzIn v6 40) (bzGd (bzIn (((40 * a3) + a4) + v6) 160) (bzLet (bzSt σ1 (ly o 18) (((((40 * a3) + a4) + v6)).toNatClampNeg) (σ1 (ly o 19) v6.toNatClampNeg)) (fun σ43 => bzLet (v6 + 1) (fun x44 => K156 x44 σ43)))))
def fl_X10_move_156 (o : Nat) (a1 : Int32) (a2 : Int32) (a3 : Int32) (a4 : Int32) (a5 : Int32) : Nat → Int32 → bzS → Option (Int32 × bzS)
  | 0, _, _ => none
  | n + 1, v6, σ1 => fb_X10_move_156   (fl_X10_move_156   o a1 a2 a3 a4 a5 n) o a1 a2 a3 a4 a5 v6 σ1
def fb_X10_move_119 (K119 : Int32 → bzS → Option (Int32 × bzS)) (o : Nat) (a1 : Int32) (a2 : Int32) (a3 : Int32) (a4 : Int32) (a5 : Int32) (v6 : Int32) (σ1 : bzS) : Option (Int32 × bzS) :=
  if a5 ≤ v6 then (fl_X10_move_156 o a1 a2 a3 a4 a5 2000 0 σ1) else (bzGd (bzIn (((40 * a1) + a2) + v6) 160) (bzGd (bzIn v6 40) (bzLet (bzSt σ1 (ly o 19) v6.toNatClampNeg (σ1 (ly o 18) (((((40 * a1) + a2) + v6)).toNatClampNeg))) (fun σ47 => bzLet (v6 + 1) (fun x48 => K119 x48 σ47)))))
def fl_X10_move_119 (o : Nat) (a1 : Int32) (a2 : Int32) (a3 : Int32) (a4 : Int32) (a5 : Int32) : Nat → Int32 → bzS → Option (Int32 × bzS)
  | 0, _, _ => none
  | n + 1, v6, σ1 => fb_X10_move_119   (fl_X10_move_119   o a1 a2 a3 a4 a5 n) o a1 a2 a3 a4 a5 v6 σ1
def f_X10_move (o : Nat) (a1 : Int32) (a2 : Int32) (a3 : Int32) (a4 : Int32) (a5 : Int32) (σ : bzS) : Option (Int32 × bzS) :=
  bzGd (kd o = 10) (bzBd (f_X10_isSheet a1) (fun x2 => if x2 = 0 then (bzBp (f_X10_errs o ((-1000000001)) σ) (fun x5 σ6 => some (x5, σ6))) else (bzBd (f_X10_isSheet a3) (fun x8 => if x8 = 0 then (bzBp (f_X10_errs o ((-1000000001)) σ) (fun x59 σ60 => some (x59, σ60))) else (bzGd (bzIn a1 4) (if (σ (ly o 16) a1.toNatClampNeg) = 0 then (bzBp (f_X10_errs o ((-1000000002)) σ) (fun x13 σ14 => some (x13, σ14))) else (bzGd (bzIn a3 4) (if (σ (ly o 16) a3.toNatClampNeg) = 0 then (bzBp (f_X10_errs o ((-1000000002)) σ) (fun x56 σ57 => some (x56, σ57))) else (bzGd (bzIn a1 4) (bzGd (bzIn a3 4) (if (σ (ly o 16) a1.toNatClampNeg) = (σ (ly o 16) a3.toNatClampNeg) then (if a5 < 0 then (bzBp (f_X10_errs o ((-1000000001)) σ) (fun x22 σ23 => some (x22, σ23))) else (if a2 < 0 then (bzBp (f_X10_errs o ((-1000000001)) σ) (fun x26 σ27 => some (x26, σ27))) else (if a4 < 0 then (bzBp (f_X10_errs o ((-1000000001)) σ) (fun x30 σ31 => some (x30, σ31))) else (bzGd (bzIn a1 4) (if ((σ (ly o 17) a1.toNatClampNeg) - a5) < a2 then (bzBp (f_X10_errs o ((-1000000001)) σ) (fun x35 σ36 => some (x35, σ36))) else (bzGd (bzIn a3 4) (if a4 ≤ ((σ (ly o 17) a3.toNatClampNeg) - a5) then (fl_X10_move_119 o a1 a2 a3 a4 a5 2000 0 σ) else (bzBp (f_X10_errs o ((-1000000001)) σ) (fun x50 σ51 => some (x50, σ51)))))))))) else (bzBp (f_X10_errs o ((-1000000005)) σ) (fun x53 σ54 => some (x53, σ54))))))))))))))
set_option maxHeartbeats 4000000 in
set_option maxRecDepth 20000 in
theorem mt_X10_move {g : bzGeo} {o : Nat} {a1 : Int32} {a2 : Int32} {a3 : Int32} {a4 : Int32} {a5 : Int32} {σ : bzS} {r0 : Int32} {σ0 : bzS} (l : Launch) (h : f_X10_move  o a1 a2 a3 a4 a5 σ = some (r0, σ0)) : Met l yX10_move (Cond.code yX10_move cX10_move 7 (some .int) :: GW) (bzR (3)) (va_Pc [.ref (ga g o), .int a1, .int a2, .int a3, .int a4, .int a5] (bzP g σ)) (va_Qi (fun (r : Int32) (u : bzS) => r = r0 ∧ u = σ0) (bzB g) (gA g)) 0 0 (gA g) := by
  unfold f_X10_move at h
  obtain ⟨ho, h⟩ := bzGdE h
  refine j_start l (by decide +kernel) [.ref (ga g o), .int a1, .int a2, .int a3, .int a4, .int a5] [(0, .ref (ga g o)), (1, .int a1), (2, .int a2), (3, .int a3), (4, .int a4), (5, .int a5)] (Nat.le_of_ble_eq_true rfl) rfl (fun x hF hG => ?_)
  have J156 : (K156 : Int32 → bzS → Option (Int32 × bzS)) → (hK156 : ∀ (v6 : Int32) (σ1 : bzS), K156 v6 σ1 = some (r0, σ0) → bzJ g 7 x σ1 156 [(0, .ref (ga g o)), (1, .int a1), (2, .int a2), (3, .int a3), (4, .int a4), (5, .int a5), (6, .int v6)] []) → ∀ (v6 : Int32) (σ1 : bzS), fb_X10_move_156 K156 o a1 a2 a3 a4 a5 v6 σ1 = some (r0, σ0) → bzJ g 7 x σ1 156 [(0, .ref (ga g o)), (1, .int a1), (2, .int a2), (3, .int a3), (4, .int a4), (5, .int a5), (6, .int v6)] [] := by
    intro K156 hK156 v6 σ1 h
    unfold fb_X10_move_156 at h
    refine j_iload hF 6 dX10_move_156 rfl ?_
    refine j_iload hF 5 dX10_move_158 rfl ?_
    refine j_icmp_ge hF (tgt := 191) dX10_move_160 (by decide) (fun c40 => ?_) (fun c40 => ?_)
    · replace h := bzIfT h c40
      refine j_iload hF 5 dX10_move_191 rfl ?_
      exact j_iret hF hG dX10_move_193 (bzRet h).1 (bzRet h).2
    · replace h := bzIfF h c40
      refine j_aload_n hF 0 dX10_move_163 rfl ?_
      refine gf_X10_35 hF ho dX10_move_164 ?_
      refine j_bipush hF (v := 40) dX10_move_167 (by decide) ?_
      refine j_iload_n hF 3 dX10_move_169 rfl ?_
      refine j_imul hF dX10_move_170 ?_
      refine j_iload hF 4 dX10_move_171 rfl ?_
      refine j_iadd hF dX10_move_173 ?_
      refine j_iload hF 6 dX10_move_174 rfl ?_
      refine j_iadd hF dX10_move_176 ?_
      refine j_aload_n hF 0 dX10_move_177 rfl ?_
      refine gf_X10_38 hF ho dX10_move_178 ?_
      refine j_iload hF 6 dX10_move_181 rfl ?_
      obtain ⟨g41, h⟩ := bzGdE h
      refine j_iald hF (c := v6.toNatClampNeg) (kl_10_19 ho) (nl_10_19 ho) g41 rfl dX10_move_183 ?_
      obtain ⟨g42, h⟩ := bzGdE h
      refine j_iast hF (c := ((((40 * a3) + a4) + v6)).toNatClampNeg) (kl_10_18 ho) (nl_10_18 ho) g42 rfl dX10_move_184 ?_
      refine j_s (fun σ43 eσ43 => ?_)
      replace h := bzLetE h eσ43
      obtain ⟨x44, ex44⟩ : ∃ y : Int32, y = v6 + 1 := ⟨_, rfl⟩
      replace h := bzLetE h ex44
      refine j_iinc hF (v := x44) (lv1 := [(6, .int x44), (0, .ref (ga g o)), (1, .int a1), (2, .int a2), (3, .int a3), (4, .int a4), (5, .int a5)]) 6 dX10_move_185 rfl (by rw [ex44]; rfl) (by decide) rfl ?_
      refine j_goto hF (tgt := 156) dX10_move_188 (by decide) ?_
      refine j_sub [1, 2, 3, 4, 5, 6, 0] rfl ?_
      exact hK156 x44 σ43 h
  have L156 : ∀ (n : Nat) (v6 : Int32) (σ1 : bzS), fl_X10_move_156   o a1 a2 a3 a4 a5 n v6 σ1 = some (r0, σ0) → bzJ g 7 x σ1 156 [(0, .ref (ga g o)), (1, .int a1), (2, .int a2), (3, .int a3), (4, .int a4), (5, .int a5), (6, .int v6)] [] := by
    intro  n
    induction n with
    | zero =>
      intro v6 σ1  h
      cases h
    | succ n ih =>
      intro v6 σ1  h
      exact J156  (fl_X10_move_156   o a1 a2 a3 a4 a5 n) ih v6 σ1  h
  have J119 : (K119 : Int32 → bzS → Option (Int32 × bzS)) → (hK119 : ∀ (v6 : Int32) (σ1 : bzS), K119 v6 σ1 = some (r0, σ0) → bzJ g 7 x σ1 119 [(0, .ref (ga g o)), (1, .int a1), (2, .int a2), (3, .int a3), (4, .int a4), (5, .int a5), (6, .int v6)] []) → ∀ (v6 : Int32) (σ1 : bzS), fb_X10_move_119 K119 o a1 a2 a3 a4 a5 v6 σ1 = some (r0, σ0) → bzJ g 7 x σ1 119 [(0, .ref (ga g o)), (1, .int a1), (2, .int a2), (3, .int a3), (4, .int a4), (5, .int a5), (6, .int v6)] [] := by
    intro K119 hK119 v6 σ1 h
    unfold fb_X10_move_119 at h
    refine j_iload hF 6 dX10_move_119 rfl ?_
    refine j_iload hF 5 dX10_move_121 rfl ?_
    refine j_icmp_ge hF (tgt := 153) dX10_move_123 (by decide) (fun c39 => ?_) (fun c39 => ?_)
    · replace h := bzIfT h c39
      refine j_iconst hF (v := 0) dX10_move_153 (by decide) ?_
      refine j_istore hF (lv1 := [(6, .int 0), (0, .ref (ga g o)), (1, .int a1), (2, .int a2), (3, .int a3), (4, .int a4), (5, .int a5)]) dX10_move_154 (by decide) rfl ?_
      refine j_sub [1, 2, 3, 4, 5, 6, 0] rfl ?_
      exact L156 2000 0 σ1 h
    · replace h := bzIfF h c39
      refine j_aload_n hF 0 dX10_move_126 rfl ?_
      refine gf_X10_38 hF ho dX10_move_127 ?_
      refine j_iload hF 6 dX10_move_130 rfl ?_
      refine j_aload_n hF 0 dX10_move_132 rfl ?_
      refine gf_X10_35 hF ho dX10_move_133 ?_
      refine j_bipush hF (v := 40) dX10_move_136 (by decide) ?_
      refine j_iload_n hF 1 dX10_move_138 rfl ?_
      refine j_imul hF dX10_move_139 ?_
      refine j_iload_n hF 2 dX10_move_140 rfl ?_
      refine j_iadd hF dX10_move_141 ?_
      refine j_iload hF 6 dX10_move_142 rfl ?_
      refine j_iadd hF dX10_move_144 ?_
      obtain ⟨g45, h⟩ := bzGdE h
      refine j_iald hF (c := ((((40 * a1) + a2) + v6)).toNatClampNeg) (kl_10_18 ho) (nl_10_18 ho) g45 rfl dX10_move_145 ?_
      obtain ⟨g46, h⟩ := bzGdE h
      refine j_iast hF (c := v6.toNatClampNeg) (kl_10_19 ho) (nl_10_19 ho) g46 rfl dX10_move_146 ?_
      refine j_s (fun σ47 eσ47 => ?_)
      replace h := bzLetE h eσ47
      obtain ⟨x48, ex48⟩ : ∃ y : Int32, y = v6 + 1 := ⟨_, rfl⟩
      replace h := bzLetE h ex48
      refine j_iinc hF (v := x48) (lv1 := [(6, .int x48), (0, .ref (ga g o)), (1, .int a1), (2, .int a2), (3, .int a3), (4, .int a4), (5, .int a5)]) 6 dX10_move_147 rfl (by rw [ex48]; rfl) (by decide) rfl ?_
      refine j_goto hF (tgt := 119) dX10_move_150 (by decide) ?_
      refine j_sub [1, 2, 3, 4, 5, 6, 0] rfl ?_
      exact hK119 x48 σ47 h
  have L119 : ∀ (n : Nat) (v6 : Int32) (σ1 : bzS), fl_X10_move_119   o a1 a2 a3 a4 a5 n v6 σ1 = some (r0, σ0) → bzJ g 7 x σ1 119 [(0, .ref (ga g o)), (1, .int a1), (2, .int a2), (3, .int a3), (4, .int a4), (5, .int a5), (6, .int v6)] [] := by
    intro  n
    induction n with
    | zero =>
      intro v6 σ1  h
      cases h
    | succ n ih =>
      intro v6 σ1  h
      exact J119  (fl_X10_move_119   o a1 a2 a3 a4 a5 n) ih v6 σ1  h
  refine j_iload_n hF 1 dX10_move_0 rfl ?_
  obtain ⟨x2, e1, h⟩ := bzBdE h
  refine cs_X10_199 hF (fun l => mt_X10_isSheet l e1) (by decide) (Nat.le_of_ble_eq_true rfl) dX10_move_1 ?_
  refine j_if_eq hF (tgt := 14) dX10_move_4 (by decide) (fun c3 => ?_) (fun c3 => ?_)
  · replace h := bzIfT h c3
    refine j_aload_n hF 0 dX10_move_14 rfl ?_
    refine j_ldc hF (v := (-1000000001)) kc_X10_59 dX10_move_15 ?_
    obtain ⟨x5, σ6, e4, h⟩ := bzBpE h
    refine cs_X10_60 hF ho (fun l => mt_X10_errs l e4) (by decide) (Nat.le_of_ble_eq_true rfl) dX10_move_17 ?_
    exact j_iret hF hG dX10_move_20  (bzRet h).1 (bzRet h).2
  · replace h := bzIfF h c3
    refine j_iload_n hF 3 dX10_move_7 rfl ?_
    obtain ⟨x8, e7, h⟩ := bzBdE h
    refine cs_X10_199 hF (fun l => mt_X10_isSheet l e7) (by decide) (Nat.le_of_ble_eq_true rfl) dX10_move_8 ?_
    refine j_if_ne hF (tgt := 21) dX10_move_11 (by decide) (fun c9 => ?_) (fun c9 => ?_)
    · replace h := bzIfF h c9
      refine j_aload_n hF 0 dX10_move_21 rfl ?_
      refine gf_X10_29 hF ho dX10_move_22 ?_
      refine j_iload_n hF 1 dX10_move_25 rfl ?_
      obtain ⟨g10, h⟩ := bzGdE h
      refine j_iald hF (c := a1.toNatClampNeg) (kl_10_16 ho) (nl_10_16 ho) g10 rfl dX10_move_26 ?_
      refine j_if_eq hF (tgt := 39) dX10_move_27 (by decide) (fun c11 => ?_) (fun c11 => ?_)
      · replace h := bzIfT h c11
        refine j_aload_n hF 0 dX10_move_39 rfl ?_
        refine j_ldc hF (v := (-1000000002)) kc_X10_198 dX10_move_40 ?_
        obtain ⟨x13, σ14, e12, h⟩ := bzBpE h
        refine cs_X10_60 hF ho (fun l => mt_X10_errs l e12) (by decide) (Nat.le_of_ble_eq_true rfl) dX10_move_42 ?_
        exact j_iret hF hG dX10_move_45  (bzRet h).1 (bzRet h).2
      · replace h := bzIfF h c11
        refine j_aload_n hF 0 dX10_move_30 rfl ?_
        refine gf_X10_29 hF ho dX10_move_31 ?_
        refine j_iload_n hF 3 dX10_move_34 rfl ?_
        obtain ⟨g15, h⟩ := bzGdE h
        refine j_iald hF (c := a3.toNatClampNeg) (kl_10_16 ho) (nl_10_16 ho) g15 rfl dX10_move_35 ?_
        refine j_if_ne hF (tgt := 46) dX10_move_36 (by decide) (fun c16 => ?_) (fun c16 => ?_)
        · replace h := bzIfF h c16
          refine j_aload_n hF 0 dX10_move_46 rfl ?_
          refine gf_X10_29 hF ho dX10_move_47 ?_
          refine j_iload_n hF 1 dX10_move_50 rfl ?_
          obtain ⟨g17, h⟩ := bzGdE h
          refine j_iald hF (c := a1.toNatClampNeg) (kl_10_16 ho) (nl_10_16 ho) g17 rfl dX10_move_51 ?_
          refine j_aload_n hF 0 dX10_move_52 rfl ?_
          refine gf_X10_29 hF ho dX10_move_53 ?_
          refine j_iload_n hF 3 dX10_move_56 rfl ?_
          obtain ⟨g18, h⟩ := bzGdE h
          refine j_iald hF (c := a3.toNatClampNeg) (kl_10_16 ho) (nl_10_16 ho) g18 rfl dX10_move_57 ?_
          refine j_icmp_eq hF (tgt := 68) dX10_move_58 (by decide) (fun c19 => ?_) (fun c19 => ?_)
          · replace h := bzIfT h c19
            refine j_iload hF 5 dX10_move_68 rfl ?_
            refine j_if_lt hF (tgt := 109) dX10_move_70 (by decide) (fun c20 => ?_) (fun c20 => ?_)
            · replace h := bzIfT h c20
              refine j_aload_n hF 0 dX10_move_109 rfl ?_
              refine j_ldc hF (v := (-1000000001)) kc_X10_59 dX10_move_110 ?_
              obtain ⟨x22, σ23, e21, h⟩ := bzBpE h
              refine cs_X10_60 hF ho (fun l => mt_X10_errs l e21) (by decide) (Nat.le_of_ble_eq_true rfl) dX10_move_112 ?_
              exact j_iret hF hG dX10_move_115  (bzRet h).1 (bzRet h).2
            · replace h := bzIfF h c20
              refine j_iload_n hF 2 dX10_move_73 rfl ?_
              refine j_if_lt hF (tgt := 109) dX10_move_74 (by decide) (fun c24 => ?_) (fun c24 => ?_)
              · replace h := bzIfT h c24
                refine j_aload_n hF 0 dX10_move_109 rfl ?_
                refine j_ldc hF (v := (-1000000001)) kc_X10_59 dX10_move_110 ?_
                obtain ⟨x26, σ27, e25, h⟩ := bzBpE h
                refine cs_X10_60 hF ho (fun l => mt_X10_errs l e25) (by decide) (Nat.le_of_ble_eq_true rfl) dX10_move_112 ?_
                exact j_iret hF hG dX10_move_115  (bzRet h).1 (bzRet h).2
              · replace h := bzIfF h c24
                refine j_iload hF 4 dX10_move_77 rfl ?_
                refine j_if_lt hF (tgt := 109) dX10_move_79 (by decide) (fun c28 => ?_) (fun c28 => ?_)
                · replace h := bzIfT h c28
                  refine j_aload_n hF 0 dX10_move_109 rfl ?_
                  refine j_ldc hF (v := (-1000000001)) kc_X10_59 dX10_move_110 ?_
                  obtain ⟨x30, σ31, e29, h⟩ := bzBpE h
                  refine cs_X10_60 hF ho (fun l => mt_X10_errs l e29) (by decide) (Nat.le_of_ble_eq_true rfl) dX10_move_112 ?_
                  exact j_iret hF hG dX10_move_115  (bzRet h).1 (bzRet h).2
                · replace h := bzIfF h c28
                  refine j_iload_n hF 2 dX10_move_82 rfl ?_
                  refine j_aload_n hF 0 dX10_move_83 rfl ?_
                  refine gf_X10_32 hF ho dX10_move_84 ?_
                  refine j_iload_n hF 1 dX10_move_87 rfl ?_
                  obtain ⟨g32, h⟩ := bzGdE h
                  refine j_iald hF (c := a1.toNatClampNeg) (kl_10_17 ho) (nl_10_17 ho) g32 rfl dX10_move_88 ?_
                  refine j_iload hF 5 dX10_move_89 rfl ?_
                  refine j_isub hF dX10_move_91 ?_
                  refine j_icmp_gt hF (tgt := 109) dX10_move_92 (by decide) (fun c33 => ?_) (fun c33 => ?_)
                  · replace h := bzIfT h c33
                    refine j_aload_n hF 0 dX10_move_109 rfl ?_
                    refine j_ldc hF (v := (-1000000001)) kc_X10_59 dX10_move_110 ?_
                    obtain ⟨x35, σ36, e34, h⟩ := bzBpE h
                    refine cs_X10_60 hF ho (fun l => mt_X10_errs l e34) (by decide) (Nat.le_of_ble_eq_true rfl) dX10_move_112 ?_
                    exact j_iret hF hG dX10_move_115  (bzRet h).1 (bzRet h).2
                  · replace h := bzIfF h c33
                    refine j_iload hF 4 dX10_move_95 rfl ?_
                    refine j_aload_n hF 0 dX10_move_97 rfl ?_
                    refine gf_X10_32 hF ho dX10_move_98 ?_
                    refine j_iload_n hF 3 dX10_move_101 rfl ?_
                    obtain ⟨g37, h⟩ := bzGdE h
                    refine j_iald hF (c := a3.toNatClampNeg) (kl_10_17 ho) (nl_10_17 ho) g37 rfl dX10_move_102 ?_
                    refine j_iload hF 5 dX10_move_103 rfl ?_
                    refine j_isub hF dX10_move_105 ?_
                    refine j_icmp_le hF (tgt := 116) dX10_move_106 (by decide) (fun c38 => ?_) (fun c38 => ?_)
                    · replace h := bzIfT h c38
                      refine j_iconst hF (v := 0) dX10_move_116 (by decide) ?_
                      refine j_istore hF (lv1 := [(6, .int 0), (0, .ref (ga g o)), (1, .int a1), (2, .int a2), (3, .int a3), (4, .int a4), (5, .int a5)]) dX10_move_117 (by decide) rfl ?_
                      refine j_sub [1, 2, 3, 4, 5, 6, 0] rfl ?_
                      exact L119 2000 0 σ h
                    · replace h := bzIfF h c38
                      refine j_aload_n hF 0 dX10_move_109 rfl ?_
                      refine j_ldc hF (v := (-1000000001)) kc_X10_59 dX10_move_110 ?_
                      obtain ⟨x50, σ51, e49, h⟩ := bzBpE h
                      refine cs_X10_60 hF ho (fun l => mt_X10_errs l e49) (by decide) (Nat.le_of_ble_eq_true rfl) dX10_move_112 ?_
                      exact j_iret hF hG dX10_move_115  (bzRet h).1 (bzRet h).2
          · replace h := bzIfF h c19
            refine j_aload_n hF 0 dX10_move_61 rfl ?_
            refine j_ldc hF (v := (-1000000005)) kc_X10_95 dX10_move_62 ?_
            obtain ⟨x53, σ54, e52, h⟩ := bzBpE h
            refine cs_X10_60 hF ho (fun l => mt_X10_errs l e52) (by decide) (Nat.le_of_ble_eq_true rfl) dX10_move_64 ?_
            exact j_iret hF hG dX10_move_67  (bzRet h).1 (bzRet h).2
        · replace h := bzIfT h c16
          refine j_aload_n hF 0 dX10_move_39 rfl ?_
          refine j_ldc hF (v := (-1000000002)) kc_X10_198 dX10_move_40 ?_
          obtain ⟨x56, σ57, e55, h⟩ := bzBpE h
          refine cs_X10_60 hF ho (fun l => mt_X10_errs l e55) (by decide) (Nat.le_of_ble_eq_true rfl) dX10_move_42 ?_
          exact j_iret hF hG dX10_move_45  (bzRet h).1 (bzRet h).2
    · replace h := bzIfT h c9
      refine j_aload_n hF 0 dX10_move_14 rfl ?_
      refine j_ldc hF (v := (-1000000001)) kc_X10_59 dX10_move_15 ?_
      obtain ⟨x59, σ60, e58, h⟩ := bzBpE h
      refine cs_X10_60 hF ho (fun l => mt_X10_errs l e58) (by decide) (Nat.le_of_ble_eq_true rfl) dX10_move_17 ?_
      exact j_iret hF hG dX10_move_20  (bzRet h).1 (bzRet h).2
def fb_X10_talls_32 (K32 : Int32 → bzS → Option (Int32 × bzS)) (o : Nat) (a1 : Int32) (v2 : Int32) (σ1 : bzS) : Option (Int32 × bzS) :=
  bzGd (bzIn a1 4) (if (σ1 (ly o 17) a1.toNatClampNeg) ≤ v2 then (some (v2, σ1)) else (if 10 ≤ v2 then (some (v2, σ1)) else (bzGd (bzIn ((40 * a1) + v2) 160) (bzBd (f_X10_in ((σ1 (ly o 18) ((((40 * a1) + v2)).toNatClampNeg))) 0 9) (fun x11 => if x11 = 0 then (some (v2, σ1)) else (bzGd (bzIn ((40 * a1) + v2) 160) (bzGd (bzIn (24 + (2 * v2)) 254) (bzLet (bzSt σ1 (ly o 0) (((24 + (2 * v2))).toNatClampNeg) (σ1 (ly o 18) ((((40 * a1) + v2)).toNatClampNeg))) (fun σ15 => bzLet (v2 + 1) (fun x16 => K32 x16 σ15))))))))))
def fl_X10_talls_32 (o : Nat) (a1 : Int32) : Nat → Int32 → bzS → Option (Int32 × bzS)
  | 0, _, _ => none
  | n + 1, v2, σ1 => fb_X10_talls_32   (fl_X10_talls_32   o a1 n) o a1 v2 σ1
def f_X10_talls (o : Nat) (a1 : Int32) (σ : bzS) : Option (Int32 × bzS) :=
  bzGd (kd o = 10) (bzBd (f_X10_isSheet a1) (fun x2 => if x2 = 0 then (bzBp (f_X10_errs o ((-1000000001)) σ) (fun x21 σ22 => some (x21, σ22))) else (bzGd (bzIn a1 4) (if (σ (ly o 16) a1.toNatClampNeg) = 0 then (bzBp (f_X10_errs o ((-1000000002)) σ) (fun x18 σ19 => some (x18, σ19))) else (fl_X10_talls_32 o a1 2000 0 σ)))))
set_option maxHeartbeats 4000000 in
set_option maxRecDepth 20000 in
theorem mt_X10_talls {g : bzGeo} {o : Nat} {a1 : Int32} {σ : bzS} {r0 : Int32} {σ0 : bzS} (l : Launch) (h : f_X10_talls  o a1 σ = some (r0, σ0)) : Met l yX10_talls (Cond.code yX10_talls cX10_talls 3 (some .int) :: GW) (bzR (3)) (va_Pc [.ref (ga g o), .int a1] (bzP g σ)) (va_Qi (fun (r : Int32) (u : bzS) => r = r0 ∧ u = σ0) (bzB g) (gA g)) 0 0 (gA g) := by
  unfold f_X10_talls at h
  obtain ⟨ho, h⟩ := bzGdE h
  refine j_start l (by decide +kernel) [.ref (ga g o), .int a1] [(0, .ref (ga g o)), (1, .int a1)] (Nat.le_of_ble_eq_true rfl) rfl (fun x hF hG => ?_)
  have J32 : (K32 : Int32 → bzS → Option (Int32 × bzS)) → (hK32 : ∀ (v2 : Int32) (σ1 : bzS), K32 v2 σ1 = some (r0, σ0) → bzJ g 3 x σ1 32 [(0, .ref (ga g o)), (1, .int a1), (2, .int v2)] []) → ∀ (v2 : Int32) (σ1 : bzS), fb_X10_talls_32 K32 o a1 v2 σ1 = some (r0, σ0) → bzJ g 3 x σ1 32 [(0, .ref (ga g o)), (1, .int a1), (2, .int v2)] [] := by
    intro K32 hK32 v2 σ1 h
    unfold fb_X10_talls_32 at h
    refine j_iload_n hF 2 dX10_talls_32 rfl ?_
    refine j_aload_n hF 0 dX10_talls_33 rfl ?_
    refine gf_X10_32 hF ho dX10_talls_34 ?_
    refine j_iload_n hF 1 dX10_talls_37 rfl ?_
    obtain ⟨g6, h⟩ := bzGdE h
    refine j_iald hF (c := a1.toNatClampNeg) (kl_10_17 ho) (nl_10_17 ho) g6 rfl dX10_talls_38 ?_
    refine j_icmp_ge hF (tgt := 96) dX10_talls_39 (by decide) (fun c7 => ?_) (fun c7 => ?_)
    · replace h := bzIfT h c7
      refine j_iload_n hF 2 dX10_talls_96 rfl ?_
      exact j_iret hF hG dX10_talls_97 (bzRet h).1 (bzRet h).2
    · replace h := bzIfF h c7
      refine j_iload_n hF 2 dX10_talls_42 rfl ?_
      refine j_bipush hF (v := 10) dX10_talls_43 (by decide) ?_
      refine j_icmp_ge hF (tgt := 96) dX10_talls_45 (by decide) (fun c8 => ?_) (fun c8 => ?_)
      · replace h := bzIfT h c8
        refine j_iload_n hF 2 dX10_talls_96 rfl ?_
        exact j_iret hF hG dX10_talls_97 (bzRet h).1 (bzRet h).2
      · replace h := bzIfF h c8
        refine j_aload_n hF 0 dX10_talls_48 rfl ?_
        refine gf_X10_35 hF ho dX10_talls_49 ?_
        refine j_bipush hF (v := 40) dX10_talls_52 (by decide) ?_
        refine j_iload_n hF 1 dX10_talls_54 rfl ?_
        refine j_imul hF dX10_talls_55 ?_
        refine j_iload_n hF 2 dX10_talls_56 rfl ?_
        refine j_iadd hF dX10_talls_57 ?_
        obtain ⟨g9, h⟩ := bzGdE h
        refine j_iald hF (c := (((40 * a1) + v2)).toNatClampNeg) (kl_10_18 ho) (nl_10_18 ho) g9 rfl dX10_talls_58 ?_
        refine j_iconst hF (v := 0) dX10_talls_59 (by decide) ?_
        refine j_bipush hF (v := 9) dX10_talls_60 (by decide) ?_
        obtain ⟨x11, e10, h⟩ := bzBdE h
        refine cs_X10_51 hF (fun l => mt_X10_in l e10) (by decide) (Nat.le_of_ble_eq_true rfl) dX10_talls_62 ?_
        refine j_if_eq hF (tgt := 96) dX10_talls_65 (by decide) (fun c12 => ?_) (fun c12 => ?_)
        · replace h := bzIfT h c12
          refine j_iload_n hF 2 dX10_talls_96 rfl ?_
          exact j_iret hF hG dX10_talls_97 (bzRet h).1 (bzRet h).2
        · replace h := bzIfF h c12
          refine j_aload_n hF 0 dX10_talls_68 rfl ?_
          refine gf_X10_7 hF ho dX10_talls_69 ?_
          refine j_bipush hF (v := 24) dX10_talls_72 (by decide) ?_
          refine j_iconst hF (v := 2) dX10_talls_74 (by decide) ?_
          refine j_iload_n hF 2 dX10_talls_75 rfl ?_
          refine j_imul hF dX10_talls_76 ?_
          refine j_iadd hF dX10_talls_77 ?_
          refine j_aload_n hF 0 dX10_talls_78 rfl ?_
          refine gf_X10_35 hF ho dX10_talls_79 ?_
          refine j_bipush hF (v := 40) dX10_talls_82 (by decide) ?_
          refine j_iload_n hF 1 dX10_talls_84 rfl ?_
          refine j_imul hF dX10_talls_85 ?_
          refine j_iload_n hF 2 dX10_talls_86 rfl ?_
          refine j_iadd hF dX10_talls_87 ?_
          obtain ⟨g13, h⟩ := bzGdE h
          refine j_iald hF (c := (((40 * a1) + v2)).toNatClampNeg) (kl_10_18 ho) (nl_10_18 ho) g13 rfl dX10_talls_88 ?_
          obtain ⟨g14, h⟩ := bzGdE h
          refine j_iast hF (c := ((24 + (2 * v2))).toNatClampNeg) (kl_10_0 ho) (nl_10_0 ho) g14 rfl dX10_talls_89 ?_
          refine j_s (fun σ15 eσ15 => ?_)
          replace h := bzLetE h eσ15
          obtain ⟨x16, ex16⟩ : ∃ y : Int32, y = v2 + 1 := ⟨_, rfl⟩
          replace h := bzLetE h ex16
          refine j_iinc hF (v := x16) (lv1 := [(2, .int x16), (0, .ref (ga g o)), (1, .int a1)]) 2 dX10_talls_90 rfl (by rw [ex16]; rfl) (by decide) rfl ?_
          refine j_goto hF (tgt := 32) dX10_talls_93 (by decide) ?_
          refine j_sub [1, 2, 0] rfl ?_
          exact hK32 x16 σ15 h
  have L32 : ∀ (n : Nat) (v2 : Int32) (σ1 : bzS), fl_X10_talls_32   o a1 n v2 σ1 = some (r0, σ0) → bzJ g 3 x σ1 32 [(0, .ref (ga g o)), (1, .int a1), (2, .int v2)] [] := by
    intro  n
    induction n with
    | zero =>
      intro v2 σ1  h
      cases h
    | succ n ih =>
      intro v2 σ1  h
      exact J32  (fl_X10_talls_32   o a1 n) ih v2 σ1  h
  refine j_iload_n hF 1 dX10_talls_0 rfl ?_
  obtain ⟨x2, e1, h⟩ := bzBdE h
  refine cs_X10_199 hF (fun l => mt_X10_isSheet l e1) (by decide) (Nat.le_of_ble_eq_true rfl) dX10_talls_1 ?_
  refine j_if_ne hF (tgt := 14) dX10_talls_4 (by decide) (fun c3 => ?_) (fun c3 => ?_)
  · replace h := bzIfF h c3
    refine j_aload_n hF 0 dX10_talls_14 rfl ?_
    refine gf_X10_29 hF ho dX10_talls_15 ?_
    refine j_iload_n hF 1 dX10_talls_18 rfl ?_
    obtain ⟨g4, h⟩ := bzGdE h
    refine j_iald hF (c := a1.toNatClampNeg) (kl_10_16 ho) (nl_10_16 ho) g4 rfl dX10_talls_19 ?_
    refine j_if_ne hF (tgt := 30) dX10_talls_20 (by decide) (fun c5 => ?_) (fun c5 => ?_)
    · replace h := bzIfF h c5
      refine j_iconst hF (v := 0) dX10_talls_30 (by decide) ?_
      refine j_istore_n hF (lv1 := [(2, .int 0), (0, .ref (ga g o)), (1, .int a1)]) dX10_talls_31 (by decide) rfl ?_
      refine j_sub [1, 2, 0] rfl ?_
      exact L32 2000 0 σ h
    · replace h := bzIfT h c5
      refine j_aload_n hF 0 dX10_talls_23 rfl ?_
      refine j_ldc hF (v := (-1000000002)) kc_X10_198 dX10_talls_24 ?_
      obtain ⟨x18, σ19, e17, h⟩ := bzBpE h
      refine cs_X10_60 hF ho (fun l => mt_X10_errs l e17) (by decide) (Nat.le_of_ble_eq_true rfl) dX10_talls_26 ?_
      exact j_iret hF hG dX10_talls_29  (bzRet h).1 (bzRet h).2
  · replace h := bzIfT h c3
    refine j_aload_n hF 0 dX10_talls_7 rfl ?_
    refine j_ldc hF (v := (-1000000001)) kc_X10_59 dX10_talls_8 ?_
    obtain ⟨x21, σ22, e20, h⟩ := bzBpE h
    refine cs_X10_60 hF ho (fun l => mt_X10_errs l e20) (by decide) (Nat.le_of_ble_eq_true rfl) dX10_talls_10 ?_
    exact j_iret hF hG dX10_talls_13  (bzRet h).1 (bzRet h).2
def fb_X10_judge_78 (o : Nat) (a1 : Int32) (v2 : Int32) (σ1 : bzS) : Option (Int32 × bzS) :=
  if v2 = (σ1 (ly o 0) 2) then (bzGd (bzIn a1 4) (if v2 = (σ1 (ly o 17) a1.toNatClampNeg) then (some ((-1), σ1)) else (some (v2, σ1)))) else (some (v2, σ1))
def fb_X10_judge_32 (K32 : Int32 → bzS → Option (Int32 × bzS)) (o : Nat) (a1 : Int32) (v2 : Int32) (σ1 : bzS) : Option (Int32 × bzS) :=
  if (σ1 (ly o 0) 2) ≤ v2 then (fb_X10_judge_78 o a1 v2 σ1) else (bzGd (bzIn a1 4) (if (σ1 (ly o 17) a1.toNatClampNeg) ≤ v2 then (fb_X10_judge_78 o a1 v2 σ1) else (bzGd (bzIn ((40 * a1) + v2) 160) (bzBd (f_X10_its o v2 2 σ1) (fun x14 => if (σ1 (ly o 18) ((((40 * a1) + v2)).toNatClampNeg)) = x14 then (bzLet (v2 + 1) (fun x16 => K32 x16 σ1)) else (fb_X10_judge_78 o a1 v2 σ1))))))
def fl_X10_judge_32 (o : Nat) (a1 : Int32) : Nat → Int32 → bzS → Option (Int32 × bzS)
  | 0, _, _ => none
  | n + 1, v2, σ1 => fb_X10_judge_32   (fl_X10_judge_32   o a1 n) o a1 v2 σ1
def f_X10_judge (o : Nat) (a1 : Int32) (σ : bzS) : Option (Int32 × bzS) :=
  bzGd (kd o = 10) (bzBd (f_X10_isSheet a1) (fun x2 => if x2 = 0 then (bzBp (f_X10_errs o ((-1000000001)) σ) (fun x21 σ22 => some (x21, σ22))) else (bzGd (bzIn a1 4) (if (σ (ly o 16) a1.toNatClampNeg) = 0 then (bzBp (f_X10_errs o ((-1000000002)) σ) (fun x18 σ19 => some (x18, σ19))) else (fl_X10_judge_32 o a1 2000 0 σ)))))
set_option maxHeartbeats 4000000 in
set_option maxRecDepth 20000 in
theorem mt_X10_judge {g : bzGeo} {o : Nat} {a1 : Int32} {σ : bzS} {r0 : Int32} {σ0 : bzS} (l : Launch) (h : f_X10_judge  o a1 σ = some (r0, σ0)) : Met l yX10_judge (Cond.code yX10_judge cX10_judge 3 (some .int) :: GW) (bzR (3)) (va_Pc [.ref (ga g o), .int a1] (bzP g σ)) (va_Qi (fun (r : Int32) (u : bzS) => r = r0 ∧ u = σ0) (bzB g) (gA g)) 0 0 (gA g) := by
  unfold f_X10_judge at h
  obtain ⟨ho, h⟩ := bzGdE h
  refine j_start l (by decide +kernel) [.ref (ga g o), .int a1] [(0, .ref (ga g o)), (1, .int a1)] (Nat.le_of_ble_eq_true rfl) rfl (fun x hF hG => ?_)
  have J78 : ∀ (v2 : Int32) (σ1 : bzS), fb_X10_judge_78 o a1 v2 σ1 = some (r0, σ0) → bzJ g 3 x σ1 78 [(0, .ref (ga g o)), (1, .int a1), (2, .int v2)] [] := by
    intro v2 σ1 h
    unfold fb_X10_judge_78 at h
    refine j_iload_n hF 2 dX10_judge_78 rfl ?_
    refine j_aload_n hF 0 dX10_judge_79 rfl ?_
    refine gf_X10_7 hF ho dX10_judge_80 ?_
    refine j_iconst hF (v := 2) dX10_judge_83 (by decide) ?_
    refine j_iald hF (c := 2) (kl_10_0 ho) (nl_10_0 ho) (by decide) (by decide) dX10_judge_84 ?_
    refine j_icmp_ne hF (tgt := 102) dX10_judge_85 (by decide) (fun c7 => ?_) (fun c7 => ?_)
    · replace h := bzIfF h c7
      refine j_iload_n hF 2 dX10_judge_102 rfl ?_
      exact j_iret hF hG dX10_judge_103 (bzRet h).1 (bzRet h).2
    · replace h := bzIfT h c7
      refine j_iload_n hF 2 dX10_judge_88 rfl ?_
      refine j_aload_n hF 0 dX10_judge_89 rfl ?_
      refine gf_X10_32 hF ho dX10_judge_90 ?_
      refine j_iload_n hF 1 dX10_judge_93 rfl ?_
      obtain ⟨g8, h⟩ := bzGdE h
      refine j_iald hF (c := a1.toNatClampNeg) (kl_10_17 ho) (nl_10_17 ho) g8 rfl dX10_judge_94 ?_
      refine j_icmp_ne hF (tgt := 102) dX10_judge_95 (by decide) (fun c9 => ?_) (fun c9 => ?_)
      · replace h := bzIfF h c9
        refine j_iload_n hF 2 dX10_judge_102 rfl ?_
        exact j_iret hF hG dX10_judge_103 (bzRet h).1 (bzRet h).2
      · replace h := bzIfT h c9
        refine j_iconst hF (v := (-1)) dX10_judge_98 (by decide) ?_
        refine j_goto hF (tgt := 103) dX10_judge_99 (by decide) ?_
        exact j_iret hF hG dX10_judge_103 (bzRet h).1 (bzRet h).2
  have J32 : (K32 : Int32 → bzS → Option (Int32 × bzS)) → (hK32 : ∀ (v2 : Int32) (σ1 : bzS), K32 v2 σ1 = some (r0, σ0) → bzJ g 3 x σ1 32 [(0, .ref (ga g o)), (1, .int a1), (2, .int v2)] []) → ∀ (v2 : Int32) (σ1 : bzS), fb_X10_judge_32 K32 o a1 v2 σ1 = some (r0, σ0) → bzJ g 3 x σ1 32 [(0, .ref (ga g o)), (1, .int a1), (2, .int v2)] [] := by
    intro K32 hK32 v2 σ1 h
    unfold fb_X10_judge_32 at h
    refine j_iload_n hF 2 dX10_judge_32 rfl ?_
    refine j_aload_n hF 0 dX10_judge_33 rfl ?_
    refine gf_X10_7 hF ho dX10_judge_34 ?_
    refine j_iconst hF (v := 2) dX10_judge_37 (by decide) ?_
    refine j_iald hF (c := 2) (kl_10_0 ho) (nl_10_0 ho) (by decide) (by decide) dX10_judge_38 ?_
    refine j_icmp_ge hF (tgt := 78) dX10_judge_39 (by decide) (fun c6 => ?_) (fun c6 => ?_)
    · replace h := bzIfT h c6
      exact J78 v2 σ1 h
    · replace h := bzIfF h c6
      refine j_iload_n hF 2 dX10_judge_42 rfl ?_
      refine j_aload_n hF 0 dX10_judge_43 rfl ?_
      refine gf_X10_32 hF ho dX10_judge_44 ?_
      refine j_iload_n hF 1 dX10_judge_47 rfl ?_
      obtain ⟨g10, h⟩ := bzGdE h
      refine j_iald hF (c := a1.toNatClampNeg) (kl_10_17 ho) (nl_10_17 ho) g10 rfl dX10_judge_48 ?_
      refine j_icmp_ge hF (tgt := 78) dX10_judge_49 (by decide) (fun c11 => ?_) (fun c11 => ?_)
      · replace h := bzIfT h c11
        exact J78 v2 σ1 h
      · replace h := bzIfF h c11
        refine j_aload_n hF 0 dX10_judge_52 rfl ?_
        refine gf_X10_35 hF ho dX10_judge_53 ?_
        refine j_bipush hF (v := 40) dX10_judge_56 (by decide) ?_
        refine j_iload_n hF 1 dX10_judge_58 rfl ?_
        refine j_imul hF dX10_judge_59 ?_
        refine j_iload_n hF 2 dX10_judge_60 rfl ?_
        refine j_iadd hF dX10_judge_61 ?_
        obtain ⟨g12, h⟩ := bzGdE h
        refine j_iald hF (c := (((40 * a1) + v2)).toNatClampNeg) (kl_10_18 ho) (nl_10_18 ho) g12 rfl dX10_judge_62 ?_
        refine j_aload_n hF 0 dX10_judge_63 rfl ?_
        refine j_iload_n hF 2 dX10_judge_64 rfl ?_
        refine j_iconst hF (v := 2) dX10_judge_65 (by decide) ?_
        obtain ⟨x14, e13, h⟩ := bzBdE h
        refine cs_X10_83 hF ho (fun l => mt_X10_its l e13) (by decide) (Nat.le_of_ble_eq_true rfl) dX10_judge_66 ?_
        refine j_icmp_ne hF (tgt := 78) dX10_judge_69 (by decide) (fun c15 => ?_) (fun c15 => ?_)
        · replace h := bzIfF h c15
          exact J78 v2 σ1 h
        · replace h := bzIfT h c15
          obtain ⟨x16, ex16⟩ : ∃ y : Int32, y = v2 + 1 := ⟨_, rfl⟩
          replace h := bzLetE h ex16
          refine j_iinc hF (v := x16) (lv1 := [(2, .int x16), (0, .ref (ga g o)), (1, .int a1)]) 2 dX10_judge_72 rfl (by rw [ex16]; rfl) (by decide) rfl ?_
          refine j_goto hF (tgt := 32) dX10_judge_75 (by decide) ?_
          refine j_sub [1, 2, 0] rfl ?_
          exact hK32 x16 σ1 h
  have L32 : ∀ (n : Nat) (v2 : Int32) (σ1 : bzS), fl_X10_judge_32   o a1 n v2 σ1 = some (r0, σ0) → bzJ g 3 x σ1 32 [(0, .ref (ga g o)), (1, .int a1), (2, .int v2)] [] := by
    intro  n
    induction n with
    | zero =>
      intro v2 σ1  h
      cases h
    | succ n ih =>
      intro v2 σ1  h
      exact J32  (fl_X10_judge_32   o a1 n) ih v2 σ1  h
  refine j_iload_n hF 1 dX10_judge_0 rfl ?_
  obtain ⟨x2, e1, h⟩ := bzBdE h
  refine cs_X10_199 hF (fun l => mt_X10_isSheet l e1) (by decide) (Nat.le_of_ble_eq_true rfl) dX10_judge_1 ?_
  refine j_if_ne hF (tgt := 14) dX10_judge_4 (by decide) (fun c3 => ?_) (fun c3 => ?_)
  · replace h := bzIfF h c3
    refine j_aload_n hF 0 dX10_judge_14 rfl ?_
    refine gf_X10_29 hF ho dX10_judge_15 ?_
    refine j_iload_n hF 1 dX10_judge_18 rfl ?_
    obtain ⟨g4, h⟩ := bzGdE h
    refine j_iald hF (c := a1.toNatClampNeg) (kl_10_16 ho) (nl_10_16 ho) g4 rfl dX10_judge_19 ?_
    refine j_if_ne hF (tgt := 30) dX10_judge_20 (by decide) (fun c5 => ?_) (fun c5 => ?_)
    · replace h := bzIfF h c5
      refine j_iconst hF (v := 0) dX10_judge_30 (by decide) ?_
      refine j_istore_n hF (lv1 := [(2, .int 0), (0, .ref (ga g o)), (1, .int a1)]) dX10_judge_31 (by decide) rfl ?_
      refine j_sub [1, 2, 0] rfl ?_
      exact L32 2000 0 σ h
    · replace h := bzIfT h c5
      refine j_aload_n hF 0 dX10_judge_23 rfl ?_
      refine j_ldc hF (v := (-1000000002)) kc_X10_198 dX10_judge_24 ?_
      obtain ⟨x18, σ19, e17, h⟩ := bzBpE h
      refine cs_X10_60 hF ho (fun l => mt_X10_errs l e17) (by decide) (Nat.le_of_ble_eq_true rfl) dX10_judge_26 ?_
      exact j_iret hF hG dX10_judge_29  (bzRet h).1 (bzRet h).2
  · replace h := bzIfT h c3
    refine j_aload_n hF 0 dX10_judge_7 rfl ?_
    refine j_ldc hF (v := (-1000000001)) kc_X10_59 dX10_judge_8 ?_
    obtain ⟨x21, σ22, e20, h⟩ := bzBpE h
    refine cs_X10_60 hF ho (fun l => mt_X10_errs l e20) (by decide) (Nat.le_of_ble_eq_true rfl) dX10_judge_10 ?_
    exact j_iret hF hG dX10_judge_13  (bzRet h).1 (bzRet h).2
def f_X10_image (o : Nat) (σ : bzS) : Option (Int32 × bzS) :=
  bzGd (kd o = 10) (bzBd (f_X10_moveAll o ((ly o 0)) ((ly o 1)) σ) (fun σ2 => bzLet (bzSt σ2 o 4 1) (fun σ3 => bzLet (bzSt σ3 o 5 ((σ3 o 5) + 1)) (fun σ4 => some ((σ4 o 5), σ4)))))
set_option maxHeartbeats 4000000 in
set_option maxRecDepth 20000 in
theorem mt_X10_image {g : bzGeo} {o : Nat} {σ : bzS} {r0 : Int32} {σ0 : bzS} (l : Launch) (h : f_X10_image  o σ = some (r0, σ0)) : Met l yX10_image (Cond.code yX10_image cX10_image 1 (some .int) :: GW) (bzR (2)) (va_Pc [.ref (ga g o)] (bzP g σ)) (va_Qi (fun (r : Int32) (u : bzS) => r = r0 ∧ u = σ0) (bzB g) (gA g)) 0 0 (gA g) := by
  unfold f_X10_image at h
  obtain ⟨ho, h⟩ := bzGdE h
  refine j_start l (by decide +kernel) [.ref (ga g o)] [(0, .ref (ga g o))] (Nat.le_of_ble_eq_true rfl) rfl (fun x hF hG => ?_)
  refine j_aload_n hF 0 dX10_image_0 rfl ?_
  refine j_aload_n hF 0 dX10_image_1 rfl ?_
  refine gf_X10_7 hF ho dX10_image_2 ?_
  refine j_aload_n hF 0 dX10_image_5 rfl ?_
  refine gf_X10_13 hF ho dX10_image_6 ?_
  obtain ⟨σ2, e1, h⟩ := bzBdE h
  refine cs_X10_167 hF ho (fun l => mt_X10_moveAll l e1) (by decide) (Nat.le_of_ble_eq_true rfl) dX10_image_9 ?_
  refine j_aload_n hF 0 dX10_image_12 rfl ?_
  refine j_iconst hF (v := 1) dX10_image_13 (by decide) ?_
  refine pf_X10_263 hF ho (Or.inr rfl) dX10_image_14 ?_
  refine j_s (fun σ3 eσ3 => ?_)
  replace h := bzLetE h eσ3
  refine j_aload_n hF 0 dX10_image_17 rfl ?_
  refine j_dup hF dX10_image_18 rfl ?_
  refine gf_X10_266 hF ho dX10_image_19 ?_
  refine j_iconst hF (v := 1) dX10_image_22 (by decide) ?_
  refine j_iadd hF dX10_image_23 ?_
  refine pf_X10_266 hF ho dX10_image_24 ?_
  refine j_s (fun σ4 eσ4 => ?_)
  replace h := bzLetE h eσ4
  refine j_aload_n hF 0 dX10_image_27 rfl ?_
  refine gf_X10_266 hF ho dX10_image_28 ?_
  exact j_iret hF hG dX10_image_31  (bzRet h).1 (bzRet h).2
def f_X10_restore (o : Nat) (σ : bzS) : Option (Int32 × bzS) :=
  bzGd (kd o = 10) (if (σ o 4) = 0 then (bzBp (f_X10_errs o ((-1000000002)) σ) (fun x5 σ6 => some (x5, σ6))) else (bzBd (f_X10_moveAll o ((ly o 1)) ((ly o 0)) σ) (fun σ3 => some ((σ3 (ly o 0) 0), σ3))))
set_option maxHeartbeats 4000000 in
set_option maxRecDepth 20000 in
theorem mt_X10_restore {g : bzGeo} {o : Nat} {σ : bzS} {r0 : Int32} {σ0 : bzS} (l : Launch) (h : f_X10_restore  o σ = some (r0, σ0)) : Met l yX10_restore (Cond.code yX10_restore cX10_restore 1 (some .int) :: GW) (bzR (2)) (va_Pc [.ref (ga g o)] (bzP g σ)) (va_Qi (fun (r : Int32) (u : bzS) => r = r0 ∧ u = σ0) (bzB g) (gA g)) 0 0 (gA g) := by
  unfold f_X10_restore at h
  obtain ⟨ho, h⟩ := bzGdE h
  refine j_start l (by decide +kernel) [.ref (ga g o)] [(0, .ref (ga g o))] (Nat.le_of_ble_eq_true rfl) rfl (fun x hF hG => ?_)
  refine j_aload_n hF 0 dX10_restore_0 rfl ?_
  refine gf_X10_263 hF ho dX10_restore_1 ?_
  refine j_if_ne hF (tgt := 14) dX10_restore_4 (by decide) (fun c1 => ?_) (fun c1 => ?_)
  · replace h := bzIfF h c1
    refine j_aload_n hF 0 dX10_restore_14 rfl ?_
    refine j_aload_n hF 0 dX10_restore_15 rfl ?_
    refine gf_X10_13 hF ho dX10_restore_16 ?_
    refine j_aload_n hF 0 dX10_restore_19 rfl ?_
    refine gf_X10_7 hF ho dX10_restore_20 ?_
    obtain ⟨σ3, e2, h⟩ := bzBdE h
    refine cs_X10_167 hF ho (fun l => mt_X10_moveAll l e2) (by decide) (Nat.le_of_ble_eq_true rfl) dX10_restore_23 ?_
    refine j_aload_n hF 0 dX10_restore_26 rfl ?_
    refine gf_X10_7 hF ho dX10_restore_27 ?_
    refine j_iconst hF (v := 0) dX10_restore_30 (by decide) ?_
    refine j_iald hF (c := 0) (kl_10_0 ho) (nl_10_0 ho) (by decide) (by decide) dX10_restore_31 ?_
    exact j_iret hF hG dX10_restore_32  (bzRet h).1 (bzRet h).2
  · replace h := bzIfT h c1
    refine j_aload_n hF 0 dX10_restore_7 rfl ?_
    refine j_ldc hF (v := (-1000000002)) kc_X10_198 dX10_restore_8 ?_
    obtain ⟨x5, σ6, e4, h⟩ := bzBpE h
    refine cs_X10_60 hF ho (fun l => mt_X10_errs l e4) (by decide) (Nat.le_of_ble_eq_true rfl) dX10_restore_10 ?_
    exact j_iret hF hG dX10_restore_13  (bzRet h).1 (bzRet h).2
def f_X10_tell (o : Nat) (a1 : Int32) (σ : bzS) : Option (Int32 × bzS) :=
  bzGd (kd o = 10) (if (σ (ly o 0) 9) = 20 then (bzBp (f_X10_errs o ((-1000000004)) σ) (fun x6 σ7 => some (x6, σ7))) else (bzGd (bzIn (134 + (σ (ly o 0) 9)) 254) (bzLet (bzSt σ (ly o 0) (((134 + (σ (ly o 0) 9))).toNatClampNeg) a1) (fun σ3 => bzLet (bzSt σ3 (ly o 0) 9 ((σ3 (ly o 0) 9) + 1)) (fun σ4 => some ((σ4 (ly o 0) 9), σ4))))))
set_option maxHeartbeats 4000000 in
set_option maxRecDepth 20000 in
theorem mt_X10_tell {g : bzGeo} {o : Nat} {a1 : Int32} {σ : bzS} {r0 : Int32} {σ0 : bzS} (l : Launch) (h : f_X10_tell  o a1 σ = some (r0, σ0)) : Met l yX10_tell (Cond.code yX10_tell cX10_tell 2 (some .int) :: GW) (bzR (2)) (va_Pc [.ref (ga g o), .int a1] (bzP g σ)) (va_Qi (fun (r : Int32) (u : bzS) => r = r0 ∧ u = σ0) (bzB g) (gA g)) 0 0 (gA g) := by
  unfold f_X10_tell at h
  obtain ⟨ho, h⟩ := bzGdE h
  refine j_start l (by decide +kernel) [.ref (ga g o), .int a1] [(0, .ref (ga g o)), (1, .int a1)] (Nat.le_of_ble_eq_true rfl) rfl (fun x hF hG => ?_)
  refine j_aload_n hF 0 dX10_tell_0 rfl ?_
  refine gf_X10_7 hF ho dX10_tell_1 ?_
  refine j_bipush hF (v := 9) dX10_tell_4 (by decide) ?_
  refine j_iald hF (c := 9) (kl_10_0 ho) (nl_10_0 ho) (by decide) (by decide) dX10_tell_6 ?_
  refine j_bipush hF (v := 20) dX10_tell_7 (by decide) ?_
  refine j_icmp_ne hF (tgt := 19) dX10_tell_9 (by decide) (fun c1 => ?_) (fun c1 => ?_)
  · replace h := bzIfF h c1
    refine j_aload_n hF 0 dX10_tell_19 rfl ?_
    refine gf_X10_7 hF ho dX10_tell_20 ?_
    refine j_sipush hF (v := 134) dX10_tell_23 (by decide) ?_
    refine j_aload_n hF 0 dX10_tell_26 rfl ?_
    refine gf_X10_7 hF ho dX10_tell_27 ?_
    refine j_bipush hF (v := 9) dX10_tell_30 (by decide) ?_
    refine j_iald hF (c := 9) (kl_10_0 ho) (nl_10_0 ho) (by decide) (by decide) dX10_tell_32 ?_
    refine j_iadd hF dX10_tell_33 ?_
    refine j_iload_n hF 1 dX10_tell_34 rfl ?_
    obtain ⟨g2, h⟩ := bzGdE h
    refine j_iast hF (c := ((134 + (σ (ly o 0) 9))).toNatClampNeg) (kl_10_0 ho) (nl_10_0 ho) g2 rfl dX10_tell_35 ?_
    refine j_s (fun σ3 eσ3 => ?_)
    replace h := bzLetE h eσ3
    refine j_aload_n hF 0 dX10_tell_36 rfl ?_
    refine gf_X10_7 hF ho dX10_tell_37 ?_
    refine j_bipush hF (v := 9) dX10_tell_40 (by decide) ?_
    refine j_dup2 hF dX10_tell_42 rfl rfl ?_
    refine j_iald hF (c := 9) (kl_10_0 ho) (nl_10_0 ho) (by decide) (by decide) dX10_tell_43 ?_
    refine j_iconst hF (v := 1) dX10_tell_44 (by decide) ?_
    refine j_iadd hF dX10_tell_45 ?_
    refine j_iast hF (c := 9) (kl_10_0 ho) (nl_10_0 ho) (by decide) (by decide) dX10_tell_46 ?_
    refine j_s (fun σ4 eσ4 => ?_)
    replace h := bzLetE h eσ4
    refine j_aload_n hF 0 dX10_tell_47 rfl ?_
    refine gf_X10_7 hF ho dX10_tell_48 ?_
    refine j_bipush hF (v := 9) dX10_tell_51 (by decide) ?_
    refine j_iald hF (c := 9) (kl_10_0 ho) (nl_10_0 ho) (by decide) (by decide) dX10_tell_53 ?_
    exact j_iret hF hG dX10_tell_54  (bzRet h).1 (bzRet h).2
  · replace h := bzIfT h c1
    refine j_aload_n hF 0 dX10_tell_12 rfl ?_
    refine j_ldc hF (v := (-1000000004)) kc_X10_75 dX10_tell_13 ?_
    obtain ⟨x6, σ7, e5, h⟩ := bzBpE h
    refine cs_X10_60 hF ho (fun l => mt_X10_errs l e5) (by decide) (Nat.le_of_ble_eq_true rfl) dX10_tell_15 ?_
    exact j_iret hF hG dX10_tell_18  (bzRet h).1 (bzRet h).2
def fb_X10_check_32 (K32 : Int32 → Int32 → Int32 → bzS → Option (Int32 × bzS)) (o : Nat) (v1 : Int32) (v2 : Int32) (v3 : Int32) (σ1 : bzS) : Option (Int32 × bzS) :=
  if v1 ≤ v2 then (bzBd (f_X10_moveAll o ((ly o 2)) ((ly o 0)) σ1) (fun σ7 => if v3 = 0 then (some ((1 + v2), σ7)) else (some (0, σ7)))) else (if v3 = 0 then (bzBd (f_X10_moveAll o ((ly o 2)) ((ly o 0)) σ1) (fun σ11 => if v3 = 0 then (some ((1 + v2), σ11)) else (some (0, σ11)))) else (bzBd (f_X10_oneYear o σ1) (fun σ14 => bzGd (bzIn (134 + v2) 254) (if (σ14 (ly o 0) 4) = (σ14 (ly o 0) (((134 + v2)).toNatClampNeg)) then (bzLet ((v2 + 1)) (fun x20 => K32 v1 x20 1 σ14)) else (bzLet ((v2 + 0)) (fun x18 => K32 v1 x18 0 σ14))))))
def fl_X10_check_32 (o : Nat) : Nat → Int32 → Int32 → Int32 → bzS → Option (Int32 × bzS)
  | 0, _, _, _, _ => none
  | n + 1, v1, v2, v3, σ1 => fb_X10_check_32   (fl_X10_check_32   o n) o v1 v2 v3 σ1
def f_X10_check (o : Nat) (σ : bzS) : Option (Int32 × bzS) :=
  bzGd (kd o = 10) (bzLet ((σ (ly o 0) 9)) (fun x1 => bzLet (bzSt σ (ly o 0) 9 0) (fun σ2 => bzBd (f_X10_moveAll o ((ly o 0)) ((ly o 2)) σ2) (fun σ4 => fl_X10_check_32 o 2000 x1 0 1 σ4))))
set_option maxHeartbeats 4000000 in
set_option maxRecDepth 20000 in
theorem mt_X10_check {g : bzGeo} {o : Nat} {σ : bzS} {r0 : Int32} {σ0 : bzS} (l : Launch) (h : f_X10_check  o σ = some (r0, σ0)) : Met l yX10_check (Cond.code yX10_check cX10_check 4 (some .int) :: GW) (bzR (69)) (va_Pc [.ref (ga g o)] (bzP g σ)) (va_Qi (fun (r : Int32) (u : bzS) => r = r0 ∧ u = σ0) (bzB g) (gA g)) 0 0 (gA g) := by
  unfold f_X10_check at h
  obtain ⟨ho, h⟩ := bzGdE h
  refine j_start l (by decide +kernel) [.ref (ga g o)] [(0, .ref (ga g o))] (Nat.le_of_ble_eq_true rfl) rfl (fun x hF hG => ?_)
  have J32 : (K32 : Int32 → Int32 → Int32 → bzS → Option (Int32 × bzS)) → (hK32 : ∀ (v1 : Int32) (v2 : Int32) (v3 : Int32) (σ1 : bzS), K32 v1 v2 v3 σ1 = some (r0, σ0) → bzJ g 4 x σ1 32 [(0, .ref (ga g o)), (1, .int v1), (2, .int v2), (3, .int v3)] []) → ∀ (v1 : Int32) (v2 : Int32) (v3 : Int32) (σ1 : bzS), fb_X10_check_32 K32 o v1 v2 v3 σ1 = some (r0, σ0) → bzJ g 4 x σ1 32 [(0, .ref (ga g o)), (1, .int v1), (2, .int v2), (3, .int v3)] [] := by
    intro K32 hK32 v1 v2 v3 σ1 h
    unfold fb_X10_check_32 at h
    refine j_iload_n hF 2 dX10_check_32 rfl ?_
    refine j_iload_n hF 1 dX10_check_33 rfl ?_
    refine j_icmp_ge hF (tgt := 85) dX10_check_34 (by decide) (fun c5 => ?_) (fun c5 => ?_)
    · replace h := bzIfT h c5
      refine j_aload_n hF 0 dX10_check_85 rfl ?_
      refine j_aload_n hF 0 dX10_check_86 rfl ?_
      refine gf_X10_16 hF ho dX10_check_87 ?_
      refine j_aload_n hF 0 dX10_check_90 rfl ?_
      refine gf_X10_7 hF ho dX10_check_91 ?_
      obtain ⟨σ7, e6, h⟩ := bzBdE h
      refine cs_X10_167 hF ho (fun l => mt_X10_moveAll l e6) (by decide) (Nat.le_of_ble_eq_true rfl) dX10_check_94 ?_
      refine j_iload_n hF 3 dX10_check_97 rfl ?_
      refine j_if_eq hF (tgt := 105) dX10_check_98 (by decide) (fun c8 => ?_) (fun c8 => ?_)
      · replace h := bzIfT h c8
        refine j_iconst hF (v := 1) dX10_check_105 (by decide) ?_
        refine j_iload_n hF 2 dX10_check_106 rfl ?_
        refine j_iadd hF dX10_check_107 ?_
        exact j_iret hF hG dX10_check_108 (bzRet h).1 (bzRet h).2
      · replace h := bzIfF h c8
        refine j_iconst hF (v := 0) dX10_check_101 (by decide) ?_
        refine j_goto hF (tgt := 108) dX10_check_102 (by decide) ?_
        exact j_iret hF hG dX10_check_108 (bzRet h).1 (bzRet h).2
    · replace h := bzIfF h c5
      refine j_iload_n hF 3 dX10_check_37 rfl ?_
      refine j_if_eq hF (tgt := 85) dX10_check_38 (by decide) (fun c9 => ?_) (fun c9 => ?_)
      · replace h := bzIfT h c9
        refine j_aload_n hF 0 dX10_check_85 rfl ?_
        refine j_aload_n hF 0 dX10_check_86 rfl ?_
        refine gf_X10_16 hF ho dX10_check_87 ?_
        refine j_aload_n hF 0 dX10_check_90 rfl ?_
        refine gf_X10_7 hF ho dX10_check_91 ?_
        obtain ⟨σ11, e10, h⟩ := bzBdE h
        refine cs_X10_167 hF ho (fun l => mt_X10_moveAll l e10) (by decide) (Nat.le_of_ble_eq_true rfl) dX10_check_94 ?_
        refine j_iload_n hF 3 dX10_check_97 rfl ?_
        refine j_if_eq hF (tgt := 105) dX10_check_98 (by decide) (fun c12 => ?_) (fun c12 => ?_)
        · replace h := bzIfT h c12
          refine j_iconst hF (v := 1) dX10_check_105 (by decide) ?_
          refine j_iload_n hF 2 dX10_check_106 rfl ?_
          refine j_iadd hF dX10_check_107 ?_
          exact j_iret hF hG dX10_check_108 (bzRet h).1 (bzRet h).2
        · replace h := bzIfF h c12
          refine j_iconst hF (v := 0) dX10_check_101 (by decide) ?_
          refine j_goto hF (tgt := 108) dX10_check_102 (by decide) ?_
          exact j_iret hF hG dX10_check_108 (bzRet h).1 (bzRet h).2
      · replace h := bzIfF h c9
        refine j_aload_n hF 0 dX10_check_41 rfl ?_
        obtain ⟨σ14, e13, h⟩ := bzBdE h
        refine cs_X10_183 hF ho (fun l => mt_X10_oneYear l e13) (by decide) (Nat.le_of_ble_eq_true rfl) dX10_check_42 ?_
        refine j_aload_n hF 0 dX10_check_45 rfl ?_
        refine gf_X10_7 hF ho dX10_check_46 ?_
        refine j_iconst hF (v := 4) dX10_check_49 (by decide) ?_
        refine j_iald hF (c := 4) (kl_10_0 ho) (nl_10_0 ho) (by decide) (by decide) dX10_check_50 ?_
        refine j_aload_n hF 0 dX10_check_51 rfl ?_
        refine gf_X10_7 hF ho dX10_check_52 ?_
        refine j_sipush hF (v := 134) dX10_check_55 (by decide) ?_
        refine j_iload_n hF 2 dX10_check_58 rfl ?_
        refine j_iadd hF dX10_check_59 ?_
        obtain ⟨g15, h⟩ := bzGdE h
        refine j_iald hF (c := ((134 + v2)).toNatClampNeg) (kl_10_0 ho) (nl_10_0 ho) g15 rfl dX10_check_60 ?_
        refine j_icmp_ne hF (tgt := 68) dX10_check_61 (by decide) (fun c16 => ?_) (fun c16 => ?_)
        · replace h := bzIfF h c16
          refine j_iconst hF (v := 0) dX10_check_68 (by decide) ?_
          refine j_istore_n hF (lv1 := [(3, .int 0), (0, .ref (ga g o)), (1, .int v1), (2, .int v2)]) dX10_check_69 (by decide) rfl ?_
          refine j_iload_n hF 3 dX10_check_70 rfl ?_
          refine j_iload_n hF 0 dX10_check_71 rfl ?_
          refine j_if_eq hF (tgt := 79) dX10_check_72 (by decide) (fun c17 => ?_) (fun c17 => absurd c17 (by decide))
          refine j_iconst hF (v := 0) dX10_check_79 (by decide) ?_
          refine j_iadd hF dX10_check_80 ?_
          refine j_topi (fun x18 ex18 => ?_)
          replace h := bzLetE h ex18
          refine j_istore_n hF (lv1 := [(2, .int x18), (3, .int 0), (0, .ref (ga g o)), (1, .int v1)]) dX10_check_81 (by decide) rfl ?_
          refine j_goto hF (tgt := 32) dX10_check_82 (by decide) ?_
          refine j_sub [2, 3, 0, 1] rfl ?_
          exact hK32 v1 x18 0 σ14 h
        · replace h := bzIfT h c16
          refine j_iconst hF (v := 1) dX10_check_64 (by decide) ?_
          refine j_goto hF (tgt := 69) dX10_check_65 (by decide) ?_
          refine j_istore_n hF (lv1 := [(3, .int 1), (0, .ref (ga g o)), (1, .int v1), (2, .int v2)]) dX10_check_69 (by decide) rfl ?_
          refine j_iload_n hF 3 dX10_check_70 rfl ?_
          refine j_iload_n hF 0 dX10_check_71 rfl ?_
          refine j_if_eq hF (tgt := 79) dX10_check_72 (by decide) (fun c19 => absurd c19 (by decide)) (fun c19 => ?_)
          refine j_iconst hF (v := 1) dX10_check_75 (by decide) ?_
          refine j_goto hF (tgt := 80) dX10_check_76 (by decide) ?_
          refine j_iadd hF dX10_check_80 ?_
          refine j_topi (fun x20 ex20 => ?_)
          replace h := bzLetE h ex20
          refine j_istore_n hF (lv1 := [(2, .int x20), (3, .int 1), (0, .ref (ga g o)), (1, .int v1)]) dX10_check_81 (by decide) rfl ?_
          refine j_goto hF (tgt := 32) dX10_check_82 (by decide) ?_
          refine j_sub [2, 3, 0, 1] rfl ?_
          exact hK32 v1 x20 1 σ14 h
  have L32 : ∀ (n : Nat) (v1 : Int32) (v2 : Int32) (v3 : Int32) (σ1 : bzS), fl_X10_check_32   o n v1 v2 v3 σ1 = some (r0, σ0) → bzJ g 4 x σ1 32 [(0, .ref (ga g o)), (1, .int v1), (2, .int v2), (3, .int v3)] [] := by
    intro  n
    induction n with
    | zero =>
      intro v1 v2 v3 σ1  h
      cases h
    | succ n ih =>
      intro v1 v2 v3 σ1  h
      exact J32  (fl_X10_check_32   o n) ih v1 v2 v3 σ1  h
  refine j_aload_n hF 0 dX10_check_0 rfl ?_
  refine gf_X10_7 hF ho dX10_check_1 ?_
  refine j_bipush hF (v := 9) dX10_check_4 (by decide) ?_
  refine j_iald hF (c := 9) (kl_10_0 ho) (nl_10_0 ho) (by decide) (by decide) dX10_check_6 ?_
  refine j_topi (fun x1 ex1 => ?_)
  replace h := bzLetE h ex1
  refine j_istore_n hF (lv1 := [(1, .int x1), (0, .ref (ga g o))]) dX10_check_7 (by decide) rfl ?_
  refine j_aload_n hF 1 dX10_check_8 rfl ?_
  refine gf_X10_7 hF ho dX10_check_9 ?_
  refine j_bipush hF (v := 9) dX10_check_12 (by decide) ?_
  refine j_iconst hF (v := 0) dX10_check_14 (by decide) ?_
  refine j_iast hF (c := 9) (kl_10_0 ho) (nl_10_0 ho) (by decide) (by decide) dX10_check_15 ?_
  refine j_s (fun σ2 eσ2 => ?_)
  replace h := bzLetE h eσ2
  refine j_aload_n hF 1 dX10_check_16 rfl ?_
  refine j_aload_n hF 1 dX10_check_17 rfl ?_
  refine gf_X10_7 hF ho dX10_check_18 ?_
  refine j_aload_n hF 1 dX10_check_21 rfl ?_
  refine gf_X10_16 hF ho dX10_check_22 ?_
  obtain ⟨σ4, e3, h⟩ := bzBdE h
  refine cs_X10_167 hF ho (fun l => mt_X10_moveAll l e3) (by decide) (Nat.le_of_ble_eq_true rfl) dX10_check_25 ?_
  refine j_iconst hF (v := 0) dX10_check_28 (by decide) ?_
  refine j_istore_n hF (lv1 := [(2, .int 0), (1, .int x1), (0, .ref (ga g o))]) dX10_check_29 (by decide) rfl ?_
  refine j_iconst hF (v := 1) dX10_check_30 (by decide) ?_
  refine j_istore_n hF (lv1 := [(3, .int 1), (2, .int 0), (1, .int x1), (0, .ref (ga g o))]) dX10_check_31 (by decide) rfl ?_
  refine j_sub [3, 2, 1, 0] rfl ?_
  exact L32 2000 x1 0 1 σ4 h
def fb_X10_sumOfTrees_4 (K4 : Int32 → Int32 → Option Int32) (o : Nat) (σ : bzS) (v1 : Int32) (v2 : Int32) : Option Int32 :=
  if 8 ≤ v2 then (some v1) else (bzGd (bzIn (44 + v2) 254) (bzBd (f_X10_ones ((σ (ly o 0) (((44 + v2)).toNatClampNeg)))) (fun x4 => bzLet ((v1 + x4)) (fun x5 => bzLet (v2 + 1) (fun x6 => K4 x5 x6)))))
def fl_X10_sumOfTrees_4 (o : Nat) (σ : bzS) : Nat → Int32 → Int32 → Option Int32
  | 0, _, _ => none
  | n + 1, v1, v2 => fb_X10_sumOfTrees_4   (fl_X10_sumOfTrees_4   o σ n) o σ v1 v2
def f_X10_sumOfTrees (o : Nat) (σ : bzS) : Option Int32 :=
  bzGd (kd o = 10) (fl_X10_sumOfTrees_4 o σ 2000 0 0)
set_option maxHeartbeats 4000000 in
set_option maxRecDepth 20000 in
theorem mt_X10_sumOfTrees {g : bzGeo} {o : Nat} {σ : bzS} {r0 : Int32} (l : Launch) (h : f_X10_sumOfTrees  o σ = some r0) : Met l yX10_sumOfTrees (Cond.code yX10_sumOfTrees cX10_sumOfTrees 3 (some .int) :: GW) (bzR (2)) (va_Pc [.ref (ga g o)] (bzP g σ)) (va_Qi (fun (r : Int32) (u : bzS) => r = r0 ∧ u = σ) (bzB g) (gA g)) 0 0 (gA g) := by
  unfold f_X10_sumOfTrees at h
  obtain ⟨ho, h⟩ := bzGdE h
  refine j_start l (by decide +kernel) [.ref (ga g o)] [(0, .ref (ga g o))] (Nat.le_of_ble_eq_true rfl) rfl (fun x hF hG => ?_)
  have J4 : (K4 : Int32 → Int32 → Option Int32) → (hK4 : ∀ (v1 : Int32) (v2 : Int32), K4 v1 v2 = some r0 → bzJ g 3 x σ 4 [(0, .ref (ga g o)), (1, .int v1), (2, .int v2)] []) → ∀ (v1 : Int32) (v2 : Int32), fb_X10_sumOfTrees_4 K4 o σ v1 v2 = some r0 → bzJ g 3 x σ 4 [(0, .ref (ga g o)), (1, .int v1), (2, .int v2)] [] := by
    intro K4 hK4 v1 v2 h
    unfold fb_X10_sumOfTrees_4 at h
    refine j_iload_n hF 2 dX10_sumOfTrees_4 rfl ?_
    refine j_bipush hF (v := 8) dX10_sumOfTrees_5 (by decide) ?_
    refine j_icmp_ge hF (tgt := 31) dX10_sumOfTrees_7 (by decide) (fun c1 => ?_) (fun c1 => ?_)
    · replace h := bzIfT h c1
      refine j_iload_n hF 1 dX10_sumOfTrees_31 rfl ?_
      exact j_iret hF hG dX10_sumOfTrees_32 (Option.some.inj h) rfl
    · replace h := bzIfF h c1
      refine j_iload_n hF 1 dX10_sumOfTrees_10 rfl ?_
      refine j_aload_n hF 0 dX10_sumOfTrees_11 rfl ?_
      refine gf_X10_7 hF ho dX10_sumOfTrees_12 ?_
      refine j_bipush hF (v := 44) dX10_sumOfTrees_15 (by decide) ?_
      refine j_iload_n hF 2 dX10_sumOfTrees_17 rfl ?_
      refine j_iadd hF dX10_sumOfTrees_18 ?_
      obtain ⟨g2, h⟩ := bzGdE h
      refine j_iald hF (c := ((44 + v2)).toNatClampNeg) (kl_10_0 ho) (nl_10_0 ho) g2 rfl dX10_sumOfTrees_19 ?_
      obtain ⟨x4, e3, h⟩ := bzBdE h
      refine cs_X10_208 hF (fun l => mt_X10_ones l e3) (by decide) (Nat.le_of_ble_eq_true rfl) dX10_sumOfTrees_20 ?_
      refine j_iadd hF dX10_sumOfTrees_23 ?_
      refine j_topi (fun x5 ex5 => ?_)
      replace h := bzLetE h ex5
      refine j_istore_n hF (lv1 := [(1, .int x5), (0, .ref (ga g o)), (2, .int v2)]) dX10_sumOfTrees_24 (by decide) rfl ?_
      obtain ⟨x6, ex6⟩ : ∃ y : Int32, y = v2 + 1 := ⟨_, rfl⟩
      replace h := bzLetE h ex6
      refine j_iinc hF (v := x6) (lv1 := [(2, .int x6), (1, .int x5), (0, .ref (ga g o))]) 2 dX10_sumOfTrees_25 rfl (by rw [ex6]; rfl) (by decide) rfl ?_
      refine j_goto hF (tgt := 4) dX10_sumOfTrees_28 (by decide) ?_
      refine j_sub [2, 1, 0] rfl ?_
      exact hK4 x5 x6 h
  have L4 : ∀ (n : Nat) (v1 : Int32) (v2 : Int32) , fl_X10_sumOfTrees_4   o σ n v1 v2 = some r0 → bzJ g 3 x σ 4 [(0, .ref (ga g o)), (1, .int v1), (2, .int v2)] [] := by
    intro  n
    induction n with
    | zero =>
      intro v1 v2   h
      cases h
    | succ n ih =>
      intro v1 v2   h
      exact J4  (fl_X10_sumOfTrees_4   o σ n) ih v1 v2   h
  refine j_iconst hF (v := 0) dX10_sumOfTrees_0 (by decide) ?_
  refine j_istore_n hF (lv1 := [(1, .int 0), (0, .ref (ga g o))]) dX10_sumOfTrees_1 (by decide) rfl ?_
  refine j_iconst hF (v := 0) dX10_sumOfTrees_2 (by decide) ?_
  refine j_istore_n hF (lv1 := [(2, .int 0), (1, .int 0), (0, .ref (ga g o))]) dX10_sumOfTrees_3 (by decide) rfl ?_
  refine j_sub [2, 1, 0] rfl ?_
  exact L4 2000 0 0 h
def f_X10_count (o : Nat) (a1 : Int32) (σ : bzS) : Option (Int32 × bzS) :=
  bzGd (kd o = 10) (if a1 = 0 then (some ((σ (ly o 0) 2), σ)) else if a1 = 1 then (some ((σ (ly o 0) 0), σ)) else if a1 = 2 then (some ((σ (ly o 0) 3), σ)) else if a1 = 3 then (some ((σ (ly o 0) 4), σ)) else if a1 = 4 then (some ((σ (ly o 0) 5), σ)) else if a1 = 5 then (bzBd (f_X10_loudOf o 255 σ) (fun x8 => some (x8, σ))) else if a1 = 6 then (bzBd (f_X10_sumOfTrees o σ) (fun x11 => some (x11, σ))) else if a1 = 7 then (some ((σ (ly o 0) 8), σ)) else if a1 = 8 then (some ((σ (ly o 0) 9), σ)) else if a1 = 9 then (some ((σ o 23), σ)) else if a1 = 10 then (some ((σ (ly o 0) 1), σ)) else (bzBp (f_X10_errs o ((-1000000001)) σ) (fun x17 σ18 => some (x17, σ18))))
set_option maxHeartbeats 4000000 in
set_option maxRecDepth 20000 in
theorem mt_X10_count {g : bzGeo} {o : Nat} {a1 : Int32} {σ : bzS} {r0 : Int32} {σ0 : bzS} (l : Launch) (h : f_X10_count  o a1 σ = some (r0, σ0)) : Met l yX10_count (Cond.code yX10_count cX10_count 2 (some .int) :: GW) (bzR (3)) (va_Pc [.ref (ga g o), .int a1] (bzP g σ)) (va_Qi (fun (r : Int32) (u : bzS) => r = r0 ∧ u = σ0) (bzB g) (gA g)) 0 0 (gA g) := by
  unfold f_X10_count at h
  obtain ⟨ho, h⟩ := bzGdE h
  refine j_start l (by decide +kernel) [.ref (ga g o), .int a1] [(0, .ref (ga g o)), (1, .int a1)] (Nat.le_of_ble_eq_true rfl) rfl (fun x hF hG => ?_)
  refine j_iload_n hF 1 dX10_count_0 rfl ?_
  rcases Decidable.em (a1 = 0) with c1 | c1
  · replace h := bzIfT h c1
    refine j_tableIn hF (tgt := 60) dX10_count_1 (by rw [c1] <;> decide) (by rw [c1] <;> decide) (by rw [c1] <;> rfl) (by decide) ?_
    refine j_aload_n hF 0 dX10_count_60 rfl ?_
    refine gf_X10_7 hF ho dX10_count_61 ?_
    refine j_iconst hF (v := 2) dX10_count_64 (by decide) ?_
    refine j_iald hF (c := 2) (kl_10_0 ho) (nl_10_0 ho) (by decide) (by decide) dX10_count_65 ?_
    exact j_iret hF hG dX10_count_66  (bzRet h).1 (bzRet h).2
  · replace h := bzIfF h c1
    rcases Decidable.em (a1 = 1) with c2 | c2
    · replace h := bzIfT h c2
      refine j_tableIn hF (tgt := 67) dX10_count_1 (by rw [c2] <;> decide) (by rw [c2] <;> decide) (by rw [c2] <;> rfl) (by decide) ?_
      refine j_aload_n hF 0 dX10_count_67 rfl ?_
      refine gf_X10_7 hF ho dX10_count_68 ?_
      refine j_iconst hF (v := 0) dX10_count_71 (by decide) ?_
      refine j_iald hF (c := 0) (kl_10_0 ho) (nl_10_0 ho) (by decide) (by decide) dX10_count_72 ?_
      exact j_iret hF hG dX10_count_73  (bzRet h).1 (bzRet h).2
    · replace h := bzIfF h c2
      rcases Decidable.em (a1 = 2) with c3 | c3
      · replace h := bzIfT h c3
        refine j_tableIn hF (tgt := 74) dX10_count_1 (by rw [c3] <;> decide) (by rw [c3] <;> decide) (by rw [c3] <;> rfl) (by decide) ?_
        refine j_aload_n hF 0 dX10_count_74 rfl ?_
        refine gf_X10_7 hF ho dX10_count_75 ?_
        refine j_iconst hF (v := 3) dX10_count_78 (by decide) ?_
        refine j_iald hF (c := 3) (kl_10_0 ho) (nl_10_0 ho) (by decide) (by decide) dX10_count_79 ?_
        exact j_iret hF hG dX10_count_80  (bzRet h).1 (bzRet h).2
      · replace h := bzIfF h c3
        rcases Decidable.em (a1 = 3) with c4 | c4
        · replace h := bzIfT h c4
          refine j_tableIn hF (tgt := 81) dX10_count_1 (by rw [c4] <;> decide) (by rw [c4] <;> decide) (by rw [c4] <;> rfl) (by decide) ?_
          refine j_aload_n hF 0 dX10_count_81 rfl ?_
          refine gf_X10_7 hF ho dX10_count_82 ?_
          refine j_iconst hF (v := 4) dX10_count_85 (by decide) ?_
          refine j_iald hF (c := 4) (kl_10_0 ho) (nl_10_0 ho) (by decide) (by decide) dX10_count_86 ?_
          exact j_iret hF hG dX10_count_87  (bzRet h).1 (bzRet h).2
        · replace h := bzIfF h c4
          rcases Decidable.em (a1 = 4) with c5 | c5
          · replace h := bzIfT h c5
            refine j_tableIn hF (tgt := 88) dX10_count_1 (by rw [c5] <;> decide) (by rw [c5] <;> decide) (by rw [c5] <;> rfl) (by decide) ?_
            refine j_aload_n hF 0 dX10_count_88 rfl ?_
            refine gf_X10_7 hF ho dX10_count_89 ?_
            refine j_iconst hF (v := 5) dX10_count_92 (by decide) ?_
            refine j_iald hF (c := 5) (kl_10_0 ho) (nl_10_0 ho) (by decide) (by decide) dX10_count_93 ?_
            exact j_iret hF hG dX10_count_94  (bzRet h).1 (bzRet h).2
          · replace h := bzIfF h c5
            rcases Decidable.em (a1 = 5) with c6 | c6
            · replace h := bzIfT h c6
              refine j_tableIn hF (tgt := 95) dX10_count_1 (by rw [c6] <;> decide) (by rw [c6] <;> decide) (by rw [c6] <;> rfl) (by decide) ?_
              refine j_aload_n hF 0 dX10_count_95 rfl ?_
              refine j_sipush hF (v := 255) dX10_count_96 (by decide) ?_
              obtain ⟨x8, e7, h⟩ := bzBdE h
              refine cs_X10_224 hF ho (fun l => mt_X10_loudOf l e7) (by decide) (Nat.le_of_ble_eq_true rfl) dX10_count_99 ?_
              exact j_iret hF hG dX10_count_102  (bzRet h).1 (bzRet h).2
            · replace h := bzIfF h c6
              rcases Decidable.em (a1 = 6) with c9 | c9
              · replace h := bzIfT h c9
                refine j_tableIn hF (tgt := 103) dX10_count_1 (by rw [c9] <;> decide) (by rw [c9] <;> decide) (by rw [c9] <;> rfl) (by decide) ?_
                refine j_aload_n hF 0 dX10_count_103 rfl ?_
                obtain ⟨x11, e10, h⟩ := bzBdE h
                refine cs_X10_269 hF ho (fun l => mt_X10_sumOfTrees l e10) (by decide) (Nat.le_of_ble_eq_true rfl) dX10_count_104 ?_
                exact j_iret hF hG dX10_count_107  (bzRet h).1 (bzRet h).2
              · replace h := bzIfF h c9
                rcases Decidable.em (a1 = 7) with c12 | c12
                · replace h := bzIfT h c12
                  refine j_tableIn hF (tgt := 108) dX10_count_1 (by rw [c12] <;> decide) (by rw [c12] <;> decide) (by rw [c12] <;> rfl) (by decide) ?_
                  refine j_aload_n hF 0 dX10_count_108 rfl ?_
                  refine gf_X10_7 hF ho dX10_count_109 ?_
                  refine j_bipush hF (v := 8) dX10_count_112 (by decide) ?_
                  refine j_iald hF (c := 8) (kl_10_0 ho) (nl_10_0 ho) (by decide) (by decide) dX10_count_114 ?_
                  exact j_iret hF hG dX10_count_115  (bzRet h).1 (bzRet h).2
                · replace h := bzIfF h c12
                  rcases Decidable.em (a1 = 8) with c13 | c13
                  · replace h := bzIfT h c13
                    refine j_tableIn hF (tgt := 116) dX10_count_1 (by rw [c13] <;> decide) (by rw [c13] <;> decide) (by rw [c13] <;> rfl) (by decide) ?_
                    refine j_aload_n hF 0 dX10_count_116 rfl ?_
                    refine gf_X10_7 hF ho dX10_count_117 ?_
                    refine j_bipush hF (v := 9) dX10_count_120 (by decide) ?_
                    refine j_iald hF (c := 9) (kl_10_0 ho) (nl_10_0 ho) (by decide) (by decide) dX10_count_122 ?_
                    exact j_iret hF hG dX10_count_123  (bzRet h).1 (bzRet h).2
                  · replace h := bzIfF h c13
                    rcases Decidable.em (a1 = 9) with c14 | c14
                    · replace h := bzIfT h c14
                      refine j_tableIn hF (tgt := 124) dX10_count_1 (by rw [c14] <;> decide) (by rw [c14] <;> decide) (by rw [c14] <;> rfl) (by decide) ?_
                      refine j_aload_n hF 0 dX10_count_124 rfl ?_
                      refine gf_X10_233 hF ho dX10_count_125 ?_
                      exact j_iret hF hG dX10_count_128  (bzRet h).1 (bzRet h).2
                    · replace h := bzIfF h c14
                      rcases Decidable.em (a1 = 10) with c15 | c15
                      · replace h := bzIfT h c15
                        refine j_tableIn hF (tgt := 129) dX10_count_1 (by rw [c15] <;> decide) (by rw [c15] <;> decide) (by rw [c15] <;> rfl) (by decide) ?_
                        refine j_aload_n hF 0 dX10_count_129 rfl ?_
                        refine gf_X10_7 hF ho dX10_count_130 ?_
                        refine j_iconst hF (v := 1) dX10_count_133 (by decide) ?_
                        refine j_iald hF (c := 1) (kl_10_0 ho) (nl_10_0 ho) (by decide) (by decide) dX10_count_134 ?_
                        exact j_iret hF hG dX10_count_135  (bzRet h).1 (bzRet h).2
                      · replace h := bzIfF h c15
                        refine j_tableOut hF (tgt := 136) dX10_count_1 (by have q0 := lv_neT (a := 0) c1 (by decide); have q1 := lv_neT (a := 1) c2 (by decide); have q2 := lv_neT (a := 2) c3 (by decide); have q3 := lv_neT (a := 3) c4 (by decide); have q4 := lv_neT (a := 4) c5 (by decide); have q5 := lv_neT (a := 5) c6 (by decide); have q6 := lv_neT (a := 6) c9 (by decide); have q7 := lv_neT (a := 7) c12 (by decide); have q8 := lv_neT (a := 8) c13 (by decide); have q9 := lv_neT (a := 9) c14 (by decide); have q10 := lv_neT (a := 10) c15 (by decide); omega) (by decide) ?_
                        refine j_aload_n hF 0 dX10_count_136 rfl ?_
                        refine j_ldc hF (v := (-1000000001)) kc_X10_59 dX10_count_137 ?_
                        obtain ⟨x17, σ18, e16, h⟩ := bzBpE h
                        refine cs_X10_60 hF ho (fun l => mt_X10_errs l e16) (by decide) (Nat.le_of_ble_eq_true rfl) dX10_count_139 ?_
                        exact j_iret hF hG dX10_count_142  (bzRet h).1 (bzRet h).2
def f_X10_told (o : Nat) (a1 : Int32) (σ : bzS) : Option (Int32 × bzS) :=
  bzGd (kd o = 10) (bzBd (f_X10_in a1 1 5) (fun x2 => if x2 = 0 then (bzBp (f_X10_errs o ((-1000000001)) σ) (fun x5 σ6 => some (x5, σ6))) else (bzGd (bzIn a1 6) (some ((σ (ly o 6) a1.toNatClampNeg), σ)))))
set_option maxHeartbeats 4000000 in
set_option maxRecDepth 20000 in
theorem mt_X10_told {g : bzGeo} {o : Nat} {a1 : Int32} {σ : bzS} {r0 : Int32} {σ0 : bzS} (l : Launch) (h : f_X10_told  o a1 σ = some (r0, σ0)) : Met l yX10_told (Cond.code yX10_told cX10_told 2 (some .int) :: GW) (bzR (2)) (va_Pc [.ref (ga g o), .int a1] (bzP g σ)) (va_Qi (fun (r : Int32) (u : bzS) => r = r0 ∧ u = σ0) (bzB g) (gA g)) 0 0 (gA g) := by
  unfold f_X10_told at h
  obtain ⟨ho, h⟩ := bzGdE h
  refine j_start l (by decide +kernel) [.ref (ga g o), .int a1] [(0, .ref (ga g o)), (1, .int a1)] (Nat.le_of_ble_eq_true rfl) rfl (fun x hF hG => ?_)
  refine j_iload_n hF 1 dX10_told_0 rfl ?_
  refine j_iconst hF (v := 1) dX10_told_1 (by decide) ?_
  refine j_iconst hF (v := 5) dX10_told_2 (by decide) ?_
  obtain ⟨x2, e1, h⟩ := bzBdE h
  refine cs_X10_51 hF (fun l => mt_X10_in l e1) (by decide) (Nat.le_of_ble_eq_true rfl) dX10_told_3 ?_
  refine j_if_eq hF (tgt := 18) dX10_told_6 (by decide) (fun c3 => ?_) (fun c3 => ?_)
  · replace h := bzIfT h c3
    refine j_aload_n hF 0 dX10_told_18 rfl ?_
    refine j_ldc hF (v := (-1000000001)) kc_X10_59 dX10_told_19 ?_
    obtain ⟨x5, σ6, e4, h⟩ := bzBpE h
    refine cs_X10_60 hF ho (fun l => mt_X10_errs l e4) (by decide) (Nat.le_of_ble_eq_true rfl) dX10_told_21 ?_
    exact j_iret hF hG dX10_told_24  (bzRet h).1 (bzRet h).2
  · replace h := bzIfF h c3
    refine j_aload_n hF 0 dX10_told_9 rfl ?_
    refine gf_X10_22 hF ho dX10_told_10 ?_
    refine j_iload_n hF 1 dX10_told_13 rfl ?_
    obtain ⟨g7, h⟩ := bzGdE h
    refine j_iald hF (c := a1.toNatClampNeg) (kl_10_6 ho) (nl_10_6 ho) g7 rfl dX10_told_14 ?_
    refine j_goto hF (tgt := 24) dX10_told_15 (by decide) ?_
    exact j_iret hF hG dX10_told_24  (bzRet h).1 (bzRet h).2
