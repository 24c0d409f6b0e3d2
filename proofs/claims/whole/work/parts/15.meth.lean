set_option linter.unusedVariables false
def f_X10_walks (o : Nat) (a1 : Int32) (a2 : Int32) (a3 : Int32) (a4 : Int32) (σ : bzS) : Option (Int32 × bzS) :=
  bzGd (kd o = 10) (bzLet (bzSt σ o 8 a1) (fun σ1 => bzLet (bzSt σ1 o 9 0) (fun σ2 => bzGd (bzIn (10 + a1) 254) (bzLet (bzSt σ2 o 10 (σ2 (ly o 0) (((10 + a1)).toNatClampNeg))) (fun σ4 => bzLet (bzSt σ4 o 11 0) (fun σ5 => bzLet (bzSt σ5 o 15 1) (fun σ6 => bzLet (bzSt σ6 o 12 a2) (fun σ7 => bzLet (bzSt σ7 o 13 a3) (fun σ8 => bzLet (bzSt σ8 o 14 a4) (fun σ9 => bzBp (f_X10_whole o σ9) (fun x11 σ12 => if (σ12 o 15) = 0 then (bzLet (bzSt σ12 o 15 0) (fun σ14 => some (x11, σ14))) else (if (σ12 o 9) = (σ12 o 10) then (bzLet (bzSt σ12 o 15 1) (fun σ17 => some (x11, σ17))) else (bzLet (bzSt σ12 o 15 0) (fun σ16 => some (x11, σ16)))))))))))))))
set_option maxHeartbeats 4000000 in
set_option maxRecDepth 20000 in
theorem mt_X10_walks {g : bzGeo} {o : Nat} {a1 : Int32} {a2 : Int32} {a3 : Int32} {a4 : Int32} {σ : bzS} {r0 : Int32} {σ0 : bzS} (l : Launch) (h : f_X10_walks  o a1 a2 a3 a4 σ = some (r0, σ0)) : Met l yX10_walks (Cond.code yX10_walks cX10_walks 6 (some .int) :: GW) (bzR (65)) (va_Pc [.ref (ga g o), .int a1, .int a2, .int a3, .int a4] (bzP g σ)) (va_Qi (fun (r : Int32) (u : bzS) => r = r0 ∧ u = σ0) (bzB g) (gA g)) 0 0 (gA g) := by
  unfold f_X10_walks at h
  obtain ⟨ho, h⟩ := bzGdE h
  refine j_start l (by decide +kernel) [.ref (ga g o), .int a1, .int a2, .int a3, .int a4] [(0, .ref (ga g o)), (1, .int a1), (2, .int a2), (3, .int a3), (4, .int a4)] (Nat.le_of_ble_eq_true rfl) rfl (fun x hF hG => ?_)
  refine j_aload_n hF 0 dX10_walks_0 rfl ?_
  refine j_iload_n hF 1 dX10_walks_1 rfl ?_
  refine pf_X10_99 hF ho dX10_walks_2 ?_
  refine j_s (fun σ1 eσ1 => ?_)
  replace h := bzLetE h eσ1
  refine j_aload_n hF 0 dX10_walks_5 rfl ?_
  refine j_iconst hF (v := 0) dX10_walks_6 (by decide) ?_
  refine pf_X10_106 hF ho dX10_walks_7 ?_
  refine j_s (fun σ2 eσ2 => ?_)
  replace h := bzLetE h eσ2
  refine j_aload_n hF 0 dX10_walks_10 rfl ?_
  refine j_aload_n hF 0 dX10_walks_11 rfl ?_
  refine gf_X10_7 hF ho dX10_walks_12 ?_
  refine j_bipush hF (v := 10) dX10_walks_15 (by decide) ?_
  refine j_iload_n hF 1 dX10_walks_17 rfl ?_
  refine j_iadd hF dX10_walks_18 ?_
  obtain ⟨g3, h⟩ := bzGdE h
  refine j_iald hF (c := ((10 + a1)).toNatClampNeg) (kl_10_0 ho) (nl_10_0 ho) g3 rfl dX10_walks_19 ?_
  refine pf_X10_96 hF ho dX10_walks_20 ?_
  refine j_s (fun σ4 eσ4 => ?_)
  replace h := bzLetE h eσ4
  refine j_aload_n hF 0 dX10_walks_23 rfl ?_
  refine j_iconst hF (v := 0) dX10_walks_24 (by decide) ?_
  refine pf_X10_133 hF ho dX10_walks_25 ?_
  refine j_s (fun σ5 eσ5 => ?_)
  replace h := bzLetE h eσ5
  refine j_aload_n hF 0 dX10_walks_28 rfl ?_
  refine j_iconst hF (v := 1) dX10_walks_29 (by decide) ?_
  refine pf_X10_102 hF ho (Or.inr rfl) dX10_walks_30 ?_
  refine j_s (fun σ6 eσ6 => ?_)
  replace h := bzLetE h eσ6
  refine j_aload_n hF 0 dX10_walks_33 rfl ?_
  refine j_iload_n hF 2 dX10_walks_34 rfl ?_
  refine pf_X10_118 hF ho dX10_walks_35 ?_
  refine j_s (fun σ7 eσ7 => ?_)
  replace h := bzLetE h eσ7
  refine j_aload_n hF 0 dX10_walks_38 rfl ?_
  refine j_iload_n hF 3 dX10_walks_39 rfl ?_
  refine pf_X10_121 hF ho dX10_walks_40 ?_
  refine j_s (fun σ8 eσ8 => ?_)
  replace h := bzLetE h eσ8
  refine j_aload_n hF 0 dX10_walks_43 rfl ?_
  refine j_iload hF 4 dX10_walks_44 rfl ?_
  refine pf_X10_124 hF ho dX10_walks_46 ?_
  refine j_s (fun σ9 eσ9 => ?_)
  replace h := bzLetE h eσ9
  refine j_aload_n hF 0 dX10_walks_49 rfl ?_
  obtain ⟨x11, σ12, e10, h⟩ := bzBpE h
  refine cs_X10_139 hF ho (fun l => mt_X10_whole l e10) (by decide) (Nat.le_of_ble_eq_true rfl) dX10_walks_50 ?_
  refine j_istore hF (lv1 := [(5, .int x11), (0, .ref (ga g o)), (1, .int a1), (2, .int a2), (3, .int a3), (4, .int a4)]) dX10_walks_53 (by decide) rfl ?_
  refine j_aload_n hF 1 dX10_walks_55 rfl ?_
  refine j_aload_n hF 1 dX10_walks_56 rfl ?_
  refine gf_X10_102 hF ho dX10_walks_57 ?_
  refine j_if_eq hF (tgt := 78) dX10_walks_60 (by decide) (fun c13 => ?_) (fun c13 => ?_)
  · replace h := bzIfT h c13
    refine j_iconst hF (v := 0) dX10_walks_78 (by decide) ?_
    refine pf_X10_102 hF ho (Or.inl rfl) dX10_walks_79 ?_
    refine j_s (fun σ14 eσ14 => ?_)
    replace h := bzLetE h eσ14
    refine j_iload hF 0 dX10_walks_82 rfl ?_
    exact j_iret hF hG dX10_walks_84  (bzRet h).1 (bzRet h).2
  · replace h := bzIfF h c13
    refine j_aload_n hF 1 dX10_walks_63 rfl ?_
    refine gf_X10_106 hF ho dX10_walks_64 ?_
    refine j_aload_n hF 1 dX10_walks_67 rfl ?_
    refine gf_X10_96 hF ho dX10_walks_68 ?_
    refine j_icmp_ne hF (tgt := 78) dX10_walks_71 (by decide) (fun c15 => ?_) (fun c15 => ?_)
    · replace h := bzIfF h c15
      refine j_iconst hF (v := 0) dX10_walks_78 (by decide) ?_
      refine pf_X10_102 hF ho (Or.inl rfl) dX10_walks_79 ?_
      refine j_s (fun σ16 eσ16 => ?_)
      replace h := bzLetE h eσ16
      refine j_iload hF 0 dX10_walks_82 rfl ?_
      exact j_iret hF hG dX10_walks_84  (bzRet h).1 (bzRet h).2
    · replace h := bzIfT h c15
      refine j_iconst hF (v := 1) dX10_walks_74 (by decide) ?_
      refine j_goto hF (tgt := 79) dX10_walks_75 (by decide) ?_
      refine pf_X10_102 hF ho (Or.inr rfl) dX10_walks_79 ?_
      refine j_s (fun σ17 eσ17 => ?_)
      replace h := bzLetE h eσ17
      refine j_iload hF 0 dX10_walks_82 rfl ?_
      exact j_iret hF hG dX10_walks_84  (bzRet h).1 (bzRet h).2
def f_X10_lawOf (o : Nat) (a1 : Int32) (a2 : Int32) (a3 : Int32) (a4 : Int32) (σ : bzS) : Option (Int32 × bzS) :=
  bzGd (kd o = 10) (bzGd (bzIn (10 + a1) 254) (if (σ (ly o 0) (((10 + a1)).toNatClampNeg)) < 0 then (if a1 = 0 then (if a1 = 0 then (bzBd (f_X10_held a3 0 20) (fun x14 => some (x14, σ))) else (bzBd (f_X10_held a3 0 9) (fun x12 => some (x12, σ)))) else (bzLet ((a2 / 10)) (fun x4 => if a1 = 0 then (bzBd (f_X10_held x4 0 20) (fun x9 => some (x9, σ))) else (bzBd (f_X10_held x4 0 9) (fun x7 => some (x7, σ)))))) else (bzBp (f_X10_walks o a1 a2 a3 a4 σ) (fun x16 σ17 => if a1 = 0 then (bzBd (f_X10_held x16 0 20) (fun x22 => some (x22, σ17))) else (bzBd (f_X10_held x16 0 9) (fun x20 => some (x20, σ17)))))))
set_option maxHeartbeats 4000000 in
set_option maxRecDepth 20000 in
theorem mt_X10_lawOf {g : bzGeo} {o : Nat} {a1 : Int32} {a2 : Int32} {a3 : Int32} {a4 : Int32} {σ : bzS} {r0 : Int32} {σ0 : bzS} (l : Launch) (h : f_X10_lawOf  o a1 a2 a3 a4 σ = some (r0, σ0)) : Met l yX10_lawOf (Cond.code yX10_lawOf cX10_lawOf 6 (some .int) :: GW) (bzR (66)) (va_Pc [.ref (ga g o), .int a1, .int a2, .int a3, .int a4] (bzP g σ)) (va_Qi (fun (r : Int32) (u : bzS) => r = r0 ∧ u = σ0) (bzB g) (gA g)) 0 0 (gA g) := by
  unfold f_X10_lawOf at h
  obtain ⟨ho, h⟩ := bzGdE h
  refine j_start l (by decide +kernel) [.ref (ga g o), .int a1, .int a2, .int a3, .int a4] [(0, .ref (ga g o)), (1, .int a1), (2, .int a2), (3, .int a3), (4, .int a4)] (Nat.le_of_ble_eq_true rfl) rfl (fun x hF hG => ?_)
  refine j_aload_n hF 0 dX10_lawOf_0 rfl ?_
  refine gf_X10_7 hF ho dX10_lawOf_1 ?_
  refine j_bipush hF (v := 10) dX10_lawOf_4 (by decide) ?_
  refine j_iload_n hF 1 dX10_lawOf_6 rfl ?_
  refine j_iadd hF dX10_lawOf_7 ?_
  obtain ⟨g1, h⟩ := bzGdE h
  refine j_iald hF (c := ((10 + a1)).toNatClampNeg) (kl_10_0 ho) (nl_10_0 ho) g1 rfl dX10_lawOf_8 ?_
  refine j_if_lt hF (tgt := 24) dX10_lawOf_9 (by decide) (fun c2 => ?_) (fun c2 => ?_)
  · replace h := bzIfT h c2
    refine j_iload_n hF 1 dX10_lawOf_24 rfl ?_
    refine j_if_ne hF (tgt := 32) dX10_lawOf_25 (by decide) (fun c3 => ?_) (fun c3 => ?_)
    · replace h := bzIfF h c3
      refine j_iload_n hF 2 dX10_lawOf_32 rfl ?_
      refine j_bipush hF (v := 10) dX10_lawOf_33 (by decide) ?_
      refine j_idiv hF dX10_lawOf_35 (by decide) ?_
      refine j_topi (fun x4 ex4 => ?_)
      replace h := bzLetE h ex4
      refine j_istore hF (lv1 := [(5, .int x4), (0, .ref (ga g o)), (1, .int a1), (2, .int a2), (3, .int a3), (4, .int a4)]) dX10_lawOf_36 (by decide) rfl ?_
      refine j_iload hF 0 dX10_lawOf_38 rfl ?_
      refine j_iconst hF (v := 0) dX10_lawOf_40 (by decide) ?_
      refine j_iload_n hF 2 dX10_lawOf_41 rfl ?_
      refine j_if_ne hF (tgt := 50) dX10_lawOf_42 (by decide) (fun c5 => ?_) (fun c5 => ?_)
      · replace h := bzIfF h c5
        refine j_bipush hF (v := 9) dX10_lawOf_50 (by decide) ?_
        obtain ⟨x7, e6, h⟩ := bzBdE h
        refine cs_X10_158 hF (fun l => mt_X10_held l e6) (by decide) (Nat.le_of_ble_eq_true rfl) dX10_lawOf_52 ?_
        exact j_iret hF hG dX10_lawOf_55  (bzRet h).1 (bzRet h).2
      · replace h := bzIfT h c5
        refine j_bipush hF (v := 20) dX10_lawOf_45 (by decide) ?_
        refine j_goto hF (tgt := 52) dX10_lawOf_47 (by decide) ?_
        obtain ⟨x9, e8, h⟩ := bzBdE h
        refine cs_X10_158 hF (fun l => mt_X10_held l e8) (by decide) (Nat.le_of_ble_eq_true rfl) dX10_lawOf_52 ?_
        exact j_iret hF hG dX10_lawOf_55  (bzRet h).1 (bzRet h).2
    · replace h := bzIfT h c3
      refine j_iload_n hF 3 dX10_lawOf_28 rfl ?_
      refine j_goto hF (tgt := 36) dX10_lawOf_29 (by decide) ?_
      refine j_istore hF (lv1 := [(5, .int a3), (0, .ref (ga g o)), (1, .int a1), (2, .int a2), (3, .int a3), (4, .int a4)]) dX10_lawOf_36 (by decide) rfl ?_
      refine j_iload hF 0 dX10_lawOf_38 rfl ?_
      refine j_iconst hF (v := 0) dX10_lawOf_40 (by decide) ?_
      refine j_iload_n hF 2 dX10_lawOf_41 rfl ?_
      refine j_if_ne hF (tgt := 50) dX10_lawOf_42 (by decide) (fun c10 => ?_) (fun c10 => ?_)
      · replace h := bzIfF h c10
        refine j_bipush hF (v := 9) dX10_lawOf_50 (by decide) ?_
        obtain ⟨x12, e11, h⟩ := bzBdE h
        refine cs_X10_158 hF (fun l => mt_X10_held l e11) (by decide) (Nat.le_of_ble_eq_true rfl) dX10_lawOf_52 ?_
        exact j_iret hF hG dX10_lawOf_55  (bzRet h).1 (bzRet h).2
      · replace h := bzIfT h c10
        refine j_bipush hF (v := 20) dX10_lawOf_45 (by decide) ?_
        refine j_goto hF (tgt := 52) dX10_lawOf_47 (by decide) ?_
        obtain ⟨x14, e13, h⟩ := bzBdE h
        refine cs_X10_158 hF (fun l => mt_X10_held l e13) (by decide) (Nat.le_of_ble_eq_true rfl) dX10_lawOf_52 ?_
        exact j_iret hF hG dX10_lawOf_55  (bzRet h).1 (bzRet h).2
  · replace h := bzIfF h c2
    refine j_aload_n hF 0 dX10_lawOf_12 rfl ?_
    refine j_iload_n hF 1 dX10_lawOf_13 rfl ?_
    refine j_iload_n hF 2 dX10_lawOf_14 rfl ?_
    refine j_iload_n hF 3 dX10_lawOf_15 rfl ?_
    refine j_iload hF 4 dX10_lawOf_16 rfl ?_
    obtain ⟨x16, σ17, e15, h⟩ := bzBpE h
    refine cs_X10_154 hF ho (fun l => mt_X10_walks l e15) (by decide) (Nat.le_of_ble_eq_true rfl) dX10_lawOf_18 ?_
    refine j_goto hF (tgt := 36) dX10_lawOf_21 (by decide) ?_
    refine j_istore hF (lv1 := [(5, .int x16), (0, .ref (ga g o)), (1, .int a1), (2, .int a2), (3, .int a3), (4, .int a4)]) dX10_lawOf_36 (by decide) rfl ?_
    refine j_iload hF 0 dX10_lawOf_38 rfl ?_
    refine j_iconst hF (v := 0) dX10_lawOf_40 (by decide) ?_
    refine j_iload_n hF 2 dX10_lawOf_41 rfl ?_
    refine j_if_ne hF (tgt := 50) dX10_lawOf_42 (by decide) (fun c18 => ?_) (fun c18 => ?_)
    · replace h := bzIfF h c18
      refine j_bipush hF (v := 9) dX10_lawOf_50 (by decide) ?_
      obtain ⟨x20, e19, h⟩ := bzBdE h
      refine cs_X10_158 hF (fun l => mt_X10_held l e19) (by decide) (Nat.le_of_ble_eq_true rfl) dX10_lawOf_52 ?_
      exact j_iret hF hG dX10_lawOf_55  (bzRet h).1 (bzRet h).2
    · replace h := bzIfT h c18
      refine j_bipush hF (v := 20) dX10_lawOf_45 (by decide) ?_
      refine j_goto hF (tgt := 52) dX10_lawOf_47 (by decide) ?_
      obtain ⟨x22, e21, h⟩ := bzBdE h
      refine cs_X10_158 hF (fun l => mt_X10_held l e21) (by decide) (Nat.le_of_ble_eq_true rfl) dX10_lawOf_52 ?_
      exact j_iret hF hG dX10_lawOf_55  (bzRet h).1 (bzRet h).2
def f_X10_law (o : Nat) (a1 : Int32) (a2 : Int32) (a3 : Int32) (a4 : Int32) (σ : bzS) : Option (Int32 × bzS) :=
  bzGd (kd o = 10) (bzBd (f_X10_in a1 0 1) (fun x2 => if x2 = 0 then (bzBp (f_X10_errs o ((-1000000001)) σ) (fun x5 σ6 => some (x5, σ6))) else (bzBp (f_X10_lawOf o a1 a2 a3 a4 σ) (fun x8 σ9 => some (x8, σ9)))))
set_option maxHeartbeats 4000000 in
set_option maxRecDepth 20000 in
theorem mt_X10_law {g : bzGeo} {o : Nat} {a1 : Int32} {a2 : Int32} {a3 : Int32} {a4 : Int32} {σ : bzS} {r0 : Int32} {σ0 : bzS} (l : Launch) (h : f_X10_law  o a1 a2 a3 a4 σ = some (r0, σ0)) : Met l yX10_law (Cond.code yX10_law cX10_law 5 (some .int) :: GW) (bzR (67)) (va_Pc [.ref (ga g o), .int a1, .int a2, .int a3, .int a4] (bzP g σ)) (va_Qi (fun (r : Int32) (u : bzS) => r = r0 ∧ u = σ0) (bzB g) (gA g)) 0 0 (gA g) := by
  unfold f_X10_law at h
  obtain ⟨ho, h⟩ := bzGdE h
  refine j_start l (by decide +kernel) [.ref (ga g o), .int a1, .int a2, .int a3, .int a4] [(0, .ref (ga g o)), (1, .int a1), (2, .int a2), (3, .int a3), (4, .int a4)] (Nat.le_of_ble_eq_true rfl) rfl (fun x hF hG => ?_)
  refine j_iload_n hF 1 dX10_law_0 rfl ?_
  refine j_iconst hF (v := 0) dX10_law_1 (by decide) ?_
  refine j_iconst hF (v := 1) dX10_law_2 (by decide) ?_
  obtain ⟨x2, e1, h⟩ := bzBdE h
  refine cs_X10_51 hF (fun l => mt_X10_in l e1) (by decide) (Nat.le_of_ble_eq_true rfl) dX10_law_3 ?_
  refine j_if_eq hF (tgt := 21) dX10_law_6 (by decide) (fun c3 => ?_) (fun c3 => ?_)
  · replace h := bzIfT h c3
    refine j_aload_n hF 0 dX10_law_21 rfl ?_
    refine j_ldc hF (v := (-1000000001)) kc_X10_59 dX10_law_22 ?_
    obtain ⟨x5, σ6, e4, h⟩ := bzBpE h
    refine cs_X10_60 hF ho (fun l => mt_X10_errs l e4) (by decide) (Nat.le_of_ble_eq_true rfl) dX10_law_24 ?_
    exact j_iret hF hG dX10_law_27  (bzRet h).1 (bzRet h).2
  · replace h := bzIfF h c3
    refine j_aload_n hF 0 dX10_law_9 rfl ?_
    refine j_iload_n hF 1 dX10_law_10 rfl ?_
    refine j_iload_n hF 2 dX10_law_11 rfl ?_
    refine j_iload_n hF 3 dX10_law_12 rfl ?_
    refine j_iload hF 4 dX10_law_13 rfl ?_
    obtain ⟨x8, σ9, e7, h⟩ := bzBpE h
    refine cs_X10_162 hF ho (fun l => mt_X10_lawOf l e7) (by decide) (Nat.le_of_ble_eq_true rfl) dX10_law_15 ?_
    refine j_goto hF (tgt := 27) dX10_law_18 (by decide) ?_
    exact j_iret hF hG dX10_law_27  (bzRet h).1 (bzRet h).2
def fb_X10_feed_41 (K41 : Int32 → bzS → Option (Int32 × bzS)) (o : Nat) (a1 : Int64) (a3 : Int32) (v4 : Int32) (σ1 : bzS) : Option (Int32 × bzS) :=
  if a3 ≤ v4 then (some ((σ1 (ly o 0) 8), σ1)) else (bzGd (bzIn (84 + (σ1 (ly o 0) 8)) 254) (bzLet (bzSt σ1 (ly o 0) (((84 + (σ1 (ly o 0) 8))).toNatClampNeg) (((a1 >>> ((8 * v4).toInt64 &&& 63)) &&& 255)).toInt32) (fun σ7 => bzLet (bzSt σ7 (ly o 0) 8 ((σ7 (ly o 0) 8) + 1)) (fun σ8 => bzLet (v4 + 1) (fun x9 => K41 x9 σ8)))))
def fl_X10_feed_41 (o : Nat) (a1 : Int64) (a3 : Int32) : Nat → Int32 → bzS → Option (Int32 × bzS)
  | 0, _, _ => none
  | n + 1, v4, σ1 => fb_X10_feed_41   (fl_X10_feed_41   o a1 a3 n) o a1 a3 v4 σ1
def f_X10_feed (o : Nat) (a1 : Int64) (a3 : Int32) (σ : bzS) : Option (Int32 × bzS) :=
  bzGd (kd o = 10) (bzBd (f_X10_in a3 1 8) (fun x2 => if x2 = 0 then (bzBp (f_X10_errs o ((-1000000001)) σ) (fun x14 σ15 => some (x14, σ15))) else (if ((σ (ly o 0) 8) + a3) ≤ 50 then (fl_X10_feed_41 o a1 a3 2000 0 σ) else (bzBp (f_X10_errs o ((-1000000004)) σ) (fun x11 σ12 => some (x11, σ12))))))
set_option maxHeartbeats 4000000 in
set_option maxRecDepth 20000 in
theorem mt_X10_feed {g : bzGeo} {o : Nat} {a1 : Int64} {a3 : Int32} {σ : bzS} {r0 : Int32} {σ0 : bzS} (l : Launch) (h : f_X10_feed  o a1 a3 σ = some (r0, σ0)) : Met l yX10_feed (Cond.code yX10_feed cX10_feed 5 (some .int) :: GW) (bzR (2)) (va_Pc [.ref (ga g o), .long a1, .int a3] (bzP g σ)) (va_Qi (fun (r : Int32) (u : bzS) => r = r0 ∧ u = σ0) (bzB g) (gA g)) 0 0 (gA g) := by
  unfold f_X10_feed at h
  obtain ⟨ho, h⟩ := bzGdE h
  refine j_start l (by decide +kernel) [.ref (ga g o), .long a1, .int a3] [(0, .ref (ga g o)), (1, .long a1), (3, .int a3)] (Nat.le_of_ble_eq_true rfl) rfl (fun x hF hG => ?_)
  have J41 : (K41 : Int32 → bzS → Option (Int32 × bzS)) → (hK41 : ∀ (v4 : Int32) (σ1 : bzS), K41 v4 σ1 = some (r0, σ0) → bzJ g 5 x σ1 41 [(0, .ref (ga g o)), (1, .long a1), (3, .int a3), (4, .int v4)] []) → ∀ (v4 : Int32) (σ1 : bzS), fb_X10_feed_41 K41 o a1 a3 v4 σ1 = some (r0, σ0) → bzJ g 5 x σ1 41 [(0, .ref (ga g o)), (1, .long a1), (3, .int a3), (4, .int v4)] [] := by
    intro K41 hK41 v4 σ1 h
    unfold fb_X10_feed_41 at h
    refine j_iload hF 3 dX10_feed_41 rfl ?_
    refine j_iload_n hF 2 dX10_feed_43 rfl ?_
    refine j_icmp_ge hF (tgt := 91) dX10_feed_44 (by decide) (fun c5 => ?_) (fun c5 => ?_)
    · replace h := bzIfT h c5
      refine j_aload_n hF 0 dX10_feed_91 rfl ?_
      refine gf_X10_7 hF ho dX10_feed_92 ?_
      refine j_bipush hF (v := 8) dX10_feed_95 (by decide) ?_
      refine j_iald hF (c := 8) (kl_10_0 ho) (nl_10_0 ho) (by decide) (by decide) dX10_feed_97 ?_
      exact j_iret hF hG dX10_feed_98 (bzRet h).1 (bzRet h).2
    · replace h := bzIfF h c5
      refine j_aload_n hF 0 dX10_feed_47 rfl ?_
      refine gf_X10_7 hF ho dX10_feed_48 ?_
      refine j_bipush hF (v := 84) dX10_feed_51 (by decide) ?_
      refine j_aload_n hF 0 dX10_feed_53 rfl ?_
      refine gf_X10_7 hF ho dX10_feed_54 ?_
      refine j_bipush hF (v := 8) dX10_feed_57 (by decide) ?_
      refine j_iald hF (c := 8) (kl_10_0 ho) (nl_10_0 ho) (by decide) (by decide) dX10_feed_59 ?_
      refine j_iadd hF dX10_feed_60 ?_
      refine j_lload_n hF 1 dX10_feed_61 rfl ?_
      refine j_bipush hF (v := 8) dX10_feed_62 (by decide) ?_
      refine j_iload hF 3 dX10_feed_64 rfl ?_
      refine j_imul hF dX10_feed_66 ?_
      refine j_lshr hF dX10_feed_67 ?_
      refine j_ldc2_w hF (v := 255) kc_X10_165 dX10_feed_68 ?_
      refine j_land hF dX10_feed_71 ?_
      refine j_l2i hF dX10_feed_72 ?_
      obtain ⟨g6, h⟩ := bzGdE h
      refine j_iast hF (c := ((84 + (σ1 (ly o 0) 8))).toNatClampNeg) (kl_10_0 ho) (nl_10_0 ho) g6 rfl dX10_feed_73 ?_
      refine j_s (fun σ7 eσ7 => ?_)
      replace h := bzLetE h eσ7
      refine j_aload_n hF 0 dX10_feed_74 rfl ?_
      refine gf_X10_7 hF ho dX10_feed_75 ?_
      refine j_bipush hF (v := 8) dX10_feed_78 (by decide) ?_
      refine j_dup2 hF dX10_feed_80 rfl rfl ?_
      refine j_iald hF (c := 8) (kl_10_0 ho) (nl_10_0 ho) (by decide) (by decide) dX10_feed_81 ?_
      refine j_iconst hF (v := 1) dX10_feed_82 (by decide) ?_
      refine j_iadd hF dX10_feed_83 ?_
      refine j_iast hF (c := 8) (kl_10_0 ho) (nl_10_0 ho) (by decide) (by decide) dX10_feed_84 ?_
      refine j_s (fun σ8 eσ8 => ?_)
      replace h := bzLetE h eσ8
      obtain ⟨x9, ex9⟩ : ∃ y : Int32, y = v4 + 1 := ⟨_, rfl⟩
      replace h := bzLetE h ex9
      refine j_iinc hF (v := x9) (lv1 := [(4, .int x9), (0, .ref (ga g o)), (1, .long a1), (3, .int a3)]) 3 dX10_feed_85 rfl (by rw [ex9]; rfl) (by decide) rfl ?_
      refine j_goto hF (tgt := 41) dX10_feed_88 (by decide) ?_
      refine j_sub [1, 2, 3, 0] rfl ?_
      exact hK41 x9 σ8 h
  have L41 : ∀ (n : Nat) (v4 : Int32) (σ1 : bzS), fl_X10_feed_41   o a1 a3 n v4 σ1 = some (r0, σ0) → bzJ g 5 x σ1 41 [(0, .ref (ga g o)), (1, .long a1), (3, .int a3), (4, .int v4)] [] := by
    intro  n
    induction n with
    | zero =>
      intro v4 σ1  h
      cases h
    | succ n ih =>
      intro v4 σ1  h
      exact J41  (fl_X10_feed_41   o a1 a3 n) ih v4 σ1  h
  refine j_iload_n hF 2 dX10_feed_0 rfl ?_
  refine j_iconst hF (v := 1) dX10_feed_1 (by decide) ?_
  refine j_bipush hF (v := 8) dX10_feed_2 (by decide) ?_
  obtain ⟨x2, e1, h⟩ := bzBdE h
  refine cs_X10_51 hF (fun l => mt_X10_in l e1) (by decide) (Nat.le_of_ble_eq_true rfl) dX10_feed_4 ?_
  refine j_if_ne hF (tgt := 17) dX10_feed_7 (by decide) (fun c3 => ?_) (fun c3 => ?_)
  · replace h := bzIfF h c3
    refine j_aload_n hF 0 dX10_feed_17 rfl ?_
    refine gf_X10_7 hF ho dX10_feed_18 ?_
    refine j_bipush hF (v := 8) dX10_feed_21 (by decide) ?_
    refine j_iald hF (c := 8) (kl_10_0 ho) (nl_10_0 ho) (by decide) (by decide) dX10_feed_23 ?_
    refine j_iload_n hF 2 dX10_feed_24 rfl ?_
    refine j_iadd hF dX10_feed_25 ?_
    refine j_bipush hF (v := 50) dX10_feed_26 (by decide) ?_
    refine j_icmp_le hF (tgt := 38) dX10_feed_28 (by decide) (fun c4 => ?_) (fun c4 => ?_)
    · replace h := bzIfT h c4
      refine j_iconst hF (v := 0) dX10_feed_38 (by decide) ?_
      refine j_istore hF (lv1 := [(4, .int 0), (0, .ref (ga g o)), (1, .long a1), (3, .int a3)]) dX10_feed_39 (by decide) rfl ?_
      refine j_sub [1, 2, 3, 0] rfl ?_
      exact L41 2000 0 σ h
    · replace h := bzIfF h c4
      refine j_aload_n hF 0 dX10_feed_31 rfl ?_
      refine j_ldc hF (v := (-1000000004)) kc_X10_75 dX10_feed_32 ?_
      obtain ⟨x11, σ12, e10, h⟩ := bzBpE h
      refine cs_X10_60 hF ho (fun l => mt_X10_errs l e10) (by decide) (Nat.le_of_ble_eq_true rfl) dX10_feed_34 ?_
      exact j_iret hF hG dX10_feed_37  (bzRet h).1 (bzRet h).2
  · replace h := bzIfT h c3
    refine j_aload_n hF 0 dX10_feed_10 rfl ?_
    refine j_ldc hF (v := (-1000000001)) kc_X10_59 dX10_feed_11 ?_
    obtain ⟨x14, σ15, e13, h⟩ := bzBpE h
    refine cs_X10_60 hF ho (fun l => mt_X10_errs l e13) (by decide) (Nat.le_of_ble_eq_true rfl) dX10_feed_13 ?_
    exact j_iret hF hG dX10_feed_16  (bzRet h).1 (bzRet h).2
def fb_X10_text_108 (o : Nat) (a1 : Int32) (s0 : Int32) (σ1 : bzS) : Option (Int32 × bzS) :=
  bzLet ((σ1 o 9)) (fun x13 => if s0 = 0 then (bzBd (f_X10_moveAll o ((ly o 3)) ((ly o 0)) σ1) (fun σ18 => bzLet (bzSt σ18 (ly o 0) 8 0) (fun σ19 => if s0 = 0 then (some (((-10) - x13), σ19)) else (some (1, σ19))))) else (bzLet (bzSt σ1 (ly o 0) 8 0) (fun σ15 => if s0 = 0 then (some (((-10) - x13), σ15)) else (some (1, σ15)))))
def fb_X10_text_30 (K30 : Int32 → bzS → Option (Int32 × bzS)) (o : Nat) (a1 : Int32) (v2 : Int32) (σ1 : bzS) : Option (Int32 × bzS) :=
  if 50 ≤ v2 then (bzGd (bzIn (10 + a1) 254) (bzLet (bzSt σ1 (ly o 0) (((10 + a1)).toNatClampNeg) (σ1 (ly o 0) 8)) (fun σ8 => bzBp (f_X10_walks o a1 1 1 1 σ8) (fun x10 σ11 => if (σ11 o 15) = 0 then (fb_X10_text_108 o a1 0 σ11) else (if x10 = x10 then (fb_X10_text_108 o a1 1 σ11) else (fb_X10_text_108 o a1 0 σ11)))))) else (bzGd (bzIn (84 + v2) 254) (bzGd (bzIn ((154 + (50 * a1)) + v2) 254) (bzLet (bzSt σ1 (ly o 0) ((((154 + (50 * a1)) + v2)).toNatClampNeg) (σ1 (ly o 0) (((84 + v2)).toNatClampNeg))) (fun σ24 => bzLet (v2 + 1) (fun x25 => K30 x25 σ24)))))
def fl_X10_text_30 (o : Nat) (a1 : Int32) : Nat → Int32 → bzS → Option (Int32 × bzS)
  | 0, _, _ => none
  | n + 1, v2, σ1 => fb_X10_text_30   (fl_X10_text_30   o a1 n) o a1 v2 σ1
def f_X10_text (o : Nat) (a1 : Int32) (σ : bzS) : Option (Int32 × bzS) :=
  bzGd (kd o = 10) (bzBd (f_X10_in a1 0 1) (fun x2 => if x2 = 0 then (bzBp (f_X10_errs o ((-1000000001)) σ) (fun x27 σ28 => some (x27, σ28))) else (bzBd (f_X10_moveAll o ((ly o 0)) ((ly o 3)) σ) (fun σ5 => fl_X10_text_30 o a1 2000 0 σ5))))
set_option maxHeartbeats 4000000 in
set_option maxRecDepth 20000 in
theorem mt_X10_text {g : bzGeo} {o : Nat} {a1 : Int32} {σ : bzS} {r0 : Int32} {σ0 : bzS} (l : Launch) (h : f_X10_text  o a1 σ = some (r0, σ0)) : Met l yX10_text (Cond.code yX10_text cX10_text 5 (some .int) :: GW) (bzR (66)) (va_Pc [.ref (ga g o), .int a1] (bzP g σ)) (va_Qi (fun (r : Int32) (u : bzS) => r = r0 ∧ u = σ0) (bzB g) (gA g)) 0 0 (gA g) := by
  unfold f_X10_text at h
  obtain ⟨ho, h⟩ := bzGdE h
  refine j_start l (by decide +kernel) [.ref (ga g o), .int a1] [(0, .ref (ga g o)), (1, .int a1)] (Nat.le_of_ble_eq_true rfl) rfl (fun x hF hG => ?_)
  have J108 : ∀ (s0 : Int32) (σ1 : bzS), fb_X10_text_108 o a1 s0 σ1 = some (r0, σ0) → bzJ g 5 x σ1 108 [(0, .ref (ga g o)), (1, .int a1)] [.int s0] := by
    intro s0 σ1 h
    unfold fb_X10_text_108 at h
    refine j_istore_n hF (lv1 := [(3, .int s0), (0, .ref (ga g o)), (1, .int a1)]) dX10_text_108 (by decide) rfl ?_
    refine j_aload_n hF 1 dX10_text_109 rfl ?_
    refine gf_X10_106 hF ho dX10_text_110 ?_
    refine j_topi (fun x13 ex13 => ?_)
    replace h := bzLetE h ex13
    refine j_istore hF (lv1 := [(4, .int x13), (3, .int s0), (0, .ref (ga g o)), (1, .int a1)]) dX10_text_113 (by decide) rfl ?_
    refine j_iload_n hF 1 dX10_text_115 rfl ?_
    refine j_if_ne hF (tgt := 131) dX10_text_116 (by decide) (fun c14 => ?_) (fun c14 => ?_)
    · replace h := bzIfF h c14
      refine j_aload_n hF 2 dX10_text_131 rfl ?_
      refine gf_X10_7 hF ho dX10_text_132 ?_
      refine j_bipush hF (v := 8) dX10_text_135 (by decide) ?_
      refine j_iconst hF (v := 0) dX10_text_137 (by decide) ?_
      refine j_iast hF (c := 8) (kl_10_0 ho) (nl_10_0 ho) (by decide) (by decide) dX10_text_138 ?_
      refine j_s (fun σ15 eσ15 => ?_)
      replace h := bzLetE h eσ15
      refine j_iload_n hF 1 dX10_text_139 rfl ?_
      refine j_if_eq hF (tgt := 147) dX10_text_140 (by decide) (fun c16 => ?_) (fun c16 => ?_)
      · replace h := bzIfT h c16
        refine j_bipush hF (v := (-10)) dX10_text_147 (by decide) ?_
        refine j_iload hF 0 dX10_text_149 rfl ?_
        refine j_isub hF dX10_text_151 ?_
        exact j_iret hF hG dX10_text_152 (bzRet h).1 (bzRet h).2
      · replace h := bzIfF h c16
        refine j_iconst hF (v := 1) dX10_text_143 (by decide) ?_
        refine j_goto hF (tgt := 152) dX10_text_144 (by decide) ?_
        exact j_iret hF hG dX10_text_152 (bzRet h).1 (bzRet h).2
    · replace h := bzIfT h c14
      refine j_aload_n hF 2 dX10_text_119 rfl ?_
      refine j_aload_n hF 2 dX10_text_120 rfl ?_
      refine gf_X10_19 hF ho dX10_text_121 ?_
      refine j_aload_n hF 2 dX10_text_124 rfl ?_
      refine gf_X10_7 hF ho dX10_text_125 ?_
      obtain ⟨σ18, e17, h⟩ := bzBdE h
      refine cs_X10_167 hF ho (fun l => mt_X10_moveAll l e17) (by decide) (Nat.le_of_ble_eq_true rfl) dX10_text_128 ?_
      refine j_aload_n hF 2 dX10_text_131 rfl ?_
      refine gf_X10_7 hF ho dX10_text_132 ?_
      refine j_bipush hF (v := 8) dX10_text_135 (by decide) ?_
      refine j_iconst hF (v := 0) dX10_text_137 (by decide) ?_
      refine j_iast hF (c := 8) (kl_10_0 ho) (nl_10_0 ho) (by decide) (by decide) dX10_text_138 ?_
      refine j_s (fun σ19 eσ19 => ?_)
      replace h := bzLetE h eσ19
      refine j_iload_n hF 1 dX10_text_139 rfl ?_
      refine j_if_eq hF (tgt := 147) dX10_text_140 (by decide) (fun c20 => ?_) (fun c20 => ?_)
      · replace h := bzIfT h c20
        refine j_bipush hF (v := (-10)) dX10_text_147 (by decide) ?_
        refine j_iload hF 0 dX10_text_149 rfl ?_
        refine j_isub hF dX10_text_151 ?_
        exact j_iret hF hG dX10_text_152 (bzRet h).1 (bzRet h).2
      · replace h := bzIfF h c20
        refine j_iconst hF (v := 1) dX10_text_143 (by decide) ?_
        refine j_goto hF (tgt := 152) dX10_text_144 (by decide) ?_
        exact j_iret hF hG dX10_text_152 (bzRet h).1 (bzRet h).2
  have J30 : (K30 : Int32 → bzS → Option (Int32 × bzS)) → (hK30 : ∀ (v2 : Int32) (σ1 : bzS), K30 v2 σ1 = some (r0, σ0) → bzJ g 5 x σ1 30 [(0, .ref (ga g o)), (1, .int a1), (2, .int v2)] []) → ∀ (v2 : Int32) (σ1 : bzS), fb_X10_text_30 K30 o a1 v2 σ1 = some (r0, σ0) → bzJ g 5 x σ1 30 [(0, .ref (ga g o)), (1, .int a1), (2, .int v2)] [] := by
    intro K30 hK30 v2 σ1 h
    unfold fb_X10_text_30 at h
    refine j_iload_n hF 2 dX10_text_30 rfl ?_
    refine j_bipush hF (v := 50) dX10_text_31 (by decide) ?_
    refine j_icmp_ge hF (tgt := 66) dX10_text_33 (by decide) (fun c6 => ?_) (fun c6 => ?_)
    · replace h := bzIfT h c6
      refine j_aload_n hF 0 dX10_text_66 rfl ?_
      refine gf_X10_7 hF ho dX10_text_67 ?_
      refine j_bipush hF (v := 10) dX10_text_70 (by decide) ?_
      refine j_iload_n hF 1 dX10_text_72 rfl ?_
      refine j_iadd hF dX10_text_73 ?_
      refine j_aload_n hF 0 dX10_text_74 rfl ?_
      refine gf_X10_7 hF ho dX10_text_75 ?_
      refine j_bipush hF (v := 8) dX10_text_78 (by decide) ?_
      refine j_iald hF (c := 8) (kl_10_0 ho) (nl_10_0 ho) (by decide) (by decide) dX10_text_80 ?_
      obtain ⟨g7, h⟩ := bzGdE h
      refine j_iast hF (c := ((10 + a1)).toNatClampNeg) (kl_10_0 ho) (nl_10_0 ho) g7 rfl dX10_text_81 ?_
      refine j_s (fun σ8 eσ8 => ?_)
      replace h := bzLetE h eσ8
      refine j_aload_n hF 0 dX10_text_82 rfl ?_
      refine j_iload_n hF 1 dX10_text_83 rfl ?_
      refine j_iconst hF (v := 1) dX10_text_84 (by decide) ?_
      refine j_iconst hF (v := 1) dX10_text_85 (by decide) ?_
      refine j_iconst hF (v := 1) dX10_text_86 (by decide) ?_
      obtain ⟨x10, σ11, e9, h⟩ := bzBpE h
      refine cs_X10_154 hF ho (fun l => mt_X10_walks l e9) (by decide) (Nat.le_of_ble_eq_true rfl) dX10_text_87 ?_
      refine j_istore_n hF (lv1 := [(2, .int x10), (0, .ref (ga g o)), (1, .int a1)]) dX10_text_90 (by decide) rfl ?_
      refine j_aload_n hF 1 dX10_text_91 rfl ?_
      refine gf_X10_102 hF ho dX10_text_92 ?_
      refine j_if_eq hF (tgt := 107) dX10_text_95 (by decide) (fun c12 => ?_) (fun c12 => ?_)
      · replace h := bzIfT h c12
        refine j_iconst hF (v := 0) dX10_text_107 (by decide) ?_
        refine j_sub [1, 2] rfl ?_
        exact J108 0 σ11 h
      · replace h := bzIfF h c12
        refine j_iload_n hF 0 dX10_text_98 rfl ?_
        refine j_iload_n hF 0 dX10_text_99 rfl ?_
        refine j_icmp_ne hF (tgt := 107) dX10_text_100 (by decide) (fun c21 => ?_) (fun c21 => ?_)
        · replace h := bzIfF h c21
          refine j_iconst hF (v := 0) dX10_text_107 (by decide) ?_
          refine j_sub [1, 2] rfl ?_
          exact J108 0 σ11 h
        · replace h := bzIfT h c21
          refine j_iconst hF (v := 1) dX10_text_103 (by decide) ?_
          refine j_goto hF (tgt := 108) dX10_text_104 (by decide) ?_
          refine j_sub [1, 2] rfl ?_
          exact J108 1 σ11 h
    · replace h := bzIfF h c6
      refine j_aload_n hF 0 dX10_text_36 rfl ?_
      refine gf_X10_7 hF ho dX10_text_37 ?_
      refine j_sipush hF (v := 154) dX10_text_40 (by decide) ?_
      refine j_bipush hF (v := 50) dX10_text_43 (by decide) ?_
      refine j_iload_n hF 1 dX10_text_45 rfl ?_
      refine j_imul hF dX10_text_46 ?_
      refine j_iadd hF dX10_text_47 ?_
      refine j_iload_n hF 2 dX10_text_48 rfl ?_
      refine j_iadd hF dX10_text_49 ?_
      refine j_aload_n hF 0 dX10_text_50 rfl ?_
      refine gf_X10_7 hF ho dX10_text_51 ?_
      refine j_bipush hF (v := 84) dX10_text_54 (by decide) ?_
      refine j_iload_n hF 2 dX10_text_56 rfl ?_
      refine j_iadd hF dX10_text_57 ?_
      obtain ⟨g22, h⟩ := bzGdE h
      refine j_iald hF (c := ((84 + v2)).toNatClampNeg) (kl_10_0 ho) (nl_10_0 ho) g22 rfl dX10_text_58 ?_
      obtain ⟨g23, h⟩ := bzGdE h
      refine j_iast hF (c := (((154 + (50 * a1)) + v2)).toNatClampNeg) (kl_10_0 ho) (nl_10_0 ho) g23 rfl dX10_text_59 ?_
      refine j_s (fun σ24 eσ24 => ?_)
      replace h := bzLetE h eσ24
      obtain ⟨x25, ex25⟩ : ∃ y : Int32, y = v2 + 1 := ⟨_, rfl⟩
      replace h := bzLetE h ex25
      refine j_iinc hF (v := x25) (lv1 := [(2, .int x25), (0, .ref (ga g o)), (1, .int a1)]) 2 dX10_text_60 rfl (by rw [ex25]; rfl) (by decide) rfl ?_
      refine j_goto hF (tgt := 30) dX10_text_63 (by decide) ?_
      refine j_sub [1, 2, 0] rfl ?_
      exact hK30 x25 σ24 h
  have L30 : ∀ (n : Nat) (v2 : Int32) (σ1 : bzS), fl_X10_text_30   o a1 n v2 σ1 = some (r0, σ0) → bzJ g 5 x σ1 30 [(0, .ref (ga g o)), (1, .int a1), (2, .int v2)] [] := by
    intro  n
    induction n with
    | zero =>
      intro v2 σ1  h
      cases h
    | succ n ih =>
      intro v2 σ1  h
      exact J30  (fl_X10_text_30   o a1 n) ih v2 σ1  h
  refine j_iload_n hF 1 dX10_text_0 rfl ?_
  refine j_iconst hF (v := 0) dX10_text_1 (by decide) ?_
  refine j_iconst hF (v := 1) dX10_text_2 (by decide) ?_
  obtain ⟨x2, e1, h⟩ := bzBdE h
  refine cs_X10_51 hF (fun l => mt_X10_in l e1) (by decide) (Nat.le_of_ble_eq_true rfl) dX10_text_3 ?_
  refine j_if_ne hF (tgt := 16) dX10_text_6 (by decide) (fun c3 => ?_) (fun c3 => ?_)
  · replace h := bzIfF h c3
    refine j_aload_n hF 0 dX10_text_16 rfl ?_
    refine j_aload_n hF 0 dX10_text_17 rfl ?_
    refine gf_X10_7 hF ho dX10_text_18 ?_
    refine j_aload_n hF 0 dX10_text_21 rfl ?_
    refine gf_X10_19 hF ho dX10_text_22 ?_
    obtain ⟨σ5, e4, h⟩ := bzBdE h
    refine cs_X10_167 hF ho (fun l => mt_X10_moveAll l e4) (by decide) (Nat.le_of_ble_eq_true rfl) dX10_text_25 ?_
    refine j_iconst hF (v := 0) dX10_text_28 (by decide) ?_
    refine j_istore_n hF (lv1 := [(2, .int 0), (0, .ref (ga g o)), (1, .int a1)]) dX10_text_29 (by decide) rfl ?_
    refine j_sub [1, 2, 0] rfl ?_
    exact L30 2000 0 σ5 h
  · replace h := bzIfT h c3
    refine j_aload_n hF 0 dX10_text_9 rfl ?_
    refine j_ldc hF (v := (-1000000001)) kc_X10_59 dX10_text_10 ?_
    obtain ⟨x27, σ28, e26, h⟩ := bzBpE h
    refine cs_X10_60 hF ho (fun l => mt_X10_errs l e26) (by decide) (Nat.le_of_ble_eq_true rfl) dX10_text_12 ?_
    exact j_iret hF hG dX10_text_15  (bzRet h).1 (bzRet h).2
def f_X10_yearns (o : Nat) (σ : bzS) : Option (Int32 × bzS) :=
  bzGd (kd o = 10) (bzBd (f_X10_heat o σ) (fun x2 => bzBp (f_X10_lawOf o 0 ((σ (ly o 0) 3)) x2 ((σ (ly o 0) 4)) σ) (fun x4 σ5 => some (x4, σ5))))
set_option maxHeartbeats 4000000 in
set_option maxRecDepth 20000 in
theorem mt_X10_yearns {g : bzGeo} {o : Nat} {σ : bzS} {r0 : Int32} {σ0 : bzS} (l : Launch) (h : f_X10_yearns  o σ = some (r0, σ0)) : Met l yX10_yearns (Cond.code yX10_yearns cX10_yearns 1 (some .int) :: GW) (bzR (67)) (va_Pc [.ref (ga g o)] (bzP g σ)) (va_Qi (fun (r : Int32) (u : bzS) => r = r0 ∧ u = σ0) (bzB g) (gA g)) 0 0 (gA g) := by
  unfold f_X10_yearns at h
  obtain ⟨ho, h⟩ := bzGdE h
  refine j_start l (by decide +kernel) [.ref (ga g o)] [(0, .ref (ga g o))] (Nat.le_of_ble_eq_true rfl) rfl (fun x hF hG => ?_)
  refine j_aload_n hF 0 dX10_yearns_0 rfl ?_
  refine j_iconst hF (v := 0) dX10_yearns_1 (by decide) ?_
  refine j_aload_n hF 0 dX10_yearns_2 rfl ?_
  refine gf_X10_7 hF ho dX10_yearns_3 ?_
  refine j_iconst hF (v := 3) dX10_yearns_6 (by decide) ?_
  refine j_iald hF (c := 3) (kl_10_0 ho) (nl_10_0 ho) (by decide) (by decide) dX10_yearns_7 ?_
  refine j_aload_n hF 0 dX10_yearns_8 rfl ?_
  obtain ⟨x2, e1, h⟩ := bzBdE h
  refine cs_X10_174 hF ho (fun l => mt_X10_heat l e1) (by decide) (Nat.le_of_ble_eq_true rfl) dX10_yearns_9 ?_
  refine j_aload_n hF 0 dX10_yearns_12 rfl ?_
  refine gf_X10_7 hF ho dX10_yearns_13 ?_
  refine j_iconst hF (v := 4) dX10_yearns_16 (by decide) ?_
  refine j_iald hF (c := 4) (kl_10_0 ho) (nl_10_0 ho) (by decide) (by decide) dX10_yearns_17 ?_
  obtain ⟨x4, σ5, e3, h⟩ := bzBpE h
  refine cs_X10_162 hF ho (fun l => mt_X10_lawOf l e3) (by decide) (Nat.le_of_ble_eq_true rfl) dX10_yearns_18 ?_
  exact j_iret hF hG dX10_yearns_21  (bzRet h).1 (bzRet h).2
def f_X10_shifts (o : Nat) (σ : bzS) : Option (Int32 × bzS) :=
  bzGd (kd o = 10) (bzBd (f_X10_heat o σ) (fun x2 => bzBp (f_X10_lawOf o 1 ((σ (ly o 0) 3)) x2 ((σ (ly o 0) 5)) σ) (fun x4 σ5 => some (x4, σ5))))
set_option maxHeartbeats 4000000 in
set_option maxRecDepth 20000 in
theorem mt_X10_shifts {g : bzGeo} {o : Nat} {σ : bzS} {r0 : Int32} {σ0 : bzS} (l : Launch) (h : f_X10_shifts  o σ = some (r0, σ0)) : Met l yX10_shifts (Cond.code yX10_shifts cX10_shifts 1 (some .int) :: GW) (bzR (67)) (va_Pc [.ref (ga g o)] (bzP g σ)) (va_Qi (fun (r : Int32) (u : bzS) => r = r0 ∧ u = σ0) (bzB g) (gA g)) 0 0 (gA g) := by
  unfold f_X10_shifts at h
  obtain ⟨ho, h⟩ := bzGdE h
  refine j_start l (by decide +kernel) [.ref (ga g o)] [(0, .ref (ga g o))] (Nat.le_of_ble_eq_true rfl) rfl (fun x hF hG => ?_)
  refine j_aload_n hF 0 dX10_shifts_0 rfl ?_
  refine j_iconst hF (v := 1) dX10_shifts_1 (by decide) ?_
  refine j_aload_n hF 0 dX10_shifts_2 rfl ?_
  refine gf_X10_7 hF ho dX10_shifts_3 ?_
  refine j_iconst hF (v := 3) dX10_shifts_6 (by decide) ?_
  refine j_iald hF (c := 3) (kl_10_0 ho) (nl_10_0 ho) (by decide) (by decide) dX10_shifts_7 ?_
  refine j_aload_n hF 0 dX10_shifts_8 rfl ?_
  obtain ⟨x2, e1, h⟩ := bzBdE h
  refine cs_X10_174 hF ho (fun l => mt_X10_heat l e1) (by decide) (Nat.le_of_ble_eq_true rfl) dX10_shifts_9 ?_
  refine j_aload_n hF 0 dX10_shifts_12 rfl ?_
  refine gf_X10_7 hF ho dX10_shifts_13 ?_
  refine j_iconst hF (v := 5) dX10_shifts_16 (by decide) ?_
  refine j_iald hF (c := 5) (kl_10_0 ho) (nl_10_0 ho) (by decide) (by decide) dX10_shifts_17 ?_
  obtain ⟨x4, σ5, e3, h⟩ := bzBpE h
  refine cs_X10_162 hF ho (fun l => mt_X10_lawOf l e3) (by decide) (Nat.le_of_ble_eq_true rfl) dX10_shifts_18 ?_
  exact j_iret hF hG dX10_shifts_21  (bzRet h).1 (bzRet h).2
def f_X10_ofFigure (o : Nat) (a1 : Int32) (σ : bzS) : Option (Int32 × bzS) :=
  bzGd (kd o = 10) (if a1 = 5 then (bzBd (f_X10_weight o σ) (fun x3 => some (x3, σ))) else if a1 = 6 then (bzBp (f_X10_yearns o σ) (fun x6 σ7 => some (x6, σ7))) else if a1 = 7 then (bzBp (f_X10_shifts o σ) (fun x10 σ11 => some (x10, σ11))) else (bzBd (f_X10_in a1 0 4) (fun x13 => if x13 = 0 then (bzBp (f_X10_errs o ((-1000000001)) σ) (fun x16 σ17 => some (x16, σ17))) else (bzGd (bzIn (3 + a1) 254) (some ((σ (ly o 0) (((3 + a1)).toNatClampNeg)), σ))))))
set_option maxHeartbeats 4000000 in
set_option maxRecDepth 20000 in
theorem mt_X10_ofFigure {g : bzGeo} {o : Nat} {a1 : Int32} {σ : bzS} {r0 : Int32} {σ0 : bzS} (l : Launch) (h : f_X10_ofFigure  o a1 σ = some (r0, σ0)) : Met l yX10_ofFigure (Cond.code yX10_ofFigure cX10_ofFigure 2 (some .int) :: GW) (bzR (68)) (va_Pc [.ref (ga g o), .int a1] (bzP g σ)) (va_Qi (fun (r : Int32) (u : bzS) => r = r0 ∧ u = σ0) (bzB g) (gA g)) 0 0 (gA g) := by
  unfold f_X10_ofFigure at h
  obtain ⟨ho, h⟩ := bzGdE h
  refine j_start l (by decide +kernel) [.ref (ga g o), .int a1] [(0, .ref (ga g o)), (1, .int a1)] (Nat.le_of_ble_eq_true rfl) rfl (fun x hF hG => ?_)
  refine j_iload_n hF 1 dX10_ofFigure_0 rfl ?_
  rcases Decidable.em (a1 = 5) with c1 | c1
  · replace h := bzIfT h c1
    refine j_tableIn hF (tgt := 28) dX10_ofFigure_1 (by rw [c1] <;> decide) (by rw [c1] <;> decide) (by rw [c1] <;> rfl) (by decide) ?_
    refine j_aload_n hF 0 dX10_ofFigure_28 rfl ?_
    obtain ⟨x3, e2, h⟩ := bzBdE h
    refine cs_X10_67 hF ho (fun l => mt_X10_weight l e2) (by decide) (Nat.le_of_ble_eq_true rfl) dX10_ofFigure_29 ?_
    exact j_iret hF hG dX10_ofFigure_32  (bzRet h).1 (bzRet h).2
  · replace h := bzIfF h c1
    rcases Decidable.em (a1 = 6) with c4 | c4
    · replace h := bzIfT h c4
      refine j_tableIn hF (tgt := 33) dX10_ofFigure_1 (by rw [c4] <;> decide) (by rw [c4] <;> decide) (by rw [c4] <;> rfl) (by decide) ?_
      refine j_aload_n hF 0 dX10_ofFigure_33 rfl ?_
      obtain ⟨x6, σ7, e5, h⟩ := bzBpE h
      refine cs_X10_177 hF ho (fun l => mt_X10_yearns l e5) (by decide) (Nat.le_of_ble_eq_true rfl) dX10_ofFigure_34 ?_
      exact j_iret hF hG dX10_ofFigure_37  (bzRet h).1 (bzRet h).2
    · replace h := bzIfF h c4
      rcases Decidable.em (a1 = 7) with c8 | c8
      · replace h := bzIfT h c8
        refine j_tableIn hF (tgt := 38) dX10_ofFigure_1 (by rw [c8] <;> decide) (by rw [c8] <;> decide) (by rw [c8] <;> rfl) (by decide) ?_
        refine j_aload_n hF 0 dX10_ofFigure_38 rfl ?_
        obtain ⟨x10, σ11, e9, h⟩ := bzBpE h
        refine cs_X10_180 hF ho (fun l => mt_X10_shifts l e9) (by decide) (Nat.le_of_ble_eq_true rfl) dX10_ofFigure_39 ?_
        exact j_iret hF hG dX10_ofFigure_42  (bzRet h).1 (bzRet h).2
      · replace h := bzIfF h c8
        refine j_tableOut hF (tgt := 43) dX10_ofFigure_1 (by have q0 := lv_neT (a := 5) c1 (by decide); have q1 := lv_neT (a := 6) c4 (by decide); have q2 := lv_neT (a := 7) c8 (by decide); omega) (by decide) ?_
        refine j_iload_n hF 1 dX10_ofFigure_43 rfl ?_
        refine j_iconst hF (v := 0) dX10_ofFigure_44 (by decide) ?_
        refine j_iconst hF (v := 4) dX10_ofFigure_45 (by decide) ?_
        obtain ⟨x13, e12, h⟩ := bzBdE h
        refine cs_X10_51 hF (fun l => mt_X10_in l e12) (by decide) (Nat.le_of_ble_eq_true rfl) dX10_ofFigure_46 ?_
        refine j_if_eq hF (tgt := 63) dX10_ofFigure_49 (by decide) (fun c14 => ?_) (fun c14 => ?_)
        · replace h := bzIfT h c14
          refine j_aload_n hF 0 dX10_ofFigure_63 rfl ?_
          refine j_ldc hF (v := (-1000000001)) kc_X10_59 dX10_ofFigure_64 ?_
          obtain ⟨x16, σ17, e15, h⟩ := bzBpE h
          refine cs_X10_60 hF ho (fun l => mt_X10_errs l e15) (by decide) (Nat.le_of_ble_eq_true rfl) dX10_ofFigure_66 ?_
          exact j_iret hF hG dX10_ofFigure_69  (bzRet h).1 (bzRet h).2
        · replace h := bzIfF h c14
          refine j_aload_n hF 0 dX10_ofFigure_52 rfl ?_
          refine gf_X10_7 hF ho dX10_ofFigure_53 ?_
          refine j_iconst hF (v := 3) dX10_ofFigure_56 (by decide) ?_
          refine j_iload_n hF 1 dX10_ofFigure_57 rfl ?_
          refine j_iadd hF dX10_ofFigure_58 ?_
          obtain ⟨g18, h⟩ := bzGdE h
          refine j_iald hF (c := ((3 + a1)).toNatClampNeg) (kl_10_0 ho) (nl_10_0 ho) g18 rfl dX10_ofFigure_59 ?_
          refine j_goto hF (tgt := 69) dX10_ofFigure_60 (by decide) ?_
          exact j_iret hF hG dX10_ofFigure_69  (bzRet h).1 (bzRet h).2
def fb_X10_oneYear_25 (K25 : Int32 → bzS → Option bzS) (o : Nat) (v1 : Int32) (σ1 : bzS) : Option bzS :=
  if (σ1 (ly o 0) 2) ≤ v1 then (bzBp (f_X10_shifts o σ1) (fun x9 σ10 => bzBd (f_X10_held (((σ1 (ly o 0) 4) + x9)) 0 99) (fun x12 => bzLet (bzSt σ10 (ly o 0) 4 x12) (fun σ13 => bzBd (f_X10_heat o σ13) (fun x15 => bzBd (f_X10_held (((σ13 (ly o 0) 5) - x15)) 0 99) (fun x17 => bzBd (f_X10_rain o σ13) (fun x19 => bzBd (f_X10_held ((x17 + x19)) 0 99) (fun x21 => bzLet (bzSt σ13 (ly o 0) 5 x21) (fun σ22 => bzLet (bzSt σ22 (ly o 0) 0 ((σ22 (ly o 0) 0) + 1)) (fun σ23 => some σ23)))))))))) else (if v1 = (σ1 o 7) then (bzLet (v1 + 1) (fun x25 => K25 x25 σ1)) else (bzBd (f_X10_isComing o v1 σ1) (fun x27 => if x27 = 0 then (bzLet (v1 + 1) (fun x29 => K25 x29 σ1)) else (bzBd (f_X10_keeps o v1 σ1) (fun x31 => bzBd (f_X10_held (((σ1 (ly o 0) 3) - x31)) 0 99) (fun x33 => bzLet (bzSt σ1 (ly o 0) 3 x33) (fun σ34 => bzLet (v1 + 1) (fun x35 => K25 x35 σ34))))))))
def fl_X10_oneYear_25 (o : Nat) : Nat → Int32 → bzS → Option bzS
  | 0, _, _ => none
  | n + 1, v1, σ1 => fb_X10_oneYear_25   (fl_X10_oneYear_25   o n) o v1 σ1
def f_X10_oneYear (o : Nat) (σ : bzS) : Option bzS :=
  bzGd (kd o = 10) (bzBp (f_X10_yearns o σ) (fun x2 σ3 => bzBd (f_X10_held (((σ (ly o 0) 3) + x2)) 0 99) (fun x5 => bzLet (bzSt σ3 (ly o 0) 3 x5) (fun σ6 => fl_X10_oneYear_25 o 2000 0 σ6))))
set_option maxHeartbeats 4000000 in
set_option maxRecDepth 20000 in
theorem mt_X10_oneYear {g : bzGeo} {o : Nat} {σ : bzS} {σ0 : bzS} (l : Launch) (h : f_X10_oneYear  o σ = some σ0) : Met l yX10_oneYear (Cond.code yX10_oneYear cX10_oneYear 2 none :: GW) (bzR (68)) (va_Pc [.ref (ga g o)] (bzP g σ)) (va_Qv (fun (u : bzS) => u = σ0) (bzB g) (gA g)) 0 0 (gA g) := by
  unfold f_X10_oneYear at h
  obtain ⟨ho, h⟩ := bzGdE h
  refine j_start l (by decide +kernel) [.ref (ga g o)] [(0, .ref (ga g o))] (Nat.le_of_ble_eq_true rfl) rfl (fun x hF hG => ?_)
  have J25 : (K25 : Int32 → bzS → Option bzS) → (hK25 : ∀ (v1 : Int32) (σ1 : bzS), K25 v1 σ1 = some σ0 → bzJ g 2 x σ1 25 [(0, .ref (ga g o)), (1, .int v1)] []) → ∀ (v1 : Int32) (σ1 : bzS), fb_X10_oneYear_25 K25 o v1 σ1 = some σ0 → bzJ g 2 x σ1 25 [(0, .ref (ga g o)), (1, .int v1)] [] := by
    intro K25 hK25 v1 σ1 h
    unfold fb_X10_oneYear_25 at h
    refine j_iload_n hF 1 dX10_oneYear_25 rfl ?_
    refine j_aload_n hF 0 dX10_oneYear_26 rfl ?_
    refine gf_X10_7 hF ho dX10_oneYear_27 ?_
    refine j_iconst hF (v := 2) dX10_oneYear_30 (by decide) ?_
    refine j_iald hF (c := 2) (kl_10_0 ho) (nl_10_0 ho) (by decide) (by decide) dX10_oneYear_31 ?_
    refine j_icmp_ge hF (tgt := 81) dX10_oneYear_32 (by decide) (fun c7 => ?_) (fun c7 => ?_)
    · replace h := bzIfT h c7
      refine j_aload_n hF 0 dX10_oneYear_81 rfl ?_
      refine gf_X10_7 hF ho dX10_oneYear_82 ?_
      refine j_iconst hF (v := 4) dX10_oneYear_85 (by decide) ?_
      refine j_aload_n hF 0 dX10_oneYear_86 rfl ?_
      refine gf_X10_7 hF ho dX10_oneYear_87 ?_
      refine j_iconst hF (v := 4) dX10_oneYear_90 (by decide) ?_
      refine j_iald hF (c := 4) (kl_10_0 ho) (nl_10_0 ho) (by decide) (by decide) dX10_oneYear_91 ?_
      refine j_aload_n hF 0 dX10_oneYear_92 rfl ?_
      obtain ⟨x9, σ10, e8, h⟩ := bzBpE h
      refine cs_X10_180 hF ho (fun l => mt_X10_shifts l e8) (by decide) (Nat.le_of_ble_eq_true rfl) dX10_oneYear_93 ?_
      refine j_iadd hF dX10_oneYear_96 ?_
      refine j_iconst hF (v := 0) dX10_oneYear_97 (by decide) ?_
      refine j_bipush hF (v := 99) dX10_oneYear_98 (by decide) ?_
      obtain ⟨x12, e11, h⟩ := bzBdE h
      refine cs_X10_158 hF (fun l => mt_X10_held l e11) (by decide) (Nat.le_of_ble_eq_true rfl) dX10_oneYear_100 ?_
      refine j_iast hF (c := 4) (kl_10_0 ho) (nl_10_0 ho) (by decide) (by decide) dX10_oneYear_103 ?_
      refine j_s (fun σ13 eσ13 => ?_)
      replace h := bzLetE h eσ13
      refine j_aload_n hF 0 dX10_oneYear_104 rfl ?_
      refine gf_X10_7 hF ho dX10_oneYear_105 ?_
      refine j_iconst hF (v := 5) dX10_oneYear_108 (by decide) ?_
      refine j_aload_n hF 0 dX10_oneYear_109 rfl ?_
      refine gf_X10_7 hF ho dX10_oneYear_110 ?_
      refine j_iconst hF (v := 5) dX10_oneYear_113 (by decide) ?_
      refine j_iald hF (c := 5) (kl_10_0 ho) (nl_10_0 ho) (by decide) (by decide) dX10_oneYear_114 ?_
      refine j_aload_n hF 0 dX10_oneYear_115 rfl ?_
      obtain ⟨x15, e14, h⟩ := bzBdE h
      refine cs_X10_174 hF ho (fun l => mt_X10_heat l e14) (by decide) (Nat.le_of_ble_eq_true rfl) dX10_oneYear_116 ?_
      refine j_isub hF dX10_oneYear_119 ?_
      refine j_iconst hF (v := 0) dX10_oneYear_120 (by decide) ?_
      refine j_bipush hF (v := 99) dX10_oneYear_121 (by decide) ?_
      obtain ⟨x17, e16, h⟩ := bzBdE h
      refine cs_X10_158 hF (fun l => mt_X10_held l e16) (by decide) (Nat.le_of_ble_eq_true rfl) dX10_oneYear_123 ?_
      refine j_aload_n hF 0 dX10_oneYear_126 rfl ?_
      obtain ⟨x19, e18, h⟩ := bzBdE h
      refine cs_X10_171 hF ho (fun l => mt_X10_rain l e18) (by decide) (Nat.le_of_ble_eq_true rfl) dX10_oneYear_127 ?_
      refine j_iadd hF dX10_oneYear_130 ?_
      refine j_iconst hF (v := 0) dX10_oneYear_131 (by decide) ?_
      refine j_bipush hF (v := 99) dX10_oneYear_132 (by decide) ?_
      obtain ⟨x21, e20, h⟩ := bzBdE h
      refine cs_X10_158 hF (fun l => mt_X10_held l e20) (by decide) (Nat.le_of_ble_eq_true rfl) dX10_oneYear_134 ?_
      refine j_iast hF (c := 5) (kl_10_0 ho) (nl_10_0 ho) (by decide) (by decide) dX10_oneYear_137 ?_
      refine j_s (fun σ22 eσ22 => ?_)
      replace h := bzLetE h eσ22
      refine j_aload_n hF 0 dX10_oneYear_138 rfl ?_
      refine gf_X10_7 hF ho dX10_oneYear_139 ?_
      refine j_iconst hF (v := 0) dX10_oneYear_142 (by decide) ?_
      refine j_dup2 hF dX10_oneYear_143 rfl rfl ?_
      refine j_iald hF (c := 0) (kl_10_0 ho) (nl_10_0 ho) (by decide) (by decide) dX10_oneYear_144 ?_
      refine j_iconst hF (v := 1) dX10_oneYear_145 (by decide) ?_
      refine j_iadd hF dX10_oneYear_146 ?_
      refine j_iast hF (c := 0) (kl_10_0 ho) (nl_10_0 ho) (by decide) (by decide) dX10_oneYear_147 ?_
      refine j_s (fun σ23 eσ23 => ?_)
      replace h := bzLetE h eσ23
      exact j_vret hF hG dX10_oneYear_148 (Option.some.inj h)
    · replace h := bzIfF h c7
      refine j_iload_n hF 1 dX10_oneYear_35 rfl ?_
      refine j_aload_n hF 0 dX10_oneYear_36 rfl ?_
      refine gf_X10_25 hF ho dX10_oneYear_37 ?_
      refine j_icmp_eq hF (tgt := 75) dX10_oneYear_40 (by decide) (fun c24 => ?_) (fun c24 => ?_)
      · replace h := bzIfT h c24
        obtain ⟨x25, ex25⟩ : ∃ y : Int32, y = v1 + 1 := ⟨_, rfl⟩
        replace h := bzLetE h ex25
        refine j_iinc hF (v := x25) (lv1 := [(1, .int x25), (0, .ref (ga g o))]) 1 dX10_oneYear_75 rfl (by rw [ex25]; rfl) (by decide) rfl ?_
        refine j_goto hF (tgt := 25) dX10_oneYear_78 (by decide) ?_
        refine j_sub [1, 0] rfl ?_
        exact hK25 x25 σ1 h
      · replace h := bzIfF h c24
        refine j_aload_n hF 0 dX10_oneYear_43 rfl ?_
        refine j_iload_n hF 1 dX10_oneYear_44 rfl ?_
        obtain ⟨x27, e26, h⟩ := bzBdE h
        refine cs_X10_89 hF ho (fun l => mt_X10_isComing l e26) (by decide) (Nat.le_of_ble_eq_true rfl) dX10_oneYear_45 ?_
        refine j_if_eq hF (tgt := 75) dX10_oneYear_48 (by decide) (fun c28 => ?_) (fun c28 => ?_)
        · replace h := bzIfT h c28
          obtain ⟨x29, ex29⟩ : ∃ y : Int32, y = v1 + 1 := ⟨_, rfl⟩
          replace h := bzLetE h ex29
          refine j_iinc hF (v := x29) (lv1 := [(1, .int x29), (0, .ref (ga g o))]) 1 dX10_oneYear_75 rfl (by rw [ex29]; rfl) (by decide) rfl ?_
          refine j_goto hF (tgt := 25) dX10_oneYear_78 (by decide) ?_
          refine j_sub [1, 0] rfl ?_
          exact hK25 x29 σ1 h
        · replace h := bzIfF h c28
          refine j_aload_n hF 0 dX10_oneYear_51 rfl ?_
          refine gf_X10_7 hF ho dX10_oneYear_52 ?_
          refine j_iconst hF (v := 3) dX10_oneYear_55 (by decide) ?_
          refine j_aload_n hF 0 dX10_oneYear_56 rfl ?_
          refine gf_X10_7 hF ho dX10_oneYear_57 ?_
          refine j_iconst hF (v := 3) dX10_oneYear_60 (by decide) ?_
          refine j_iald hF (c := 3) (kl_10_0 ho) (nl_10_0 ho) (by decide) (by decide) dX10_oneYear_61 ?_
          refine j_aload_n hF 0 dX10_oneYear_62 rfl ?_
          refine j_iload_n hF 1 dX10_oneYear_63 rfl ?_
          obtain ⟨x31, e30, h⟩ := bzBdE h
          refine cs_X10_86 hF ho (fun l => mt_X10_keeps l e30) (by decide) (Nat.le_of_ble_eq_true rfl) dX10_oneYear_64 ?_
          refine j_isub hF dX10_oneYear_67 ?_
          refine j_iconst hF (v := 0) dX10_oneYear_68 (by decide) ?_
          refine j_bipush hF (v := 99) dX10_oneYear_69 (by decide) ?_
          obtain ⟨x33, e32, h⟩ := bzBdE h
          refine cs_X10_158 hF (fun l => mt_X10_held l e32) (by decide) (Nat.le_of_ble_eq_true rfl) dX10_oneYear_71 ?_
          refine j_iast hF (c := 3) (kl_10_0 ho) (nl_10_0 ho) (by decide) (by decide) dX10_oneYear_74 ?_
          refine j_s (fun σ34 eσ34 => ?_)
          replace h := bzLetE h eσ34
          obtain ⟨x35, ex35⟩ : ∃ y : Int32, y = v1 + 1 := ⟨_, rfl⟩
          replace h := bzLetE h ex35
          refine j_iinc hF (v := x35) (lv1 := [(1, .int x35), (0, .ref (ga g o))]) 1 dX10_oneYear_75 rfl (by rw [ex35]; rfl) (by decide) rfl ?_
          refine j_goto hF (tgt := 25) dX10_oneYear_78 (by decide) ?_
          refine j_sub [1, 0] rfl ?_
          exact hK25 x35 σ34 h
  have L25 : ∀ (n : Nat) (v1 : Int32) (σ1 : bzS), fl_X10_oneYear_25   o n v1 σ1 = some σ0 → bzJ g 2 x σ1 25 [(0, .ref (ga g o)), (1, .int v1)] [] := by
    intro  n
    induction n with
    | zero =>
      intro v1 σ1  h
      cases h
    | succ n ih =>
      intro v1 σ1  h
      exact J25  (fl_X10_oneYear_25   o n) ih v1 σ1  h
  refine j_aload_n hF 0 dX10_oneYear_0 rfl ?_
  refine gf_X10_7 hF ho dX10_oneYear_1 ?_
  refine j_iconst hF (v := 3) dX10_oneYear_4 (by decide) ?_
  refine j_aload_n hF 0 dX10_oneYear_5 rfl ?_
  refine gf_X10_7 hF ho dX10_oneYear_6 ?_
  refine j_iconst hF (v := 3) dX10_oneYear_9 (by decide) ?_
  refine j_iald hF (c := 3) (kl_10_0 ho) (nl_10_0 ho) (by decide) (by decide) dX10_oneYear_10 ?_
  refine j_aload_n hF 0 dX10_oneYear_11 rfl ?_
  obtain ⟨x2, σ3, e1, h⟩ := bzBpE h
  refine cs_X10_177 hF ho (fun l => mt_X10_yearns l e1) (by decide) (Nat.le_of_ble_eq_true rfl) dX10_oneYear_12 ?_
  refine j_iadd hF dX10_oneYear_15 ?_
  refine j_iconst hF (v := 0) dX10_oneYear_16 (by decide) ?_
  refine j_bipush hF (v := 99) dX10_oneYear_17 (by decide) ?_
  obtain ⟨x5, e4, h⟩ := bzBdE h
  refine cs_X10_158 hF (fun l => mt_X10_held l e4) (by decide) (Nat.le_of_ble_eq_true rfl) dX10_oneYear_19 ?_
  refine j_iast hF (c := 3) (kl_10_0 ho) (nl_10_0 ho) (by decide) (by decide) dX10_oneYear_22 ?_
  refine j_s (fun σ6 eσ6 => ?_)
  replace h := bzLetE h eσ6
  refine j_iconst hF (v := 0) dX10_oneYear_23 (by decide) ?_
  refine j_istore_n hF (lv1 := [(1, .int 0), (0, .ref (ga g o))]) dX10_oneYear_24 (by decide) rfl ?_
  refine j_sub [1, 0] rfl ?_
  exact L25 2000 0 σ6 h
def fb_X10_passes_2 (K2 : Int32 → bzS → Option bzS) (o : Nat) (a1 : Int32) (v2 : Int32) (σ1 : bzS) : Option bzS :=
  if a1 ≤ v2 then (some σ1) else (bzBd (f_X10_oneYear o σ1) (fun σ3 => bzLet (v2 + 1) (fun x4 => K2 x4 σ3)))
def fl_X10_passes_2 (o : Nat) (a1 : Int32) : Nat → Int32 → bzS → Option bzS
  | 0, _, _ => none
  | n + 1, v2, σ1 => fb_X10_passes_2   (fl_X10_passes_2   o a1 n) o a1 v2 σ1
def f_X10_passes (o : Nat) (a1 : Int32) (σ : bzS) : Option bzS :=
  bzGd (kd o = 10) (fl_X10_passes_2 o a1 2000 0 σ)
set_option maxHeartbeats 4000000 in
set_option maxRecDepth 20000 in
theorem mt_X10_passes {g : bzGeo} {o : Nat} {a1 : Int32} {σ : bzS} {σ0 : bzS} (l : Launch) (h : f_X10_passes  o a1 σ = some σ0) : Met l yX10_passes (Cond.code yX10_passes cX10_passes 3 none :: GW) (bzR (69)) (va_Pc [.ref (ga g o), .int a1] (bzP g σ)) (va_Qv (fun (u : bzS) => u = σ0) (bzB g) (gA g)) 0 0 (gA g) := by
  unfold f_X10_passes at h
  obtain ⟨ho, h⟩ := bzGdE h
  refine j_start l (by decide +kernel) [.ref (ga g o), .int a1] [(0, .ref (ga g o)), (1, .int a1)] (Nat.le_of_ble_eq_true rfl) rfl (fun x hF hG => ?_)
  have J2 : (K2 : Int32 → bzS → Option bzS) → (hK2 : ∀ (v2 : Int32) (σ1 : bzS), K2 v2 σ1 = some σ0 → bzJ g 3 x σ1 2 [(0, .ref (ga g o)), (1, .int a1), (2, .int v2)] []) → ∀ (v2 : Int32) (σ1 : bzS), fb_X10_passes_2 K2 o a1 v2 σ1 = some σ0 → bzJ g 3 x σ1 2 [(0, .ref (ga g o)), (1, .int a1), (2, .int v2)] [] := by
    intro K2 hK2 v2 σ1 h
    unfold fb_X10_passes_2 at h
    refine j_iload_n hF 2 dX10_passes_2 rfl ?_
    refine j_iload_n hF 1 dX10_passes_3 rfl ?_
    refine j_icmp_ge hF (tgt := 17) dX10_passes_4 (by decide) (fun c1 => ?_) (fun c1 => ?_)
    · replace h := bzIfT h c1
      exact j_vret hF hG dX10_passes_17 (Option.some.inj h)
    · replace h := bzIfF h c1
      refine j_aload_n hF 0 dX10_passes_7 rfl ?_
      obtain ⟨σ3, e2, h⟩ := bzBdE h
      refine cs_X10_183 hF ho (fun l => mt_X10_oneYear l e2) (by decide) (Nat.le_of_ble_eq_true rfl) dX10_passes_8 ?_
      obtain ⟨x4, ex4⟩ : ∃ y : Int32, y = v2 + 1 := ⟨_, rfl⟩
      replace h := bzLetE h ex4
      refine j_iinc hF (v := x4) (lv1 := [(2, .int x4), (0, .ref (ga g o)), (1, .int a1)]) 2 dX10_passes_11 rfl (by rw [ex4]; rfl) (by decide) rfl ?_
      refine j_goto hF (tgt := 2) dX10_passes_14 (by decide) ?_
      refine j_sub [1, 2, 0] rfl ?_
      exact hK2 x4 σ3 h
  have L2 : ∀ (n : Nat) (v2 : Int32) (σ1 : bzS), fl_X10_passes_2   o a1 n v2 σ1 = some σ0 → bzJ g 3 x σ1 2 [(0, .ref (ga g o)), (1, .int a1), (2, .int v2)] [] := by
    intro  n
    induction n with
    | zero =>
      intro v2 σ1  h
      cases h
    | succ n ih =>
      intro v2 σ1  h
      exact J2  (fl_X10_passes_2   o a1 n) ih v2 σ1  h
  refine j_iconst hF (v := 0) dX10_passes_0 (by decide) ?_
  refine j_istore_n hF (lv1 := [(2, .int 0), (0, .ref (ga g o)), (1, .int a1)]) dX10_passes_1 (by decide) rfl ?_
  refine j_sub [1, 2, 0] rfl ?_
  exact L2 2000 0 σ h
def f_X10_years (o : Nat) (a1 : Int32) (σ : bzS) : Option (Int32 × bzS) :=
  bzGd (kd o = 10) (bzBd (f_X10_in a1 1 60) (fun x2 => if x2 = 0 then (bzBp (f_X10_errs o ((-1000000001)) σ) (fun x11 σ12 => some (x11, σ12))) else (if ((σ (ly o 0) 0) + a1) ≤ 9999 then (bzBd (f_X10_passes o a1 σ) (fun σ6 => some ((σ6 (ly o 0) 4), σ6))) else (bzBp (f_X10_errs o ((-1000000003)) σ) (fun x8 σ9 => some (x8, σ9))))))
set_option maxHeartbeats 4000000 in
set_option maxRecDepth 20000 in
theorem mt_X10_years {g : bzGeo} {o : Nat} {a1 : Int32} {σ : bzS} {r0 : Int32} {σ0 : bzS} (l : Launch) (h : f_X10_years  o a1 σ = some (r0, σ0)) : Met l yX10_years (Cond.code yX10_years cX10_years 2 (some .int) :: GW) (bzR (70)) (va_Pc [.ref (ga g o), .int a1] (bzP g σ)) (va_Qi (fun (r : Int32) (u : bzS) => r = r0 ∧ u = σ0) (bzB g) (gA g)) 0 0 (gA g) := by
  unfold f_X10_years at h
  obtain ⟨ho, h⟩ := bzGdE h
  refine j_start l (by decide +kernel) [.ref (ga g o), .int a1] [(0, .ref (ga g o)), (1, .int a1)] (Nat.le_of_ble_eq_true rfl) rfl (fun x hF hG => ?_)
  refine j_iload_n hF 1 dX10_years_0 rfl ?_
  refine j_iconst hF (v := 1) dX10_years_1 (by decide) ?_
  refine j_bipush hF (v := 60) dX10_years_2 (by decide) ?_
  obtain ⟨x2, e1, h⟩ := bzBdE h
  refine cs_X10_51 hF (fun l => mt_X10_in l e1) (by decide) (Nat.le_of_ble_eq_true rfl) dX10_years_4 ?_
  refine j_if_ne hF (tgt := 17) dX10_years_7 (by decide) (fun c3 => ?_) (fun c3 => ?_)
  · replace h := bzIfF h c3
    refine j_aload_n hF 0 dX10_years_17 rfl ?_
    refine gf_X10_7 hF ho dX10_years_18 ?_
    refine j_iconst hF (v := 0) dX10_years_21 (by decide) ?_
    refine j_iald hF (c := 0) (kl_10_0 ho) (nl_10_0 ho) (by decide) (by decide) dX10_years_22 ?_
    refine j_iload_n hF 1 dX10_years_23 rfl ?_
    refine j_iadd hF dX10_years_24 ?_
    refine j_sipush hF (v := 9999) dX10_years_25 (by decide) ?_
    refine j_icmp_le hF (tgt := 38) dX10_years_28 (by decide) (fun c4 => ?_) (fun c4 => ?_)
    · replace h := bzIfT h c4
      refine j_aload_n hF 0 dX10_years_38 rfl ?_
      refine j_iload_n hF 1 dX10_years_39 rfl ?_
      obtain ⟨σ6, e5, h⟩ := bzBdE h
      refine cs_X10_187 hF ho (fun l => mt_X10_passes l e5) (by decide) (Nat.le_of_ble_eq_true rfl) dX10_years_40 ?_
      refine j_aload_n hF 0 dX10_years_43 rfl ?_
      refine gf_X10_7 hF ho dX10_years_44 ?_
      refine j_iconst hF (v := 4) dX10_years_47 (by decide) ?_
      refine j_iald hF (c := 4) (kl_10_0 ho) (nl_10_0 ho) (by decide) (by decide) dX10_years_48 ?_
      exact j_iret hF hG dX10_years_49  (bzRet h).1 (bzRet h).2
    · replace h := bzIfF h c4
      refine j_aload_n hF 0 dX10_years_31 rfl ?_
      refine j_ldc hF (v := (-1000000003)) kc_X10_186 dX10_years_32 ?_
      obtain ⟨x8, σ9, e7, h⟩ := bzBpE h
      refine cs_X10_60 hF ho (fun l => mt_X10_errs l e7) (by decide) (Nat.le_of_ble_eq_true rfl) dX10_years_34 ?_
      exact j_iret hF hG dX10_years_37  (bzRet h).1 (bzRet h).2
  · replace h := bzIfT h c3
    refine j_aload_n hF 0 dX10_years_10 rfl ?_
    refine j_ldc hF (v := (-1000000001)) kc_X10_59 dX10_years_11 ?_
    obtain ⟨x11, σ12, e10, h⟩ := bzBpE h
    refine cs_X10_60 hF ho (fun l => mt_X10_errs l e10) (by decide) (Nat.le_of_ble_eq_true rfl) dX10_years_13 ?_
    exact j_iret hF hG dX10_years_16  (bzRet h).1 (bzRet h).2
def f_X10_drawn (o : Nat) (σ : bzS) : Option (Int32 × bzS) :=
  bzGd (kd o = 10) (bzLet (bzSt σ (ly o 0) 1 (((σ (ly o 0) 1) * 1103515245) + 12345)) (fun σ1 => some ((((σ1 (ly o 0) 1).toUInt32 >>> ((8 : Int32).toUInt32 &&& Int32.toUInt32 31)).toInt32), σ1)))
set_option maxHeartbeats 4000000 in
set_option maxRecDepth 20000 in
theorem mt_X10_drawn {g : bzGeo} {o : Nat} {σ : bzS} {r0 : Int32} {σ0 : bzS} (l : Launch) (h : f_X10_drawn  o σ = some (r0, σ0)) : Met l yX10_drawn (Cond.code yX10_drawn cX10_drawn 1 (some .int) :: GW) (bzR (1)) (va_Pc [.ref (ga g o)] (bzP g σ)) (va_Qi (fun (r : Int32) (u : bzS) => r = r0 ∧ u = σ0) (bzB g) (gA g)) 0 0 (gA g) := by
  unfold f_X10_drawn at h
  obtain ⟨ho, h⟩ := bzGdE h
  refine j_start l (by decide +kernel) [.ref (ga g o)] [(0, .ref (ga g o))] (Nat.le_of_ble_eq_true rfl) rfl (fun x hF hG => ?_)
  refine j_aload_n hF 0 dX10_drawn_0 rfl ?_
  refine gf_X10_7 hF ho dX10_drawn_1 ?_
  refine j_iconst hF (v := 1) dX10_drawn_4 (by decide) ?_
  refine j_aload_n hF 0 dX10_drawn_5 rfl ?_
  refine gf_X10_7 hF ho dX10_drawn_6 ?_
  refine j_iconst hF (v := 1) dX10_drawn_9 (by decide) ?_
  refine j_iald hF (c := 1) (kl_10_0 ho) (nl_10_0 ho) (by decide) (by decide) dX10_drawn_10 ?_
  refine j_ldc hF (v := 1103515245) kc_X10_191 dX10_drawn_11 ?_
  refine j_imul hF dX10_drawn_13 ?_
  refine j_sipush hF (v := 12345) dX10_drawn_14 (by decide) ?_
  refine j_iadd hF dX10_drawn_17 ?_
  refine j_iast hF (c := 1) (kl_10_0 ho) (nl_10_0 ho) (by decide) (by decide) dX10_drawn_18 ?_
  refine j_s (fun σ1 eσ1 => ?_)
  replace h := bzLetE h eσ1
  refine j_aload_n hF 0 dX10_drawn_19 rfl ?_
  refine gf_X10_7 hF ho dX10_drawn_20 ?_
  refine j_iconst hF (v := 1) dX10_drawn_23 (by decide) ?_
  refine j_iald hF (c := 1) (kl_10_0 ho) (nl_10_0 ho) (by decide) (by decide) dX10_drawn_24 ?_
  refine j_bipush hF (v := 8) dX10_drawn_25 (by decide) ?_
  refine j_iushr hF dX10_drawn_27 ?_
  exact j_iret hF hG dX10_drawn_28  (bzRet h).1 (bzRet h).2
def fb_X10_loose_40 (K40 : Int32 → bzS → Option (Int32 × bzS)) (o : Nat) (a1 : Int32) (v2 : Int32) (σ1 : bzS) : Option (Int32 × bzS) :=
  if a1 ≤ v2 then (some ((σ1 (ly o 0) 4), σ1)) else (bzBp (f_X10_drawn o σ1) (fun x7 σ8 => bzLet ((x7 - x7 / 6 * 6)) (fun x9 => bzBp (f_X10_drawn o σ8) (fun x11 σ12 => bzGd (bzIn ((12 + (2 * x9)) + 1) 254) (bzLet (bzSt σ12 (ly o 0) ((((12 + (2 * x9)) + 1)).toNatClampNeg) (x11 - x11 / 10 * 10)) (fun σ14 => bzBd (f_X10_oneYear o σ14) (fun σ16 => bzLet (v2 + 1) (fun x17 => K40 x17 σ16))))))))
def fl_X10_loose_40 (o : Nat) (a1 : Int32) : Nat → Int32 → bzS → Option (Int32 × bzS)
  | 0, _, _ => none
  | n + 1, v2, σ1 => fb_X10_loose_40   (fl_X10_loose_40   o a1 n) o a1 v2 σ1
def f_X10_loose (o : Nat) (a1 : Int32) (σ : bzS) : Option (Int32 × bzS) :=
  bzGd (kd o = 10) (bzBd (f_X10_in a1 1 40) (fun x2 => if x2 = 0 then (bzBp (f_X10_errs o ((-1000000001)) σ) (fun x22 σ23 => some (x22, σ23))) else (if ((σ (ly o 0) 0) + a1) ≤ 9999 then (fl_X10_loose_40 o a1 2000 0 σ) else (bzBp (f_X10_errs o ((-1000000003)) σ) (fun x19 σ20 => some (x19, σ20))))))
set_option maxHeartbeats 4000000 in
set_option maxRecDepth 20000 in
theorem mt_X10_loose {g : bzGeo} {o : Nat} {a1 : Int32} {σ : bzS} {r0 : Int32} {σ0 : bzS} (l : Launch) (h : f_X10_loose  o a1 σ = some (r0, σ0)) : Met l yX10_loose (Cond.code yX10_loose cX10_loose 4 (some .int) :: GW) (bzR (69)) (va_Pc [.ref (ga g o), .int a1] (bzP g σ)) (va_Qi (fun (r : Int32) (u : bzS) => r = r0 ∧ u = σ0) (bzB g) (gA g)) 0 0 (gA g) := by
  unfold f_X10_loose at h
  obtain ⟨ho, h⟩ := bzGdE h
  refine j_start l (by decide +kernel) [.ref (ga g o), .int a1] [(0, .ref (ga g o)), (1, .int a1)] (Nat.le_of_ble_eq_true rfl) rfl (fun x hF hG => ?_)
  have J40 : (K40 : Int32 → bzS → Option (Int32 × bzS)) → (hK40 : ∀ (v2 : Int32) (σ1 : bzS), K40 v2 σ1 = some (r0, σ0) → bzJ g 4 x σ1 40 [(0, .ref (ga g o)), (1, .int a1), (2, .int v2)] []) → ∀ (v2 : Int32) (σ1 : bzS), fb_X10_loose_40 K40 o a1 v2 σ1 = some (r0, σ0) → bzJ g 4 x σ1 40 [(0, .ref (ga g o)), (1, .int a1), (2, .int v2)] [] := by
    intro K40 hK40 v2 σ1 h
    unfold fb_X10_loose_40 at h
    refine j_iload_n hF 2 dX10_loose_40 rfl ?_
    refine j_iload_n hF 1 dX10_loose_41 rfl ?_
    refine j_icmp_ge hF (tgt := 83) dX10_loose_42 (by decide) (fun c5 => ?_) (fun c5 => ?_)
    · replace h := bzIfT h c5
      refine j_aload_n hF 0 dX10_loose_83 rfl ?_
      refine gf_X10_7 hF ho dX10_loose_84 ?_
      refine j_iconst hF (v := 4) dX10_loose_87 (by decide) ?_
      refine j_iald hF (c := 4) (kl_10_0 ho) (nl_10_0 ho) (by decide) (by decide) dX10_loose_88 ?_
      exact j_iret hF hG dX10_loose_89 (bzRet h).1 (bzRet h).2
    · replace h := bzIfF h c5
      refine j_aload_n hF 0 dX10_loose_45 rfl ?_
      obtain ⟨x7, σ8, e6, h⟩ := bzBpE h
      refine cs_X10_192 hF ho (fun l => mt_X10_drawn l e6) (by decide) (Nat.le_of_ble_eq_true rfl) dX10_loose_46 ?_
      refine j_bipush hF (v := 6) dX10_loose_49 (by decide) ?_
      refine j_irem hF dX10_loose_51 (by decide) ?_
      refine j_topi (fun x9 ex9 => ?_)
      replace h := bzLetE h ex9
      refine j_istore_n hF (lv1 := [(3, .int x9), (0, .ref (ga g o)), (1, .int a1), (2, .int v2)]) dX10_loose_52 (by decide) rfl ?_
      refine j_aload_n hF 1 dX10_loose_53 rfl ?_
      refine gf_X10_7 hF ho dX10_loose_54 ?_
      refine j_bipush hF (v := 12) dX10_loose_57 (by decide) ?_
      refine j_iconst hF (v := 2) dX10_loose_59 (by decide) ?_
      refine j_iload_n hF 0 dX10_loose_60 rfl ?_
      refine j_imul hF dX10_loose_61 ?_
      refine j_iadd hF dX10_loose_62 ?_
      refine j_iconst hF (v := 1) dX10_loose_63 (by decide) ?_
      refine j_iadd hF dX10_loose_64 ?_
      refine j_aload_n hF 1 dX10_loose_65 rfl ?_
      obtain ⟨x11, σ12, e10, h⟩ := bzBpE h
      refine cs_X10_192 hF ho (fun l => mt_X10_drawn l e10) (by decide) (Nat.le_of_ble_eq_true rfl) dX10_loose_66 ?_
      refine j_bipush hF (v := 10) dX10_loose_69 (by decide) ?_
      refine j_irem hF dX10_loose_71 (by decide) ?_
      obtain ⟨g13, h⟩ := bzGdE h
      refine j_iast hF (c := (((12 + (2 * x9)) + 1)).toNatClampNeg) (kl_10_0 ho) (nl_10_0 ho) g13 rfl dX10_loose_72 ?_
      refine j_s (fun σ14 eσ14 => ?_)
      replace h := bzLetE h eσ14
      refine j_aload_n hF 1 dX10_loose_73 rfl ?_
      obtain ⟨σ16, e15, h⟩ := bzBdE h
      refine cs_X10_183 hF ho (fun l => mt_X10_oneYear l e15) (by decide) (Nat.le_of_ble_eq_true rfl) dX10_loose_74 ?_
      obtain ⟨x17, ex17⟩ : ∃ y : Int32, y = v2 + 1 := ⟨_, rfl⟩
      replace h := bzLetE h ex17
      refine j_iinc hF (v := x17) (lv1 := [(2, .int x17), (3, .int x9), (0, .ref (ga g o)), (1, .int a1)]) 3 dX10_loose_77 rfl (by rw [ex17]; rfl) (by decide) rfl ?_
      refine j_goto hF (tgt := 40) dX10_loose_80 (by decide) ?_
      refine j_sub [2, 3, 0] rfl ?_
      exact hK40 x17 σ16 h
  have L40 : ∀ (n : Nat) (v2 : Int32) (σ1 : bzS), fl_X10_loose_40   o a1 n v2 σ1 = some (r0, σ0) → bzJ g 4 x σ1 40 [(0, .ref (ga g o)), (1, .int a1), (2, .int v2)] [] := by
    intro  n
    induction n with
    | zero =>
      intro v2 σ1  h
      cases h
    | succ n ih =>
      intro v2 σ1  h
      exact J40  (fl_X10_loose_40   o a1 n) ih v2 σ1  h
  refine j_iload_n hF 1 dX10_loose_0 rfl ?_
  refine j_iconst hF (v := 1) dX10_loose_1 (by decide) ?_
  refine j_bipush hF (v := 40) dX10_loose_2 (by decide) ?_
  obtain ⟨x2, e1, h⟩ := bzBdE h
  refine cs_X10_51 hF (fun l => mt_X10_in l e1) (by decide) (Nat.le_of_ble_eq_true rfl) dX10_loose_4 ?_
  refine j_if_ne hF (tgt := 17) dX10_loose_7 (by decide) (fun c3 => ?_) (fun c3 => ?_)
  · replace h := bzIfF h c3
    refine j_aload_n hF 0 dX10_loose_17 rfl ?_
    refine gf_X10_7 hF ho dX10_loose_18 ?_
    refine j_iconst hF (v := 0) dX10_loose_21 (by decide) ?_
    refine j_iald hF (c := 0) (kl_10_0 ho) (nl_10_0 ho) (by decide) (by decide) dX10_loose_22 ?_
    refine j_iload_n hF 1 dX10_loose_23 rfl ?_
    refine j_iadd hF dX10_loose_24 ?_
    refine j_sipush hF (v := 9999) dX10_loose_25 (by decide) ?_
    refine j_icmp_le hF (tgt := 38) dX10_loose_28 (by decide) (fun c4 => ?_) (fun c4 => ?_)
    · replace h := bzIfT h c4
      refine j_iconst hF (v := 0) dX10_loose_38 (by decide) ?_
      refine j_istore_n hF (lv1 := [(2, .int 0), (0, .ref (ga g o)), (1, .int a1)]) dX10_loose_39 (by decide) rfl ?_
      refine j_sub [1, 2, 0] rfl ?_
      exact L40 2000 0 σ h
    · replace h := bzIfF h c4
      refine j_aload_n hF 0 dX10_loose_31 rfl ?_
      refine j_ldc hF (v := (-1000000003)) kc_X10_186 dX10_loose_32 ?_
      obtain ⟨x19, σ20, e18, h⟩ := bzBpE h
      refine cs_X10_60 hF ho (fun l => mt_X10_errs l e18) (by decide) (Nat.le_of_ble_eq_true rfl) dX10_loose_34 ?_
      exact j_iret hF hG dX10_loose_37  (bzRet h).1 (bzRet h).2
  · replace h := bzIfT h c3
    refine j_aload_n hF 0 dX10_loose_10 rfl ?_
    refine j_ldc hF (v := (-1000000001)) kc_X10_59 dX10_loose_11 ?_
    obtain ⟨x22, σ23, e21, h⟩ := bzBpE h
    refine cs_X10_60 hF ho (fun l => mt_X10_errs l e21) (by decide) (Nat.le_of_ble_eq_true rfl) dX10_loose_13 ?_
    exact j_iret hF hG dX10_loose_16  (bzRet h).1 (bzRet h).2
def f_X10_behind (o : Nat) (a1 : Int32) (a2 : Int32) (σ : bzS) : Option (Int32 × bzS) :=
  bzGd (kd o = 10) (bzBd (f_X10_passes o a1 σ) (fun σ2 => bzGd (bzIn a2 254) (bzLet ((σ2 (ly o 0) a2.toNatClampNeg)) (fun x4 => bzBd (f_X10_moveAll o ((ly o 2)) ((ly o 0)) σ2) (fun σ6 => some (x4, σ6))))))
set_option maxHeartbeats 4000000 in
set_option maxRecDepth 20000 in
theorem mt_X10_behind {g : bzGeo} {o : Nat} {a1 : Int32} {a2 : Int32} {σ : bzS} {r0 : Int32} {σ0 : bzS} (l : Launch) (h : f_X10_behind  o a1 a2 σ = some (r0, σ0)) : Met l yX10_behind (Cond.code yX10_behind cX10_behind 4 (some .int) :: GW) (bzR (70)) (va_Pc [.ref (ga g o), .int a1, .int a2] (bzP g σ)) (va_Qi (fun (r : Int32) (u : bzS) => r = r0 ∧ u = σ0) (bzB g) (gA g)) 0 0 (gA g) := by
  unfold f_X10_behind at h
  obtain ⟨ho, h⟩ := bzGdE h
  refine j_start l (by decide +kernel) [.ref (ga g o), .int a1, .int a2] [(0, .ref (ga g o)), (1, .int a1), (2, .int a2)] (Nat.le_of_ble_eq_true rfl) rfl (fun x hF hG => ?_)
  refine j_aload_n hF 0 dX10_behind_0 rfl ?_
  refine j_iload_n hF 1 dX10_behind_1 rfl ?_
  obtain ⟨σ2, e1, h⟩ := bzBdE h
  refine cs_X10_187 hF ho (fun l => mt_X10_passes l e1) (by decide) (Nat.le_of_ble_eq_true rfl) dX10_behind_2 ?_
  refine j_aload_n hF 0 dX10_behind_5 rfl ?_
  refine gf_X10_7 hF ho dX10_behind_6 ?_
  refine j_iload_n hF 2 dX10_behind_9 rfl ?_
  obtain ⟨g3, h⟩ := bzGdE h
  refine j_iald hF (c := a2.toNatClampNeg) (kl_10_0 ho) (nl_10_0 ho) g3 rfl dX10_behind_10 ?_
  refine j_topi (fun x4 ex4 => ?_)
  replace h := bzLetE h ex4
  refine j_istore_n hF (lv1 := [(3, .int x4), (0, .ref (ga g o)), (1, .int a1), (2, .int a2)]) dX10_behind_11 (by decide) rfl ?_
  refine j_aload_n hF 1 dX10_behind_12 rfl ?_
  refine j_aload_n hF 1 dX10_behind_13 rfl ?_
  refine gf_X10_16 hF ho dX10_behind_14 ?_
  refine j_aload_n hF 1 dX10_behind_17 rfl ?_
  refine gf_X10_7 hF ho dX10_behind_18 ?_
  obtain ⟨σ6, e5, h⟩ := bzBdE h
  refine cs_X10_167 hF ho (fun l => mt_X10_moveAll l e5) (by decide) (Nat.le_of_ble_eq_true rfl) dX10_behind_21 ?_
  refine j_iload_n hF 0 dX10_behind_24 rfl ?_
  exact j_iret hF hG dX10_behind_25  (bzRet h).1 (bzRet h).2
def f_X10_then (o : Nat) (a1 : Int32) (a2 : Int32) (σ : bzS) : Option (Int32 × bzS) :=
  bzGd (kd o = 10) (bzBd (f_X10_in a1 0 60) (fun x2 => if x2 = 0 then (bzBp (f_X10_errs o ((-1000000001)) σ) (fun x5 σ6 => some (x5, σ6))) else (bzBd (f_X10_in a2 0 2) (fun x8 => if x8 = 0 then (bzBp (f_X10_errs o ((-1000000001)) σ) (fun x16 σ17 => some (x16, σ17))) else (bzBd (f_X10_moveAll o ((ly o 0)) ((ly o 2)) σ) (fun σ11 => bzBp (f_X10_behind o a1 ((3 + a2)) σ11) (fun x13 σ14 => some (x13, σ14))))))))
set_option maxHeartbeats 4000000 in
set_option maxRecDepth 20000 in
theorem mt_X10_then {g : bzGeo} {o : Nat} {a1 : Int32} {a2 : Int32} {σ : bzS} {r0 : Int32} {σ0 : bzS} (l : Launch) (h : f_X10_then  o a1 a2 σ = some (r0, σ0)) : Met l yX10_then (Cond.code yX10_then cX10_then 3 (some .int) :: GW) (bzR (71)) (va_Pc [.ref (ga g o), .int a1, .int a2] (bzP g σ)) (va_Qi (fun (r : Int32) (u : bzS) => r = r0 ∧ u = σ0) (bzB g) (gA g)) 0 0 (gA g) := by
  unfold f_X10_then at h
  obtain ⟨ho, h⟩ := bzGdE h
  refine j_start l (by decide +kernel) [.ref (ga g o), .int a1, .int a2] [(0, .ref (ga g o)), (1, .int a1), (2, .int a2)] (Nat.le_of_ble_eq_true rfl) rfl (fun x hF hG => ?_)
  refine j_iload_n hF 1 dX10_then_0 rfl ?_
  refine j_iconst hF (v := 0) dX10_then_1 (by decide) ?_
  refine j_bipush hF (v := 60) dX10_then_2 (by decide) ?_
  obtain ⟨x2, e1, h⟩ := bzBdE h
  refine cs_X10_51 hF (fun l => mt_X10_in l e1) (by decide) (Nat.le_of_ble_eq_true rfl) dX10_then_4 ?_
  refine j_if_eq hF (tgt := 19) dX10_then_7 (by decide) (fun c3 => ?_) (fun c3 => ?_)
  · replace h := bzIfT h c3
    refine j_aload_n hF 0 dX10_then_19 rfl ?_
    refine j_ldc hF (v := (-1000000001)) kc_X10_59 dX10_then_20 ?_
    obtain ⟨x5, σ6, e4, h⟩ := bzBpE h
    refine cs_X10_60 hF ho (fun l => mt_X10_errs l e4) (by decide) (Nat.le_of_ble_eq_true rfl) dX10_then_22 ?_
    exact j_iret hF hG dX10_then_25  (bzRet h).1 (bzRet h).2
  · replace h := bzIfF h c3
    refine j_iload_n hF 2 dX10_then_10 rfl ?_
    refine j_iconst hF (v := 0) dX10_then_11 (by decide) ?_
    refine j_iconst hF (v := 2) dX10_then_12 (by decide) ?_
    obtain ⟨x8, e7, h⟩ := bzBdE h
    refine cs_X10_51 hF (fun l => mt_X10_in l e7) (by decide) (Nat.le_of_ble_eq_true rfl) dX10_then_13 ?_
    refine j_if_ne hF (tgt := 26) dX10_then_16 (by decide) (fun c9 => ?_) (fun c9 => ?_)
    · replace h := bzIfF h c9
      refine j_aload_n hF 0 dX10_then_26 rfl ?_
      refine j_aload_n hF 0 dX10_then_27 rfl ?_
      refine gf_X10_7 hF ho dX10_then_28 ?_
      refine j_aload_n hF 0 dX10_then_31 rfl ?_
      refine gf_X10_16 hF ho dX10_then_32 ?_
      obtain ⟨σ11, e10, h⟩ := bzBdE h
      refine cs_X10_167 hF ho (fun l => mt_X10_moveAll l e10) (by decide) (Nat.le_of_ble_eq_true rfl) dX10_then_35 ?_
      refine j_aload_n hF 0 dX10_then_38 rfl ?_
      refine j_iload_n hF 1 dX10_then_39 rfl ?_
      refine j_iconst hF (v := 3) dX10_then_40 (by decide) ?_
      refine j_iload_n hF 2 dX10_then_41 rfl ?_
      refine j_iadd hF dX10_then_42 ?_
      obtain ⟨x13, σ14, e12, h⟩ := bzBpE h
      refine cs_X10_195 hF ho (fun l => mt_X10_behind l e12) (by decide) (Nat.le_of_ble_eq_true rfl) dX10_then_43 ?_
      exact j_iret hF hG dX10_then_46  (bzRet h).1 (bzRet h).2
    · replace h := bzIfT h c9
      refine j_aload_n hF 0 dX10_then_19 rfl ?_
      refine j_ldc hF (v := (-1000000001)) kc_X10_59 dX10_then_20 ?_
      obtain ⟨x16, σ17, e15, h⟩ := bzBpE h
      refine cs_X10_60 hF ho (fun l => mt_X10_errs l e15) (by decide) (Nat.le_of_ble_eq_true rfl) dX10_then_22 ?_
      exact j_iret hF hG dX10_then_25  (bzRet h).1 (bzRet h).2
def fb_X10_falls_14 (K14 : Int32 → bzS → Option (Int32 × bzS)) (o : Nat) (v1 : Int32) (σ1 : bzS) : Option (Int32 × bzS) :=
  if 60 < v1 then (bzBd (f_X10_moveAll o ((ly o 2)) ((ly o 0)) σ1) (fun σ5 => if v1 ≤ 60 then (some (v1, σ5)) else (bzBp (f_X10_errs o ((-1000000002)) σ5) (fun x8 σ9 => some (x8, σ9))))) else (if 60 ≤ (σ1 (ly o 0) 4) then (bzBd (f_X10_moveAll o ((ly o 2)) ((ly o 0)) σ1) (fun σ12 => if v1 ≤ 60 then (some (v1, σ12)) else (bzBp (f_X10_errs o ((-1000000002)) σ12) (fun x15 σ16 => some (x15, σ16))))) else (bzBd (f_X10_oneYear o σ1) (fun σ18 => bzLet (v1 + 1) (fun x19 => K14 x19 σ18))))
def fl_X10_falls_14 (o : Nat) : Nat → Int32 → bzS → Option (Int32 × bzS)
  | 0, _, _ => none
  | n + 1, v1, σ1 => fb_X10_falls_14   (fl_X10_falls_14   o n) o v1 σ1
def f_X10_falls (o : Nat) (σ : bzS) : Option (Int32 × bzS) :=
  bzGd (kd o = 10) (bzBd (f_X10_moveAll o ((ly o 0)) ((ly o 2)) σ) (fun σ2 => fl_X10_falls_14 o 2000 0 σ2))
set_option maxHeartbeats 4000000 in
set_option maxRecDepth 20000 in
theorem mt_X10_falls {g : bzGeo} {o : Nat} {σ : bzS} {r0 : Int32} {σ0 : bzS} (l : Launch) (h : f_X10_falls  o σ = some (r0, σ0)) : Met l yX10_falls (Cond.code yX10_falls cX10_falls 2 (some .int) :: GW) (bzR (69)) (va_Pc [.ref (ga g o)] (bzP g σ)) (va_Qi (fun (r : Int32) (u : bzS) => r = r0 ∧ u = σ0) (bzB g) (gA g)) 0 0 (gA g) := by
  unfold f_X10_falls at h
  obtain ⟨ho, h⟩ := bzGdE h
  refine j_start l (by decide +kernel) [.ref (ga g o)] [(0, .ref (ga g o))] (Nat.le_of_ble_eq_true rfl) rfl (fun x hF hG => ?_)
  have J14 : (K14 : Int32 → bzS → Option (Int32 × bzS)) → (hK14 : ∀ (v1 : Int32) (σ1 : bzS), K14 v1 σ1 = some (r0, σ0) → bzJ g 2 x σ1 14 [(0, .ref (ga g o)), (1, .int v1)] []) → ∀ (v1 : Int32) (σ1 : bzS), fb_X10_falls_14 K14 o v1 σ1 = some (r0, σ0) → bzJ g 2 x σ1 14 [(0, .ref (ga g o)), (1, .int v1)] [] := by
    intro K14 hK14 v1 σ1 h
    unfold fb_X10_falls_14 at h
    refine j_iload_n hF 1 dX10_falls_14 rfl ?_
    refine j_bipush hF (v := 60) dX10_falls_15 (by decide) ?_
    refine j_icmp_gt hF (tgt := 41) dX10_falls_17 (by decide) (fun c3 => ?_) (fun c3 => ?_)
    · replace h := bzIfT h c3
      refine j_aload_n hF 0 dX10_falls_41 rfl ?_
      refine j_aload_n hF 0 dX10_falls_42 rfl ?_
      refine gf_X10_16 hF ho dX10_falls_43 ?_
      refine j_aload_n hF 0 dX10_falls_46 rfl ?_
      refine gf_X10_7 hF ho dX10_falls_47 ?_
      obtain ⟨σ5, e4, h⟩ := bzBdE h
      refine cs_X10_167 hF ho (fun l => mt_X10_moveAll l e4) (by decide) (Nat.le_of_ble_eq_true rfl) dX10_falls_50 ?_
      refine j_iload_n hF 1 dX10_falls_53 rfl ?_
      refine j_bipush hF (v := 60) dX10_falls_54 (by decide) ?_
      refine j_icmp_le hF (tgt := 68) dX10_falls_56 (by decide) (fun c6 => ?_) (fun c6 => ?_)
      · replace h := bzIfT h c6
        refine j_iload_n hF 1 dX10_falls_68 rfl ?_
        exact j_iret hF hG dX10_falls_69 (bzRet h).1 (bzRet h).2
      · replace h := bzIfF h c6
        refine j_aload_n hF 0 dX10_falls_59 rfl ?_
        refine j_ldc hF (v := (-1000000002)) kc_X10_198 dX10_falls_60 ?_
        obtain ⟨x8, σ9, e7, h⟩ := bzBpE h
        refine cs_X10_60 hF ho (fun l => mt_X10_errs l e7) (by decide) (Nat.le_of_ble_eq_true rfl) dX10_falls_62 ?_
        refine j_goto hF (tgt := 69) dX10_falls_65 (by decide) ?_
        exact j_iret hF hG dX10_falls_69 (bzRet h).1 (bzRet h).2
    · replace h := bzIfF h c3
      refine j_aload_n hF 0 dX10_falls_20 rfl ?_
      refine gf_X10_7 hF ho dX10_falls_21 ?_
      refine j_iconst hF (v := 4) dX10_falls_24 (by decide) ?_
      refine j_iald hF (c := 4) (kl_10_0 ho) (nl_10_0 ho) (by decide) (by decide) dX10_falls_25 ?_
      refine j_bipush hF (v := 60) dX10_falls_26 (by decide) ?_
      refine j_icmp_ge hF (tgt := 41) dX10_falls_28 (by decide) (fun c10 => ?_) (fun c10 => ?_)
      · replace h := bzIfT h c10
        refine j_aload_n hF 0 dX10_falls_41 rfl ?_
        refine j_aload_n hF 0 dX10_falls_42 rfl ?_
        refine gf_X10_16 hF ho dX10_falls_43 ?_
        refine j_aload_n hF 0 dX10_falls_46 rfl ?_
        refine gf_X10_7 hF ho dX10_falls_47 ?_
        obtain ⟨σ12, e11, h⟩ := bzBdE h
        refine cs_X10_167 hF ho (fun l => mt_X10_moveAll l e11) (by decide) (Nat.le_of_ble_eq_true rfl) dX10_falls_50 ?_
        refine j_iload_n hF 1 dX10_falls_53 rfl ?_
        refine j_bipush hF (v := 60) dX10_falls_54 (by decide) ?_
        refine j_icmp_le hF (tgt := 68) dX10_falls_56 (by decide) (fun c13 => ?_) (fun c13 => ?_)
        · replace h := bzIfT h c13
          refine j_iload_n hF 1 dX10_falls_68 rfl ?_
          exact j_iret hF hG dX10_falls_69 (bzRet h).1 (bzRet h).2
        · replace h := bzIfF h c13
          refine j_aload_n hF 0 dX10_falls_59 rfl ?_
          refine j_ldc hF (v := (-1000000002)) kc_X10_198 dX10_falls_60 ?_
          obtain ⟨x15, σ16, e14, h⟩ := bzBpE h
          refine cs_X10_60 hF ho (fun l => mt_X10_errs l e14) (by decide) (Nat.le_of_ble_eq_true rfl) dX10_falls_62 ?_
          refine j_goto hF (tgt := 69) dX10_falls_65 (by decide) ?_
          exact j_iret hF hG dX10_falls_69 (bzRet h).1 (bzRet h).2
      · replace h := bzIfF h c10
        refine j_aload_n hF 0 dX10_falls_31 rfl ?_
        obtain ⟨σ18, e17, h⟩ := bzBdE h
        refine cs_X10_183 hF ho (fun l => mt_X10_oneYear l e17) (by decide) (Nat.le_of_ble_eq_true rfl) dX10_falls_32 ?_
        obtain ⟨x19, ex19⟩ : ∃ y : Int32, y = v1 + 1 := ⟨_, rfl⟩
        replace h := bzLetE h ex19
        refine j_iinc hF (v := x19) (lv1 := [(1, .int x19), (0, .ref (ga g o))]) 1 dX10_falls_35 rfl (by rw [ex19]; rfl) (by decide) rfl ?_
        refine j_goto hF (tgt := 14) dX10_falls_38 (by decide) ?_
        refine j_sub [1, 0] rfl ?_
        exact hK14 x19 σ18 h
  have L14 : ∀ (n : Nat) (v1 : Int32) (σ1 : bzS), fl_X10_falls_14   o n v1 σ1 = some (r0, σ0) → bzJ g 2 x σ1 14 [(0, .ref (ga g o)), (1, .int v1)] [] := by
    intro  n
    induction n with
    | zero =>
      intro v1 σ1  h
      cases h
    | succ n ih =>
      intro v1 σ1  h
      exact J14  (fl_X10_falls_14   o n) ih v1 σ1  h
  refine j_aload_n hF 0 dX10_falls_0 rfl ?_
  refine j_aload_n hF 0 dX10_falls_1 rfl ?_
  refine gf_X10_7 hF ho dX10_falls_2 ?_
  refine j_aload_n hF 0 dX10_falls_5 rfl ?_
  refine gf_X10_16 hF ho dX10_falls_6 ?_
  obtain ⟨σ2, e1, h⟩ := bzBdE h
  refine cs_X10_167 hF ho (fun l => mt_X10_moveAll l e1) (by decide) (Nat.le_of_ble_eq_true rfl) dX10_falls_9 ?_
  refine j_iconst hF (v := 0) dX10_falls_12 (by decide) ?_
  refine j_istore_n hF (lv1 := [(1, .int 0), (0, .ref (ga g o))]) dX10_falls_13 (by decide) rfl ?_
  refine j_sub [1, 0] rfl ?_
  exact L14 2000 0 σ2 h
def fb_X10_wet_44 (K44 : Int32 → Int32 → bzS → Option (Int32 × bzS)) (o : Nat) (a1 : Int32) (a2 : Int32) (v3 : Int32) (v4 : Int32) (σ1 : bzS) : Option (Int32 × bzS) :=
  if a1 ≤ v4 then (bzBd (f_X10_moveAll o ((ly o 2)) ((ly o 0)) σ1) (fun σ14 => some (v3, σ14))) else (bzBd (f_X10_oneYear o σ1) (fun σ16 => if (σ16 (ly o 0) 5) < a2 then (bzLet ((v3 + 0)) (fun x18 => bzLet (v4 + 1) (fun x19 => K44 x18 x19 σ16))) else (bzLet ((v3 + 1)) (fun x20 => bzLet (v4 + 1) (fun x21 => K44 x20 x21 σ16)))))
def fl_X10_wet_44 (o : Nat) (a1 : Int32) (a2 : Int32) : Nat → Int32 → Int32 → bzS → Option (Int32 × bzS)
  | 0, _, _, _ => none
  | n + 1, v3, v4, σ1 => fb_X10_wet_44   (fl_X10_wet_44   o a1 a2 n) o a1 a2 v3 v4 σ1
def f_X10_wet (o : Nat) (a1 : Int32) (a2 : Int32) (σ : bzS) : Option (Int32 × bzS) :=
  bzGd (kd o = 10) (bzBd (f_X10_in a1 0 60) (fun x2 => if x2 = 0 then (bzBp (f_X10_errs o ((-1000000001)) σ) (fun x5 σ6 => some (x5, σ6))) else (bzBd (f_X10_in a2 1 99) (fun x8 => if x8 = 0 then (bzBp (f_X10_errs o ((-1000000001)) σ) (fun x23 σ24 => some (x23, σ24))) else (bzBd (f_X10_moveAll o ((ly o 0)) ((ly o 2)) σ) (fun σ11 => fl_X10_wet_44 o a1 a2 2000 0 0 σ11))))))
set_option maxHeartbeats 4000000 in
set_option maxRecDepth 20000 in
theorem mt_X10_wet {g : bzGeo} {o : Nat} {a1 : Int32} {a2 : Int32} {σ : bzS} {r0 : Int32} {σ0 : bzS} (l : Launch) (h : f_X10_wet  o a1 a2 σ = some (r0, σ0)) : Met l yX10_wet (Cond.code yX10_wet cX10_wet 5 (some .int) :: GW) (bzR (69)) (va_Pc [.ref (ga g o), .int a1, .int a2] (bzP g σ)) (va_Qi (fun (r : Int32) (u : bzS) => r = r0 ∧ u = σ0) (bzB g) (gA g)) 0 0 (gA g) := by
  unfold f_X10_wet at h
  obtain ⟨ho, h⟩ := bzGdE h
  refine j_start l (by decide +kernel) [.ref (ga g o), .int a1, .int a2] [(0, .ref (ga g o)), (1, .int a1), (2, .int a2)] (Nat.le_of_ble_eq_true rfl) rfl (fun x hF hG => ?_)
  have J44 : (K44 : Int32 → Int32 → bzS → Option (Int32 × bzS)) → (hK44 : ∀ (v3 : Int32) (v4 : Int32) (σ1 : bzS), K44 v3 v4 σ1 = some (r0, σ0) → bzJ g 5 x σ1 44 [(0, .ref (ga g o)), (1, .int a1), (2, .int a2), (3, .int v3), (4, .int v4)] []) → ∀ (v3 : Int32) (v4 : Int32) (σ1 : bzS), fb_X10_wet_44 K44 o a1 a2 v3 v4 σ1 = some (r0, σ0) → bzJ g 5 x σ1 44 [(0, .ref (ga g o)), (1, .int a1), (2, .int a2), (3, .int v3), (4, .int v4)] [] := by
    intro K44 hK44 v3 v4 σ1 h
    unfold fb_X10_wet_44 at h
    refine j_iload hF 4 dX10_wet_44 rfl ?_
    refine j_iload_n hF 1 dX10_wet_46 rfl ?_
    refine j_icmp_ge hF (tgt := 78) dX10_wet_47 (by decide) (fun c12 => ?_) (fun c12 => ?_)
    · replace h := bzIfT h c12
      refine j_aload_n hF 0 dX10_wet_78 rfl ?_
      refine j_aload_n hF 0 dX10_wet_79 rfl ?_
      refine gf_X10_16 hF ho dX10_wet_80 ?_
      refine j_aload_n hF 0 dX10_wet_83 rfl ?_
      refine gf_X10_7 hF ho dX10_wet_84 ?_
      obtain ⟨σ14, e13, h⟩ := bzBdE h
      refine cs_X10_167 hF ho (fun l => mt_X10_moveAll l e13) (by decide) (Nat.le_of_ble_eq_true rfl) dX10_wet_87 ?_
      refine j_iload_n hF 3 dX10_wet_90 rfl ?_
      exact j_iret hF hG dX10_wet_91 (bzRet h).1 (bzRet h).2
    · replace h := bzIfF h c12
      refine j_aload_n hF 0 dX10_wet_50 rfl ?_
      obtain ⟨σ16, e15, h⟩ := bzBdE h
      refine cs_X10_183 hF ho (fun l => mt_X10_oneYear l e15) (by decide) (Nat.le_of_ble_eq_true rfl) dX10_wet_51 ?_
      refine j_iload_n hF 3 dX10_wet_54 rfl ?_
      refine j_aload_n hF 0 dX10_wet_55 rfl ?_
      refine gf_X10_7 hF ho dX10_wet_56 ?_
      refine j_iconst hF (v := 5) dX10_wet_59 (by decide) ?_
      refine j_iald hF (c := 5) (kl_10_0 ho) (nl_10_0 ho) (by decide) (by decide) dX10_wet_60 ?_
      refine j_iload_n hF 2 dX10_wet_61 rfl ?_
      refine j_icmp_lt hF (tgt := 69) dX10_wet_62 (by decide) (fun c17 => ?_) (fun c17 => ?_)
      · replace h := bzIfT h c17
        refine j_iconst hF (v := 0) dX10_wet_69 (by decide) ?_
        refine j_iadd hF dX10_wet_70 ?_
        refine j_topi (fun x18 ex18 => ?_)
        replace h := bzLetE h ex18
        refine j_istore_n hF (lv1 := [(3, .int x18), (0, .ref (ga g o)), (1, .int a1), (2, .int a2), (4, .int v4)]) dX10_wet_71 (by decide) rfl ?_
        obtain ⟨x19, ex19⟩ : ∃ y : Int32, y = v4 + 1 := ⟨_, rfl⟩
        replace h := bzLetE h ex19
        refine j_iinc hF (v := x19) (lv1 := [(4, .int x19), (3, .int x18), (0, .ref (ga g o)), (1, .int a1), (2, .int a2)]) 4 dX10_wet_72 rfl (by rw [ex19]; rfl) (by decide) rfl ?_
        refine j_goto hF (tgt := 44) dX10_wet_75 (by decide) ?_
        refine j_sub [2, 3, 4, 1, 0] rfl ?_
        exact hK44 x18 x19 σ16 h
      · replace h := bzIfF h c17
        refine j_iconst hF (v := 1) dX10_wet_65 (by decide) ?_
        refine j_goto hF (tgt := 70) dX10_wet_66 (by decide) ?_
        refine j_iadd hF dX10_wet_70 ?_
        refine j_topi (fun x20 ex20 => ?_)
        replace h := bzLetE h ex20
        refine j_istore_n hF (lv1 := [(3, .int x20), (0, .ref (ga g o)), (1, .int a1), (2, .int a2), (4, .int v4)]) dX10_wet_71 (by decide) rfl ?_
        obtain ⟨x21, ex21⟩ : ∃ y : Int32, y = v4 + 1 := ⟨_, rfl⟩
        replace h := bzLetE h ex21
        refine j_iinc hF (v := x21) (lv1 := [(4, .int x21), (3, .int x20), (0, .ref (ga g o)), (1, .int a1), (2, .int a2)]) 4 dX10_wet_72 rfl (by rw [ex21]; rfl) (by decide) rfl ?_
        refine j_goto hF (tgt := 44) dX10_wet_75 (by decide) ?_
        refine j_sub [2, 3, 4, 1, 0] rfl ?_
        exact hK44 x20 x21 σ16 h
  have L44 : ∀ (n : Nat) (v3 : Int32) (v4 : Int32) (σ1 : bzS), fl_X10_wet_44   o a1 a2 n v3 v4 σ1 = some (r0, σ0) → bzJ g 5 x σ1 44 [(0, .ref (ga g o)), (1, .int a1), (2, .int a2), (3, .int v3), (4, .int v4)] [] := by
    intro  n
    induction n with
    | zero =>
      intro v3 v4 σ1  h
      cases h
    | succ n ih =>
      intro v3 v4 σ1  h
      exact J44  (fl_X10_wet_44   o a1 a2 n) ih v3 v4 σ1  h
  refine j_iload_n hF 1 dX10_wet_0 rfl ?_
  refine j_iconst hF (v := 0) dX10_wet_1 (by decide) ?_
  refine j_bipush hF (v := 60) dX10_wet_2 (by decide) ?_
  obtain ⟨x2, e1, h⟩ := bzBdE h
  refine cs_X10_51 hF (fun l => mt_X10_in l e1) (by decide) (Nat.le_of_ble_eq_true rfl) dX10_wet_4 ?_
  refine j_if_eq hF (tgt := 20) dX10_wet_7 (by decide) (fun c3 => ?_) (fun c3 => ?_)
  · replace h := bzIfT h c3
    refine j_aload_n hF 0 dX10_wet_20 rfl ?_
    refine j_ldc hF (v := (-1000000001)) kc_X10_59 dX10_wet_21 ?_
    obtain ⟨x5, σ6, e4, h⟩ := bzBpE h
    refine cs_X10_60 hF ho (fun l => mt_X10_errs l e4) (by decide) (Nat.le_of_ble_eq_true rfl) dX10_wet_23 ?_
    exact j_iret hF hG dX10_wet_26  (bzRet h).1 (bzRet h).2
  · replace h := bzIfF h c3
    refine j_iload_n hF 2 dX10_wet_10 rfl ?_
    refine j_iconst hF (v := 1) dX10_wet_11 (by decide) ?_
    refine j_bipush hF (v := 99) dX10_wet_12 (by decide) ?_
    obtain ⟨x8, e7, h⟩ := bzBdE h
    refine cs_X10_51 hF (fun l => mt_X10_in l e7) (by decide) (Nat.le_of_ble_eq_true rfl) dX10_wet_14 ?_
    refine j_if_ne hF (tgt := 27) dX10_wet_17 (by decide) (fun c9 => ?_) (fun c9 => ?_)
    · replace h := bzIfF h c9
      refine j_aload_n hF 0 dX10_wet_27 rfl ?_
      refine j_aload_n hF 0 dX10_wet_28 rfl ?_
      refine gf_X10_7 hF ho dX10_wet_29 ?_
      refine j_aload_n hF 0 dX10_wet_32 rfl ?_
      refine gf_X10_16 hF ho dX10_wet_33 ?_
      obtain ⟨σ11, e10, h⟩ := bzBdE h
      refine cs_X10_167 hF ho (fun l => mt_X10_moveAll l e10) (by decide) (Nat.le_of_ble_eq_true rfl) dX10_wet_36 ?_
      refine j_iconst hF (v := 0) dX10_wet_39 (by decide) ?_
      refine j_istore_n hF (lv1 := [(3, .int 0), (0, .ref (ga g o)), (1, .int a1), (2, .int a2)]) dX10_wet_40 (by decide) rfl ?_
      refine j_iconst hF (v := 0) dX10_wet_41 (by decide) ?_
      refine j_istore hF (lv1 := [(4, .int 0), (3, .int 0), (0, .ref (ga g o)), (1, .int a1), (2, .int a2)]) dX10_wet_42 (by decide) rfl ?_
      refine j_sub [2, 3, 4, 1, 0] rfl ?_
      exact L44 2000 0 0 σ11 h
    · replace h := bzIfT h c9
      refine j_aload_n hF 0 dX10_wet_20 rfl ?_
      refine j_ldc hF (v := (-1000000001)) kc_X10_59 dX10_wet_21 ?_
      obtain ⟨x23, σ24, e22, h⟩ := bzBpE h
      refine cs_X10_60 hF ho (fun l => mt_X10_errs l e22) (by decide) (Nat.le_of_ble_eq_true rfl) dX10_wet_23 ?_
      exact j_iret hF hG dX10_wet_26  (bzRet h).1 (bzRet h).2
def fb_X10_loudFor_53 (K53 : Int32 → Int32 → bzS → Option (Int32 × bzS)) (o : Nat) (a1 : Int32) (a2 : Int32) (a3 : Int32) (v4 : Int32) (v5 : Int32) (σ1 : bzS) : Option (Int32 × bzS) :=
  if 9 ≤ v4 then (if v5 = 0 then (bzBp (f_X10_errs o ((-1000000002)) σ1) (fun x21 σ22 => some (x21, σ22))) else (some (v4, σ1))) else (if v5 = 0 then (bzLet (v4 + 1) (fun x28 => bzBd (f_X10_puts o a1 2 x28 σ1) (fun σ30 => bzBp (f_X10_behind o a2 4 σ30) (fun x32 σ33 => if a3 < x32 then (K53 x28 0 σ33) else (K53 x28 1 σ33))))) else (if v5 = 0 then (bzBp (f_X10_errs o ((-1000000002)) σ1) (fun x26 σ27 => some (x26, σ27))) else (some (v4, σ1))))
def fl_X10_loudFor_53 (o : Nat) (a1 : Int32) (a2 : Int32) (a3 : Int32) : Nat → Int32 → Int32 → bzS → Option (Int32 × bzS)
  | 0, _, _, _ => none
  | n + 1, v4, v5, σ1 => fb_X10_loudFor_53   (fl_X10_loudFor_53   o a1 a2 a3 n) o a1 a2 a3 v4 v5 σ1
def f_X10_loudFor (o : Nat) (a1 : Int32) (a2 : Int32) (a3 : Int32) (σ : bzS) : Option (Int32 × bzS) :=
  bzGd (kd o = 10) (bzBd (f_X10_isVisitor o a1 σ) (fun x2 => if x2 = 0 then (bzBp (f_X10_errs o ((-1000000001)) σ) (fun x5 σ6 => some (x5, σ6))) else (bzBd (f_X10_in a2 0 60) (fun x8 => if x8 = 0 then (bzBp (f_X10_errs o ((-1000000001)) σ) (fun x11 σ12 => some (x11, σ12))) else (bzBd (f_X10_in a3 0 99) (fun x14 => if x14 = 0 then (bzBp (f_X10_errs o ((-1000000001)) σ) (fun x36 σ37 => some (x36, σ37))) else (bzBd (f_X10_moveAll o ((ly o 0)) ((ly o 2)) σ) (fun σ17 => fl_X10_loudFor_53 o a1 a2 a3 2000 ((-1)) 0 σ17))))))))
set_option maxHeartbeats 4000000 in
set_option maxRecDepth 20000 in
theorem mt_X10_loudFor {g : bzGeo} {o : Nat} {a1 : Int32} {a2 : Int32} {a3 : Int32} {σ : bzS} {r0 : Int32} {σ0 : bzS} (l : Launch) (h : f_X10_loudFor  o a1 a2 a3 σ = some (r0, σ0)) : Met l yX10_loudFor (Cond.code yX10_loudFor cX10_loudFor 6 (some .int) :: GW) (bzR (71)) (va_Pc [.ref (ga g o), .int a1, .int a2, .int a3] (bzP g σ)) (va_Qi (fun (r : Int32) (u : bzS) => r = r0 ∧ u = σ0) (bzB g) (gA g)) 0 0 (gA g) := by
  unfold f_X10_loudFor at h
  obtain ⟨ho, h⟩ := bzGdE h
  refine j_start l (by decide +kernel) [.ref (ga g o), .int a1, .int a2, .int a3] [(0, .ref (ga g o)), (1, .int a1), (2, .int a2), (3, .int a3)] (Nat.le_of_ble_eq_true rfl) rfl (fun x hF hG => ?_)
  have J53 : (K53 : Int32 → Int32 → bzS → Option (Int32 × bzS)) → (hK53 : ∀ (v4 : Int32) (v5 : Int32) (σ1 : bzS), K53 v4 v5 σ1 = some (r0, σ0) → bzJ g 6 x σ1 53 [(0, .ref (ga g o)), (1, .int a1), (2, .int a2), (3, .int a3), (4, .int v4), (5, .int v5)] []) → ∀ (v4 : Int32) (v5 : Int32) (σ1 : bzS), fb_X10_loudFor_53 K53 o a1 a2 a3 v4 v5 σ1 = some (r0, σ0) → bzJ g 6 x σ1 53 [(0, .ref (ga g o)), (1, .int a1), (2, .int a2), (3, .int a3), (4, .int v4), (5, .int v5)] [] := by
    intro K53 hK53 v4 v5 σ1 h
    unfold fb_X10_loudFor_53 at h
    refine j_iload hF 4 dX10_loudFor_53 rfl ?_
    refine j_bipush hF (v := 9) dX10_loudFor_55 (by decide) ?_
    refine j_icmp_ge hF (tgt := 96) dX10_loudFor_57 (by decide) (fun c18 => ?_) (fun c18 => ?_)
    · replace h := bzIfT h c18
      refine j_iload hF 5 dX10_loudFor_96 rfl ?_
      refine j_if_eq hF (tgt := 106) dX10_loudFor_98 (by decide) (fun c19 => ?_) (fun c19 => ?_)
      · replace h := bzIfT h c19
        refine j_aload_n hF 0 dX10_loudFor_106 rfl ?_
        refine j_ldc hF (v := (-1000000002)) kc_X10_198 dX10_loudFor_107 ?_
        obtain ⟨x21, σ22, e20, h⟩ := bzBpE h
        refine cs_X10_60 hF ho (fun l => mt_X10_errs l e20) (by decide) (Nat.le_of_ble_eq_true rfl) dX10_loudFor_109 ?_
        exact j_iret hF hG dX10_loudFor_112 (bzRet h).1 (bzRet h).2
      · replace h := bzIfF h c19
        refine j_iload hF 4 dX10_loudFor_101 rfl ?_
        refine j_goto hF (tgt := 112) dX10_loudFor_103 (by decide) ?_
        exact j_iret hF hG dX10_loudFor_112 (bzRet h).1 (bzRet h).2
    · replace h := bzIfF h c18
      refine j_iload hF 5 dX10_loudFor_60 rfl ?_
      refine j_if_ne hF (tgt := 96) dX10_loudFor_62 (by decide) (fun c23 => ?_) (fun c23 => ?_)
      · replace h := bzIfF h c23
        refine j_iload hF 5 dX10_loudFor_96 rfl ?_
        refine j_if_eq hF (tgt := 106) dX10_loudFor_98 (by decide) (fun c24 => ?_) (fun c24 => ?_)
        · replace h := bzIfT h c24
          refine j_aload_n hF 0 dX10_loudFor_106 rfl ?_
          refine j_ldc hF (v := (-1000000002)) kc_X10_198 dX10_loudFor_107 ?_
          obtain ⟨x26, σ27, e25, h⟩ := bzBpE h
          refine cs_X10_60 hF ho (fun l => mt_X10_errs l e25) (by decide) (Nat.le_of_ble_eq_true rfl) dX10_loudFor_109 ?_
          exact j_iret hF hG dX10_loudFor_112 (bzRet h).1 (bzRet h).2
        · replace h := bzIfF h c24
          refine j_iload hF 4 dX10_loudFor_101 rfl ?_
          refine j_goto hF (tgt := 112) dX10_loudFor_103 (by decide) ?_
          exact j_iret hF hG dX10_loudFor_112 (bzRet h).1 (bzRet h).2
      · replace h := bzIfT h c23
        obtain ⟨x28, ex28⟩ : ∃ y : Int32, y = v4 + 1 := ⟨_, rfl⟩
        replace h := bzLetE h ex28
        refine j_iinc hF (v := x28) (lv1 := [(4, .int x28), (0, .ref (ga g o)), (1, .int a1), (2, .int a2), (3, .int a3), (5, .int v5)]) 4 dX10_loudFor_65 rfl (by rw [ex28]; rfl) (by decide) rfl ?_
        refine j_aload_n hF 1 dX10_loudFor_68 rfl ?_
        refine j_iload_n hF 2 dX10_loudFor_69 rfl ?_
        refine j_iconst hF (v := 2) dX10_loudFor_70 (by decide) ?_
        refine j_iload hF 0 dX10_loudFor_71 rfl ?_
        obtain ⟨σ30, e29, h⟩ := bzBdE h
        refine cs_X10_76 hF ho (fun l => mt_X10_puts l e29) (by decide) (Nat.le_of_ble_eq_true rfl) dX10_loudFor_73 ?_
        refine j_aload_n hF 1 dX10_loudFor_76 rfl ?_
        refine j_iload_n hF 3 dX10_loudFor_77 rfl ?_
        refine j_iconst hF (v := 4) dX10_loudFor_78 (by decide) ?_
        obtain ⟨x32, σ33, e31, h⟩ := bzBpE h
        refine cs_X10_195 hF ho (fun l => mt_X10_behind l e31) (by decide) (Nat.le_of_ble_eq_true rfl) dX10_loudFor_79 ?_
        refine j_iload_n hF 4 dX10_loudFor_82 rfl ?_
        refine j_icmp_gt hF (tgt := 90) dX10_loudFor_83 (by decide) (fun c34 => ?_) (fun c34 => ?_)
        · replace h := bzIfT h c34
          refine j_iconst hF (v := 0) dX10_loudFor_90 (by decide) ?_
          refine j_istore hF (lv1 := [(5, .int 0), (4, .int x28), (0, .ref (ga g o)), (1, .int a1), (2, .int a2), (3, .int a3)]) dX10_loudFor_91 (by decide) rfl ?_
          refine j_goto hF (tgt := 53) dX10_loudFor_93 (by decide) ?_
          refine j_sub [2, 3, 4, 5, 1, 0] rfl ?_
          exact hK53 x28 0 σ33 h
        · replace h := bzIfF h c34
          refine j_iconst hF (v := 1) dX10_loudFor_86 (by decide) ?_
          refine j_goto hF (tgt := 91) dX10_loudFor_87 (by decide) ?_
          refine j_istore hF (lv1 := [(5, .int 1), (4, .int x28), (0, .ref (ga g o)), (1, .int a1), (2, .int a2), (3, .int a3)]) dX10_loudFor_91 (by decide) rfl ?_
          refine j_goto hF (tgt := 53) dX10_loudFor_93 (by decide) ?_
          refine j_sub [2, 3, 4, 5, 1, 0] rfl ?_
          exact hK53 x28 1 σ33 h
  have L53 : ∀ (n : Nat) (v4 : Int32) (v5 : Int32) (σ1 : bzS), fl_X10_loudFor_53   o a1 a2 a3 n v4 v5 σ1 = some (r0, σ0) → bzJ g 6 x σ1 53 [(0, .ref (ga g o)), (1, .int a1), (2, .int a2), (3, .int a3), (4, .int v4), (5, .int v5)] [] := by
    intro  n
    induction n with
    | zero =>
      intro v4 v5 σ1  h
      cases h
    | succ n ih =>
      intro v4 v5 σ1  h
      exact J53  (fl_X10_loudFor_53   o a1 a2 a3 n) ih v4 v5 σ1  h
  refine j_aload_n hF 0 dX10_loudFor_0 rfl ?_
  refine j_iload_n hF 1 dX10_loudFor_1 rfl ?_
  obtain ⟨x2, e1, h⟩ := bzBdE h
  refine cs_X10_80 hF ho (fun l => mt_X10_isVisitor l e1) (by decide) (Nat.le_of_ble_eq_true rfl) dX10_loudFor_2 ?_
  refine j_if_eq hF (tgt := 28) dX10_loudFor_5 (by decide) (fun c3 => ?_) (fun c3 => ?_)
  · replace h := bzIfT h c3
    refine j_aload_n hF 0 dX10_loudFor_28 rfl ?_
    refine j_ldc hF (v := (-1000000001)) kc_X10_59 dX10_loudFor_29 ?_
    obtain ⟨x5, σ6, e4, h⟩ := bzBpE h
    refine cs_X10_60 hF ho (fun l => mt_X10_errs l e4) (by decide) (Nat.le_of_ble_eq_true rfl) dX10_loudFor_31 ?_
    exact j_iret hF hG dX10_loudFor_34  (bzRet h).1 (bzRet h).2
  · replace h := bzIfF h c3
    refine j_iload_n hF 2 dX10_loudFor_8 rfl ?_
    refine j_iconst hF (v := 0) dX10_loudFor_9 (by decide) ?_
    refine j_bipush hF (v := 60) dX10_loudFor_10 (by decide) ?_
    obtain ⟨x8, e7, h⟩ := bzBdE h
    refine cs_X10_51 hF (fun l => mt_X10_in l e7) (by decide) (Nat.le_of_ble_eq_true rfl) dX10_loudFor_12 ?_
    refine j_if_eq hF (tgt := 28) dX10_loudFor_15 (by decide) (fun c9 => ?_) (fun c9 => ?_)
    · replace h := bzIfT h c9
      refine j_aload_n hF 0 dX10_loudFor_28 rfl ?_
      refine j_ldc hF (v := (-1000000001)) kc_X10_59 dX10_loudFor_29 ?_
      obtain ⟨x11, σ12, e10, h⟩ := bzBpE h
      refine cs_X10_60 hF ho (fun l => mt_X10_errs l e10) (by decide) (Nat.le_of_ble_eq_true rfl) dX10_loudFor_31 ?_
      exact j_iret hF hG dX10_loudFor_34  (bzRet h).1 (bzRet h).2
    · replace h := bzIfF h c9
      refine j_iload_n hF 3 dX10_loudFor_18 rfl ?_
      refine j_iconst hF (v := 0) dX10_loudFor_19 (by decide) ?_
      refine j_bipush hF (v := 99) dX10_loudFor_20 (by decide) ?_
      obtain ⟨x14, e13, h⟩ := bzBdE h
      refine cs_X10_51 hF (fun l => mt_X10_in l e13) (by decide) (Nat.le_of_ble_eq_true rfl) dX10_loudFor_22 ?_
      refine j_if_ne hF (tgt := 35) dX10_loudFor_25 (by decide) (fun c15 => ?_) (fun c15 => ?_)
      · replace h := bzIfF h c15
        refine j_aload_n hF 0 dX10_loudFor_35 rfl ?_
        refine j_aload_n hF 0 dX10_loudFor_36 rfl ?_
        refine gf_X10_7 hF ho dX10_loudFor_37 ?_
        refine j_aload_n hF 0 dX10_loudFor_40 rfl ?_
        refine gf_X10_16 hF ho dX10_loudFor_41 ?_
        obtain ⟨σ17, e16, h⟩ := bzBdE h
        refine cs_X10_167 hF ho (fun l => mt_X10_moveAll l e16) (by decide) (Nat.le_of_ble_eq_true rfl) dX10_loudFor_44 ?_
        refine j_iconst hF (v := (-1)) dX10_loudFor_47 (by decide) ?_
        refine j_istore hF (lv1 := [(4, .int (-1)), (0, .ref (ga g o)), (1, .int a1), (2, .int a2), (3, .int a3)]) dX10_loudFor_48 (by decide) rfl ?_
        refine j_iconst hF (v := 0) dX10_loudFor_50 (by decide) ?_
        refine j_istore hF (lv1 := [(5, .int 0), (4, .int (-1)), (0, .ref (ga g o)), (1, .int a1), (2, .int a2), (3, .int a3)]) dX10_loudFor_51 (by decide) rfl ?_
        refine j_sub [2, 3, 4, 5, 1, 0] rfl ?_
        exact L53 2000 ((-1)) 0 σ17 h
      · replace h := bzIfT h c15
        refine j_aload_n hF 0 dX10_loudFor_28 rfl ?_
        refine j_ldc hF (v := (-1000000001)) kc_X10_59 dX10_loudFor_29 ?_
        obtain ⟨x36, σ37, e35, h⟩ := bzBpE h
        refine cs_X10_60 hF ho (fun l => mt_X10_errs l e35) (by decide) (Nat.le_of_ble_eq_true rfl) dX10_loudFor_31 ?_
        exact j_iret hF hG dX10_loudFor_34  (bzRet h).1 (bzRet h).2
def fb_X10_everyFor_46 (K46 : Int32 → Int32 → Int32 → bzS → Option (Int32 × bzS)) (o : Nat) (a1 : Int32) (a2 : Int32) (v3 : Int32) (v4 : Int32) (v5 : Int32) (σ1 : bzS) : Option (Int32 × bzS) :=
  if 12 < v5 then (some (v3, σ1)) else (bzBd (f_X10_puts o a1 3 v5 σ1) (fun σ14 => bzBp (f_X10_behind o a2 4 σ14) (fun x16 σ17 => if v4 ≤ x16 then (if v4 ≤ x16 then (bzLet (v5 + 1) (fun x20 => K46 v3 v4 x20 σ17)) else (bzLet (v5 + 1) (fun x21 => K46 v3 x16 x21 σ17))) else (if v4 ≤ x16 then (bzLet (v5 + 1) (fun x23 => K46 v5 v4 x23 σ17)) else (bzLet (v5 + 1) (fun x24 => K46 v5 x16 x24 σ17))))))
def fl_X10_everyFor_46 (o : Nat) (a1 : Int32) (a2 : Int32) : Nat → Int32 → Int32 → Int32 → bzS → Option (Int32 × bzS)
  | 0, _, _, _, _ => none
  | n + 1, v3, v4, v5, σ1 => fb_X10_everyFor_46   (fl_X10_everyFor_46   o a1 a2 n) o a1 a2 v3 v4 v5 σ1
def f_X10_everyFor (o : Nat) (a1 : Int32) (a2 : Int32) (σ : bzS) : Option (Int32 × bzS) :=
  bzGd (kd o = 10) (bzBd (f_X10_isVisitor o a1 σ) (fun x2 => if x2 = 0 then (bzBp (f_X10_errs o ((-1000000001)) σ) (fun x5 σ6 => some (x5, σ6))) else (bzBd (f_X10_in a2 0 60) (fun x8 => if x8 = 0 then (bzBp (f_X10_errs o ((-1000000001)) σ) (fun x26 σ27 => some (x26, σ27))) else (bzBd (f_X10_moveAll o ((ly o 0)) ((ly o 2)) σ) (fun σ11 => fl_X10_everyFor_46 o a1 a2 2000 0 100 1 σ11))))))
set_option maxHeartbeats 4000000 in
set_option maxRecDepth 20000 in
theorem mt_X10_everyFor {g : bzGeo} {o : Nat} {a1 : Int32} {a2 : Int32} {σ : bzS} {r0 : Int32} {σ0 : bzS} (l : Launch) (h : f_X10_everyFor  o a1 a2 σ = some (r0, σ0)) : Met l yX10_everyFor (Cond.code yX10_everyFor cX10_everyFor 7 (some .int) :: GW) (bzR (71)) (va_Pc [.ref (ga g o), .int a1, .int a2] (bzP g σ)) (va_Qi (fun (r : Int32) (u : bzS) => r = r0 ∧ u = σ0) (bzB g) (gA g)) 0 0 (gA g) := by
  unfold f_X10_everyFor at h
  obtain ⟨ho, h⟩ := bzGdE h
  refine j_start l (by decide +kernel) [.ref (ga g o), .int a1, .int a2] [(0, .ref (ga g o)), (1, .int a1), (2, .int a2)] (Nat.le_of_ble_eq_true rfl) rfl (fun x hF hG => ?_)
  have J46 : (K46 : Int32 → Int32 → Int32 → bzS → Option (Int32 × bzS)) → (hK46 : ∀ (v3 : Int32) (v4 : Int32) (v5 : Int32) (σ1 : bzS), K46 v3 v4 v5 σ1 = some (r0, σ0) → bzJ g 7 x σ1 46 [(0, .ref (ga g o)), (1, .int a1), (2, .int a2), (3, .int v3), (4, .int v4), (5, .int v5)] []) → ∀ (v3 : Int32) (v4 : Int32) (v5 : Int32) (σ1 : bzS), fb_X10_everyFor_46 K46 o a1 a2 v3 v4 v5 σ1 = some (r0, σ0) → bzJ g 7 x σ1 46 [(0, .ref (ga g o)), (1, .int a1), (2, .int a2), (3, .int v3), (4, .int v4), (5, .int v5)] [] := by
    intro K46 hK46 v3 v4 v5 σ1 h
    unfold fb_X10_everyFor_46 at h
    refine j_iload hF 5 dX10_everyFor_46 rfl ?_
    refine j_bipush hF (v := 12) dX10_everyFor_48 (by decide) ?_
    refine j_icmp_gt hF (tgt := 105) dX10_everyFor_50 (by decide) (fun c12 => ?_) (fun c12 => ?_)
    · replace h := bzIfT h c12
      refine j_iload_n hF 3 dX10_everyFor_105 rfl ?_
      exact j_iret hF hG dX10_everyFor_106 (bzRet h).1 (bzRet h).2
    · replace h := bzIfF h c12
      refine j_aload_n hF 0 dX10_everyFor_53 rfl ?_
      refine j_iload_n hF 1 dX10_everyFor_54 rfl ?_
      refine j_iconst hF (v := 3) dX10_everyFor_55 (by decide) ?_
      refine j_iload hF 5 dX10_everyFor_56 rfl ?_
      obtain ⟨σ14, e13, h⟩ := bzBdE h
      refine cs_X10_76 hF ho (fun l => mt_X10_puts l e13) (by decide) (Nat.le_of_ble_eq_true rfl) dX10_everyFor_58 ?_
      refine j_aload_n hF 0 dX10_everyFor_61 rfl ?_
      refine j_iload_n hF 2 dX10_everyFor_62 rfl ?_
      refine j_iconst hF (v := 4) dX10_everyFor_63 (by decide) ?_
      obtain ⟨x16, σ17, e15, h⟩ := bzBpE h
      refine cs_X10_195 hF ho (fun l => mt_X10_behind l e15) (by decide) (Nat.le_of_ble_eq_true rfl) dX10_everyFor_64 ?_
      refine j_istore hF (lv1 := [(6, .int x16), (0, .ref (ga g o)), (1, .int a1), (2, .int a2), (3, .int v3), (4, .int v4), (5, .int v5)]) dX10_everyFor_67 (by decide) rfl ?_
      refine j_iload hF 0 dX10_everyFor_69 rfl ?_
      refine j_iload hF 5 dX10_everyFor_71 rfl ?_
      refine j_icmp_ge hF (tgt := 81) dX10_everyFor_73 (by decide) (fun c18 => ?_) (fun c18 => ?_)
      · replace h := bzIfT h c18
        refine j_iload_n hF 4 dX10_everyFor_81 rfl ?_
        refine j_istore_n hF (lv1 := [(3, .int v3), (6, .int x16), (0, .ref (ga g o)), (1, .int a1), (2, .int a2), (4, .int v4), (5, .int v5)]) dX10_everyFor_82 (by decide) rfl ?_
        refine j_iload hF 1 dX10_everyFor_83 rfl ?_
        refine j_iload hF 5 dX10_everyFor_85 rfl ?_
        refine j_icmp_ge hF (tgt := 95) dX10_everyFor_87 (by decide) (fun c19 => ?_) (fun c19 => ?_)
        · replace h := bzIfT h c19
          refine j_iload hF 5 dX10_everyFor_95 rfl ?_
          refine j_istore hF (lv1 := [(4, .int v4), (3, .int v3), (6, .int x16), (0, .ref (ga g o)), (1, .int a1), (2, .int a2), (5, .int v5)]) dX10_everyFor_97 (by decide) rfl ?_
          obtain ⟨x20, ex20⟩ : ∃ y : Int32, y = v5 + 1 := ⟨_, rfl⟩
          replace h := bzLetE h ex20
          refine j_iinc hF (v := x20) (lv1 := [(5, .int x20), (4, .int v4), (3, .int v3), (6, .int x16), (0, .ref (ga g o)), (1, .int a1), (2, .int a2)]) 6 dX10_everyFor_99 rfl (by rw [ex20]; rfl) (by decide) rfl ?_
          refine j_goto hF (tgt := 46) dX10_everyFor_102 (by decide) ?_
          refine j_sub [4, 5, 6, 2, 1, 0] rfl ?_
          exact hK46 v3 v4 x20 σ17 h
        · replace h := bzIfF h c19
          refine j_iload hF 1 dX10_everyFor_90 rfl ?_
          refine j_goto hF (tgt := 97) dX10_everyFor_92 (by decide) ?_
          refine j_istore hF (lv1 := [(4, .int x16), (3, .int v3), (6, .int x16), (0, .ref (ga g o)), (1, .int a1), (2, .int a2), (5, .int v5)]) dX10_everyFor_97 (by decide) rfl ?_
          obtain ⟨x21, ex21⟩ : ∃ y : Int32, y = v5 + 1 := ⟨_, rfl⟩
          replace h := bzLetE h ex21
          refine j_iinc hF (v := x21) (lv1 := [(5, .int x21), (4, .int x16), (3, .int v3), (6, .int x16), (0, .ref (ga g o)), (1, .int a1), (2, .int a2)]) 6 dX10_everyFor_99 rfl (by rw [ex21]; rfl) (by decide) rfl ?_
          refine j_goto hF (tgt := 46) dX10_everyFor_102 (by decide) ?_
          refine j_sub [4, 5, 6, 2, 1, 0] rfl ?_
          exact hK46 v3 x16 x21 σ17 h
      · replace h := bzIfF h c18
        refine j_iload hF 6 dX10_everyFor_76 rfl ?_
        refine j_goto hF (tgt := 82) dX10_everyFor_78 (by decide) ?_
        refine j_istore_n hF (lv1 := [(3, .int v5), (6, .int x16), (0, .ref (ga g o)), (1, .int a1), (2, .int a2), (4, .int v4), (5, .int v5)]) dX10_everyFor_82 (by decide) rfl ?_
        refine j_iload hF 1 dX10_everyFor_83 rfl ?_
        refine j_iload hF 5 dX10_everyFor_85 rfl ?_
        refine j_icmp_ge hF (tgt := 95) dX10_everyFor_87 (by decide) (fun c22 => ?_) (fun c22 => ?_)
        · replace h := bzIfT h c22
          refine j_iload hF 5 dX10_everyFor_95 rfl ?_
          refine j_istore hF (lv1 := [(4, .int v4), (3, .int v5), (6, .int x16), (0, .ref (ga g o)), (1, .int a1), (2, .int a2), (5, .int v5)]) dX10_everyFor_97 (by decide) rfl ?_
          obtain ⟨x23, ex23⟩ : ∃ y : Int32, y = v5 + 1 := ⟨_, rfl⟩
          replace h := bzLetE h ex23
          refine j_iinc hF (v := x23) (lv1 := [(5, .int x23), (4, .int v4), (3, .int v5), (6, .int x16), (0, .ref (ga g o)), (1, .int a1), (2, .int a2)]) 6 dX10_everyFor_99 rfl (by rw [ex23]; rfl) (by decide) rfl ?_
          refine j_goto hF (tgt := 46) dX10_everyFor_102 (by decide) ?_
          refine j_sub [4, 5, 6, 2, 1, 0] rfl ?_
          exact hK46 v5 v4 x23 σ17 h
        · replace h := bzIfF h c22
          refine j_iload hF 1 dX10_everyFor_90 rfl ?_
          refine j_goto hF (tgt := 97) dX10_everyFor_92 (by decide) ?_
          refine j_istore hF (lv1 := [(4, .int x16), (3, .int v5), (6, .int x16), (0, .ref (ga g o)), (1, .int a1), (2, .int a2), (5, .int v5)]) dX10_everyFor_97 (by decide) rfl ?_
          obtain ⟨x24, ex24⟩ : ∃ y : Int32, y = v5 + 1 := ⟨_, rfl⟩
          replace h := bzLetE h ex24
          refine j_iinc hF (v := x24) (lv1 := [(5, .int x24), (4, .int x16), (3, .int v5), (6, .int x16), (0, .ref (ga g o)), (1, .int a1), (2, .int a2)]) 6 dX10_everyFor_99 rfl (by rw [ex24]; rfl) (by decide) rfl ?_
          refine j_goto hF (tgt := 46) dX10_everyFor_102 (by decide) ?_
          refine j_sub [4, 5, 6, 2, 1, 0] rfl ?_
          exact hK46 v5 x16 x24 σ17 h
  have L46 : ∀ (n : Nat) (v3 : Int32) (v4 : Int32) (v5 : Int32) (σ1 : bzS), fl_X10_everyFor_46   o a1 a2 n v3 v4 v5 σ1 = some (r0, σ0) → bzJ g 7 x σ1 46 [(0, .ref (ga g o)), (1, .int a1), (2, .int a2), (3, .int v3), (4, .int v4), (5, .int v5)] [] := by
    intro  n
    induction n with
    | zero =>
      intro v3 v4 v5 σ1  h
      cases h
    | succ n ih =>
      intro v3 v4 v5 σ1  h
      exact J46  (fl_X10_everyFor_46   o a1 a2 n) ih v3 v4 v5 σ1  h
  refine j_aload_n hF 0 dX10_everyFor_0 rfl ?_
  refine j_iload_n hF 1 dX10_everyFor_1 rfl ?_
  obtain ⟨x2, e1, h⟩ := bzBdE h
  refine cs_X10_80 hF ho (fun l => mt_X10_isVisitor l e1) (by decide) (Nat.le_of_ble_eq_true rfl) dX10_everyFor_2 ?_
  refine j_if_eq hF (tgt := 18) dX10_everyFor_5 (by decide) (fun c3 => ?_) (fun c3 => ?_)
  · replace h := bzIfT h c3
    refine j_aload_n hF 0 dX10_everyFor_18 rfl ?_
    refine j_ldc hF (v := (-1000000001)) kc_X10_59 dX10_everyFor_19 ?_
    obtain ⟨x5, σ6, e4, h⟩ := bzBpE h
    refine cs_X10_60 hF ho (fun l => mt_X10_errs l e4) (by decide) (Nat.le_of_ble_eq_true rfl) dX10_everyFor_21 ?_
    exact j_iret hF hG dX10_everyFor_24  (bzRet h).1 (bzRet h).2
  · replace h := bzIfF h c3
    refine j_iload_n hF 2 dX10_everyFor_8 rfl ?_
    refine j_iconst hF (v := 0) dX10_everyFor_9 (by decide) ?_
    refine j_bipush hF (v := 60) dX10_everyFor_10 (by decide) ?_
    obtain ⟨x8, e7, h⟩ := bzBdE h
    refine cs_X10_51 hF (fun l => mt_X10_in l e7) (by decide) (Nat.le_of_ble_eq_true rfl) dX10_everyFor_12 ?_
    refine j_if_ne hF (tgt := 25) dX10_everyFor_15 (by decide) (fun c9 => ?_) (fun c9 => ?_)
    · replace h := bzIfF h c9
      refine j_aload_n hF 0 dX10_everyFor_25 rfl ?_
      refine j_aload_n hF 0 dX10_everyFor_26 rfl ?_
      refine gf_X10_7 hF ho dX10_everyFor_27 ?_
      refine j_aload_n hF 0 dX10_everyFor_30 rfl ?_
      refine gf_X10_16 hF ho dX10_everyFor_31 ?_
      obtain ⟨σ11, e10, h⟩ := bzBdE h
      refine cs_X10_167 hF ho (fun l => mt_X10_moveAll l e10) (by decide) (Nat.le_of_ble_eq_true rfl) dX10_everyFor_34 ?_
      refine j_iconst hF (v := 0) dX10_everyFor_37 (by decide) ?_
      refine j_istore_n hF (lv1 := [(3, .int 0), (0, .ref (ga g o)), (1, .int a1), (2, .int a2)]) dX10_everyFor_38 (by decide) rfl ?_
      refine j_bipush hF (v := 100) dX10_everyFor_39 (by decide) ?_
      refine j_istore hF (lv1 := [(4, .int 100), (3, .int 0), (0, .ref (ga g o)), (1, .int a1), (2, .int a2)]) dX10_everyFor_41 (by decide) rfl ?_
      refine j_iconst hF (v := 1) dX10_everyFor_43 (by decide) ?_
      refine j_istore hF (lv1 := [(5, .int 1), (4, .int 100), (3, .int 0), (0, .ref (ga g o)), (1, .int a1), (2, .int a2)]) dX10_everyFor_44 (by decide) rfl ?_
      refine j_sub [3, 4, 5, 2, 1, 0] rfl ?_
      exact L46 2000 0 100 1 σ11 h
    · replace h := bzIfT h c9
      refine j_aload_n hF 0 dX10_everyFor_18 rfl ?_
      refine j_ldc hF (v := (-1000000001)) kc_X10_59 dX10_everyFor_19 ?_
      obtain ⟨x26, σ27, e25, h⟩ := bzBpE h
      refine cs_X10_60 hF ho (fun l => mt_X10_errs l e25) (by decide) (Nat.le_of_ble_eq_true rfl) dX10_everyFor_21 ?_
      exact j_iret hF hG dX10_everyFor_24  (bzRet h).1 (bzRet h).2
def fb_X10_needless_41 (K41 : Int32 → Int32 → Int32 → bzS → Option (Int32 × bzS)) (o : Nat) (a1 : Int32) (v2 : Int32) (v3 : Int32) (v4 : Int32) (σ1 : bzS) : Option (Int32 × bzS) :=
  if (σ1 (ly o 0) 2) ≤ v4 then (bzLet (bzSt σ1 o 7 (-1)) (fun σ10 => some (v3, σ10))) else (bzLet (bzSt σ1 o 7 v4) (fun σ11 => bzBp (f_X10_behind o a1 4 σ11) (fun x13 σ14 => if v2 < x13 then (bzLet ((v3 ||| 0)) (fun x16 => bzLet (v4 + 1) (fun x17 => K41 v2 x16 x17 σ14))) else (bzLet ((v3 ||| (1 <<< (v4 &&& 31)))) (fun x18 => bzLet (v4 + 1) (fun x19 => K41 v2 x18 x19 σ14))))))
def fl_X10_needless_41 (o : Nat) (a1 : Int32) : Nat → Int32 → Int32 → Int32 → bzS → Option (Int32 × bzS)
  | 0, _, _, _, _ => none
  | n + 1, v2, v3, v4, σ1 => fb_X10_needless_41   (fl_X10_needless_41   o a1 n) o a1 v2 v3 v4 σ1
def f_X10_needless (o : Nat) (a1 : Int32) (σ : bzS) : Option (Int32 × bzS) :=
  bzGd (kd o = 10) (bzBd (f_X10_in a1 0 60) (fun x2 => if x2 = 0 then (bzBp (f_X10_errs o ((-1000000001)) σ) (fun x21 σ22 => some (x21, σ22))) else (bzBd (f_X10_moveAll o ((ly o 0)) ((ly o 2)) σ) (fun σ5 => bzBp (f_X10_behind o a1 4 σ5) (fun x7 σ8 => fl_X10_needless_41 o a1 2000 x7 0 0 σ8)))))
set_option maxHeartbeats 4000000 in
set_option maxRecDepth 20000 in
theorem mt_X10_needless {g : bzGeo} {o : Nat} {a1 : Int32} {σ : bzS} {r0 : Int32} {σ0 : bzS} (l : Launch) (h : f_X10_needless  o a1 σ = some (r0, σ0)) : Met l yX10_needless (Cond.code yX10_needless cX10_needless 5 (some .int) :: GW) (bzR (71)) (va_Pc [.ref (ga g o), .int a1] (bzP g σ)) (va_Qi (fun (r : Int32) (u : bzS) => r = r0 ∧ u = σ0) (bzB g) (gA g)) 0 0 (gA g) := by
  unfold f_X10_needless at h
  obtain ⟨ho, h⟩ := bzGdE h
  refine j_start l (by decide +kernel) [.ref (ga g o), .int a1] [(0, .ref (ga g o)), (1, .int a1)] (Nat.le_of_ble_eq_true rfl) rfl (fun x hF hG => ?_)
  have J41 : (K41 : Int32 → Int32 → Int32 → bzS → Option (Int32 × bzS)) → (hK41 : ∀ (v2 : Int32) (v3 : Int32) (v4 : Int32) (σ1 : bzS), K41 v2 v3 v4 σ1 = some (r0, σ0) → bzJ g 5 x σ1 41 [(0, .ref (ga g o)), (1, .int a1), (2, .int v2), (3, .int v3), (4, .int v4)] []) → ∀ (v2 : Int32) (v3 : Int32) (v4 : Int32) (σ1 : bzS), fb_X10_needless_41 K41 o a1 v2 v3 v4 σ1 = some (r0, σ0) → bzJ g 5 x σ1 41 [(0, .ref (ga g o)), (1, .int a1), (2, .int v2), (3, .int v3), (4, .int v4)] [] := by
    intro K41 hK41 v2 v3 v4 σ1 h
    unfold fb_X10_needless_41 at h
    refine j_iload hF 4 dX10_needless_41 rfl ?_
    refine j_aload_n hF 0 dX10_needless_43 rfl ?_
    refine gf_X10_7 hF ho dX10_needless_44 ?_
    refine j_iconst hF (v := 2) dX10_needless_47 (by decide) ?_
    refine j_iald hF (c := 2) (kl_10_0 ho) (nl_10_0 ho) (by decide) (by decide) dX10_needless_48 ?_
    refine j_icmp_ge hF (tgt := 85) dX10_needless_49 (by decide) (fun c9 => ?_) (fun c9 => ?_)
    · replace h := bzIfT h c9
      refine j_aload_n hF 0 dX10_needless_85 rfl ?_
      refine j_iconst hF (v := (-1)) dX10_needless_86 (by decide) ?_
      refine pf_X10_25 hF ho dX10_needless_87 ?_
      refine j_s (fun σ10 eσ10 => ?_)
      replace h := bzLetE h eσ10
      refine j_iload_n hF 3 dX10_needless_90 rfl ?_
      exact j_iret hF hG dX10_needless_91 (bzRet h).1 (bzRet h).2
    · replace h := bzIfF h c9
      refine j_aload_n hF 0 dX10_needless_52 rfl ?_
      refine j_iload hF 4 dX10_needless_53 rfl ?_
      refine pf_X10_25 hF ho dX10_needless_55 ?_
      refine j_s (fun σ11 eσ11 => ?_)
      replace h := bzLetE h eσ11
      refine j_iload_n hF 3 dX10_needless_58 rfl ?_
      refine j_aload_n hF 0 dX10_needless_59 rfl ?_
      refine j_iload_n hF 1 dX10_needless_60 rfl ?_
      refine j_iconst hF (v := 4) dX10_needless_61 (by decide) ?_
      obtain ⟨x13, σ14, e12, h⟩ := bzBpE h
      refine cs_X10_195 hF ho (fun l => mt_X10_behind l e12) (by decide) (Nat.le_of_ble_eq_true rfl) dX10_needless_62 ?_
      refine j_iload_n hF 2 dX10_needless_65 rfl ?_
      refine j_icmp_gt hF (tgt := 76) dX10_needless_66 (by decide) (fun c15 => ?_) (fun c15 => ?_)
      · replace h := bzIfT h c15
        refine j_iconst hF (v := 0) dX10_needless_76 (by decide) ?_
        refine j_ior hF dX10_needless_77 ?_
        refine j_topi (fun x16 ex16 => ?_)
        replace h := bzLetE h ex16
        refine j_istore_n hF (lv1 := [(3, .int x16), (0, .ref (ga g o)), (1, .int a1), (2, .int v2), (4, .int v4)]) dX10_needless_78 (by decide) rfl ?_
        obtain ⟨x17, ex17⟩ : ∃ y : Int32, y = v4 + 1 := ⟨_, rfl⟩
        replace h := bzLetE h ex17
        refine j_iinc hF (v := x17) (lv1 := [(4, .int x17), (3, .int x16), (0, .ref (ga g o)), (1, .int a1), (2, .int v2)]) 4 dX10_needless_79 rfl (by rw [ex17]; rfl) (by decide) rfl ?_
        refine j_goto hF (tgt := 41) dX10_needless_82 (by decide) ?_
        refine j_sub [2, 3, 4, 1, 0] rfl ?_
        exact hK41 v2 x16 x17 σ14 h
      · replace h := bzIfF h c15
        refine j_iconst hF (v := 1) dX10_needless_69 (by decide) ?_
        refine j_iload hF 4 dX10_needless_70 rfl ?_
        refine j_ishl hF dX10_needless_72 ?_
        refine j_goto hF (tgt := 77) dX10_needless_73 (by decide) ?_
        refine j_ior hF dX10_needless_77 ?_
        refine j_topi (fun x18 ex18 => ?_)
        replace h := bzLetE h ex18
        refine j_istore_n hF (lv1 := [(3, .int x18), (0, .ref (ga g o)), (1, .int a1), (2, .int v2), (4, .int v4)]) dX10_needless_78 (by decide) rfl ?_
        obtain ⟨x19, ex19⟩ : ∃ y : Int32, y = v4 + 1 := ⟨_, rfl⟩
        replace h := bzLetE h ex19
        refine j_iinc hF (v := x19) (lv1 := [(4, .int x19), (3, .int x18), (0, .ref (ga g o)), (1, .int a1), (2, .int v2)]) 4 dX10_needless_79 rfl (by rw [ex19]; rfl) (by decide) rfl ?_
        refine j_goto hF (tgt := 41) dX10_needless_82 (by decide) ?_
        refine j_sub [2, 3, 4, 1, 0] rfl ?_
        exact hK41 v2 x18 x19 σ14 h
  have L41 : ∀ (n : Nat) (v2 : Int32) (v3 : Int32) (v4 : Int32) (σ1 : bzS), fl_X10_needless_41   o a1 n v2 v3 v4 σ1 = some (r0, σ0) → bzJ g 5 x σ1 41 [(0, .ref (ga g o)), (1, .int a1), (2, .int v2), (3, .int v3), (4, .int v4)] [] := by
    intro  n
    induction n with
    | zero =>
      intro v2 v3 v4 σ1  h
      cases h
    | succ n ih =>
      intro v2 v3 v4 σ1  h
      exact J41  (fl_X10_needless_41   o a1 n) ih v2 v3 v4 σ1  h
  refine j_iload_n hF 1 dX10_needless_0 rfl ?_
  refine j_iconst hF (v := 0) dX10_needless_1 (by decide) ?_
  refine j_bipush hF (v := 60) dX10_needless_2 (by decide) ?_
  obtain ⟨x2, e1, h⟩ := bzBdE h
  refine cs_X10_51 hF (fun l => mt_X10_in l e1) (by decide) (Nat.le_of_ble_eq_true rfl) dX10_needless_4 ?_
  refine j_if_ne hF (tgt := 17) dX10_needless_7 (by decide) (fun c3 => ?_) (fun c3 => ?_)
  · replace h := bzIfF h c3
    refine j_aload_n hF 0 dX10_needless_17 rfl ?_
    refine j_aload_n hF 0 dX10_needless_18 rfl ?_
    refine gf_X10_7 hF ho dX10_needless_19 ?_
    refine j_aload_n hF 0 dX10_needless_22 rfl ?_
    refine gf_X10_16 hF ho dX10_needless_23 ?_
    obtain ⟨σ5, e4, h⟩ := bzBdE h
    refine cs_X10_167 hF ho (fun l => mt_X10_moveAll l e4) (by decide) (Nat.le_of_ble_eq_true rfl) dX10_needless_26 ?_
    refine j_aload_n hF 0 dX10_needless_29 rfl ?_
    refine j_iload_n hF 1 dX10_needless_30 rfl ?_
    refine j_iconst hF (v := 4) dX10_needless_31 (by decide) ?_
    obtain ⟨x7, σ8, e6, h⟩ := bzBpE h
    refine cs_X10_195 hF ho (fun l => mt_X10_behind l e6) (by decide) (Nat.le_of_ble_eq_true rfl) dX10_needless_32 ?_
    refine j_istore_n hF (lv1 := [(2, .int x7), (0, .ref (ga g o)), (1, .int a1)]) dX10_needless_35 (by decide) rfl ?_
    refine j_iconst hF (v := 0) dX10_needless_36 (by decide) ?_
    refine j_istore_n hF (lv1 := [(3, .int 0), (2, .int x7), (0, .ref (ga g o)), (1, .int a1)]) dX10_needless_37 (by decide) rfl ?_
    refine j_iconst hF (v := 0) dX10_needless_38 (by decide) ?_
    refine j_istore hF (lv1 := [(4, .int 0), (3, .int 0), (2, .int x7), (0, .ref (ga g o)), (1, .int a1)]) dX10_needless_39 (by decide) rfl ?_
    refine j_sub [3, 4, 2, 1, 0] rfl ?_
    exact L41 2000 x7 0 0 σ8 h
  · replace h := bzIfT h c3
    refine j_aload_n hF 0 dX10_needless_10 rfl ?_
    refine j_ldc hF (v := (-1000000001)) kc_X10_59 dX10_needless_11 ?_
    obtain ⟨x21, σ22, e20, h⟩ := bzBpE h
    refine cs_X10_60 hF ho (fun l => mt_X10_errs l e20) (by decide) (Nat.le_of_ble_eq_true rfl) dX10_needless_13 ?_
    exact j_iret hF hG dX10_needless_16  (bzRet h).1 (bzRet h).2
def f_X10_isSheet (a0 : Int32) : Option Int32 :=
  bzBd (f_X10_in a0 0 3) (fun x2 => bzGd (x2 = 0 ∨ x2 = 1) (some x2))
set_option maxHeartbeats 4000000 in
set_option maxRecDepth 20000 in
theorem mt_X10_isSheet {g : bzGeo} {a0 : Int32} {σ : bzS} {r0 : Int32} (l : Launch) (h : f_X10_isSheet  a0 = some r0) : Met l yX10_isSheet (Cond.code yX10_isSheet cX10_isSheet 1 (some .boolean) :: GW) (bzR (2)) (va_Pc [.int a0] (bzP g σ)) (va_Qi (fun (r : Int32) (u : bzS) => r = r0 ∧ u = σ) (bzB g) (gA g)) 0 0 (gA g) := by
  unfold f_X10_isSheet at h
  refine j_start l (by decide +kernel) [.int a0] [(0, .int a0)] (Nat.le_of_ble_eq_true rfl) rfl (fun x hF hG => ?_)
  refine j_iload_n hF 0 dX10_isSheet_0 rfl ?_
  refine j_iconst hF (v := 0) dX10_isSheet_1 (by decide) ?_
  refine j_iconst hF (v := 3) dX10_isSheet_2 (by decide) ?_
  obtain ⟨x2, e1, h⟩ := bzBdE h
  refine cs_X10_51 hF (fun l => mt_X10_in l e1) (by decide) (Nat.le_of_ble_eq_true rfl) dX10_isSheet_3 ?_
  obtain ⟨g3, h⟩ := bzGdE h
  exact j_zret hF hG dX10_isSheet_6 (bz01 g3)  (Option.some.inj h) rfl
def fb_X10_leansSo_4 (K4 : Int32 → Int32 → bzS → Option (Int32 × bzS)) (o : Nat) (a1 : Int32) (v2 : Int32) (v3 : Int32) (σ1 : bzS) : Option (Int32 × bzS) :=
  bzGd (bzIn a1 4) (if (σ1 (ly o 17) a1.toNatClampNeg) ≤ v3 then (bzBd (f_X10_moveAll o ((ly o 2)) ((ly o 0)) σ1) (fun σ4 => bzGd (v2 = 0 ∨ v2 = 1) (some (v2, σ4)))) else (if v2 = 0 then (bzBd (f_X10_moveAll o ((ly o 2)) ((ly o 0)) σ1) (fun σ8 => bzGd (v2 = 0 ∨ v2 = 1) (some (v2, σ8)))) else (bzBd (f_X10_oneYear o σ1) (fun σ11 => bzGd (bzIn ((40 * a1) + v3) 160) (if (σ11 (ly o 18) ((((40 * a1) + v3)).toNatClampNeg)) = (σ11 (ly o 0) 4) then (bzLet (v3 + 1) (fun x15 => K4 1 x15 σ11)) else (bzLet (v3 + 1) (fun x14 => K4 0 x14 σ11)))))))
def fl_X10_leansSo_4 (o : Nat) (a1 : Int32) : Nat → Int32 → Int32 → bzS → Option (Int32 × bzS)
  | 0, _, _, _ => none
  | n + 1, v2, v3, σ1 => fb_X10_leansSo_4   (fl_X10_leansSo_4   o a1 n) o a1 v2 v3 σ1
def f_X10_leansSo (o : Nat) (a1 : Int32) (σ : bzS) : Option (Int32 × bzS) :=
  bzGd (kd o = 10) (fl_X10_leansSo_4 o a1 2000 1 0 σ)
set_option maxHeartbeats 4000000 in
set_option maxRecDepth 20000 in
theorem mt_X10_leansSo {g : bzGeo} {o : Nat} {a1 : Int32} {σ : bzS} {r0 : Int32} {σ0 : bzS} (l : Launch) (h : f_X10_leansSo  o a1 σ = some (r0, σ0)) : Met l yX10_leansSo (Cond.code yX10_leansSo cX10_leansSo 4 (some .boolean) :: GW) (bzR (69)) (va_Pc [.ref (ga g o), .int a1] (bzP g σ)) (va_Qi (fun (r : Int32) (u : bzS) => r = r0 ∧ u = σ0) (bzB g) (gA g)) 0 0 (gA g) := by
  unfold f_X10_leansSo at h
  obtain ⟨ho, h⟩ := bzGdE h
  refine j_start l (by decide +kernel) [.ref (ga g o), .int a1] [(0, .ref (ga g o)), (1, .int a1)] (Nat.le_of_ble_eq_true rfl) rfl (fun x hF hG => ?_)
  have J4 : (K4 : Int32 → Int32 → bzS → Option (Int32 × bzS)) → (hK4 : ∀ (v2 : Int32) (v3 : Int32) (σ1 : bzS), K4 v2 v3 σ1 = some (r0, σ0) → bzJ g 4 x σ1 4 [(0, .ref (ga g o)), (1, .int a1), (2, .int v2), (3, .int v3)] []) → ∀ (v2 : Int32) (v3 : Int32) (σ1 : bzS), fb_X10_leansSo_4 K4 o a1 v2 v3 σ1 = some (r0, σ0) → bzJ g 4 x σ1 4 [(0, .ref (ga g o)), (1, .int a1), (2, .int v2), (3, .int v3)] [] := by
    intro K4 hK4 v2 v3 σ1 h
    unfold fb_X10_leansSo_4 at h
    refine j_iload_n hF 3 dX10_leansSo_4 rfl ?_
    refine j_aload_n hF 0 dX10_leansSo_5 rfl ?_
    refine gf_X10_32 hF ho dX10_leansSo_6 ?_
    refine j_iload_n hF 1 dX10_leansSo_9 rfl ?_
    obtain ⟨g1, h⟩ := bzGdE h
    refine j_iald hF (c := a1.toNatClampNeg) (kl_10_17 ho) (nl_10_17 ho) g1 rfl dX10_leansSo_10 ?_
    refine j_icmp_ge hF (tgt := 54) dX10_leansSo_11 (by decide) (fun c2 => ?_) (fun c2 => ?_)
    · replace h := bzIfT h c2
      refine j_aload_n hF 0 dX10_leansSo_54 rfl ?_
      refine j_aload_n hF 0 dX10_leansSo_55 rfl ?_
      refine gf_X10_16 hF ho dX10_leansSo_56 ?_
      refine j_aload_n hF 0 dX10_leansSo_59 rfl ?_
      refine gf_X10_7 hF ho dX10_leansSo_60 ?_
      obtain ⟨σ4, e3, h⟩ := bzBdE h
      refine cs_X10_167 hF ho (fun l => mt_X10_moveAll l e3) (by decide) (Nat.le_of_ble_eq_true rfl) dX10_leansSo_63 ?_
      refine j_iload_n hF 2 dX10_leansSo_66 rfl ?_
      obtain ⟨g5, h⟩ := bzGdE h
      exact j_zret hF hG dX10_leansSo_67 (bz01 g5) (bzRet h).1 (bzRet h).2
    · replace h := bzIfF h c2
      refine j_iload_n hF 2 dX10_leansSo_14 rfl ?_
      refine j_if_eq hF (tgt := 54) dX10_leansSo_15 (by decide) (fun c6 => ?_) (fun c6 => ?_)
      · replace h := bzIfT h c6
        refine j_aload_n hF 0 dX10_leansSo_54 rfl ?_
        refine j_aload_n hF 0 dX10_leansSo_55 rfl ?_
        refine gf_X10_16 hF ho dX10_leansSo_56 ?_
        refine j_aload_n hF 0 dX10_leansSo_59 rfl ?_
        refine gf_X10_7 hF ho dX10_leansSo_60 ?_
        obtain ⟨σ8, e7, h⟩ := bzBdE h
        refine cs_X10_167 hF ho (fun l => mt_X10_moveAll l e7) (by decide) (Nat.le_of_ble_eq_true rfl) dX10_leansSo_63 ?_
        refine j_iload_n hF 2 dX10_leansSo_66 rfl ?_
        obtain ⟨g9, h⟩ := bzGdE h
        exact j_zret hF hG dX10_leansSo_67 (bz01 g9) (bzRet h).1 (bzRet h).2
      · replace h := bzIfF h c6
        refine j_aload_n hF 0 dX10_leansSo_18 rfl ?_
        obtain ⟨σ11, e10, h⟩ := bzBdE h
        refine cs_X10_183 hF ho (fun l => mt_X10_oneYear l e10) (by decide) (Nat.le_of_ble_eq_true rfl) dX10_leansSo_19 ?_
        refine j_aload_n hF 0 dX10_leansSo_22 rfl ?_
        refine gf_X10_35 hF ho dX10_leansSo_23 ?_
        refine j_bipush hF (v := 40) dX10_leansSo_26 (by decide) ?_
        refine j_iload_n hF 1 dX10_leansSo_28 rfl ?_
        refine j_imul hF dX10_leansSo_29 ?_
        refine j_iload_n hF 3 dX10_leansSo_30 rfl ?_
        refine j_iadd hF dX10_leansSo_31 ?_
        obtain ⟨g12, h⟩ := bzGdE h
        refine j_iald hF (c := (((40 * a1) + v3)).toNatClampNeg) (kl_10_18 ho) (nl_10_18 ho) g12 rfl dX10_leansSo_32 ?_
        refine j_aload_n hF 0 dX10_leansSo_33 rfl ?_
        refine gf_X10_7 hF ho dX10_leansSo_34 ?_
        refine j_iconst hF (v := 4) dX10_leansSo_37 (by decide) ?_
        refine j_iald hF (c := 4) (kl_10_0 ho) (nl_10_0 ho) (by decide) (by decide) dX10_leansSo_38 ?_
        refine j_icmp_ne hF (tgt := 46) dX10_leansSo_39 (by decide) (fun c13 => ?_) (fun c13 => ?_)
        · replace h := bzIfF h c13
          refine j_iconst hF (v := 0) dX10_leansSo_46 (by decide) ?_
          refine j_istore_n hF (lv1 := [(2, .int 0), (0, .ref (ga g o)), (1, .int a1), (3, .int v3)]) dX10_leansSo_47 (by decide) rfl ?_
          obtain ⟨x14, ex14⟩ : ∃ y : Int32, y = v3 + 1 := ⟨_, rfl⟩
          replace h := bzLetE h ex14
          refine j_iinc hF (v := x14) (lv1 := [(3, .int x14), (2, .int 0), (0, .ref (ga g o)), (1, .int a1)]) 3 dX10_leansSo_48 rfl (by rw [ex14]; rfl) (by decide) rfl ?_
          refine j_goto hF (tgt := 4) dX10_leansSo_51 (by decide) ?_
          refine j_sub [2, 3, 1, 0] rfl ?_
          exact hK4 0 x14 σ11 h
        · replace h := bzIfT h c13
          refine j_iconst hF (v := 1) dX10_leansSo_42 (by decide) ?_
          refine j_goto hF (tgt := 47) dX10_leansSo_43 (by decide) ?_
          refine j_istore_n hF (lv1 := [(2, .int 1), (0, .ref (ga g o)), (1, .int a1), (3, .int v3)]) dX10_leansSo_47 (by decide) rfl ?_
          obtain ⟨x15, ex15⟩ : ∃ y : Int32, y = v3 + 1 := ⟨_, rfl⟩
          replace h := bzLetE h ex15
          refine j_iinc hF (v := x15) (lv1 := [(3, .int x15), (2, .int 1), (0, .ref (ga g o)), (1, .int a1)]) 3 dX10_leansSo_48 rfl (by rw [ex15]; rfl) (by decide) rfl ?_
          refine j_goto hF (tgt := 4) dX10_leansSo_51 (by decide) ?_
          refine j_sub [2, 3, 1, 0] rfl ?_
          exact hK4 1 x15 σ11 h
  have L4 : ∀ (n : Nat) (v2 : Int32) (v3 : Int32) (σ1 : bzS), fl_X10_leansSo_4   o a1 n v2 v3 σ1 = some (r0, σ0) → bzJ g 4 x σ1 4 [(0, .ref (ga g o)), (1, .int a1), (2, .int v2), (3, .int v3)] [] := by
    intro  n
    induction n with
    | zero =>
      intro v2 v3 σ1  h
      cases h
    | succ n ih =>
      intro v2 v3 σ1  h
      exact J4  (fl_X10_leansSo_4   o a1 n) ih v2 v3 σ1  h
  refine j_iconst hF (v := 1) dX10_leansSo_0 (by decide) ?_
  refine j_istore_n hF (lv1 := [(2, .int 1), (0, .ref (ga g o)), (1, .int a1)]) dX10_leansSo_1 (by decide) rfl ?_
  refine j_iconst hF (v := 0) dX10_leansSo_2 (by decide) ?_
  refine j_istore_n hF (lv1 := [(3, .int 0), (2, .int 1), (0, .ref (ga g o)), (1, .int a1)]) dX10_leansSo_3 (by decide) rfl ?_
  refine j_sub [2, 3, 1, 0] rfl ?_
  exact L4 2000 1 0 σ h
def fb_X10_wanted_61 (K61 : Int32 → Int32 → Int32 → bzS → Option (Int32 × bzS)) (o : Nat) (a1 : Int32) (a2 : Int32) (v3 : Int32) (v4 : Int32) (v5 : Int32) (σ1 : bzS) : Option (Int32 × bzS) :=
  if v5 < 0 then (if a2 = 0 then (some (v3, σ1)) else (if 0 ≤ v4 then (some (v4, σ1)) else (bzBp (f_X10_errs o ((-1000000002)) σ1) (fun x18 σ19 => some (x18, σ19))))) else (bzLet (bzSt σ1 (ly o 0) 3 v5) (fun σ20 => bzBp (f_X10_leansSo o a1 σ20) (fun x22 σ23 => if x22 = 0 then (bzLet ((v3 + 0)) (fun x25 => if x22 = 0 then (bzLet (v5 + (-1)) (fun x27 => K61 x25 v4 x27 σ23)) else (bzLet (v5 + (-1)) (fun x28 => K61 x25 v5 x28 σ23)))) else (bzLet ((v3 + 1)) (fun x29 => if x22 = 0 then (bzLet (v5 + (-1)) (fun x31 => K61 x29 v4 x31 σ23)) else (bzLet (v5 + (-1)) (fun x32 => K61 x29 v5 x32 σ23)))))))
def fl_X10_wanted_61 (o : Nat) (a1 : Int32) (a2 : Int32) : Nat → Int32 → Int32 → Int32 → bzS → Option (Int32 × bzS)
  | 0, _, _, _, _ => none
  | n + 1, v3, v4, v5, σ1 => fb_X10_wanted_61   (fl_X10_wanted_61   o a1 a2 n) o a1 a2 v3 v4 v5 σ1
def f_X10_wanted (o : Nat) (a1 : Int32) (a2 : Int32) (σ : bzS) : Option (Int32 × bzS) :=
  bzGd (kd o = 10) (bzBd (f_X10_isSheet a1) (fun x2 => if x2 = 0 then (bzBp (f_X10_errs o ((-1000000001)) σ) (fun x5 σ6 => some (x5, σ6))) else (bzBd (f_X10_in a2 0 1) (fun x8 => if x8 = 0 then (bzBp (f_X10_errs o ((-1000000001)) σ) (fun x37 σ38 => some (x37, σ38))) else (bzGd (bzIn a1 4) (if (σ (ly o 16) a1.toNatClampNeg) = 0 then (bzBp (f_X10_errs o ((-1000000002)) σ) (fun x34 σ35 => some (x34, σ35))) else (bzBd (f_X10_moveAll o ((ly o 0)) ((ly o 2)) σ) (fun σ13 => fl_X10_wanted_61 o a1 a2 2000 0 ((-1000000002)) 99 σ13))))))))
set_option maxHeartbeats 4000000 in
set_option maxRecDepth 20000 in
theorem mt_X10_wanted {g : bzGeo} {o : Nat} {a1 : Int32} {a2 : Int32} {σ : bzS} {r0 : Int32} {σ0 : bzS} (l : Launch) (h : f_X10_wanted  o a1 a2 σ = some (r0, σ0)) : Met l yX10_wanted (Cond.code yX10_wanted cX10_wanted 7 (some .int) :: GW) (bzR (70)) (va_Pc [.ref (ga g o), .int a1, .int a2] (bzP g σ)) (va_Qi (fun (r : Int32) (u : bzS) => r = r0 ∧ u = σ0) (bzB g) (gA g)) 0 0 (gA g) := by
  unfold f_X10_wanted at h
  obtain ⟨ho, h⟩ := bzGdE h
  refine j_start l (by decide +kernel) [.ref (ga g o), .int a1, .int a2] [(0, .ref (ga g o)), (1, .int a1), (2, .int a2)] (Nat.le_of_ble_eq_true rfl) rfl (fun x hF hG => ?_)
  have J61 : (K61 : Int32 → Int32 → Int32 → bzS → Option (Int32 × bzS)) → (hK61 : ∀ (v3 : Int32) (v4 : Int32) (v5 : Int32) (σ1 : bzS), K61 v3 v4 v5 σ1 = some (r0, σ0) → bzJ g 7 x σ1 61 [(0, .ref (ga g o)), (1, .int a1), (2, .int a2), (3, .int v3), (4, .int v4), (5, .int v5)] []) → ∀ (v3 : Int32) (v4 : Int32) (v5 : Int32) (σ1 : bzS), fb_X10_wanted_61 K61 o a1 a2 v3 v4 v5 σ1 = some (r0, σ0) → bzJ g 7 x σ1 61 [(0, .ref (ga g o)), (1, .int a1), (2, .int a2), (3, .int v3), (4, .int v4), (5, .int v5)] [] := by
    intro K61 hK61 v3 v4 v5 σ1 h
    unfold fb_X10_wanted_61 at h
    refine j_iload hF 5 dX10_wanted_61 rfl ?_
    refine j_if_lt hF (tgt := 114) dX10_wanted_63 (by decide) (fun c14 => ?_) (fun c14 => ?_)
    · replace h := bzIfT h c14
      refine j_iload_n hF 2 dX10_wanted_114 rfl ?_
      refine j_if_ne hF (tgt := 122) dX10_wanted_115 (by decide) (fun c15 => ?_) (fun c15 => ?_)
      · replace h := bzIfF h c15
        refine j_iload hF 4 dX10_wanted_122 rfl ?_
        refine j_if_ge hF (tgt := 136) dX10_wanted_124 (by decide) (fun c16 => ?_) (fun c16 => ?_)
        · replace h := bzIfT h c16
          refine j_iload hF 4 dX10_wanted_136 rfl ?_
          exact j_iret hF hG dX10_wanted_138 (bzRet h).1 (bzRet h).2
        · replace h := bzIfF h c16
          refine j_aload_n hF 0 dX10_wanted_127 rfl ?_
          refine j_ldc hF (v := (-1000000002)) kc_X10_198 dX10_wanted_128 ?_
          obtain ⟨x18, σ19, e17, h⟩ := bzBpE h
          refine cs_X10_60 hF ho (fun l => mt_X10_errs l e17) (by decide) (Nat.le_of_ble_eq_true rfl) dX10_wanted_130 ?_
          refine j_goto hF (tgt := 138) dX10_wanted_133 (by decide) ?_
          exact j_iret hF hG dX10_wanted_138 (bzRet h).1 (bzRet h).2
      · replace h := bzIfT h c15
        refine j_iload_n hF 3 dX10_wanted_118 rfl ?_
        refine j_goto hF (tgt := 138) dX10_wanted_119 (by decide) ?_
        exact j_iret hF hG dX10_wanted_138 (bzRet h).1 (bzRet h).2
    · replace h := bzIfF h c14
      refine j_aload_n hF 0 dX10_wanted_66 rfl ?_
      refine gf_X10_7 hF ho dX10_wanted_67 ?_
      refine j_iconst hF (v := 3) dX10_wanted_70 (by decide) ?_
      refine j_iload hF 5 dX10_wanted_71 rfl ?_
      refine j_iast hF (c := 3) (kl_10_0 ho) (nl_10_0 ho) (by decide) (by decide) dX10_wanted_73 ?_
      refine j_s (fun σ20 eσ20 => ?_)
      replace h := bzLetE h eσ20
      refine j_aload_n hF 0 dX10_wanted_74 rfl ?_
      refine j_iload_n hF 1 dX10_wanted_75 rfl ?_
      obtain ⟨x22, σ23, e21, h⟩ := bzBpE h
      refine cs_X10_202 hF ho (fun l => mt_X10_leansSo l e21) (by decide) (Nat.le_of_ble_eq_true rfl) dX10_wanted_76 ?_
      refine j_istore hF (lv1 := [(6, .int x22), (0, .ref (ga g o)), (1, .int a1), (2, .int a2), (3, .int v3), (4, .int v4), (5, .int v5)]) dX10_wanted_79 (by decide) rfl ?_
      refine j_iload_n hF 4 dX10_wanted_81 rfl ?_
      refine j_iload hF 0 dX10_wanted_82 rfl ?_
      refine j_if_eq hF (tgt := 91) dX10_wanted_84 (by decide) (fun c24 => ?_) (fun c24 => ?_)
      · replace h := bzIfT h c24
        refine j_iconst hF (v := 0) dX10_wanted_91 (by decide) ?_
        refine j_iadd hF dX10_wanted_92 ?_
        refine j_topi (fun x25 ex25 => ?_)
        replace h := bzLetE h ex25
        refine j_istore_n hF (lv1 := [(3, .int x25), (6, .int x22), (0, .ref (ga g o)), (1, .int a1), (2, .int a2), (4, .int v4), (5, .int v5)]) dX10_wanted_93 (by decide) rfl ?_
        refine j_iload hF 1 dX10_wanted_94 rfl ?_
        refine j_if_eq hF (tgt := 104) dX10_wanted_96 (by decide) (fun c26 => ?_) (fun c26 => ?_)
        · replace h := bzIfT h c26
          refine j_iload hF 5 dX10_wanted_104 rfl ?_
          refine j_istore hF (lv1 := [(4, .int v4), (3, .int x25), (6, .int x22), (0, .ref (ga g o)), (1, .int a1), (2, .int a2), (5, .int v5)]) dX10_wanted_106 (by decide) rfl ?_
          obtain ⟨x27, ex27⟩ : ∃ y : Int32, y = v5 + (-1) := ⟨_, rfl⟩
          replace h := bzLetE h ex27
          refine j_iinc hF (v := x27) (lv1 := [(5, .int x27), (4, .int v4), (3, .int x25), (6, .int x22), (0, .ref (ga g o)), (1, .int a1), (2, .int a2)]) 6 dX10_wanted_108 rfl (by rw [ex27]; rfl) (by decide) rfl ?_
          refine j_goto hF (tgt := 61) dX10_wanted_111 (by decide) ?_
          refine j_sub [4, 5, 6, 2, 1, 0] rfl ?_
          exact hK61 x25 v4 x27 σ23 h
        · replace h := bzIfF h c26
          refine j_iload hF 6 dX10_wanted_99 rfl ?_
          refine j_goto hF (tgt := 106) dX10_wanted_101 (by decide) ?_
          refine j_istore hF (lv1 := [(4, .int v5), (3, .int x25), (6, .int x22), (0, .ref (ga g o)), (1, .int a1), (2, .int a2), (5, .int v5)]) dX10_wanted_106 (by decide) rfl ?_
          obtain ⟨x28, ex28⟩ : ∃ y : Int32, y = v5 + (-1) := ⟨_, rfl⟩
          replace h := bzLetE h ex28
          refine j_iinc hF (v := x28) (lv1 := [(5, .int x28), (4, .int v5), (3, .int x25), (6, .int x22), (0, .ref (ga g o)), (1, .int a1), (2, .int a2)]) 6 dX10_wanted_108 rfl (by rw [ex28]; rfl) (by decide) rfl ?_
          refine j_goto hF (tgt := 61) dX10_wanted_111 (by decide) ?_
          refine j_sub [4, 5, 6, 2, 1, 0] rfl ?_
          exact hK61 x25 v5 x28 σ23 h
      · replace h := bzIfF h c24
        refine j_iconst hF (v := 1) dX10_wanted_87 (by decide) ?_
        refine j_goto hF (tgt := 92) dX10_wanted_88 (by decide) ?_
        refine j_iadd hF dX10_wanted_92 ?_
        refine j_topi (fun x29 ex29 => ?_)
        replace h := bzLetE h ex29
        refine j_istore_n hF (lv1 := [(3, .int x29), (6, .int x22), (0, .ref (ga g o)), (1, .int a1), (2, .int a2), (4, .int v4), (5, .int v5)]) dX10_wanted_93 (by decide) rfl ?_
        refine j_iload hF 1 dX10_wanted_94 rfl ?_
        refine j_if_eq hF (tgt := 104) dX10_wanted_96 (by decide) (fun c30 => ?_) (fun c30 => ?_)
        · replace h := bzIfT h c30
          refine j_iload hF 5 dX10_wanted_104 rfl ?_
          refine j_istore hF (lv1 := [(4, .int v4), (3, .int x29), (6, .int x22), (0, .ref (ga g o)), (1, .int a1), (2, .int a2), (5, .int v5)]) dX10_wanted_106 (by decide) rfl ?_
          obtain ⟨x31, ex31⟩ : ∃ y : Int32, y = v5 + (-1) := ⟨_, rfl⟩
          replace h := bzLetE h ex31
          refine j_iinc hF (v := x31) (lv1 := [(5, .int x31), (4, .int v4), (3, .int x29), (6, .int x22), (0, .ref (ga g o)), (1, .int a1), (2, .int a2)]) 6 dX10_wanted_108 rfl (by rw [ex31]; rfl) (by decide) rfl ?_
          refine j_goto hF (tgt := 61) dX10_wanted_111 (by decide) ?_
          refine j_sub [4, 5, 6, 2, 1, 0] rfl ?_
          exact hK61 x29 v4 x31 σ23 h
        · replace h := bzIfF h c30
          refine j_iload hF 6 dX10_wanted_99 rfl ?_
          refine j_goto hF (tgt := 106) dX10_wanted_101 (by decide) ?_
          refine j_istore hF (lv1 := [(4, .int v5), (3, .int x29), (6, .int x22), (0, .ref (ga g o)), (1, .int a1), (2, .int a2), (5, .int v5)]) dX10_wanted_106 (by decide) rfl ?_
          obtain ⟨x32, ex32⟩ : ∃ y : Int32, y = v5 + (-1) := ⟨_, rfl⟩
          replace h := bzLetE h ex32
          refine j_iinc hF (v := x32) (lv1 := [(5, .int x32), (4, .int v5), (3, .int x29), (6, .int x22), (0, .ref (ga g o)), (1, .int a1), (2, .int a2)]) 6 dX10_wanted_108 rfl (by rw [ex32]; rfl) (by decide) rfl ?_
          refine j_goto hF (tgt := 61) dX10_wanted_111 (by decide) ?_
          refine j_sub [4, 5, 6, 2, 1, 0] rfl ?_
          exact hK61 x29 v5 x32 σ23 h
  have L61 : ∀ (n : Nat) (v3 : Int32) (v4 : Int32) (v5 : Int32) (σ1 : bzS), fl_X10_wanted_61   o a1 a2 n v3 v4 v5 σ1 = some (r0, σ0) → bzJ g 7 x σ1 61 [(0, .ref (ga g o)), (1, .int a1), (2, .int a2), (3, .int v3), (4, .int v4), (5, .int v5)] [] := by
    intro  n
    induction n with
    | zero =>
      intro v3 v4 v5 σ1  h
      cases h
    | succ n ih =>
      intro v3 v4 v5 σ1  h
      exact J61  (fl_X10_wanted_61   o a1 a2 n) ih v3 v4 v5 σ1  h
  refine j_iload_n hF 1 dX10_wanted_0 rfl ?_
  obtain ⟨x2, e1, h⟩ := bzBdE h
  refine cs_X10_199 hF (fun l => mt_X10_isSheet l e1) (by decide) (Nat.le_of_ble_eq_true rfl) dX10_wanted_1 ?_
  refine j_if_eq hF (tgt := 16) dX10_wanted_4 (by decide) (fun c3 => ?_) (fun c3 => ?_)
  · replace h := bzIfT h c3
    refine j_aload_n hF 0 dX10_wanted_16 rfl ?_
    refine j_ldc hF (v := (-1000000001)) kc_X10_59 dX10_wanted_17 ?_
    obtain ⟨x5, σ6, e4, h⟩ := bzBpE h
    refine cs_X10_60 hF ho (fun l => mt_X10_errs l e4) (by decide) (Nat.le_of_ble_eq_true rfl) dX10_wanted_19 ?_
    exact j_iret hF hG dX10_wanted_22  (bzRet h).1 (bzRet h).2
  · replace h := bzIfF h c3
    refine j_iload_n hF 2 dX10_wanted_7 rfl ?_
    refine j_iconst hF (v := 0) dX10_wanted_8 (by decide) ?_
    refine j_iconst hF (v := 1) dX10_wanted_9 (by decide) ?_
    obtain ⟨x8, e7, h⟩ := bzBdE h
    refine cs_X10_51 hF (fun l => mt_X10_in l e7) (by decide) (Nat.le_of_ble_eq_true rfl) dX10_wanted_10 ?_
    refine j_if_ne hF (tgt := 23) dX10_wanted_13 (by decide) (fun c9 => ?_) (fun c9 => ?_)
    · replace h := bzIfF h c9
      refine j_aload_n hF 0 dX10_wanted_23 rfl ?_
      refine gf_X10_29 hF ho dX10_wanted_24 ?_
      refine j_iload_n hF 1 dX10_wanted_27 rfl ?_
      obtain ⟨g10, h⟩ := bzGdE h
      refine j_iald hF (c := a1.toNatClampNeg) (kl_10_16 ho) (nl_10_16 ho) g10 rfl dX10_wanted_28 ?_
      refine j_if_ne hF (tgt := 39) dX10_wanted_29 (by decide) (fun c11 => ?_) (fun c11 => ?_)
      · replace h := bzIfF h c11
        refine j_aload_n hF 0 dX10_wanted_39 rfl ?_
        refine j_aload_n hF 0 dX10_wanted_40 rfl ?_
        refine gf_X10_7 hF ho dX10_wanted_41 ?_
        refine j_aload_n hF 0 dX10_wanted_44 rfl ?_
        refine gf_X10_16 hF ho dX10_wanted_45 ?_
        obtain ⟨σ13, e12, h⟩ := bzBdE h
        refine cs_X10_167 hF ho (fun l => mt_X10_moveAll l e12) (by decide) (Nat.le_of_ble_eq_true rfl) dX10_wanted_48 ?_
        refine j_iconst hF (v := 0) dX10_wanted_51 (by decide) ?_
        refine j_istore_n hF (lv1 := [(3, .int 0), (0, .ref (ga g o)), (1, .int a1), (2, .int a2)]) dX10_wanted_52 (by decide) rfl ?_
        refine j_ldc hF (v := (-1000000002)) kc_X10_198 dX10_wanted_53 ?_
        refine j_istore hF (lv1 := [(4, .int (-1000000002)), (3, .int 0), (0, .ref (ga g o)), (1, .int a1), (2, .int a2)]) dX10_wanted_55 (by decide) rfl ?_
        refine j_bipush hF (v := 99) dX10_wanted_57 (by decide) ?_
        refine j_istore hF (lv1 := [(5, .int 99), (4, .int (-1000000002)), (3, .int 0), (0, .ref (ga g o)), (1, .int a1), (2, .int a2)]) dX10_wanted_59 (by decide) rfl ?_
        refine j_sub [3, 4, 5, 2, 1, 0] rfl ?_
        exact L61 2000 0 ((-1000000002)) 99 σ13 h
      · replace h := bzIfT h c11
        refine j_aload_n hF 0 dX10_wanted_32 rfl ?_
        refine j_ldc hF (v := (-1000000002)) kc_X10_198 dX10_wanted_33 ?_
        obtain ⟨x34, σ35, e33, h⟩ := bzBpE h
        refine cs_X10_60 hF ho (fun l => mt_X10_errs l e33) (by decide) (Nat.le_of_ble_eq_true rfl) dX10_wanted_35 ?_
        exact j_iret hF hG dX10_wanted_38  (bzRet h).1 (bzRet h).2
    · replace h := bzIfT h c9
      refine j_aload_n hF 0 dX10_wanted_16 rfl ?_
      refine j_ldc hF (v := (-1000000001)) kc_X10_59 dX10_wanted_17 ?_
      obtain ⟨x37, σ38, e36, h⟩ := bzBpE h
      refine cs_X10_60 hF ho (fun l => mt_X10_errs l e36) (by decide) (Nat.le_of_ble_eq_true rfl) dX10_wanted_19 ?_
      exact j_iret hF hG dX10_wanted_22  (bzRet h).1 (bzRet h).2
def fb_X10_which_55 (K55 : Int32 → Int32 → bzS → Option (Int32 × bzS)) (o : Nat) (a1 : Int32) (a2 : Int32) (v3 : Int32) (v4 : Int32) (σ1 : bzS) : Option (Int32 × bzS) :=
  if 6 < v4 then (some (v3, σ1)) else (bzBd (f_X10_puts o a2 0 v4 σ1) (fun σ16 => bzBp (f_X10_leansSo o a1 σ16) (fun x18 σ19 => if x18 = 0 then (bzLet ((v3 ||| 0)) (fun x21 => bzLet (v4 + 1) (fun x22 => K55 x21 x22 σ19))) else (bzLet ((v3 ||| (1 <<< (v4 &&& 31)))) (fun x23 => bzLet (v4 + 1) (fun x24 => K55 x23 x24 σ19))))))
def fl_X10_which_55 (o : Nat) (a1 : Int32) (a2 : Int32) : Nat → Int32 → Int32 → bzS → Option (Int32 × bzS)
  | 0, _, _, _ => none
  | n + 1, v3, v4, σ1 => fb_X10_which_55   (fl_X10_which_55   o a1 a2 n) o a1 a2 v3 v4 σ1
def f_X10_which (o : Nat) (a1 : Int32) (a2 : Int32) (σ : bzS) : Option (Int32 × bzS) :=
  bzGd (kd o = 10) (bzBd (f_X10_isSheet a1) (fun x2 => if x2 = 0 then (bzBp (f_X10_errs o ((-1000000001)) σ) (fun x5 σ6 => some (x5, σ6))) else (bzBd (f_X10_isVisitor o a2 σ) (fun x8 => if x8 = 0 then (bzBp (f_X10_errs o ((-1000000001)) σ) (fun x29 σ30 => some (x29, σ30))) else (bzGd (bzIn a1 4) (if (σ (ly o 16) a1.toNatClampNeg) = 0 then (bzBp (f_X10_errs o ((-1000000002)) σ) (fun x26 σ27 => some (x26, σ27))) else (bzBd (f_X10_moveAll o ((ly o 0)) ((ly o 2)) σ) (fun σ13 => fl_X10_which_55 o a1 a2 2000 0 0 σ13))))))))
set_option maxHeartbeats 4000000 in
set_option maxRecDepth 20000 in
theorem mt_X10_which {g : bzGeo} {o : Nat} {a1 : Int32} {a2 : Int32} {σ : bzS} {r0 : Int32} {σ0 : bzS} (l : Launch) (h : f_X10_which  o a1 a2 σ = some (r0, σ0)) : Met l yX10_which (Cond.code yX10_which cX10_which 5 (some .int) :: GW) (bzR (70)) (va_Pc [.ref (ga g o), .int a1, .int a2] (bzP g σ)) (va_Qi (fun (r : Int32) (u : bzS) => r = r0 ∧ u = σ0) (bzB g) (gA g)) 0 0 (gA g) := by
  unfold f_X10_which at h
  obtain ⟨ho, h⟩ := bzGdE h
  refine j_start l (by decide +kernel) [.ref (ga g o), .int a1, .int a2] [(0, .ref (ga g o)), (1, .int a1), (2, .int a2)] (Nat.le_of_ble_eq_true rfl) rfl (fun x hF hG => ?_)
  have J55 : (K55 : Int32 → Int32 → bzS → Option (Int32 × bzS)) → (hK55 : ∀ (v3 : Int32) (v4 : Int32) (σ1 : bzS), K55 v3 v4 σ1 = some (r0, σ0) → bzJ g 5 x σ1 55 [(0, .ref (ga g o)), (1, .int a1), (2, .int a2), (3, .int v3), (4, .int v4)] []) → ∀ (v3 : Int32) (v4 : Int32) (σ1 : bzS), fb_X10_which_55 K55 o a1 a2 v3 v4 σ1 = some (r0, σ0) → bzJ g 5 x σ1 55 [(0, .ref (ga g o)), (1, .int a1), (2, .int a2), (3, .int v3), (4, .int v4)] [] := by
    intro K55 hK55 v3 v4 σ1 h
    unfold fb_X10_which_55 at h
    refine j_iload hF 4 dX10_which_55 rfl ?_
    refine j_bipush hF (v := 6) dX10_which_57 (by decide) ?_
    refine j_icmp_gt hF (tgt := 95) dX10_which_59 (by decide) (fun c14 => ?_) (fun c14 => ?_)
    · replace h := bzIfT h c14
      refine j_iload_n hF 3 dX10_which_95 rfl ?_
      exact j_iret hF hG dX10_which_96 (bzRet h).1 (bzRet h).2
    · replace h := bzIfF h c14
      refine j_aload_n hF 0 dX10_which_62 rfl ?_
      refine j_iload_n hF 2 dX10_which_63 rfl ?_
      refine j_iconst hF (v := 0) dX10_which_64 (by decide) ?_
      refine j_iload hF 4 dX10_which_65 rfl ?_
      obtain ⟨σ16, e15, h⟩ := bzBdE h
      refine cs_X10_76 hF ho (fun l => mt_X10_puts l e15) (by decide) (Nat.le_of_ble_eq_true rfl) dX10_which_67 ?_
      refine j_iload_n hF 3 dX10_which_70 rfl ?_
      refine j_aload_n hF 0 dX10_which_71 rfl ?_
      refine j_iload_n hF 1 dX10_which_72 rfl ?_
      obtain ⟨x18, σ19, e17, h⟩ := bzBpE h
      refine cs_X10_202 hF ho (fun l => mt_X10_leansSo l e17) (by decide) (Nat.le_of_ble_eq_true rfl) dX10_which_73 ?_
      refine j_if_eq hF (tgt := 86) dX10_which_76 (by decide) (fun c20 => ?_) (fun c20 => ?_)
      · replace h := bzIfT h c20
        refine j_iconst hF (v := 0) dX10_which_86 (by decide) ?_
        refine j_ior hF dX10_which_87 ?_
        refine j_topi (fun x21 ex21 => ?_)
        replace h := bzLetE h ex21
        refine j_istore_n hF (lv1 := [(3, .int x21), (0, .ref (ga g o)), (1, .int a1), (2, .int a2), (4, .int v4)]) dX10_which_88 (by decide) rfl ?_
        obtain ⟨x22, ex22⟩ : ∃ y : Int32, y = v4 + 1 := ⟨_, rfl⟩
        replace h := bzLetE h ex22
        refine j_iinc hF (v := x22) (lv1 := [(4, .int x22), (3, .int x21), (0, .ref (ga g o)), (1, .int a1), (2, .int a2)]) 4 dX10_which_89 rfl (by rw [ex22]; rfl) (by decide) rfl ?_
        refine j_goto hF (tgt := 55) dX10_which_92 (by decide) ?_
        refine j_sub [2, 3, 4, 1, 0] rfl ?_
        exact hK55 x21 x22 σ19 h
      · replace h := bzIfF h c20
        refine j_iconst hF (v := 1) dX10_which_79 (by decide) ?_
        refine j_iload hF 4 dX10_which_80 rfl ?_
        refine j_ishl hF dX10_which_82 ?_
        refine j_goto hF (tgt := 87) dX10_which_83 (by decide) ?_
        refine j_ior hF dX10_which_87 ?_
        refine j_topi (fun x23 ex23 => ?_)
        replace h := bzLetE h ex23
        refine j_istore_n hF (lv1 := [(3, .int x23), (0, .ref (ga g o)), (1, .int a1), (2, .int a2), (4, .int v4)]) dX10_which_88 (by decide) rfl ?_
        obtain ⟨x24, ex24⟩ : ∃ y : Int32, y = v4 + 1 := ⟨_, rfl⟩
        replace h := bzLetE h ex24
        refine j_iinc hF (v := x24) (lv1 := [(4, .int x24), (3, .int x23), (0, .ref (ga g o)), (1, .int a1), (2, .int a2)]) 4 dX10_which_89 rfl (by rw [ex24]; rfl) (by decide) rfl ?_
        refine j_goto hF (tgt := 55) dX10_which_92 (by decide) ?_
        refine j_sub [2, 3, 4, 1, 0] rfl ?_
        exact hK55 x23 x24 σ19 h
  have L55 : ∀ (n : Nat) (v3 : Int32) (v4 : Int32) (σ1 : bzS), fl_X10_which_55   o a1 a2 n v3 v4 σ1 = some (r0, σ0) → bzJ g 5 x σ1 55 [(0, .ref (ga g o)), (1, .int a1), (2, .int a2), (3, .int v3), (4, .int v4)] [] := by
    intro  n
    induction n with
    | zero =>
      intro v3 v4 σ1  h
      cases h
    | succ n ih =>
      intro v3 v4 σ1  h
      exact J55  (fl_X10_which_55   o a1 a2 n) ih v3 v4 σ1  h
  refine j_iload_n hF 1 dX10_which_0 rfl ?_
  obtain ⟨x2, e1, h⟩ := bzBdE h
  refine cs_X10_199 hF (fun l => mt_X10_isSheet l e1) (by decide) (Nat.le_of_ble_eq_true rfl) dX10_which_1 ?_
  refine j_if_eq hF (tgt := 15) dX10_which_4 (by decide) (fun c3 => ?_) (fun c3 => ?_)
  · replace h := bzIfT h c3
    refine j_aload_n hF 0 dX10_which_15 rfl ?_
    refine j_ldc hF (v := (-1000000001)) kc_X10_59 dX10_which_16 ?_
    obtain ⟨x5, σ6, e4, h⟩ := bzBpE h
    refine cs_X10_60 hF ho (fun l => mt_X10_errs l e4) (by decide) (Nat.le_of_ble_eq_true rfl) dX10_which_18 ?_
    exact j_iret hF hG dX10_which_21  (bzRet h).1 (bzRet h).2
  · replace h := bzIfF h c3
    refine j_aload_n hF 0 dX10_which_7 rfl ?_
    refine j_iload_n hF 2 dX10_which_8 rfl ?_
    obtain ⟨x8, e7, h⟩ := bzBdE h
    refine cs_X10_80 hF ho (fun l => mt_X10_isVisitor l e7) (by decide) (Nat.le_of_ble_eq_true rfl) dX10_which_9 ?_
    refine j_if_ne hF (tgt := 22) dX10_which_12 (by decide) (fun c9 => ?_) (fun c9 => ?_)
    · replace h := bzIfF h c9
      refine j_aload_n hF 0 dX10_which_22 rfl ?_
      refine gf_X10_29 hF ho dX10_which_23 ?_
      refine j_iload_n hF 1 dX10_which_26 rfl ?_
      obtain ⟨g10, h⟩ := bzGdE h
      refine j_iald hF (c := a1.toNatClampNeg) (kl_10_16 ho) (nl_10_16 ho) g10 rfl dX10_which_27 ?_
      refine j_if_ne hF (tgt := 38) dX10_which_28 (by decide) (fun c11 => ?_) (fun c11 => ?_)
      · replace h := bzIfF h c11
        refine j_aload_n hF 0 dX10_which_38 rfl ?_
        refine j_aload_n hF 0 dX10_which_39 rfl ?_
        refine gf_X10_7 hF ho dX10_which_40 ?_
        refine j_aload_n hF 0 dX10_which_43 rfl ?_
        refine gf_X10_16 hF ho dX10_which_44 ?_
        obtain ⟨σ13, e12, h⟩ := bzBdE h
        refine cs_X10_167 hF ho (fun l => mt_X10_moveAll l e12) (by decide) (Nat.le_of_ble_eq_true rfl) dX10_which_47 ?_
        refine j_iconst hF (v := 0) dX10_which_50 (by decide) ?_
        refine j_istore_n hF (lv1 := [(3, .int 0), (0, .ref (ga g o)), (1, .int a1), (2, .int a2)]) dX10_which_51 (by decide) rfl ?_
        refine j_iconst hF (v := 0) dX10_which_52 (by decide) ?_
        refine j_istore hF (lv1 := [(4, .int 0), (3, .int 0), (0, .ref (ga g o)), (1, .int a1), (2, .int a2)]) dX10_which_53 (by decide) rfl ?_
        refine j_sub [2, 3, 4, 1, 0] rfl ?_
        exact L55 2000 0 0 σ13 h
      · replace h := bzIfT h c11
        refine j_aload_n hF 0 dX10_which_31 rfl ?_
        refine j_ldc hF (v := (-1000000002)) kc_X10_198 dX10_which_32 ?_
        obtain ⟨x26, σ27, e25, h⟩ := bzBpE h
        refine cs_X10_60 hF ho (fun l => mt_X10_errs l e25) (by decide) (Nat.le_of_ble_eq_true rfl) dX10_which_34 ?_
        exact j_iret hF hG dX10_which_37  (bzRet h).1 (bzRet h).2
    · replace h := bzIfT h c9
      refine j_aload_n hF 0 dX10_which_15 rfl ?_
      refine j_ldc hF (v := (-1000000001)) kc_X10_59 dX10_which_16 ?_
      obtain ⟨x29, σ30, e28, h⟩ := bzBpE h
      refine cs_X10_60 hF ho (fun l => mt_X10_errs l e28) (by decide) (Nat.le_of_ble_eq_true rfl) dX10_which_18 ?_
      exact j_iret hF hG dX10_which_21  (bzRet h).1 (bzRet h).2
def fb_X10_goodSet_4 (K4 : Int32 → Int32 → Option Int32) (o : Nat) (σ : bzS) (v1 : Int32) (v2 : Int32) : Option Int32 :=
  if 10 ≤ v2 then (some v1) else (bzBd (f_X10_isGood o v2 σ) (fun x3 => if x3 = 0 then (bzLet ((v1 ||| 0)) (fun x5 => bzLet (v2 + 1) (fun x6 => K4 x5 x6))) else (bzLet ((v1 ||| (1 <<< (v2 &&& 31)))) (fun x7 => bzLet (v2 + 1) (fun x8 => K4 x7 x8)))))
def fl_X10_goodSet_4 (o : Nat) (σ : bzS) : Nat → Int32 → Int32 → Option Int32
  | 0, _, _ => none
  | n + 1, v1, v2 => fb_X10_goodSet_4   (fl_X10_goodSet_4   o σ n) o σ v1 v2
def f_X10_goodSet (o : Nat) (σ : bzS) : Option Int32 :=
  bzGd (kd o = 10) (fl_X10_goodSet_4 o σ 2000 0 0)
set_option maxHeartbeats 4000000 in
set_option maxRecDepth 20000 in
theorem mt_X10_goodSet {g : bzGeo} {o : Nat} {σ : bzS} {r0 : Int32} (l : Launch) (h : f_X10_goodSet  o σ = some r0) : Met l yX10_goodSet (Cond.code yX10_goodSet cX10_goodSet 3 (some .int) :: GW) (bzR (3)) (va_Pc [.ref (ga g o)] (bzP g σ)) (va_Qi (fun (r : Int32) (u : bzS) => r = r0 ∧ u = σ) (bzB g) (gA g)) 0 0 (gA g) := by
  unfold f_X10_goodSet at h
  obtain ⟨ho, h⟩ := bzGdE h
  refine j_start l (by decide +kernel) [.ref (ga g o)] [(0, .ref (ga g o))] (Nat.le_of_ble_eq_true rfl) rfl (fun x hF hG => ?_)
  have J4 : (K4 : Int32 → Int32 → Option Int32) → (hK4 : ∀ (v1 : Int32) (v2 : Int32), K4 v1 v2 = some r0 → bzJ g 3 x σ 4 [(0, .ref (ga g o)), (1, .int v1), (2, .int v2)] []) → ∀ (v1 : Int32) (v2 : Int32), fb_X10_goodSet_4 K4 o σ v1 v2 = some r0 → bzJ g 3 x σ 4 [(0, .ref (ga g o)), (1, .int v1), (2, .int v2)] [] := by
    intro K4 hK4 v1 v2 h
    unfold fb_X10_goodSet_4 at h
    refine j_iload_n hF 2 dX10_goodSet_4 rfl ?_
    refine j_bipush hF (v := 10) dX10_goodSet_5 (by decide) ?_
    refine j_icmp_ge hF (tgt := 34) dX10_goodSet_7 (by decide) (fun c1 => ?_) (fun c1 => ?_)
    · replace h := bzIfT h c1
      refine j_iload_n hF 1 dX10_goodSet_34 rfl ?_
      exact j_iret hF hG dX10_goodSet_35 (Option.some.inj h) rfl
    · replace h := bzIfF h c1
      refine j_iload_n hF 1 dX10_goodSet_10 rfl ?_
      refine j_aload_n hF 0 dX10_goodSet_11 rfl ?_
      refine j_iload_n hF 2 dX10_goodSet_12 rfl ?_
      obtain ⟨x3, e2, h⟩ := bzBdE h
      refine cs_X10_71 hF ho (fun l => mt_X10_isGood l e2) (by decide) (Nat.le_of_ble_eq_true rfl) dX10_goodSet_13 ?_
      refine j_if_eq hF (tgt := 25) dX10_goodSet_16 (by decide) (fun c4 => ?_) (fun c4 => ?_)
      · replace h := bzIfT h c4
        refine j_iconst hF (v := 0) dX10_goodSet_25 (by decide) ?_
        refine j_ior hF dX10_goodSet_26 ?_
        refine j_topi (fun x5 ex5 => ?_)
        replace h := bzLetE h ex5
        refine j_istore_n hF (lv1 := [(1, .int x5), (0, .ref (ga g o)), (2, .int v2)]) dX10_goodSet_27 (by decide) rfl ?_
        obtain ⟨x6, ex6⟩ : ∃ y : Int32, y = v2 + 1 := ⟨_, rfl⟩
        replace h := bzLetE h ex6
        refine j_iinc hF (v := x6) (lv1 := [(2, .int x6), (1, .int x5), (0, .ref (ga g o))]) 2 dX10_goodSet_28 rfl (by rw [ex6]; rfl) (by decide) rfl ?_
        refine j_goto hF (tgt := 4) dX10_goodSet_31 (by decide) ?_
        refine j_sub [2, 1, 0] rfl ?_
        exact hK4 x5 x6 h
      · replace h := bzIfF h c4
        refine j_iconst hF (v := 1) dX10_goodSet_19 (by decide) ?_
        refine j_iload_n hF 2 dX10_goodSet_20 rfl ?_
        refine j_ishl hF dX10_goodSet_21 ?_
        refine j_goto hF (tgt := 26) dX10_goodSet_22 (by decide) ?_
        refine j_ior hF dX10_goodSet_26 ?_
        refine j_topi (fun x7 ex7 => ?_)
        replace h := bzLetE h ex7
        refine j_istore_n hF (lv1 := [(1, .int x7), (0, .ref (ga g o)), (2, .int v2)]) dX10_goodSet_27 (by decide) rfl ?_
        obtain ⟨x8, ex8⟩ : ∃ y : Int32, y = v2 + 1 := ⟨_, rfl⟩
        replace h := bzLetE h ex8
        refine j_iinc hF (v := x8) (lv1 := [(2, .int x8), (1, .int x7), (0, .ref (ga g o))]) 2 dX10_goodSet_28 rfl (by rw [ex8]; rfl) (by decide) rfl ?_
        refine j_goto hF (tgt := 4) dX10_goodSet_31 (by decide) ?_
        refine j_sub [2, 1, 0] rfl ?_
        exact hK4 x7 x8 h
  have L4 : ∀ (n : Nat) (v1 : Int32) (v2 : Int32) , fl_X10_goodSet_4   o σ n v1 v2 = some r0 → bzJ g 3 x σ 4 [(0, .ref (ga g o)), (1, .int v1), (2, .int v2)] [] := by
    intro  n
    induction n with
    | zero =>
      intro v1 v2   h
      cases h
    | succ n ih =>
      intro v1 v2   h
      exact J4  (fl_X10_goodSet_4   o σ n) ih v1 v2   h
  refine j_iconst hF (v := 0) dX10_goodSet_0 (by decide) ?_
  refine j_istore_n hF (lv1 := [(1, .int 0), (0, .ref (ga g o))]) dX10_goodSet_1 (by decide) rfl ?_
  refine j_iconst hF (v := 0) dX10_goodSet_2 (by decide) ?_
  refine j_istore_n hF (lv1 := [(2, .int 0), (1, .int 0), (0, .ref (ga g o))]) dX10_goodSet_3 (by decide) rfl ?_
  refine j_sub [2, 1, 0] rfl ?_
  exact L4 2000 0 0 h
