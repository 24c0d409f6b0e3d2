set_option linter.unusedVariables false
def f_X9_become (o : Nat) (a1 : Int32) (a2 : Int32) (σ : bzS) : Option (Int32 × bzS) :=
  bzGd (kd o = 9) (bzBd (f_X7_has ((ly (ly (ly o 0) 0) 2)) a1 σ) (fun x2 => if x2 = 0 then (bzBp (f_X9_fails o ((-1000000001)) σ) (fun x5 σ6 => some (x5, σ6))) else (bzBd (f_X9_within a2 0 69) (fun x8 => if x8 = 0 then (bzBp (f_X9_fails o ((-1000000001)) σ) (fun x17 σ18 => some (x17, σ18))) else (bzGd (bzIn a1 8) (bzLet ((σ (ly (ly (ly (ly o 0) 0) 2) 0) a1.toNatClampNeg)) (fun x11 => bzGd (bzIn a1 8) (bzLet (bzSt σ (ly (ly (ly (ly o 0) 0) 2) 0) a1.toNatClampNeg (a2 / 10)) (fun σ13 => bzGd (bzIn a1 8) (bzLet (bzSt σ13 (ly (ly (ly (ly o 0) 0) 2) 1) a1.toNatClampNeg (a2 - a2 / 10 * 10)) (fun σ15 => some (x11, σ15))))))))))))
set_option maxHeartbeats 4000000 in
set_option maxRecDepth 20000 in
theorem mt_X9_become {g : bzGeo} {o : Nat} {a1 : Int32} {a2 : Int32} {σ : bzS} {r0 : Int32} {σ0 : bzS} (l : Launch) (h : f_X9_become  o a1 a2 σ = some (r0, σ0)) : Met l yX9_become (Cond.code yX9_become cX9_become 5 (some .int) :: GW) (bzR (3)) (va_Pc [.ref (ga g o), .int a1, .int a2] (bzP g σ)) (va_Qi (fun (r : Int32) (u : bzS) => r = r0 ∧ u = σ0) (bzB g) (gA g)) 0 0 (gA g) := by
  unfold f_X9_become at h
  obtain ⟨ho, h⟩ := bzGdE h
  refine j_start l (by decide +kernel) [.ref (ga g o), .int a1, .int a2] [(0, .ref (ga g o)), (1, .int a1), (2, .int a2)] (Nat.le_of_ble_eq_true rfl) rfl (fun x hF hG => ?_)
  refine j_aload_n hF 0 dX9_become_0 rfl ?_
  refine gf_X9_12 hF ho dX9_become_1 ?_
  refine gf_X9_55 hF (kl_9_0 ho) dX9_become_4 ?_
  refine gf_X9_111 hF (kl_6_0 (kl_9_0 ho)) dX9_become_7 ?_
  refine j_astore_n hF (lv1 := [(3, .ref (ga g (ly (ly (ly o 0) 0) 2))), (0, .ref (ga g o)), (1, .int a1), (2, .int a2)]) dX9_become_10 (by decide) rfl ?_
  refine j_aload_n hF 0 dX9_become_11 rfl ?_
  refine j_iload_n hF 2 dX9_become_12 rfl ?_
  obtain ⟨x2, e1, h⟩ := bzBdE h
  refine cs_X9_122 hF (kl_0_2 (kl_6_0 (kl_9_0 ho))) (fun l => mt_X7_has l e1) (by decide) (Nat.le_of_ble_eq_true rfl) dX9_become_13 ?_
  refine j_if_eq hF (tgt := 29) dX9_become_16 (by decide) (fun c3 => ?_) (fun c3 => ?_)
  · replace h := bzIfT h c3
    refine j_aload_n hF 1 dX9_become_29 rfl ?_
    refine j_ldc hF (v := (-1000000001)) kc_X9_70 dX9_become_30 ?_
    obtain ⟨x5, σ6, e4, h⟩ := bzBpE h
    refine cs_X9_71 hF ho (fun l => mt_X9_fails l e4) (by decide) (Nat.le_of_ble_eq_true rfl) dX9_become_32 ?_
    exact j_iret hF hG dX9_become_35  (bzRet h).1 (bzRet h).2
  · replace h := bzIfF h c3
    refine j_iload_n hF 3 dX9_become_19 rfl ?_
    refine j_iconst hF (v := 0) dX9_become_20 (by decide) ?_
    refine j_bipush hF (v := 69) dX9_become_21 (by decide) ?_
    obtain ⟨x8, e7, h⟩ := bzBdE h
    refine cs_X9_66 hF (fun l => mt_X9_within l e7) (by decide) (Nat.le_of_ble_eq_true rfl) dX9_become_23 ?_
    refine j_if_ne hF (tgt := 36) dX9_become_26 (by decide) (fun c9 => ?_) (fun c9 => ?_)
    · replace h := bzIfF h c9
      refine j_aload_n hF 0 dX9_become_36 rfl ?_
      refine gf_X9_126 hF (kl_0_2 (kl_6_0 (kl_9_0 ho))) dX9_become_37 ?_
      refine j_iload_n hF 2 dX9_become_40 rfl ?_
      obtain ⟨g10, h⟩ := bzGdE h
      refine j_iald hF (c := a1.toNatClampNeg) (kl_7_0 (kl_0_2 (kl_6_0 (kl_9_0 ho)))) (nl_7_0 (kl_0_2 (kl_6_0 (kl_9_0 ho)))) g10 rfl dX9_become_41 ?_
      refine j_topi (fun x11 ex11 => ?_)
      replace h := bzLetE h ex11
      refine j_istore hF (lv1 := [(4, .int x11), (3, .ref (ga g (ly (ly (ly o 0) 0) 2))), (0, .ref (ga g o)), (1, .int a1), (2, .int a2)]) dX9_become_42 (by decide) rfl ?_
      refine j_aload_n hF 1 dX9_become_44 rfl ?_
      refine gf_X9_126 hF (kl_0_2 (kl_6_0 (kl_9_0 ho))) dX9_become_45 ?_
      refine j_iload_n hF 3 dX9_become_48 rfl ?_
      refine j_iload_n hF 4 dX9_become_49 rfl ?_
      refine j_bipush hF (v := 10) dX9_become_50 (by decide) ?_
      refine j_idiv hF dX9_become_52 (by decide) ?_
      obtain ⟨g12, h⟩ := bzGdE h
      refine j_iast hF (c := a1.toNatClampNeg) (kl_7_0 (kl_0_2 (kl_6_0 (kl_9_0 ho)))) (nl_7_0 (kl_0_2 (kl_6_0 (kl_9_0 ho)))) g12 rfl dX9_become_53 ?_
      refine j_s (fun σ13 eσ13 => ?_)
      replace h := bzLetE h eσ13
      refine j_aload_n hF 1 dX9_become_54 rfl ?_
      refine gf_X9_129 hF (kl_0_2 (kl_6_0 (kl_9_0 ho))) dX9_become_55 ?_
      refine j_iload_n hF 3 dX9_become_58 rfl ?_
      refine j_iload_n hF 4 dX9_become_59 rfl ?_
      refine j_bipush hF (v := 10) dX9_become_60 (by decide) ?_
      refine j_irem hF dX9_become_62 (by decide) ?_
      obtain ⟨g14, h⟩ := bzGdE h
      refine j_iast hF (c := a1.toNatClampNeg) (kl_7_1 (kl_0_2 (kl_6_0 (kl_9_0 ho)))) (nl_7_1 (kl_0_2 (kl_6_0 (kl_9_0 ho)))) g14 rfl dX9_become_63 ?_
      refine j_s (fun σ15 eσ15 => ?_)
      replace h := bzLetE h eσ15
      refine j_iload hF 0 dX9_become_64 rfl ?_
      exact j_iret hF hG dX9_become_66  (bzRet h).1 (bzRet h).2
    · replace h := bzIfT h c9
      refine j_aload_n hF 1 dX9_become_29 rfl ?_
      refine j_ldc hF (v := (-1000000001)) kc_X9_70 dX9_become_30 ?_
      obtain ⟨x17, σ18, e16, h⟩ := bzBpE h
      refine cs_X9_71 hF ho (fun l => mt_X9_fails l e16) (by decide) (Nat.le_of_ble_eq_true rfl) dX9_become_32 ?_
      exact j_iret hF hG dX9_become_35  (bzRet h).1 (bzRet h).2
def f_X7_kindAbove (a0 : Int32) (σ : bzS) : Option Int32 :=
  bzBd (f_X9_isPlace a0 109) (fun x2 => if x2 = 0 then (some ((-1))) else (bzGd (bzIn a0 7) (some ((tb 109 a0.toNatClampNeg)))))
set_option maxHeartbeats 4000000 in
set_option maxRecDepth 20000 in
theorem mt_X7_kindAbove {g : bzGeo} {a0 : Int32} {σ : bzS} {r0 : Int32} (l : Launch) (h : f_X7_kindAbove  a0 σ = some r0) : Met l yX7_kindAbove (Cond.code yX7_kindAbove cX7_kindAbove 1 (some .int) :: GW) (bzR (2)) (va_Pc [.int a0] (bzP g σ)) (va_Qi (fun (r : Int32) (u : bzS) => r = r0 ∧ u = σ) (bzB g) (gA g)) 0 0 (gA g) := by
  unfold f_X7_kindAbove at h
  refine j_start l (by decide +kernel) [.int a0] [(0, .int a0)] (Nat.le_of_ble_eq_true rfl) rfl (fun x hF hG => ?_)
  refine j_iload_n hF 0 dX7_kindAbove_0 rfl ?_
  refine gs_X7_29 hF dX7_kindAbove_1 ?_
  obtain ⟨x2, e1, h⟩ := bzBdE h
  refine cs_X7_32 hF (fun l => mt_X9_isPlace l e1) (by decide) (Nat.le_of_ble_eq_true rfl) dX7_kindAbove_4 ?_
  refine j_if_eq hF (tgt := 18) dX7_kindAbove_7 (by decide) (fun c3 => ?_) (fun c3 => ?_)
  · replace h := bzIfT h c3
    refine j_iconst hF (v := (-1)) dX7_kindAbove_18 (by decide) ?_
    exact j_iret hF hG dX7_kindAbove_19  (Option.some.inj h) rfl
  · replace h := bzIfF h c3
    refine gs_X7_29 hF dX7_kindAbove_10 ?_
    refine j_iload_n hF 0 dX7_kindAbove_13 rfl ?_
    obtain ⟨g4, h⟩ := bzGdE h
    refine j_tald hF (c := a0.toNatClampNeg) (by decide) rfl g4 rfl dX7_kindAbove_14 ?_
    refine j_goto hF (tgt := 19) dX7_kindAbove_15 (by decide) ?_
    exact j_iret hF hG dX7_kindAbove_19  (Option.some.inj h) rfl
def fb_X7_isUnder_4 (K4 : Int32 → Int32 → Option Int32) (a0 : Int32) (a1 : Int32) (σ : bzS) (v2 : Int32) (v3 : Int32) : Option Int32 :=
  if 7 ≤ v3 then (some 0) else (if v2 < 0 then (some 0) else (if v2 = a1 then (some 1) else (bzBd (f_X7_kindAbove v2 σ) (fun x5 => bzLet (v3 + 1) (fun x6 => K4 x5 x6)))))
def fl_X7_isUnder_4 (a0 : Int32) (a1 : Int32) (σ : bzS) : Nat → Int32 → Int32 → Option Int32
  | 0, _, _ => none
  | n + 1, v2, v3 => fb_X7_isUnder_4   (fl_X7_isUnder_4   a0 a1 σ n) a0 a1 σ v2 v3
def f_X7_isUnder (a0 : Int32) (a1 : Int32) (σ : bzS) : Option Int32 :=
  fl_X7_isUnder_4 a0 a1 σ 2000 a0 0
set_option maxHeartbeats 4000000 in
set_option maxRecDepth 20000 in
theorem mt_X7_isUnder {g : bzGeo} {a0 : Int32} {a1 : Int32} {σ : bzS} {r0 : Int32} (l : Launch) (h : f_X7_isUnder  a0 a1 σ = some r0) : Met l yX7_isUnder (Cond.code yX7_isUnder cX7_isUnder 4 (some .boolean) :: GW) (bzR (3)) (va_Pc [.int a0, .int a1] (bzP g σ)) (va_Qi (fun (r : Int32) (u : bzS) => r = r0 ∧ u = σ) (bzB g) (gA g)) 0 0 (gA g) := by
  unfold f_X7_isUnder at h
  refine j_start l (by decide +kernel) [.int a0, .int a1] [(0, .int a0), (1, .int a1)] (Nat.le_of_ble_eq_true rfl) rfl (fun x hF hG => ?_)
  have J4 : (K4 : Int32 → Int32 → Option Int32) → (hK4 : ∀ (v2 : Int32) (v3 : Int32), K4 v2 v3 = some r0 → bzJ g 4 x σ 4 [(0, .int a0), (1, .int a1), (2, .int v2), (3, .int v3)] []) → ∀ (v2 : Int32) (v3 : Int32), fb_X7_isUnder_4 K4 a0 a1 σ v2 v3 = some r0 → bzJ g 4 x σ 4 [(0, .int a0), (1, .int a1), (2, .int v2), (3, .int v3)] [] := by
    intro K4 hK4 v2 v3 h
    unfold fb_X7_isUnder_4 at h
    refine j_iload_n hF 3 dX7_isUnder_4 rfl ?_
    refine j_bipush hF (v := 7) dX7_isUnder_5 (by decide) ?_
    refine j_icmp_ge hF (tgt := 32) dX7_isUnder_7 (by decide) (fun c1 => ?_) (fun c1 => ?_)
    · replace h := bzIfT h c1
      refine j_iconst hF (v := 0) dX7_isUnder_32 (by decide) ?_
      exact j_zret hF hG dX7_isUnder_33 (by decide) (Option.some.inj h) rfl
    · replace h := bzIfF h c1
      refine j_iload_n hF 2 dX7_isUnder_10 rfl ?_
      refine j_if_lt hF (tgt := 32) dX7_isUnder_11 (by decide) (fun c2 => ?_) (fun c2 => ?_)
      · replace h := bzIfT h c2
        refine j_iconst hF (v := 0) dX7_isUnder_32 (by decide) ?_
        exact j_zret hF hG dX7_isUnder_33 (by decide) (Option.some.inj h) rfl
      · replace h := bzIfF h c2
        refine j_iload_n hF 2 dX7_isUnder_14 rfl ?_
        refine j_iload_n hF 1 dX7_isUnder_15 rfl ?_
        refine j_icmp_ne hF (tgt := 21) dX7_isUnder_16 (by decide) (fun c3 => ?_) (fun c3 => ?_)
        · replace h := bzIfF h c3
          refine j_iload_n hF 2 dX7_isUnder_21 rfl ?_
          obtain ⟨x5, e4, h⟩ := bzBdE h
          refine cs_X7_38 hF (fun l => mt_X7_kindAbove l e4) (by decide) (Nat.le_of_ble_eq_true rfl) dX7_isUnder_22 ?_
          refine j_istore_n hF (lv1 := [(2, .int x5), (0, .int a0), (1, .int a1), (3, .int v3)]) dX7_isUnder_25 (by decide) rfl ?_
          obtain ⟨x6, ex6⟩ : ∃ y : Int32, y = v3 + 1 := ⟨_, rfl⟩
          replace h := bzLetE h ex6
          refine j_iinc hF (v := x6) (lv1 := [(3, .int x6), (2, .int x5), (0, .int a0), (1, .int a1)]) 3 dX7_isUnder_26 rfl (by rw [ex6]; rfl) (by decide) rfl ?_
          refine j_goto hF (tgt := 4) dX7_isUnder_29 (by decide) ?_
          refine j_sub [2, 3, 1, 0] rfl ?_
          exact hK4 x5 x6 h
        · replace h := bzIfT h c3
          refine j_iconst hF (v := 1) dX7_isUnder_19 (by decide) ?_
          exact j_zret hF hG dX7_isUnder_20 (by decide) (Option.some.inj h) rfl
  have L4 : ∀ (n : Nat) (v2 : Int32) (v3 : Int32) , fl_X7_isUnder_4   a0 a1 σ n v2 v3 = some r0 → bzJ g 4 x σ 4 [(0, .int a0), (1, .int a1), (2, .int v2), (3, .int v3)] [] := by
    intro  n
    induction n with
    | zero =>
      intro v2 v3   h
      cases h
    | succ n ih =>
      intro v2 v3   h
      exact J4  (fl_X7_isUnder_4   a0 a1 σ n) ih v2 v3   h
  refine j_iload_n hF 0 dX7_isUnder_0 rfl ?_
  refine j_istore_n hF (lv1 := [(2, .int a0), (0, .int a0), (1, .int a1)]) dX7_isUnder_1 (by decide) rfl ?_
  refine j_iconst hF (v := 0) dX7_isUnder_2 (by decide) ?_
  refine j_istore_n hF (lv1 := [(3, .int 0), (2, .int a0), (0, .int a0), (1, .int a1)]) dX7_isUnder_3 (by decide) rfl ?_
  refine j_sub [2, 3, 1, 0] rfl ?_
  exact L4 2000 a0 0 h
def f_X9_as (o : Nat) (a1 : Int32) (a2 : Int32) (σ : bzS) : Option (Int32 × bzS) :=
  bzGd (kd o = 9) (bzBd (f_X7_has ((ly (ly (ly o 0) 0) 2)) a1 σ) (fun x2 => if x2 = 0 then (bzBp (f_X9_fails o ((-1000000001)) σ) (fun x5 σ6 => some (x5, σ6))) else (bzBd (f_X9_within a2 0 6) (fun x8 => if x8 = 0 then (bzBp (f_X9_fails o ((-1000000001)) σ) (fun x19 σ20 => some (x19, σ20))) else (bzGd (bzIn a1 8) (bzBd (f_X7_isUnder ((σ (ly (ly (ly (ly o 0) 0) 2) 0) a1.toNatClampNeg)) a2 σ) (fun x12 => if x12 = 0 then (bzBp (f_X9_fails o ((-1000000005)) σ) (fun x15 σ16 => some (x15, σ16))) else (bzGd (bzIn a1 8) (some ((σ (ly (ly (ly (ly o 0) 0) 2) 1) a1.toNatClampNeg), σ))))))))))
set_option maxHeartbeats 4000000 in
set_option maxRecDepth 20000 in
theorem mt_X9_as {g : bzGeo} {o : Nat} {a1 : Int32} {a2 : Int32} {σ : bzS} {r0 : Int32} {σ0 : bzS} (l : Launch) (h : f_X9_as  o a1 a2 σ = some (r0, σ0)) : Met l yX9_as (Cond.code yX9_as cX9_as 4 (some .int) :: GW) (bzR (4)) (va_Pc [.ref (ga g o), .int a1, .int a2] (bzP g σ)) (va_Qi (fun (r : Int32) (u : bzS) => r = r0 ∧ u = σ0) (bzB g) (gA g)) 0 0 (gA g) := by
  unfold f_X9_as at h
  obtain ⟨ho, h⟩ := bzGdE h
  refine j_start l (by decide +kernel) [.ref (ga g o), .int a1, .int a2] [(0, .ref (ga g o)), (1, .int a1), (2, .int a2)] (Nat.le_of_ble_eq_true rfl) rfl (fun x hF hG => ?_)
  refine j_aload_n hF 0 dX9_as_0 rfl ?_
  refine gf_X9_12 hF ho dX9_as_1 ?_
  refine gf_X9_55 hF (kl_9_0 ho) dX9_as_4 ?_
  refine gf_X9_111 hF (kl_6_0 (kl_9_0 ho)) dX9_as_7 ?_
  refine j_astore_n hF (lv1 := [(3, .ref (ga g (ly (ly (ly o 0) 0) 2))), (0, .ref (ga g o)), (1, .int a1), (2, .int a2)]) dX9_as_10 (by decide) rfl ?_
  refine j_aload_n hF 0 dX9_as_11 rfl ?_
  refine j_iload_n hF 2 dX9_as_12 rfl ?_
  obtain ⟨x2, e1, h⟩ := bzBdE h
  refine cs_X9_122 hF (kl_0_2 (kl_6_0 (kl_9_0 ho))) (fun l => mt_X7_has l e1) (by decide) (Nat.le_of_ble_eq_true rfl) dX9_as_13 ?_
  refine j_if_eq hF (tgt := 29) dX9_as_16 (by decide) (fun c3 => ?_) (fun c3 => ?_)
  · replace h := bzIfT h c3
    refine j_aload_n hF 1 dX9_as_29 rfl ?_
    refine j_ldc hF (v := (-1000000001)) kc_X9_70 dX9_as_30 ?_
    obtain ⟨x5, σ6, e4, h⟩ := bzBpE h
    refine cs_X9_71 hF ho (fun l => mt_X9_fails l e4) (by decide) (Nat.le_of_ble_eq_true rfl) dX9_as_32 ?_
    exact j_iret hF hG dX9_as_35  (bzRet h).1 (bzRet h).2
  · replace h := bzIfF h c3
    refine j_iload_n hF 3 dX9_as_19 rfl ?_
    refine j_iconst hF (v := 0) dX9_as_20 (by decide) ?_
    refine j_bipush hF (v := 6) dX9_as_21 (by decide) ?_
    obtain ⟨x8, e7, h⟩ := bzBdE h
    refine cs_X9_66 hF (fun l => mt_X9_within l e7) (by decide) (Nat.le_of_ble_eq_true rfl) dX9_as_23 ?_
    refine j_if_ne hF (tgt := 36) dX9_as_26 (by decide) (fun c9 => ?_) (fun c9 => ?_)
    · replace h := bzIfF h c9
      refine j_aload_n hF 0 dX9_as_36 rfl ?_
      refine gf_X9_126 hF (kl_0_2 (kl_6_0 (kl_9_0 ho))) dX9_as_37 ?_
      refine j_iload_n hF 2 dX9_as_40 rfl ?_
      obtain ⟨g10, h⟩ := bzGdE h
      refine j_iald hF (c := a1.toNatClampNeg) (kl_7_0 (kl_0_2 (kl_6_0 (kl_9_0 ho)))) (nl_7_0 (kl_0_2 (kl_6_0 (kl_9_0 ho)))) g10 rfl dX9_as_41 ?_
      refine j_iload_n hF 3 dX9_as_42 rfl ?_
      obtain ⟨x12, e11, h⟩ := bzBdE h
      refine cs_X9_156 hF (fun l => mt_X7_isUnder l e11) (by decide) (Nat.le_of_ble_eq_true rfl) dX9_as_43 ?_
      refine j_if_eq hF (tgt := 58) dX9_as_46 (by decide) (fun c13 => ?_) (fun c13 => ?_)
      · replace h := bzIfT h c13
        refine j_aload_n hF 1 dX9_as_58 rfl ?_
        refine j_ldc hF (v := (-1000000005)) kc_X9_159 dX9_as_59 ?_
        obtain ⟨x15, σ16, e14, h⟩ := bzBpE h
        refine cs_X9_71 hF ho (fun l => mt_X9_fails l e14) (by decide) (Nat.le_of_ble_eq_true rfl) dX9_as_61 ?_
        exact j_iret hF hG dX9_as_64  (bzRet h).1 (bzRet h).2
      · replace h := bzIfF h c13
        refine j_aload_n hF 0 dX9_as_49 rfl ?_
        refine gf_X9_129 hF (kl_0_2 (kl_6_0 (kl_9_0 ho))) dX9_as_50 ?_
        refine j_iload_n hF 2 dX9_as_53 rfl ?_
        obtain ⟨g17, h⟩ := bzGdE h
        refine j_iald hF (c := a1.toNatClampNeg) (kl_7_1 (kl_0_2 (kl_6_0 (kl_9_0 ho)))) (nl_7_1 (kl_0_2 (kl_6_0 (kl_9_0 ho)))) g17 rfl dX9_as_54 ?_
        refine j_goto hF (tgt := 64) dX9_as_55 (by decide) ?_
        exact j_iret hF hG dX9_as_64  (bzRet h).1 (bzRet h).2
    · replace h := bzIfT h c9
      refine j_aload_n hF 1 dX9_as_29 rfl ?_
      refine j_ldc hF (v := (-1000000001)) kc_X9_70 dX9_as_30 ?_
      obtain ⟨x19, σ20, e18, h⟩ := bzBpE h
      refine cs_X9_71 hF ho (fun l => mt_X9_fails l e18) (by decide) (Nat.le_of_ble_eq_true rfl) dX9_as_32 ?_
      exact j_iret hF hG dX9_as_35  (bzRet h).1 (bzRet h).2
def f_X4_add (o : Nat) (a1 : Int32) (σ : bzS) : Option (Int32 × bzS) :=
  bzGd (kd o = 4) (if (σ o 1) < (Int32.ofNat ((ln (ly o 0)))) then (bzGd (bzIn (σ o 1) (ln (ly o 0))) (bzLet (bzSt σ (ly o 0) (((σ o 1)).toNatClampNeg) a1) (fun σ3 => bzLet (bzSt σ3 o 1 ((σ3 o 1) + 1)) (fun σ4 => some (1, σ4))))) else (some (0, σ)))
set_option maxHeartbeats 4000000 in
set_option maxRecDepth 20000 in
theorem mt_X4_add {g : bzGeo} {o : Nat} {a1 : Int32} {σ : bzS} {r0 : Int32} {σ0 : bzS} (l : Launch) (h : f_X4_add  o a1 σ = some (r0, σ0)) : Met l yX4_add (Cond.code yX4_add cX4_add 2 (some .boolean) :: GW) (bzR (1)) (va_Pc [.ref (ga g o), .int a1] (bzP g σ)) (va_Qi (fun (r : Int32) (u : bzS) => r = r0 ∧ u = σ0) (bzB g) (gA g)) 0 0 (gA g) := by
  unfold f_X4_add at h
  obtain ⟨ho, h⟩ := bzGdE h
  refine j_start l (by decide +kernel) [.ref (ga g o), .int a1] [(0, .ref (ga g o)), (1, .int a1)] (Nat.le_of_ble_eq_true rfl) rfl (fun x hF hG => ?_)
  refine j_aload_n hF 0 dX4_add_0 rfl ?_
  refine gf_X4_7 hF ho dX4_add_1 ?_
  refine j_aload_n hF 0 dX4_add_4 rfl ?_
  refine gf_X4_19 hF ho dX4_add_5 ?_
  refine j_alen hF (Or.inl (kl_4_0 ho)) rfl (v := (Int32.ofNat ((ln (ly o 0))))) rfl dX4_add_8 ?_
  refine j_icmp_lt hF (tgt := 14) dX4_add_9 (by decide) (fun c1 => ?_) (fun c1 => ?_)
  · replace h := bzIfT h c1
    refine j_aload_n hF 0 dX4_add_14 rfl ?_
    refine gf_X4_19 hF ho dX4_add_15 ?_
    refine j_aload_n hF 0 dX4_add_18 rfl ?_
    refine gf_X4_7 hF ho dX4_add_19 ?_
    refine j_iload_n hF 1 dX4_add_22 rfl ?_
    obtain ⟨g2, h⟩ := bzGdE h
    refine j_iast hF (c := ((σ o 1)).toNatClampNeg) (kl_4_0 ho) rfl g2 rfl dX4_add_23 ?_
    refine j_s (fun σ3 eσ3 => ?_)
    replace h := bzLetE h eσ3
    refine j_aload_n hF 0 dX4_add_24 rfl ?_
    refine j_dup hF dX4_add_25 rfl ?_
    refine gf_X4_7 hF ho dX4_add_26 ?_
    refine j_iconst hF (v := 1) dX4_add_29 (by decide) ?_
    refine j_iadd hF dX4_add_30 ?_
    refine pf_X4_7 hF ho dX4_add_31 ?_
    refine j_s (fun σ4 eσ4 => ?_)
    replace h := bzLetE h eσ4
    refine j_iconst hF (v := 1) dX4_add_34 (by decide) ?_
    exact j_zret hF hG dX4_add_35 (by decide)  (bzRet h).1 (bzRet h).2
  · replace h := bzIfF h c1
    refine j_iconst hF (v := 0) dX4_add_12 (by decide) ?_
    exact j_zret hF hG dX4_add_13 (by decide)  (bzRet h).1 (bzRet h).2
def fb_X9_feed_44 (K44 : Int32 → bzS → Option (Int32 × bzS)) (o : Nat) (a1 : Int64) (a3 : Int32) (v4 : Int32) (σ1 : bzS) : Option (Int32 × bzS) :=
  if a3 ≤ v4 then (some ((σ1 (ly (ly o 0) 2) 1), σ1)) else (bzBp (f_X4_add ((ly (ly o 0) 2)) (((((a1.toUInt64 >>> ((8 * v4).toInt64.toUInt64 &&& Int64.toUInt64 63)).toInt64) &&& 255)).toInt32) σ1) (fun x7 σ8 => bzLet (v4 + 1) (fun x9 => K44 x9 σ8)))
def fl_X9_feed_44 (o : Nat) (a1 : Int64) (a3 : Int32) : Nat → Int32 → bzS → Option (Int32 × bzS)
  | 0, _, _ => none
  | n + 1, v4, σ1 => fb_X9_feed_44   (fl_X9_feed_44   o a1 a3 n) o a1 a3 v4 σ1
def f_X9_feed (o : Nat) (a1 : Int64) (a3 : Int32) (σ : bzS) : Option (Int32 × bzS) :=
  bzGd (kd o = 9) (bzBd (f_X9_within a3 1 8) (fun x2 => if x2 = 0 then (bzBp (f_X9_fails o ((-1000000001)) σ) (fun x14 σ15 => some (x14, σ15))) else (if ((σ (ly (ly o 0) 2) 1) + a3) ≤ 50 then (fl_X9_feed_44 o a1 a3 2000 0 σ) else (bzBp (f_X9_fails o ((-1000000004)) σ) (fun x11 σ12 => some (x11, σ12))))))
set_option maxHeartbeats 4000000 in
set_option maxRecDepth 20000 in
theorem mt_X9_feed {g : bzGeo} {o : Nat} {a1 : Int64} {a3 : Int32} {σ : bzS} {r0 : Int32} {σ0 : bzS} (l : Launch) (h : f_X9_feed  o a1 a3 σ = some (r0, σ0)) : Met l yX9_feed (Cond.code yX9_feed cX9_feed 5 (some .int) :: GW) (bzR (3)) (va_Pc [.ref (ga g o), .long a1, .int a3] (bzP g σ)) (va_Qi (fun (r : Int32) (u : bzS) => r = r0 ∧ u = σ0) (bzB g) (gA g)) 0 0 (gA g) := by
  unfold f_X9_feed at h
  obtain ⟨ho, h⟩ := bzGdE h
  refine j_start l (by decide +kernel) [.ref (ga g o), .long a1, .int a3] [(0, .ref (ga g o)), (1, .long a1), (3, .int a3)] (Nat.le_of_ble_eq_true rfl) rfl (fun x hF hG => ?_)
  have J44 : (K44 : Int32 → bzS → Option (Int32 × bzS)) → (hK44 : ∀ (v4 : Int32) (σ1 : bzS), K44 v4 σ1 = some (r0, σ0) → bzJ g 5 x σ1 44 [(0, .ref (ga g o)), (1, .long a1), (3, .int a3), (4, .int v4)] []) → ∀ (v4 : Int32) (σ1 : bzS), fb_X9_feed_44 K44 o a1 a3 v4 σ1 = some (r0, σ0) → bzJ g 5 x σ1 44 [(0, .ref (ga g o)), (1, .long a1), (3, .int a3), (4, .int v4)] [] := by
    intro K44 hK44 v4 σ1 h
    unfold fb_X9_feed_44 at h
    refine j_iload hF 3 dX9_feed_44 rfl ?_
    refine j_iload_n hF 2 dX9_feed_46 rfl ?_
    refine j_icmp_ge hF (tgt := 79) dX9_feed_47 (by decide) (fun c5 => ?_) (fun c5 => ?_)
    · replace h := bzIfT h c5
      refine j_aload_n hF 0 dX9_feed_79 rfl ?_
      refine gf_X9_12 hF ho dX9_feed_80 ?_
      refine gf_X9_160 hF (kl_9_0 ho) dX9_feed_83 ?_
      refine gf_X9_164 hF (kl_6_2 (kl_9_0 ho)) dX9_feed_86 ?_
      exact j_iret hF hG dX9_feed_89 (bzRet h).1 (bzRet h).2
    · replace h := bzIfF h c5
      refine j_aload_n hF 0 dX9_feed_50 rfl ?_
      refine gf_X9_12 hF ho dX9_feed_51 ?_
      refine gf_X9_160 hF (kl_9_0 ho) dX9_feed_54 ?_
      refine j_lload_n hF 1 dX9_feed_57 rfl ?_
      refine j_bipush hF (v := 8) dX9_feed_58 (by decide) ?_
      refine j_iload hF 3 dX9_feed_60 rfl ?_
      refine j_imul hF dX9_feed_62 ?_
      refine j_lushr hF dX9_feed_63 ?_
      refine j_ldc2_w hF (v := 255) kc_X9_169 dX9_feed_64 ?_
      refine j_land hF dX9_feed_67 ?_
      refine j_l2i hF dX9_feed_68 ?_
      obtain ⟨x7, σ8, e6, h⟩ := bzBpE h
      refine cs_X9_171 hF (kl_6_2 (kl_9_0 ho)) (fun l => mt_X4_add l e6) (by decide) (Nat.le_of_ble_eq_true rfl) dX9_feed_69 ?_
      refine j_pop hF dX9_feed_72 rfl ?_
      obtain ⟨x9, ex9⟩ : ∃ y : Int32, y = v4 + 1 := ⟨_, rfl⟩
      replace h := bzLetE h ex9
      refine j_iinc hF (v := x9) (lv1 := [(4, .int x9), (0, .ref (ga g o)), (1, .long a1), (3, .int a3)]) 3 dX9_feed_73 rfl (by rw [ex9]; rfl) (by decide) rfl ?_
      refine j_goto hF (tgt := 44) dX9_feed_76 (by decide) ?_
      refine j_sub [1, 2, 3, 0] rfl ?_
      exact hK44 x9 σ8 h
  have L44 : ∀ (n : Nat) (v4 : Int32) (σ1 : bzS), fl_X9_feed_44   o a1 a3 n v4 σ1 = some (r0, σ0) → bzJ g 5 x σ1 44 [(0, .ref (ga g o)), (1, .long a1), (3, .int a3), (4, .int v4)] [] := by
    intro  n
    induction n with
    | zero =>
      intro v4 σ1  h
      cases h
    | succ n ih =>
      intro v4 σ1  h
      exact J44  (fl_X9_feed_44   o a1 a3 n) ih v4 σ1  h
  refine j_iload_n hF 2 dX9_feed_0 rfl ?_
  refine j_iconst hF (v := 1) dX9_feed_1 (by decide) ?_
  refine j_bipush hF (v := 8) dX9_feed_2 (by decide) ?_
  obtain ⟨x2, e1, h⟩ := bzBdE h
  refine cs_X9_66 hF (fun l => mt_X9_within l e1) (by decide) (Nat.le_of_ble_eq_true rfl) dX9_feed_4 ?_
  refine j_if_ne hF (tgt := 17) dX9_feed_7 (by decide) (fun c3 => ?_) (fun c3 => ?_)
  · replace h := bzIfF h c3
    refine j_aload_n hF 0 dX9_feed_17 rfl ?_
    refine gf_X9_12 hF ho dX9_feed_18 ?_
    refine gf_X9_160 hF (kl_9_0 ho) dX9_feed_21 ?_
    refine gf_X9_164 hF (kl_6_2 (kl_9_0 ho)) dX9_feed_24 ?_
    refine j_iload_n hF 2 dX9_feed_27 rfl ?_
    refine j_iadd hF dX9_feed_28 ?_
    refine j_bipush hF (v := 50) dX9_feed_29 (by decide) ?_
    refine j_icmp_le hF (tgt := 41) dX9_feed_31 (by decide) (fun c4 => ?_) (fun c4 => ?_)
    · replace h := bzIfT h c4
      refine j_iconst hF (v := 0) dX9_feed_41 (by decide) ?_
      refine j_istore hF (lv1 := [(4, .int 0), (0, .ref (ga g o)), (1, .long a1), (3, .int a3)]) dX9_feed_42 (by decide) rfl ?_
      refine j_sub [1, 2, 3, 0] rfl ?_
      exact L44 2000 0 σ h
    · replace h := bzIfF h c4
      refine j_aload_n hF 0 dX9_feed_34 rfl ?_
      refine j_ldc hF (v := (-1000000004)) kc_X9_121 dX9_feed_35 ?_
      obtain ⟨x11, σ12, e10, h⟩ := bzBpE h
      refine cs_X9_71 hF ho (fun l => mt_X9_fails l e10) (by decide) (Nat.le_of_ble_eq_true rfl) dX9_feed_37 ?_
      exact j_iret hF hG dX9_feed_40  (bzRet h).1 (bzRet h).2
  · replace h := bzIfT h c3
    refine j_aload_n hF 0 dX9_feed_10 rfl ?_
    refine j_ldc hF (v := (-1000000001)) kc_X9_70 dX9_feed_11 ?_
    obtain ⟨x14, σ15, e13, h⟩ := bzBpE h
    refine cs_X9_71 hF ho (fun l => mt_X9_fails l e13) (by decide) (Nat.le_of_ble_eq_true rfl) dX9_feed_13 ?_
    exact j_iret hF hG dX9_feed_16  (bzRet h).1 (bzRet h).2
def f_X4_hasRun (o : Nat) (a1 : Int32) (a2 : Int32) (σ : bzS) : Option Int32 :=
  bzGd (kd o = 4) (if a1 < 0 then (some 0) else (if a2 < 0 then (some 0) else (if (σ o 1) < a1 then (some 0) else (if ((σ o 1) - a1) < a2 then (some 0) else (some 1)))))
set_option maxHeartbeats 4000000 in
set_option maxRecDepth 20000 in
theorem mt_X4_hasRun {g : bzGeo} {o : Nat} {a1 : Int32} {a2 : Int32} {σ : bzS} {r0 : Int32} (l : Launch) (h : f_X4_hasRun  o a1 a2 σ = some r0) : Met l yX4_hasRun (Cond.code yX4_hasRun cX4_hasRun 3 (some .boolean) :: GW) (bzR (1)) (va_Pc [.ref (ga g o), .int a1, .int a2] (bzP g σ)) (va_Qi (fun (r : Int32) (u : bzS) => r = r0 ∧ u = σ) (bzB g) (gA g)) 0 0 (gA g) := by
  unfold f_X4_hasRun at h
  obtain ⟨ho, h⟩ := bzGdE h
  refine j_start l (by decide +kernel) [.ref (ga g o), .int a1, .int a2] [(0, .ref (ga g o)), (1, .int a1), (2, .int a2)] (Nat.le_of_ble_eq_true rfl) rfl (fun x hF hG => ?_)
  refine j_iload_n hF 1 dX4_hasRun_0 rfl ?_
  refine j_if_lt hF (tgt := 30) dX4_hasRun_1 (by decide) (fun c1 => ?_) (fun c1 => ?_)
  · replace h := bzIfT h c1
    refine j_iconst hF (v := 0) dX4_hasRun_30 (by decide) ?_
    exact j_zret hF hG dX4_hasRun_31 (by decide)  (Option.some.inj h) rfl
  · replace h := bzIfF h c1
    refine j_iload_n hF 2 dX4_hasRun_4 rfl ?_
    refine j_if_lt hF (tgt := 30) dX4_hasRun_5 (by decide) (fun c2 => ?_) (fun c2 => ?_)
    · replace h := bzIfT h c2
      refine j_iconst hF (v := 0) dX4_hasRun_30 (by decide) ?_
      exact j_zret hF hG dX4_hasRun_31 (by decide)  (Option.some.inj h) rfl
    · replace h := bzIfF h c2
      refine j_iload_n hF 1 dX4_hasRun_8 rfl ?_
      refine j_aload_n hF 0 dX4_hasRun_9 rfl ?_
      refine gf_X4_7 hF ho dX4_hasRun_10 ?_
      refine j_icmp_gt hF (tgt := 30) dX4_hasRun_13 (by decide) (fun c3 => ?_) (fun c3 => ?_)
      · replace h := bzIfT h c3
        refine j_iconst hF (v := 0) dX4_hasRun_30 (by decide) ?_
        exact j_zret hF hG dX4_hasRun_31 (by decide)  (Option.some.inj h) rfl
      · replace h := bzIfF h c3
        refine j_iload_n hF 2 dX4_hasRun_16 rfl ?_
        refine j_aload_n hF 0 dX4_hasRun_17 rfl ?_
        refine gf_X4_7 hF ho dX4_hasRun_18 ?_
        refine j_iload_n hF 1 dX4_hasRun_21 rfl ?_
        refine j_isub hF dX4_hasRun_22 ?_
        refine j_icmp_gt hF (tgt := 30) dX4_hasRun_23 (by decide) (fun c4 => ?_) (fun c4 => ?_)
        · replace h := bzIfT h c4
          refine j_iconst hF (v := 0) dX4_hasRun_30 (by decide) ?_
          exact j_zret hF hG dX4_hasRun_31 (by decide)  (Option.some.inj h) rfl
        · replace h := bzIfF h c4
          refine j_iconst hF (v := 1) dX4_hasRun_26 (by decide) ?_
          refine j_goto hF (tgt := 31) dX4_hasRun_27 (by decide) ?_
          exact j_zret hF hG dX4_hasRun_31 (by decide)  (Option.some.inj h) rfl
def f_X4_takeRun (o : Nat) (a1 : Nat) (a2 : Int32) (a3 : Int32) (a4 : Int32) (σ : bzS) : Option bzS :=
  bzGd (kd o = 4) (bzGd (kd a1 = 4) (bzBd (f_X4_hasRun a1 a2 a4 σ) (fun x2 => if x2 = 0 then (some σ) else (bzBd (f_X4_hasRun o a3 a4 σ) (fun x5 => if x5 = 0 then (some σ) else (bzGd (bzCp a2 a3 a4 (ln (ly a1 0)) (ln (ly o 0))) (bzLet (bzSa σ (ly o 0) (va_cpy (σ (ly a1 0)) (σ (ly o 0)) a2.toNatClampNeg a3.toNatClampNeg a4.toNatClampNeg)) (fun σ8 => some σ8))))))))
set_option maxHeartbeats 4000000 in
set_option maxRecDepth 20000 in
theorem mt_X4_takeRun {g : bzGeo} {o : Nat} {a1 : Nat} {a2 : Int32} {a3 : Int32} {a4 : Int32} {σ : bzS} {σ0 : bzS} (l : Launch) (h : f_X4_takeRun  o a1 a2 a3 a4 σ = some σ0) : Met l yX4_takeRun (Cond.code yX4_takeRun cX4_takeRun 5 none :: GW) (bzR (2)) (va_Pc [.ref (ga g o), .ref (ga g a1), .int a2, .int a3, .int a4] (bzP g σ)) (va_Qv (fun (u : bzS) => u = σ0) (bzB g) (gA g)) 0 0 (gA g) := by
  unfold f_X4_takeRun at h
  obtain ⟨ho, h⟩ := bzGdE h
  obtain ⟨h1, h⟩ := bzGdE h
  refine j_start l (by decide +kernel) [.ref (ga g o), .ref (ga g a1), .int a2, .int a3, .int a4] [(0, .ref (ga g o)), (1, .ref (ga g a1)), (2, .int a2), (3, .int a3), (4, .int a4)] (Nat.le_of_ble_eq_true rfl) rfl (fun x hF hG => ?_)
  refine j_aload_n hF 1 dX4_takeRun_0 rfl ?_
  refine j_iload_n hF 2 dX4_takeRun_1 rfl ?_
  refine j_iload hF 4 dX4_takeRun_2 rfl ?_
  obtain ⟨x2, e1, h⟩ := bzBdE h
  refine cs_X4_30 hF h1 (fun l => mt_X4_hasRun l e1) (by decide) (Nat.le_of_ble_eq_true rfl) dX4_takeRun_4 ?_
  refine j_if_eq hF (tgt := 35) dX4_takeRun_7 (by decide) (fun c3 => ?_) (fun c3 => ?_)
  · replace h := bzIfT h c3
    exact j_vret hF hG dX4_takeRun_35 (Option.some.inj h)
  · replace h := bzIfF h c3
    refine j_aload_n hF 0 dX4_takeRun_10 rfl ?_
    refine j_iload_n hF 3 dX4_takeRun_11 rfl ?_
    refine j_iload hF 4 dX4_takeRun_12 rfl ?_
    obtain ⟨x5, e4, h⟩ := bzBdE h
    refine cs_X4_30 hF ho (fun l => mt_X4_hasRun l e4) (by decide) (Nat.le_of_ble_eq_true rfl) dX4_takeRun_14 ?_
    refine j_if_eq hF (tgt := 35) dX4_takeRun_17 (by decide) (fun c6 => ?_) (fun c6 => ?_)
    · replace h := bzIfT h c6
      exact j_vret hF hG dX4_takeRun_35 (Option.some.inj h)
    · replace h := bzIfF h c6
      refine j_aload_n hF 1 dX4_takeRun_20 rfl ?_
      refine gf_X4_19 hF h1 dX4_takeRun_21 ?_
      refine j_iload_n hF 2 dX4_takeRun_24 rfl ?_
      refine j_aload_n hF 0 dX4_takeRun_25 rfl ?_
      refine gf_X4_19 hF ho dX4_takeRun_26 ?_
      refine j_iload_n hF 3 dX4_takeRun_29 rfl ?_
      refine j_iload hF 4 dX4_takeRun_30 rfl ?_
      obtain ⟨g7, h⟩ := bzGdE h
      refine j_copy hF (c1 := a2.toNatClampNeg) (c2 := a3.toNatClampNeg) (c3 := a4.toNatClampNeg) km_X4_34 (kl_4_0 h1) (kl_4_0 ho) rfl rfl g7 rfl rfl rfl (by decide) (Nat.le_of_ble_eq_true rfl) dX4_takeRun_32 ?_
      refine j_s (fun σ8 eσ8 => ?_)
      replace h := bzLetE h eσ8
      exact j_vret hF hG dX4_takeRun_35 (Option.some.inj h)
def f_X4_copyFrom (o : Nat) (a1 : Nat) (σ : bzS) : Option bzS :=
  bzGd (kd o = 4) (bzGd (kd a1 = 4) (bzBd (f_J_min ((σ a1 1)) ((Int32.ofNat ((ln (ly o 0)))))) (fun x2 => bzLet (bzSt σ o 1 x2) (fun σ3 => bzBd (f_X4_takeRun o a1 0 0 ((σ3 o 1)) σ3) (fun σ5 => some σ5)))))
set_option maxHeartbeats 4000000 in
set_option maxRecDepth 20000 in
theorem mt_X4_copyFrom {g : bzGeo} {o : Nat} {a1 : Nat} {σ : bzS} {σ0 : bzS} (l : Launch) (h : f_X4_copyFrom  o a1 σ = some σ0) : Met l yX4_copyFrom (Cond.code yX4_copyFrom cX4_copyFrom 2 none :: GW) (bzR (3)) (va_Pc [.ref (ga g o), .ref (ga g a1)] (bzP g σ)) (va_Qv (fun (u : bzS) => u = σ0) (bzB g) (gA g)) 0 0 (gA g) := by
  unfold f_X4_copyFrom at h
  obtain ⟨ho, h⟩ := bzGdE h
  obtain ⟨h1, h⟩ := bzGdE h
  refine j_start l (by decide +kernel) [.ref (ga g o), .ref (ga g a1)] [(0, .ref (ga g o)), (1, .ref (ga g a1))] (Nat.le_of_ble_eq_true rfl) rfl (fun x hF hG => ?_)
  refine j_aload_n hF 0 dX4_copyFrom_0 rfl ?_
  refine j_aload_n hF 1 dX4_copyFrom_1 rfl ?_
  refine gf_X4_7 hF h1 dX4_copyFrom_2 ?_
  refine j_aload_n hF 0 dX4_copyFrom_5 rfl ?_
  refine gf_X4_19 hF ho dX4_copyFrom_6 ?_
  refine j_alen hF (Or.inl (kl_4_0 ho)) rfl (v := (Int32.ofNat ((ln (ly o 0))))) rfl dX4_copyFrom_9 ?_
  obtain ⟨x2, e1, h⟩ := bzBdE h
  refine cs_X4_27 hF (fun l => mt_J_min l e1) (by decide) (Nat.le_of_ble_eq_true rfl) dX4_copyFrom_10 ?_
  refine pf_X4_7 hF ho dX4_copyFrom_13 ?_
  refine j_s (fun σ3 eσ3 => ?_)
  replace h := bzLetE h eσ3
  refine j_aload_n hF 0 dX4_copyFrom_16 rfl ?_
  refine j_aload_n hF 1 dX4_copyFrom_17 rfl ?_
  refine j_iconst hF (v := 0) dX4_copyFrom_18 (by decide) ?_
  refine j_iconst hF (v := 0) dX4_copyFrom_19 (by decide) ?_
  refine j_aload_n hF 0 dX4_copyFrom_20 rfl ?_
  refine gf_X4_7 hF ho dX4_copyFrom_21 ?_
  obtain ⟨σ5, e4, h⟩ := bzBdE h
  refine cs_X4_40 hF ho (fun l => mt_X4_takeRun l e4) (by decide) (Nat.le_of_ble_eq_true rfl) dX4_copyFrom_24 ?_
  exact j_vret hF hG dX4_copyFrom_27 (Option.some.inj h)
def f_X4_clear (o : Nat) (σ : bzS) : Option bzS :=
  bzGd (kd o = 4) (bzLet (bzSt σ o 1 0) (fun σ1 => some σ1))
set_option maxHeartbeats 4000000 in
set_option maxRecDepth 20000 in
theorem mt_X4_clear {g : bzGeo} {o : Nat} {σ : bzS} {σ0 : bzS} (l : Launch) (h : f_X4_clear  o σ = some σ0) : Met l yX4_clear (Cond.code yX4_clear cX4_clear 1 none :: GW) (bzR (1)) (va_Pc [.ref (ga g o)] (bzP g σ)) (va_Qv (fun (u : bzS) => u = σ0) (bzB g) (gA g)) 0 0 (gA g) := by
  unfold f_X4_clear at h
  obtain ⟨ho, h⟩ := bzGdE h
  refine j_start l (by decide +kernel) [.ref (ga g o)] [(0, .ref (ga g o))] (Nat.le_of_ble_eq_true rfl) rfl (fun x hF hG => ?_)
  refine j_aload_n hF 0 dX4_clear_0 rfl ?_
  refine j_iconst hF (v := 0) dX4_clear_1 (by decide) ?_
  refine pf_X4_7 hF ho dX4_clear_2 ?_
  refine j_s (fun σ1 eσ1 => ?_)
  replace h := bzLetE h eσ1
  exact j_vret hF hG dX4_clear_5 (Option.some.inj h)
def f_X4_has (o : Nat) (a1 : Int32) (σ : bzS) : Option Int32 :=
  bzGd (kd o = 4) (if a1 < 0 then (some 0) else (if (σ o 1) ≤ a1 then (some 0) else (if (Int32.ofNat ((ln (ly o 0)))) ≤ a1 then (some 0) else (some 1))))
set_option maxHeartbeats 4000000 in
set_option maxRecDepth 20000 in
theorem mt_X4_has {g : bzGeo} {o : Nat} {a1 : Int32} {σ : bzS} {r0 : Int32} (l : Launch) (h : f_X4_has  o a1 σ = some r0) : Met l yX4_has (Cond.code yX4_has cX4_has 2 (some .boolean) :: GW) (bzR (1)) (va_Pc [.ref (ga g o), .int a1] (bzP g σ)) (va_Qi (fun (r : Int32) (u : bzS) => r = r0 ∧ u = σ) (bzB g) (gA g)) 0 0 (gA g) := by
  unfold f_X4_has at h
  obtain ⟨ho, h⟩ := bzGdE h
  refine j_start l (by decide +kernel) [.ref (ga g o), .int a1] [(0, .ref (ga g o)), (1, .int a1)] (Nat.le_of_ble_eq_true rfl) rfl (fun x hF hG => ?_)
  refine j_iload_n hF 1 dX4_has_0 rfl ?_
  refine j_if_lt hF (tgt := 25) dX4_has_1 (by decide) (fun c1 => ?_) (fun c1 => ?_)
  · replace h := bzIfT h c1
    refine j_iconst hF (v := 0) dX4_has_25 (by decide) ?_
    exact j_zret hF hG dX4_has_26 (by decide)  (Option.some.inj h) rfl
  · replace h := bzIfF h c1
    refine j_iload_n hF 1 dX4_has_4 rfl ?_
    refine j_aload_n hF 0 dX4_has_5 rfl ?_
    refine gf_X4_7 hF ho dX4_has_6 ?_
    refine j_icmp_ge hF (tgt := 25) dX4_has_9 (by decide) (fun c2 => ?_) (fun c2 => ?_)
    · replace h := bzIfT h c2
      refine j_iconst hF (v := 0) dX4_has_25 (by decide) ?_
      exact j_zret hF hG dX4_has_26 (by decide)  (Option.some.inj h) rfl
    · replace h := bzIfF h c2
      refine j_iload_n hF 1 dX4_has_12 rfl ?_
      refine j_aload_n hF 0 dX4_has_13 rfl ?_
      refine gf_X4_19 hF ho dX4_has_14 ?_
      refine j_alen hF (Or.inl (kl_4_0 ho)) rfl (v := (Int32.ofNat ((ln (ly o 0))))) rfl dX4_has_17 ?_
      refine j_icmp_ge hF (tgt := 25) dX4_has_18 (by decide) (fun c3 => ?_) (fun c3 => ?_)
      · replace h := bzIfT h c3
        refine j_iconst hF (v := 0) dX4_has_25 (by decide) ?_
        exact j_zret hF hG dX4_has_26 (by decide)  (Option.some.inj h) rfl
      · replace h := bzIfF h c3
        refine j_iconst hF (v := 1) dX4_has_21 (by decide) ?_
        refine j_goto hF (tgt := 26) dX4_has_22 (by decide) ?_
        exact j_zret hF hG dX4_has_26 (by decide)  (Option.some.inj h) rfl
def f_X3_next (o : Nat) (σ : bzS) : Option Int32 :=
  bzGd (kd o = 3) (bzBd (f_X4_has ((ly o 0)) ((σ o 3)) σ) (fun x2 => if x2 = 0 then (some ((-1))) else (bzBd (f_X4_at ((ly o 0)) ((σ o 3)) σ) (fun x5 => some x5))))
set_option maxHeartbeats 4000000 in
set_option maxRecDepth 20000 in
theorem mt_X3_next {g : bzGeo} {o : Nat} {σ : bzS} {r0 : Int32} (l : Launch) (h : f_X3_next  o σ = some r0) : Met l yX3_next (Cond.code yX3_next cX3_next 1 (some .int) :: GW) (bzR (2)) (va_Pc [.ref (ga g o)] (bzP g σ)) (va_Qi (fun (r : Int32) (u : bzS) => r = r0 ∧ u = σ) (bzB g) (gA g)) 0 0 (gA g) := by
  unfold f_X3_next at h
  obtain ⟨ho, h⟩ := bzGdE h
  refine j_start l (by decide +kernel) [.ref (ga g o)] [(0, .ref (ga g o))] (Nat.le_of_ble_eq_true rfl) rfl (fun x hF hG => ?_)
  refine j_aload_n hF 0 dX3_next_0 rfl ?_
  refine gf_X3_14 hF ho dX3_next_1 ?_
  refine j_aload_n hF 0 dX3_next_4 rfl ?_
  refine gf_X3_31 hF ho dX3_next_5 ?_
  obtain ⟨x2, e1, h⟩ := bzBdE h
  refine cs_X3_85 hF (kl_3_0 ho) (fun l => mt_X4_has l e1) (by decide) (Nat.le_of_ble_eq_true rfl) dX3_next_8 ?_
  refine j_if_eq hF (tgt := 28) dX3_next_11 (by decide) (fun c3 => ?_) (fun c3 => ?_)
  · replace h := bzIfT h c3
    refine j_iconst hF (v := (-1)) dX3_next_28 (by decide) ?_
    exact j_iret hF hG dX3_next_29  (Option.some.inj h) rfl
  · replace h := bzIfF h c3
    refine j_aload_n hF 0 dX3_next_14 rfl ?_
    refine gf_X3_14 hF ho dX3_next_15 ?_
    refine j_aload_n hF 0 dX3_next_18 rfl ?_
    refine gf_X3_31 hF ho dX3_next_19 ?_
    obtain ⟨x5, e4, h⟩ := bzBdE h
    refine cs_X3_88 hF (kl_3_0 ho) (fun l => mt_X4_at l e4) (by decide) (Nat.le_of_ble_eq_true rfl) dX3_next_22 ?_
    refine j_goto hF (tgt := 29) dX3_next_25 (by decide) ?_
    exact j_iret hF hG dX3_next_29  (Option.some.inj h) rfl
def f_X3_isDigit (a0 : Int32) : Option Int32 :=
  if a0 < 48 then (some 0) else (if 57 < a0 then (some 0) else (some 1))
set_option maxHeartbeats 4000000 in
set_option maxRecDepth 20000 in
theorem mt_X3_isDigit {g : bzGeo} {a0 : Int32} {σ : bzS} {r0 : Int32} (l : Launch) (h : f_X3_isDigit  a0 = some r0) : Met l yX3_isDigit (Cond.code yX3_isDigit cX3_isDigit 1 (some .boolean) :: GW) (bzR (1)) (va_Pc [.int a0] (bzP g σ)) (va_Qi (fun (r : Int32) (u : bzS) => r = r0 ∧ u = σ) (bzB g) (gA g)) 0 0 (gA g) := by
  unfold f_X3_isDigit at h
  refine j_start l (by decide +kernel) [.int a0] [(0, .int a0)] (Nat.le_of_ble_eq_true rfl) rfl (fun x hF hG => ?_)
  refine j_iload_n hF 0 dX3_isDigit_0 rfl ?_
  refine j_bipush hF (v := 48) dX3_isDigit_1 (by decide) ?_
  refine j_icmp_lt hF (tgt := 16) dX3_isDigit_3 (by decide) (fun c1 => ?_) (fun c1 => ?_)
  · replace h := bzIfT h c1
    refine j_iconst hF (v := 0) dX3_isDigit_16 (by decide) ?_
    exact j_zret hF hG dX3_isDigit_17 (by decide)  (Option.some.inj h) rfl
  · replace h := bzIfF h c1
    refine j_iload_n hF 0 dX3_isDigit_6 rfl ?_
    refine j_bipush hF (v := 57) dX3_isDigit_7 (by decide) ?_
    refine j_icmp_gt hF (tgt := 16) dX3_isDigit_9 (by decide) (fun c2 => ?_) (fun c2 => ?_)
    · replace h := bzIfT h c2
      refine j_iconst hF (v := 0) dX3_isDigit_16 (by decide) ?_
      exact j_zret hF hG dX3_isDigit_17 (by decide)  (Option.some.inj h) rfl
    · replace h := bzIfF h c2
      refine j_iconst hF (v := 1) dX3_isDigit_12 (by decide) ?_
      refine j_goto hF (tgt := 17) dX3_isDigit_13 (by decide) ?_
      exact j_zret hF hG dX3_isDigit_17 (by decide)  (Option.some.inj h) rfl
def fb_X3_readNumber_4 (K4 : Int32 → Int32 → bzS → Option bzS) (o : Nat) (v1 : Int32) (v2 : Int32) (σ1 : bzS) : Option bzS :=
  if 4 ≤ v2 then (bzBp (f_X4_add ((ly (ly o 1) 0)) v1 σ1) (fun x3 σ4 => some σ4)) else (bzBd (f_X3_next o σ1) (fun x6 => bzBd (f_X3_isDigit x6) (fun x8 => if x8 = 0 then (bzBp (f_X4_add ((ly (ly o 1) 0)) v1 σ1) (fun x11 σ12 => some σ12)) else (bzBd (f_X3_next o σ1) (fun x14 => bzLet ((((v1 * 10) + x14) - 48)) (fun x15 => bzLet (bzSt σ1 o 3 ((σ1 o 3) + 1)) (fun σ16 => bzLet (v2 + 1) (fun x17 => K4 x15 x17 σ16))))))))
def fl_X3_readNumber_4 (o : Nat) : Nat → Int32 → Int32 → bzS → Option bzS
  | 0, _, _, _ => none
  | n + 1, v1, v2, σ1 => fb_X3_readNumber_4   (fl_X3_readNumber_4   o n) o v1 v2 σ1
def f_X3_readNumber (o : Nat) (σ : bzS) : Option bzS :=
  bzGd (kd o = 3) (fl_X3_readNumber_4 o 2000 0 0 σ)
set_option maxHeartbeats 4000000 in
set_option maxRecDepth 20000 in
theorem mt_X3_readNumber {g : bzGeo} {o : Nat} {σ : bzS} {σ0 : bzS} (l : Launch) (h : f_X3_readNumber  o σ = some σ0) : Met l yX3_readNumber (Cond.code yX3_readNumber cX3_readNumber 3 none :: GW) (bzR (3)) (va_Pc [.ref (ga g o)] (bzP g σ)) (va_Qv (fun (u : bzS) => u = σ0) (bzB g) (gA g)) 0 0 (gA g) := by
  unfold f_X3_readNumber at h
  obtain ⟨ho, h⟩ := bzGdE h
  refine j_start l (by decide +kernel) [.ref (ga g o)] [(0, .ref (ga g o))] (Nat.le_of_ble_eq_true rfl) rfl (fun x hF hG => ?_)
  have J4 : (K4 : Int32 → Int32 → bzS → Option bzS) → (hK4 : ∀ (v1 : Int32) (v2 : Int32) (σ1 : bzS), K4 v1 v2 σ1 = some σ0 → bzJ g 3 x σ1 4 [(0, .ref (ga g o)), (1, .int v1), (2, .int v2)] []) → ∀ (v1 : Int32) (v2 : Int32) (σ1 : bzS), fb_X3_readNumber_4 K4 o v1 v2 σ1 = some σ0 → bzJ g 3 x σ1 4 [(0, .ref (ga g o)), (1, .int v1), (2, .int v2)] [] := by
    intro K4 hK4 v1 v2 σ1 h
    unfold fb_X3_readNumber_4 at h
    refine j_iload_n hF 2 dX3_readNumber_4 rfl ?_
    refine j_iconst hF (v := 4) dX3_readNumber_5 (by decide) ?_
    refine j_icmp_ge hF (tgt := 48) dX3_readNumber_6 (by decide) (fun c1 => ?_) (fun c1 => ?_)
    · replace h := bzIfT h c1
      refine j_aload_n hF 0 dX3_readNumber_48 rfl ?_
      refine gf_X3_23 hF ho dX3_readNumber_49 ?_
      refine gf_X3_45 hF (kl_3_1 ho) dX3_readNumber_52 ?_
      refine j_iload_n hF 1 dX3_readNumber_55 rfl ?_
      obtain ⟨x3, σ4, e2, h⟩ := bzBpE h
      refine cs_X3_69 hF (kl_2_0 (kl_3_1 ho)) (fun l => mt_X4_add l e2) (by decide) (Nat.le_of_ble_eq_true rfl) dX3_readNumber_56 ?_
      refine j_pop hF dX3_readNumber_59 rfl ?_
      exact j_vret hF hG dX3_readNumber_60 (Option.some.inj h)
    · replace h := bzIfF h c1
      refine j_aload_n hF 0 dX3_readNumber_9 rfl ?_
      obtain ⟨x6, e5, h⟩ := bzBdE h
      refine cs_X3_61 hF ho (fun l => mt_X3_next l e5) (by decide) (Nat.le_of_ble_eq_true rfl) dX3_readNumber_10 ?_
      obtain ⟨x8, e7, h⟩ := bzBdE h
      refine cs_X3_73 hF (fun l => mt_X3_isDigit l e7) (by decide) (Nat.le_of_ble_eq_true rfl) dX3_readNumber_13 ?_
      refine j_if_eq hF (tgt := 48) dX3_readNumber_16 (by decide) (fun c9 => ?_) (fun c9 => ?_)
      · replace h := bzIfT h c9
        refine j_aload_n hF 0 dX3_readNumber_48 rfl ?_
        refine gf_X3_23 hF ho dX3_readNumber_49 ?_
        refine gf_X3_45 hF (kl_3_1 ho) dX3_readNumber_52 ?_
        refine j_iload_n hF 1 dX3_readNumber_55 rfl ?_
        obtain ⟨x11, σ12, e10, h⟩ := bzBpE h
        refine cs_X3_69 hF (kl_2_0 (kl_3_1 ho)) (fun l => mt_X4_add l e10) (by decide) (Nat.le_of_ble_eq_true rfl) dX3_readNumber_56 ?_
        refine j_pop hF dX3_readNumber_59 rfl ?_
        exact j_vret hF hG dX3_readNumber_60 (Option.some.inj h)
      · replace h := bzIfF h c9
        refine j_iload_n hF 1 dX3_readNumber_19 rfl ?_
        refine j_bipush hF (v := 10) dX3_readNumber_20 (by decide) ?_
        refine j_imul hF dX3_readNumber_22 ?_
        refine j_aload_n hF 0 dX3_readNumber_23 rfl ?_
        obtain ⟨x14, e13, h⟩ := bzBdE h
        refine cs_X3_61 hF ho (fun l => mt_X3_next l e13) (by decide) (Nat.le_of_ble_eq_true rfl) dX3_readNumber_24 ?_
        refine j_iadd hF dX3_readNumber_27 ?_
        refine j_bipush hF (v := 48) dX3_readNumber_28 (by decide) ?_
        refine j_isub hF dX3_readNumber_30 ?_
        refine j_topi (fun x15 ex15 => ?_)
        replace h := bzLetE h ex15
        refine j_istore_n hF (lv1 := [(1, .int x15), (0, .ref (ga g o)), (2, .int v2)]) dX3_readNumber_31 (by decide) rfl ?_
        refine j_aload_n hF 1 dX3_readNumber_32 rfl ?_
        refine j_dup hF dX3_readNumber_33 rfl ?_
        refine gf_X3_31 hF ho dX3_readNumber_34 ?_
        refine j_iconst hF (v := 1) dX3_readNumber_37 (by decide) ?_
        refine j_iadd hF dX3_readNumber_38 ?_
        refine pf_X3_31 hF ho dX3_readNumber_39 ?_
        refine j_s (fun σ16 eσ16 => ?_)
        replace h := bzLetE h eσ16
        obtain ⟨x17, ex17⟩ : ∃ y : Int32, y = v2 + 1 := ⟨_, rfl⟩
        replace h := bzLetE h ex17
        refine j_iinc hF (v := x17) (lv1 := [(2, .int x17), (1, .int x15), (0, .ref (ga g o))]) 2 dX3_readNumber_42 rfl (by rw [ex17]; rfl) (by decide) rfl ?_
        refine j_goto hF (tgt := 4) dX3_readNumber_45 (by decide) ?_
        refine j_sub [2, 1, 0] rfl ?_
        exact hK4 x15 x17 σ16 h
  have L4 : ∀ (n : Nat) (v1 : Int32) (v2 : Int32) (σ1 : bzS), fl_X3_readNumber_4   o n v1 v2 σ1 = some σ0 → bzJ g 3 x σ1 4 [(0, .ref (ga g o)), (1, .int v1), (2, .int v2)] [] := by
    intro  n
    induction n with
    | zero =>
      intro v1 v2 σ1  h
      cases h
    | succ n ih =>
      intro v1 v2 σ1  h
      exact J4  (fl_X3_readNumber_4   o n) ih v1 v2 σ1  h
  refine j_iconst hF (v := 0) dX3_readNumber_0 (by decide) ?_
  refine j_istore_n hF (lv1 := [(1, .int 0), (0, .ref (ga g o))]) dX3_readNumber_1 (by decide) rfl ?_
  refine j_iconst hF (v := 0) dX3_readNumber_2 (by decide) ?_
  refine j_istore_n hF (lv1 := [(2, .int 0), (1, .int 0), (0, .ref (ga g o))]) dX3_readNumber_3 (by decide) rfl ?_
  refine j_sub [2, 1, 0] rfl ?_
  exact L4 2000 0 0 σ h
def f_X3_nameOf (o : Nat) (a1 : Int32) (σ : bzS) : Option Int32 :=
  bzGd (kd o = 3) (if a1 = 102 then (if (σ o 2) = 1 then (some ((-3))) else (some 0)) else if a1 = 104 then (some ((-2))) else if a1 = 108 then (if (σ o 2) = 0 then (some ((-3))) else (some 0)) else if a1 = 119 then (some ((-1))) else (some 0))
set_option maxHeartbeats 4000000 in
set_option maxRecDepth 20000 in
theorem mt_X3_nameOf {g : bzGeo} {o : Nat} {a1 : Int32} {σ : bzS} {r0 : Int32} (l : Launch) (h : f_X3_nameOf  o a1 σ = some r0) : Met l yX3_nameOf (Cond.code yX3_nameOf cX3_nameOf 2 (some .int) :: GW) (bzR (1)) (va_Pc [.ref (ga g o), .int a1] (bzP g σ)) (va_Qi (fun (r : Int32) (u : bzS) => r = r0 ∧ u = σ) (bzB g) (gA g)) 0 0 (gA g) := by
  unfold f_X3_nameOf at h
  obtain ⟨ho, h⟩ := bzGdE h
  refine j_start l (by decide +kernel) [.ref (ga g o), .int a1] [(0, .ref (ga g o)), (1, .int a1)] (Nat.le_of_ble_eq_true rfl) rfl (fun x hF hG => ?_)
  refine j_iload_n hF 1 dX3_nameOf_0 rfl ?_
  rcases Decidable.em (a1 = 102) with c1 | c1
  · replace h := bzIfT h c1
    refine j_lookup hF (tgt := 63) dX3_nameOf_1 (by decide) (by rw [c1] <;> rfl) (by decide) ?_
    refine j_aload_n hF 0 dX3_nameOf_63 rfl ?_
    refine gf_X3_27 hF ho dX3_nameOf_64 ?_
    refine j_iconst hF (v := 1) dX3_nameOf_67 (by decide) ?_
    refine j_icmp_ne hF (tgt := 76) dX3_nameOf_68 (by decide) (fun c2 => ?_) (fun c2 => ?_)
    · replace h := bzIfF h c2
      refine j_iconst hF (v := 0) dX3_nameOf_76 (by decide) ?_
      exact j_iret hF hG dX3_nameOf_77  (Option.some.inj h) rfl
    · replace h := bzIfT h c2
      refine j_bipush hF (v := (-3)) dX3_nameOf_71 (by decide) ?_
      refine j_goto hF (tgt := 77) dX3_nameOf_73 (by decide) ?_
      exact j_iret hF hG dX3_nameOf_77  (Option.some.inj h) rfl
  · replace h := bzIfF h c1
    rcases Decidable.em (a1 = 104) with c3 | c3
    · replace h := bzIfT h c3
      refine j_lookup hF (tgt := 46) dX3_nameOf_1 (by decide) (by rw [c3] <;> rfl) (by decide) ?_
      refine j_bipush hF (v := (-2)) dX3_nameOf_46 (by decide) ?_
      exact j_iret hF hG dX3_nameOf_48  (Option.some.inj h) rfl
    · replace h := bzIfF h c3
      rcases Decidable.em (a1 = 108) with c4 | c4
      · replace h := bzIfT h c4
        refine j_lookup hF (tgt := 49) dX3_nameOf_1 (by decide) (by rw [c4] <;> rfl) (by decide) ?_
        refine j_aload_n hF 0 dX3_nameOf_49 rfl ?_
        refine gf_X3_27 hF ho dX3_nameOf_50 ?_
        refine j_if_ne hF (tgt := 61) dX3_nameOf_53 (by decide) (fun c5 => ?_) (fun c5 => ?_)
        · replace h := bzIfF h c5
          refine j_iconst hF (v := 0) dX3_nameOf_61 (by decide) ?_
          exact j_iret hF hG dX3_nameOf_62  (Option.some.inj h) rfl
        · replace h := bzIfT h c5
          refine j_bipush hF (v := (-3)) dX3_nameOf_56 (by decide) ?_
          refine j_goto hF (tgt := 62) dX3_nameOf_58 (by decide) ?_
          exact j_iret hF hG dX3_nameOf_62  (Option.some.inj h) rfl
      · replace h := bzIfF h c4
        rcases Decidable.em (a1 = 119) with c6 | c6
        · replace h := bzIfT h c6
          refine j_lookup hF (tgt := 44) dX3_nameOf_1 (by decide) (by rw [c6] <;> rfl) (by decide) ?_
          refine j_iconst hF (v := (-1)) dX3_nameOf_44 (by decide) ?_
          exact j_iret hF hG dX3_nameOf_45  (Option.some.inj h) rfl
        · replace h := bzIfF h c6
          refine j_lookup hF (off := 77) (tgt := 78) dX3_nameOf_1 (by decide) ((lv_osw c1 (by decide)).trans ((lv_osw c3 (by decide)).trans ((lv_osw c4 (by decide)).trans ((lv_osw c6 (by decide)).trans (rfl))))) (by decide) ?_
          refine j_iconst hF (v := 0) dX3_nameOf_78 (by decide) ?_
          exact j_iret hF hG dX3_nameOf_79  (Option.some.inj h) rfl
def f_X3_close (o : Nat) (σ : bzS) : Option bzS :=
  bzGd (kd o = 3) (if (σ o 4) = 0 then (bzBd (f_X3_next o σ) (fun x4 => if x4 = 41 then (bzLet (bzSt σ o 3 ((σ o 3) + 1)) (fun σ7 => some σ7)) else (bzLet (bzSt σ o 4 1) (fun σ6 => some σ6)))) else (bzLet (bzSt σ o 4 1) (fun σ2 => some σ2)))
set_option maxHeartbeats 4000000 in
set_option maxRecDepth 20000 in
theorem mt_X3_close {g : bzGeo} {o : Nat} {σ : bzS} {σ0 : bzS} (l : Launch) (h : f_X3_close  o σ = some σ0) : Met l yX3_close (Cond.code yX3_close cX3_close 1 none :: GW) (bzR (3)) (va_Pc [.ref (ga g o)] (bzP g σ)) (va_Qv (fun (u : bzS) => u = σ0) (bzB g) (gA g)) 0 0 (gA g) := by
  unfold f_X3_close at h
  obtain ⟨ho, h⟩ := bzGdE h
  refine j_start l (by decide +kernel) [.ref (ga g o)] [(0, .ref (ga g o))] (Nat.le_of_ble_eq_true rfl) rfl (fun x hF hG => ?_)
  refine j_aload_n hF 0 dX3_close_0 rfl ?_
  refine gf_X3_34 hF ho dX3_close_1 ?_
  refine j_if_ne hF (tgt := 29) dX3_close_4 (by decide) (fun c1 => ?_) (fun c1 => ?_)
  · replace h := bzIfF h c1
    refine j_aload_n hF 0 dX3_close_29 rfl ?_
    refine j_iconst hF (v := 1) dX3_close_30 (by decide) ?_
    refine pf_X3_34 hF ho (Or.inr rfl) dX3_close_31 ?_
    refine j_s (fun σ2 eσ2 => ?_)
    replace h := bzLetE h eσ2
    exact j_vret hF hG dX3_close_34 (Option.some.inj h)
  · replace h := bzIfT h c1
    refine j_aload_n hF 0 dX3_close_7 rfl ?_
    obtain ⟨x4, e3, h⟩ := bzBdE h
    refine cs_X3_61 hF ho (fun l => mt_X3_next l e3) (by decide) (Nat.le_of_ble_eq_true rfl) dX3_close_8 ?_
    refine j_bipush hF (v := 41) dX3_close_11 (by decide) ?_
    refine j_icmp_ne hF (tgt := 29) dX3_close_13 (by decide) (fun c5 => ?_) (fun c5 => ?_)
    · replace h := bzIfF h c5
      refine j_aload_n hF 0 dX3_close_29 rfl ?_
      refine j_iconst hF (v := 1) dX3_close_30 (by decide) ?_
      refine pf_X3_34 hF ho (Or.inr rfl) dX3_close_31 ?_
      refine j_s (fun σ6 eσ6 => ?_)
      replace h := bzLetE h eσ6
      exact j_vret hF hG dX3_close_34 (Option.some.inj h)
    · replace h := bzIfT h c5
      refine j_aload_n hF 0 dX3_close_16 rfl ?_
      refine j_dup hF dX3_close_17 rfl ?_
      refine gf_X3_31 hF ho dX3_close_18 ?_
      refine j_iconst hF (v := 1) dX3_close_21 (by decide) ?_
      refine j_iadd hF dX3_close_22 ?_
      refine pf_X3_31 hF ho dX3_close_23 ?_
      refine j_s (fun σ7 eσ7 => ?_)
      replace h := bzLetE h eσ7
      refine j_goto hF (tgt := 34) dX3_close_26 (by decide) ?_
      exact j_vret hF hG dX3_close_34 (Option.some.inj h)
def f_X3_levelOf (a0 : Int32) : Option Int32 :=
  if a0 = 37 then (some 4) else if a0 = 38 then (some 1) else if a0 = 42 then (some 4) else if a0 = 43 then (some 3) else if a0 = 45 then (some 3) else if a0 = 47 then (some 4) else if a0 = 60 then (some 2) else if a0 = 61 then (some 2) else if a0 = 62 then (some 2) else if a0 = 124 then (some 0) else (some 5)
set_option maxHeartbeats 4000000 in
set_option maxRecDepth 20000 in
theorem mt_X3_levelOf {g : bzGeo} {a0 : Int32} {σ : bzS} {r0 : Int32} (l : Launch) (h : f_X3_levelOf  a0 = some r0) : Met l yX3_levelOf (Cond.code yX3_levelOf cX3_levelOf 1 (some .int) :: GW) (bzR (1)) (va_Pc [.int a0] (bzP g σ)) (va_Qi (fun (r : Int32) (u : bzS) => r = r0 ∧ u = σ) (bzB g) (gA g)) 0 0 (gA g) := by
  unfold f_X3_levelOf at h
  refine j_start l (by decide +kernel) [.int a0] [(0, .int a0)] (Nat.le_of_ble_eq_true rfl) rfl (fun x hF hG => ?_)
  refine j_iload_n hF 0 dX3_levelOf_0 rfl ?_
  rcases Decidable.em (a0 = 37) with c1 | c1
  · replace h := bzIfT h c1
    refine j_lookup hF (tgt := 100) dX3_levelOf_1 (by decide) (by rw [c1] <;> rfl) (by decide) ?_
    refine j_iconst hF (v := 4) dX3_levelOf_100 (by decide) ?_
    exact j_iret hF hG dX3_levelOf_101  (Option.some.inj h) rfl
  · replace h := bzIfF h c1
    rcases Decidable.em (a0 = 38) with c2 | c2
    · replace h := bzIfT h c2
      refine j_lookup hF (tgt := 94) dX3_levelOf_1 (by decide) (by rw [c2] <;> rfl) (by decide) ?_
      refine j_iconst hF (v := 1) dX3_levelOf_94 (by decide) ?_
      exact j_iret hF hG dX3_levelOf_95  (Option.some.inj h) rfl
    · replace h := bzIfF h c2
      rcases Decidable.em (a0 = 42) with c3 | c3
      · replace h := bzIfT h c3
        refine j_lookup hF (tgt := 100) dX3_levelOf_1 (by decide) (by rw [c3] <;> rfl) (by decide) ?_
        refine j_iconst hF (v := 4) dX3_levelOf_100 (by decide) ?_
        exact j_iret hF hG dX3_levelOf_101  (Option.some.inj h) rfl
      · replace h := bzIfF h c3
        rcases Decidable.em (a0 = 43) with c4 | c4
        · replace h := bzIfT h c4
          refine j_lookup hF (tgt := 98) dX3_levelOf_1 (by decide) (by rw [c4] <;> rfl) (by decide) ?_
          refine j_iconst hF (v := 3) dX3_levelOf_98 (by decide) ?_
          exact j_iret hF hG dX3_levelOf_99  (Option.some.inj h) rfl
        · replace h := bzIfF h c4
          rcases Decidable.em (a0 = 45) with c5 | c5
          · replace h := bzIfT h c5
            refine j_lookup hF (tgt := 98) dX3_levelOf_1 (by decide) (by rw [c5] <;> rfl) (by decide) ?_
            refine j_iconst hF (v := 3) dX3_levelOf_98 (by decide) ?_
            exact j_iret hF hG dX3_levelOf_99  (Option.some.inj h) rfl
          · replace h := bzIfF h c5
            rcases Decidable.em (a0 = 47) with c6 | c6
            · replace h := bzIfT h c6
              refine j_lookup hF (tgt := 100) dX3_levelOf_1 (by decide) (by rw [c6] <;> rfl) (by decide) ?_
              refine j_iconst hF (v := 4) dX3_levelOf_100 (by decide) ?_
              exact j_iret hF hG dX3_levelOf_101  (Option.some.inj h) rfl
            · replace h := bzIfF h c6
              rcases Decidable.em (a0 = 60) with c7 | c7
              · replace h := bzIfT h c7
                refine j_lookup hF (tgt := 96) dX3_levelOf_1 (by decide) (by rw [c7] <;> rfl) (by decide) ?_
                refine j_iconst hF (v := 2) dX3_levelOf_96 (by decide) ?_
                exact j_iret hF hG dX3_levelOf_97  (Option.some.inj h) rfl
              · replace h := bzIfF h c7
                rcases Decidable.em (a0 = 61) with c8 | c8
                · replace h := bzIfT h c8
                  refine j_lookup hF (tgt := 96) dX3_levelOf_1 (by decide) (by rw [c8] <;> rfl) (by decide) ?_
                  refine j_iconst hF (v := 2) dX3_levelOf_96 (by decide) ?_
                  exact j_iret hF hG dX3_levelOf_97  (Option.some.inj h) rfl
                · replace h := bzIfF h c8
                  rcases Decidable.em (a0 = 62) with c9 | c9
                  · replace h := bzIfT h c9
                    refine j_lookup hF (tgt := 96) dX3_levelOf_1 (by decide) (by rw [c9] <;> rfl) (by decide) ?_
                    refine j_iconst hF (v := 2) dX3_levelOf_96 (by decide) ?_
                    exact j_iret hF hG dX3_levelOf_97  (Option.some.inj h) rfl
                  · replace h := bzIfF h c9
                    rcases Decidable.em (a0 = 124) with c10 | c10
                    · replace h := bzIfT h c10
                      refine j_lookup hF (tgt := 92) dX3_levelOf_1 (by decide) (by rw [c10] <;> rfl) (by decide) ?_
                      refine j_iconst hF (v := 0) dX3_levelOf_92 (by decide) ?_
                      exact j_iret hF hG dX3_levelOf_93  (Option.some.inj h) rfl
                    · replace h := bzIfF h c10
                      refine j_lookup hF (off := 101) (tgt := 102) dX3_levelOf_1 (by decide) ((lv_osw c1 (by decide)).trans ((lv_osw c2 (by decide)).trans ((lv_osw c3 (by decide)).trans ((lv_osw c4 (by decide)).trans ((lv_osw c5 (by decide)).trans ((lv_osw c6 (by decide)).trans ((lv_osw c7 (by decide)).trans ((lv_osw c8 (by decide)).trans ((lv_osw c9 (by decide)).trans ((lv_osw c10 (by decide)).trans (rfl))))))))))) (by decide) ?_
                      refine j_iconst hF (v := 5) dX3_levelOf_102 (by decide) ?_
                      exact j_iret hF hG dX3_levelOf_103  (Option.some.inj h) rfl
def fb_X3_readLevel_34 (qX3_readLevel : Nat → Int32 → Int32 → bzS → Option bzS) (qX3_readUnit : Nat → Int32 → bzS → Option bzS) (K34 : Int32 → Int32 → bzS → Option bzS) (o : Nat) (a1 : Int32) (a2 : Int32) (v3 : Int32) (v4 : Int32) (σ1 : bzS) : Option bzS :=
  if v3 ≤ v4 then (some σ1) else (if (σ1 o 4) = 0 then (bzBd (f_X3_next o σ1) (fun x8 => bzBd (f_X3_levelOf x8) (fun x10 => if x10 = a1 then (bzBd (f_X3_next o σ1) (fun x13 => bzLet (bzSt σ1 o 3 ((σ1 o 3) + 1)) (fun σ14 => bzBd (qX3_readLevel o ((a1 + 1)) a2 σ14) (fun σ16 => bzBp (f_X4_add ((ly (ly o 1) 0)) ((-x13)) σ16) (fun x18 σ19 => bzLet (v4 + 1) (fun x20 => K34 v3 x20 σ19)))))) else (some σ1)))) else (some σ1))
def fl_X3_readLevel_34 (qX3_readLevel : Nat → Int32 → Int32 → bzS → Option bzS) (qX3_readUnit : Nat → Int32 → bzS → Option bzS) (o : Nat) (a1 : Int32) (a2 : Int32) : Nat → Int32 → Int32 → bzS → Option bzS
  | 0, _, _, _ => none
  | n + 1, v3, v4, σ1 => fb_X3_readLevel_34 qX3_readLevel qX3_readUnit  (fl_X3_readLevel_34 qX3_readLevel qX3_readUnit  o a1 a2 n) o a1 a2 v3 v4 σ1
def fm_X3_readLevel (qX3_readLevel : Nat → Int32 → Int32 → bzS → Option bzS) (qX3_readUnit : Nat → Int32 → bzS → Option bzS) (o : Nat) (a1 : Int32) (a2 : Int32) (σ : bzS) : Option bzS :=
  bzGd (kd o = 3) (if a1 < 5 then (bzBd (qX3_readLevel o ((a1 + 1)) a2 σ) (fun σ3 => if a1 = 2 then (fl_X3_readLevel_34 qX3_readLevel qX3_readUnit o a1 a2 2000 1 0 σ3) else (fl_X3_readLevel_34 qX3_readLevel qX3_readUnit o a1 a2 2000 50 0 σ3))) else (bzBd (qX3_readUnit o a2 σ) (fun σ22 => some σ22)))
set_option maxHeartbeats 4000000 in
set_option maxRecDepth 20000 in
theorem mm_X3_readLevel {d : Nat} (hd : 4 ≤ d) {qX3_readLevel : Nat → Int32 → Int32 → bzS → Option bzS} (hqX3_readLevel : ∀ {g : bzGeo} {o : Nat} {a1 : Int32} {a2 : Int32} {σ : bzS} {σ0 : bzS} , qX3_readLevel o a1 a2 σ = some σ0 → ∀ l : Launch, Met l yX3_readLevel (Cond.code yX3_readLevel cX3_readLevel 6 none :: GW) (bzR (d)) (va_Pc [.ref (ga g o), .int a1, .int a2] (bzP g σ)) (va_Qv (fun (u : bzS) => u = σ0) (bzB g) (gA g)) 0 0 (gA g)) {qX3_readUnit : Nat → Int32 → bzS → Option bzS} (hqX3_readUnit : ∀ {g : bzGeo} {o : Nat} {a1 : Int32} {σ : bzS} {σ0 : bzS} , qX3_readUnit o a1 σ = some σ0 → ∀ l : Launch, Met l yX3_readUnit (Cond.code yX3_readUnit cX3_readUnit 3 none :: GW) (bzR (d)) (va_Pc [.ref (ga g o), .int a1] (bzP g σ)) (va_Qv (fun (u : bzS) => u = σ0) (bzB g) (gA g)) 0 0 (gA g)) {g : bzGeo} {o : Nat} {a1 : Int32} {a2 : Int32} {σ : bzS} {σ0 : bzS} (l : Launch) (h : fm_X3_readLevel qX3_readLevel qX3_readUnit o a1 a2 σ = some σ0) : Met l yX3_readLevel (Cond.code yX3_readLevel cX3_readLevel 6 none :: GW) (bzR (d + 1)) (va_Pc [.ref (ga g o), .int a1, .int a2] (bzP g σ)) (va_Qv (fun (u : bzS) => u = σ0) (bzB g) (gA g)) 0 0 (gA g) := by
  unfold fm_X3_readLevel at h
  obtain ⟨ho, h⟩ := bzGdE h
  refine j_start l (by decide +kernel) [.ref (ga g o), .int a1, .int a2] [(0, .ref (ga g o)), (1, .int a1), (2, .int a2)] (Nat.le_of_ble_eq_true rfl) rfl (fun x hF hG => ?_)
  have J34 : (K34 : Int32 → Int32 → bzS → Option bzS) → (hK34 : ∀ (v3 : Int32) (v4 : Int32) (σ1 : bzS), K34 v3 v4 σ1 = some σ0 → bzJ g 6 x σ1 34 [(0, .ref (ga g o)), (1, .int a1), (2, .int a2), (3, .int v3), (4, .int v4)] []) → ∀ (v3 : Int32) (v4 : Int32) (σ1 : bzS), fb_X3_readLevel_34 qX3_readLevel qX3_readUnit K34 o a1 a2 v3 v4 σ1 = some σ0 → bzJ g 6 x σ1 34 [(0, .ref (ga g o)), (1, .int a1), (2, .int a2), (3, .int v3), (4, .int v4)] [] := by
    intro K34 hK34 v3 v4 σ1 h
    unfold fb_X3_readLevel_34 at h
    refine j_iload hF 4 dX3_readLevel_34 rfl ?_
    refine j_iload_n hF 3 dX3_readLevel_36 rfl ?_
    refine j_icmp_ge hF (tgt := 102) dX3_readLevel_37 (by decide) (fun c5 => ?_) (fun c5 => ?_)
    · replace h := bzIfT h c5
      exact j_vret hF hG dX3_readLevel_102 (Option.some.inj h)
    · replace h := bzIfF h c5
      refine j_aload_n hF 0 dX3_readLevel_40 rfl ?_
      refine gf_X3_34 hF ho dX3_readLevel_41 ?_
      refine j_if_ne hF (tgt := 102) dX3_readLevel_44 (by decide) (fun c6 => ?_) (fun c6 => ?_)
      · replace h := bzIfF h c6
        exact j_vret hF hG dX3_readLevel_102 (Option.some.inj h)
      · replace h := bzIfT h c6
        refine j_aload_n hF 0 dX3_readLevel_47 rfl ?_
        obtain ⟨x8, e7, h⟩ := bzBdE h
        refine cs_X3_61 hF ho (fun l => mt_X3_next l e7) (by omega) (Nat.le_of_ble_eq_true rfl) dX3_readLevel_48 ?_
        obtain ⟨x10, e9, h⟩ := bzBdE h
        refine cs_X3_65 hF (fun l => mt_X3_levelOf l e9) (by omega) (Nat.le_of_ble_eq_true rfl) dX3_readLevel_51 ?_
        refine j_iload_n hF 1 dX3_readLevel_54 rfl ?_
        refine j_icmp_ne hF (tgt := 102) dX3_readLevel_55 (by decide) (fun c11 => ?_) (fun c11 => ?_)
        · replace h := bzIfF h c11
          exact j_vret hF hG dX3_readLevel_102 (Option.some.inj h)
        · replace h := bzIfT h c11
          refine j_aload_n hF 0 dX3_readLevel_58 rfl ?_
          obtain ⟨x13, e12, h⟩ := bzBdE h
          refine cs_X3_61 hF ho (fun l => mt_X3_next l e12) (by omega) (Nat.le_of_ble_eq_true rfl) dX3_readLevel_59 ?_
          refine j_istore hF (lv1 := [(5, .int x13), (0, .ref (ga g o)), (1, .int a1), (2, .int a2), (3, .int v3), (4, .int v4)]) dX3_readLevel_62 (by decide) rfl ?_
          refine j_aload_n hF 1 dX3_readLevel_64 rfl ?_
          refine j_dup hF dX3_readLevel_65 rfl ?_
          refine gf_X3_31 hF ho dX3_readLevel_66 ?_
          refine j_iconst hF (v := 1) dX3_readLevel_69 (by decide) ?_
          refine j_iadd hF dX3_readLevel_70 ?_
          refine pf_X3_31 hF ho dX3_readLevel_71 ?_
          refine j_s (fun σ14 eσ14 => ?_)
          replace h := bzLetE h eσ14
          refine j_aload_n hF 1 dX3_readLevel_74 rfl ?_
          refine j_iload_n hF 2 dX3_readLevel_75 rfl ?_
          refine j_iconst hF (v := 1) dX3_readLevel_76 (by decide) ?_
          refine j_iadd hF dX3_readLevel_77 ?_
          refine j_iload_n hF 3 dX3_readLevel_78 rfl ?_
          obtain ⟨σ16, e15, h⟩ := bzBdE h
          refine cs_X3_51 hF ho (hqX3_readLevel e15) (by omega) (Nat.le_of_ble_eq_true rfl) dX3_readLevel_79 ?_
          refine j_aload_n hF 1 dX3_readLevel_82 rfl ?_
          refine gf_X3_23 hF ho dX3_readLevel_83 ?_
          refine gf_X3_45 hF (kl_3_1 ho) dX3_readLevel_86 ?_
          refine j_iload hF 0 dX3_readLevel_89 rfl ?_
          refine j_ineg hF dX3_readLevel_91 ?_
          obtain ⟨x18, σ19, e17, h⟩ := bzBpE h
          refine cs_X3_69 hF (kl_2_0 (kl_3_1 ho)) (fun l => mt_X4_add l e17) (by omega) (Nat.le_of_ble_eq_true rfl) dX3_readLevel_92 ?_
          refine j_pop hF dX3_readLevel_95 rfl ?_
          obtain ⟨x20, ex20⟩ : ∃ y : Int32, y = v4 + 1 := ⟨_, rfl⟩
          replace h := bzLetE h ex20
          refine j_iinc hF (v := x20) (lv1 := [(4, .int x20), (5, .int x13), (0, .ref (ga g o)), (1, .int a1), (2, .int a2), (3, .int v3)]) 5 dX3_readLevel_96 rfl (by rw [ex20]; rfl) (by decide) rfl ?_
          refine j_goto hF (tgt := 34) dX3_readLevel_99 (by decide) ?_
          refine j_sub [2, 3, 4, 5, 0] rfl ?_
          exact hK34 v3 x20 σ19 h
  have L34 : ∀ (n : Nat) (v3 : Int32) (v4 : Int32) (σ1 : bzS), fl_X3_readLevel_34 qX3_readLevel qX3_readUnit  o a1 a2 n v3 v4 σ1 = some σ0 → bzJ g 6 x σ1 34 [(0, .ref (ga g o)), (1, .int a1), (2, .int a2), (3, .int v3), (4, .int v4)] [] := by
    intro  n
    induction n with
    | zero =>
      intro v3 v4 σ1  h
      cases h
    | succ n ih =>
      intro v3 v4 σ1  h
      exact J34  (fl_X3_readLevel_34 qX3_readLevel qX3_readUnit  o a1 a2 n) ih v3 v4 σ1  h
  refine j_iload_n hF 1 dX3_readLevel_0 rfl ?_
  refine j_iconst hF (v := 5) dX3_readLevel_1 (by decide) ?_
  refine j_icmp_lt hF (tgt := 11) dX3_readLevel_2 (by decide) (fun c1 => ?_) (fun c1 => ?_)
  · replace h := bzIfT h c1
    refine j_aload_n hF 0 dX3_readLevel_11 rfl ?_
    refine j_iload_n hF 1 dX3_readLevel_12 rfl ?_
    refine j_iconst hF (v := 1) dX3_readLevel_13 (by decide) ?_
    refine j_iadd hF dX3_readLevel_14 ?_
    refine j_iload_n hF 2 dX3_readLevel_15 rfl ?_
    obtain ⟨σ3, e2, h⟩ := bzBdE h
    refine cs_X3_51 hF ho (hqX3_readLevel e2) (by omega) (Nat.le_of_ble_eq_true rfl) dX3_readLevel_16 ?_
    refine j_iload_n hF 1 dX3_readLevel_19 rfl ?_
    refine j_iconst hF (v := 2) dX3_readLevel_20 (by decide) ?_
    refine j_icmp_ne hF (tgt := 28) dX3_readLevel_21 (by decide) (fun c4 => ?_) (fun c4 => ?_)
    · replace h := bzIfF h c4
      refine j_bipush hF (v := 50) dX3_readLevel_28 (by decide) ?_
      refine j_istore_n hF (lv1 := [(3, .int 50), (0, .ref (ga g o)), (1, .int a1), (2, .int a2)]) dX3_readLevel_30 (by decide) rfl ?_
      refine j_iconst hF (v := 0) dX3_readLevel_31 (by decide) ?_
      refine j_istore hF (lv1 := [(4, .int 0), (3, .int 50), (0, .ref (ga g o)), (1, .int a1), (2, .int a2)]) dX3_readLevel_32 (by decide) rfl ?_
      refine j_sub [2, 3, 4, 1, 0] rfl ?_
      exact L34 2000 50 0 σ3 h
    · replace h := bzIfT h c4
      refine j_iconst hF (v := 1) dX3_readLevel_24 (by decide) ?_
      refine j_goto hF (tgt := 30) dX3_readLevel_25 (by decide) ?_
      refine j_istore_n hF (lv1 := [(3, .int 1), (0, .ref (ga g o)), (1, .int a1), (2, .int a2)]) dX3_readLevel_30 (by decide) rfl ?_
      refine j_iconst hF (v := 0) dX3_readLevel_31 (by decide) ?_
      refine j_istore hF (lv1 := [(4, .int 0), (3, .int 1), (0, .ref (ga g o)), (1, .int a1), (2, .int a2)]) dX3_readLevel_32 (by decide) rfl ?_
      refine j_sub [2, 3, 4, 1, 0] rfl ?_
      exact L34 2000 1 0 σ3 h
  · replace h := bzIfF h c1
    refine j_aload_n hF 0 dX3_readLevel_5 rfl ?_
    refine j_iload_n hF 2 dX3_readLevel_6 rfl ?_
    obtain ⟨σ22, e21, h⟩ := bzBdE h
    refine cs_X3_58 hF ho (hqX3_readUnit e21) (by omega) (Nat.le_of_ble_eq_true rfl) dX3_readLevel_7 ?_
    exact j_vret hF hG dX3_readLevel_10 (Option.some.inj h)
def fb_X3_readUnit_100 (qX3_readLevel : Nat → Int32 → Int32 → bzS → Option bzS) (qX3_readUnit : Nat → Int32 → bzS → Option bzS) (o : Nat) (a1 : Int32) (v2 : Int32) (σ1 : bzS) : Option bzS :=
  if v2 = 40 then (if 5 ≤ a1 then (bzLet (bzSt σ1 o 4 1) (fun σ13 => some σ13)) else (bzLet (bzSt σ1 o 3 ((σ1 o 3) + 1)) (fun σ14 => bzBd (qX3_readLevel o 0 ((a1 + 1)) σ14) (fun σ16 => bzBd (f_X3_close o σ16) (fun σ18 => some σ18))))) else (bzLet (bzSt σ1 o 4 1) (fun σ11 => some σ11))
def fm_X3_readUnit (qX3_readLevel : Nat → Int32 → Int32 → bzS → Option bzS) (qX3_readUnit : Nat → Int32 → bzS → Option bzS) (o : Nat) (a1 : Int32) (σ : bzS) : Option bzS :=
  bzGd (kd o = 3) (bzBd (f_X3_next o σ) (fun x2 => bzBd (f_X3_isDigit x2) (fun x4 => if x4 = 0 then (bzBd (f_X3_nameOf o x2 σ) (fun x7 => if x7 = 0 then (if x2 = 33 then (if 5 ≤ a1 then (fb_X3_readUnit_100 qX3_readLevel qX3_readUnit o a1 x2 σ) else (bzLet (bzSt σ o 3 ((σ o 3) + 1)) (fun σ20 => bzBd (qX3_readUnit o ((a1 + 1)) σ20) (fun σ22 => bzBp (f_X4_add ((ly (ly o 1) 0)) ((-33)) σ22) (fun x24 σ25 => some σ25))))) else (fb_X3_readUnit_100 qX3_readLevel qX3_readUnit o a1 x2 σ)) else (bzLet (bzSt σ o 3 ((σ o 3) + 1)) (fun σ26 => bzBd (f_X3_nameOf o x2 σ26) (fun x28 => bzBp (f_X4_add ((ly (ly o 1) 0)) x28 σ26) (fun x30 σ31 => some σ31)))))) else (bzBd (f_X3_readNumber o σ) (fun σ33 => some σ33)))))
set_option maxHeartbeats 4000000 in
set_option maxRecDepth 20000 in
theorem mm_X3_readUnit {d : Nat} (hd : 4 ≤ d) {qX3_readLevel : Nat → Int32 → Int32 → bzS → Option bzS} (hqX3_readLevel : ∀ {g : bzGeo} {o : Nat} {a1 : Int32} {a2 : Int32} {σ : bzS} {σ0 : bzS} , qX3_readLevel o a1 a2 σ = some σ0 → ∀ l : Launch, Met l yX3_readLevel (Cond.code yX3_readLevel cX3_readLevel 6 none :: GW) (bzR (d)) (va_Pc [.ref (ga g o), .int a1, .int a2] (bzP g σ)) (va_Qv (fun (u : bzS) => u = σ0) (bzB g) (gA g)) 0 0 (gA g)) {qX3_readUnit : Nat → Int32 → bzS → Option bzS} (hqX3_readUnit : ∀ {g : bzGeo} {o : Nat} {a1 : Int32} {σ : bzS} {σ0 : bzS} , qX3_readUnit o a1 σ = some σ0 → ∀ l : Launch, Met l yX3_readUnit (Cond.code yX3_readUnit cX3_readUnit 3 none :: GW) (bzR (d)) (va_Pc [.ref (ga g o), .int a1] (bzP g σ)) (va_Qv (fun (u : bzS) => u = σ0) (bzB g) (gA g)) 0 0 (gA g)) {g : bzGeo} {o : Nat} {a1 : Int32} {σ : bzS} {σ0 : bzS} (l : Launch) (h : fm_X3_readUnit qX3_readLevel qX3_readUnit o a1 σ = some σ0) : Met l yX3_readUnit (Cond.code yX3_readUnit cX3_readUnit 3 none :: GW) (bzR (d + 1)) (va_Pc [.ref (ga g o), .int a1] (bzP g σ)) (va_Qv (fun (u : bzS) => u = σ0) (bzB g) (gA g)) 0 0 (gA g) := by
  unfold fm_X3_readUnit at h
  obtain ⟨ho, h⟩ := bzGdE h
  refine j_start l (by decide +kernel) [.ref (ga g o), .int a1] [(0, .ref (ga g o)), (1, .int a1)] (Nat.le_of_ble_eq_true rfl) rfl (fun x hF hG => ?_)
  have J100 : ∀ (v2 : Int32) (σ1 : bzS), fb_X3_readUnit_100 qX3_readLevel qX3_readUnit o a1 v2 σ1 = some σ0 → bzJ g 3 x σ1 100 [(0, .ref (ga g o)), (1, .int a1), (2, .int v2)] [] := by
    intro v2 σ1 h
    unfold fb_X3_readUnit_100 at h
    refine j_iload_n hF 2 dX3_readUnit_100 rfl ?_
    refine j_bipush hF (v := 40) dX3_readUnit_101 (by decide) ?_
    refine j_icmp_ne hF (tgt := 136) dX3_readUnit_103 (by decide) (fun c10 => ?_) (fun c10 => ?_)
    · replace h := bzIfF h c10
      refine j_aload_n hF 0 dX3_readUnit_136 rfl ?_
      refine j_iconst hF (v := 1) dX3_readUnit_137 (by decide) ?_
      refine pf_X3_34 hF ho (Or.inr rfl) dX3_readUnit_138 ?_
      refine j_s (fun σ11 eσ11 => ?_)
      replace h := bzLetE h eσ11
      exact j_vret hF hG dX3_readUnit_141 (Option.some.inj h)
    · replace h := bzIfT h c10
      refine j_iload_n hF 1 dX3_readUnit_106 rfl ?_
      refine j_iconst hF (v := 5) dX3_readUnit_107 (by decide) ?_
      refine j_icmp_ge hF (tgt := 136) dX3_readUnit_108 (by decide) (fun c12 => ?_) (fun c12 => ?_)
      · replace h := bzIfT h c12
        refine j_aload_n hF 0 dX3_readUnit_136 rfl ?_
        refine j_iconst hF (v := 1) dX3_readUnit_137 (by decide) ?_
        refine pf_X3_34 hF ho (Or.inr rfl) dX3_readUnit_138 ?_
        refine j_s (fun σ13 eσ13 => ?_)
        replace h := bzLetE h eσ13
        exact j_vret hF hG dX3_readUnit_141 (Option.some.inj h)
      · replace h := bzIfF h c12
        refine j_aload_n hF 0 dX3_readUnit_111 rfl ?_
        refine j_dup hF dX3_readUnit_112 rfl ?_
        refine gf_X3_31 hF ho dX3_readUnit_113 ?_
        refine j_iconst hF (v := 1) dX3_readUnit_116 (by decide) ?_
        refine j_iadd hF dX3_readUnit_117 ?_
        refine pf_X3_31 hF ho dX3_readUnit_118 ?_
        refine j_s (fun σ14 eσ14 => ?_)
        replace h := bzLetE h eσ14
        refine j_aload_n hF 0 dX3_readUnit_121 rfl ?_
        refine j_iconst hF (v := 0) dX3_readUnit_122 (by decide) ?_
        refine j_iload_n hF 1 dX3_readUnit_123 rfl ?_
        refine j_iconst hF (v := 1) dX3_readUnit_124 (by decide) ?_
        refine j_iadd hF dX3_readUnit_125 ?_
        obtain ⟨σ16, e15, h⟩ := bzBdE h
        refine cs_X3_51 hF ho (hqX3_readLevel e15) (by omega) (Nat.le_of_ble_eq_true rfl) dX3_readUnit_126 ?_
        refine j_aload_n hF 0 dX3_readUnit_129 rfl ?_
        obtain ⟨σ18, e17, h⟩ := bzBdE h
        refine cs_X3_82 hF ho (fun l => mt_X3_close l e17) (by omega) (Nat.le_of_ble_eq_true rfl) dX3_readUnit_130 ?_
        refine j_goto hF (tgt := 141) dX3_readUnit_133 (by decide) ?_
        exact j_vret hF hG dX3_readUnit_141 (Option.some.inj h)
  refine j_aload_n hF 0 dX3_readUnit_0 rfl ?_
  obtain ⟨x2, e1, h⟩ := bzBdE h
  refine cs_X3_61 hF ho (fun l => mt_X3_next l e1) (by omega) (Nat.le_of_ble_eq_true rfl) dX3_readUnit_1 ?_
  refine j_istore_n hF (lv1 := [(2, .int x2), (0, .ref (ga g o)), (1, .int a1)]) dX3_readUnit_4 (by decide) rfl ?_
  refine j_iload_n hF 0 dX3_readUnit_5 rfl ?_
  obtain ⟨x4, e3, h⟩ := bzBdE h
  refine cs_X3_73 hF (fun l => mt_X3_isDigit l e3) (by omega) (Nat.le_of_ble_eq_true rfl) dX3_readUnit_6 ?_
  refine j_if_eq hF (tgt := 19) dX3_readUnit_9 (by decide) (fun c5 => ?_) (fun c5 => ?_)
  · replace h := bzIfT h c5
    refine j_aload_n hF 1 dX3_readUnit_19 rfl ?_
    refine j_iload_n hF 0 dX3_readUnit_20 rfl ?_
    obtain ⟨x7, e6, h⟩ := bzBdE h
    refine cs_X3_79 hF ho (fun l => mt_X3_nameOf l e6) (by omega) (Nat.le_of_ble_eq_true rfl) dX3_readUnit_21 ?_
    refine j_if_eq hF (tgt := 56) dX3_readUnit_24 (by decide) (fun c8 => ?_) (fun c8 => ?_)
    · replace h := bzIfT h c8
      refine j_iload_n hF 0 dX3_readUnit_56 rfl ?_
      refine j_bipush hF (v := 33) dX3_readUnit_57 (by decide) ?_
      refine j_icmp_ne hF (tgt := 100) dX3_readUnit_59 (by decide) (fun c9 => ?_) (fun c9 => ?_)
      · replace h := bzIfF h c9
        refine j_sub [1, 2, 0] rfl ?_
        exact J100 x2 σ h
      · replace h := bzIfT h c9
        refine j_iload_n hF 2 dX3_readUnit_62 rfl ?_
        refine j_iconst hF (v := 5) dX3_readUnit_63 (by decide) ?_
        refine j_icmp_ge hF (tgt := 100) dX3_readUnit_64 (by decide) (fun c19 => ?_) (fun c19 => ?_)
        · replace h := bzIfT h c19
          refine j_sub [1, 2, 0] rfl ?_
          exact J100 x2 σ h
        · replace h := bzIfF h c19
          refine j_aload_n hF 1 dX3_readUnit_67 rfl ?_
          refine j_dup hF dX3_readUnit_68 rfl ?_
          refine gf_X3_31 hF ho dX3_readUnit_69 ?_
          refine j_iconst hF (v := 1) dX3_readUnit_72 (by decide) ?_
          refine j_iadd hF dX3_readUnit_73 ?_
          refine pf_X3_31 hF ho dX3_readUnit_74 ?_
          refine j_s (fun σ20 eσ20 => ?_)
          replace h := bzLetE h eσ20
          refine j_aload_n hF 1 dX3_readUnit_77 rfl ?_
          refine j_iload_n hF 2 dX3_readUnit_78 rfl ?_
          refine j_iconst hF (v := 1) dX3_readUnit_79 (by decide) ?_
          refine j_iadd hF dX3_readUnit_80 ?_
          obtain ⟨σ22, e21, h⟩ := bzBdE h
          refine cs_X3_58 hF ho (hqX3_readUnit e21) (by omega) (Nat.le_of_ble_eq_true rfl) dX3_readUnit_81 ?_
          refine j_aload_n hF 1 dX3_readUnit_84 rfl ?_
          refine gf_X3_23 hF ho dX3_readUnit_85 ?_
          refine gf_X3_45 hF (kl_3_1 ho) dX3_readUnit_88 ?_
          refine j_bipush hF (v := (-33)) dX3_readUnit_91 (by decide) ?_
          obtain ⟨x24, σ25, e23, h⟩ := bzBpE h
          refine cs_X3_69 hF (kl_2_0 (kl_3_1 ho)) (fun l => mt_X4_add l e23) (by omega) (Nat.le_of_ble_eq_true rfl) dX3_readUnit_93 ?_
          refine j_pop hF dX3_readUnit_96 rfl ?_
          refine j_goto hF (tgt := 141) dX3_readUnit_97 (by decide) ?_
          exact j_vret hF hG dX3_readUnit_141 (Option.some.inj h)
    · replace h := bzIfF h c8
      refine j_aload_n hF 1 dX3_readUnit_27 rfl ?_
      refine j_dup hF dX3_readUnit_28 rfl ?_
      refine gf_X3_31 hF ho dX3_readUnit_29 ?_
      refine j_iconst hF (v := 1) dX3_readUnit_32 (by decide) ?_
      refine j_iadd hF dX3_readUnit_33 ?_
      refine pf_X3_31 hF ho dX3_readUnit_34 ?_
      refine j_s (fun σ26 eσ26 => ?_)
      replace h := bzLetE h eσ26
      refine j_aload_n hF 1 dX3_readUnit_37 rfl ?_
      refine gf_X3_23 hF ho dX3_readUnit_38 ?_
      refine gf_X3_45 hF (kl_3_1 ho) dX3_readUnit_41 ?_
      refine j_aload_n hF 1 dX3_readUnit_44 rfl ?_
      refine j_iload_n hF 0 dX3_readUnit_45 rfl ?_
      obtain ⟨x28, e27, h⟩ := bzBdE h
      refine cs_X3_79 hF ho (fun l => mt_X3_nameOf l e27) (by omega) (Nat.le_of_ble_eq_true rfl) dX3_readUnit_46 ?_
      obtain ⟨x30, σ31, e29, h⟩ := bzBpE h
      refine cs_X3_69 hF (kl_2_0 (kl_3_1 ho)) (fun l => mt_X4_add l e29) (by omega) (Nat.le_of_ble_eq_true rfl) dX3_readUnit_49 ?_
      refine j_pop hF dX3_readUnit_52 rfl ?_
      refine j_goto hF (tgt := 141) dX3_readUnit_53 (by decide) ?_
      exact j_vret hF hG dX3_readUnit_141 (Option.some.inj h)
  · replace h := bzIfF h c5
    refine j_aload_n hF 1 dX3_readUnit_12 rfl ?_
    obtain ⟨σ33, e32, h⟩ := bzBdE h
    refine cs_X3_76 hF ho (fun l => mt_X3_readNumber l e32) (by omega) (Nat.le_of_ble_eq_true rfl) dX3_readUnit_13 ?_
    refine j_goto hF (tgt := 141) dX3_readUnit_16 (by decide) ?_
    exact j_vret hF hG dX3_readUnit_141 (Option.some.inj h)
def fr_X3_readLevel : Nat → (Nat → Int32 → Int32 → bzS → Option bzS) × (Nat → Int32 → bzS → Option bzS)
  | 0 => (fun _ _ _ _ => none, fun _ _ _ => none)
  | n + 1 => (fm_X3_readLevel (fr_X3_readLevel n).1 (fr_X3_readLevel n).2, fm_X3_readUnit (fr_X3_readLevel n).1 (fr_X3_readLevel n).2)
def f_X3_readLevel : Nat → Int32 → Int32 → bzS → Option bzS := (fr_X3_readLevel 60).1
def f_X3_readUnit : Nat → Int32 → bzS → Option bzS := (fr_X3_readLevel 60).2
set_option maxHeartbeats 4000000 in
theorem mr_X3_readLevel : ∀ n : Nat, (∀ {g : bzGeo} {o : Nat} {a1 : Int32} {a2 : Int32} {σ : bzS} {σ0 : bzS} , (fr_X3_readLevel n).1 o a1 a2 σ = some σ0 → ∀ l : Launch, Met l yX3_readLevel (Cond.code yX3_readLevel cX3_readLevel 6 none :: GW) (bzR (n + 4)) (va_Pc [.ref (ga g o), .int a1, .int a2] (bzP g σ)) (va_Qv (fun (u : bzS) => u = σ0) (bzB g) (gA g)) 0 0 (gA g)) ∧ (∀ {g : bzGeo} {o : Nat} {a1 : Int32} {σ : bzS} {σ0 : bzS} , (fr_X3_readLevel n).2 o a1 σ = some σ0 → ∀ l : Launch, Met l yX3_readUnit (Cond.code yX3_readUnit cX3_readUnit 3 none :: GW) (bzR (n + 4)) (va_Pc [.ref (ga g o), .int a1] (bzP g σ)) (va_Qv (fun (u : bzS) => u = σ0) (bzB g) (gA g)) 0 0 (gA g)) := by
  intro n
  induction n with
  | zero => exact ⟨by intros; contradiction, by intros; contradiction⟩
  | succ n ih =>
    exact ⟨fun {g} {o} {a1} {a2} {σ} {σ0} h l => (by have q := mm_X3_readLevel (g := g) (d := n + 4) (by omega) (fun {g} {o} {a1} {a2} {σ} {σ0} h l => ih.1 h l) (fun {g} {o} {a1} {σ} {σ0} h l => ih.2 h l) l h; rw [show n + 1 + 4 = n + 4 + 1 by omega]; exact q), fun {g} {o} {a1} {σ} {σ0} h l => (by have q := mm_X3_readUnit (g := g) (d := n + 4) (by omega) (fun {g} {o} {a1} {a2} {σ} {σ0} h l => ih.1 h l) (fun {g} {o} {a1} {σ} {σ0} h l => ih.2 h l) l h; rw [show n + 1 + 4 = n + 4 + 1 by omega]; exact q)⟩
theorem mt_X3_readLevel {g : bzGeo} {o : Nat} {a1 : Int32} {a2 : Int32} {σ : bzS} {σ0 : bzS} (l : Launch) (h : f_X3_readLevel o a1 a2 σ = some σ0) : Met l yX3_readLevel (Cond.code yX3_readLevel cX3_readLevel 6 none :: GW) (bzR (64)) (va_Pc [.ref (ga g o), .int a1, .int a2] (bzP g σ)) (va_Qv (fun (u : bzS) => u = σ0) (bzB g) (gA g)) 0 0 (gA g) := (mr_X3_readLevel 60).1 h l
theorem mt_X3_readUnit {g : bzGeo} {o : Nat} {a1 : Int32} {σ : bzS} {σ0 : bzS} (l : Launch) (h : f_X3_readUnit o a1 σ = some σ0) : Met l yX3_readUnit (Cond.code yX3_readUnit cX3_readUnit 3 none :: GW) (bzR (64)) (va_Pc [.ref (ga g o), .int a1] (bzP g σ)) (va_Qv (fun (u : bzS) => u = σ0) (bzB g) (gA g)) 0 0 (gA g) := (mr_X3_readLevel 60).2 h l
def f_X3_read (o : Nat) (a1 : Nat) (a2 : Int32) (σ : bzS) : Option (Int32 × bzS) :=
  bzGd (kd o = 3) (bzGd (kd a1 = 4) (bzBd (f_X4_copyFrom ((ly o 0)) a1 σ) (fun σ2 => bzLet (bzSt σ2 o 2 a2) (fun σ3 => bzLet (bzSt σ3 o 3 0) (fun σ4 => bzLet (bzSt σ4 o 4 0) (fun σ5 => bzLet (bzSt σ5 (ly o 1) 2 1) (fun σ6 => bzBd (f_X4_clear ((ly (ly o 1) 0)) σ6) (fun σ8 => bzBd (f_X3_readLevel o 0 0 σ8) (fun σ10 => if (σ10 o 4) = 0 then (if (σ10 (ly o 0) 1) ≤ (σ10 o 3) then (bzLet (bzSt σ10 o 4 0) (fun σ15 => if (σ15 o 4) = 0 then (some ((-1), σ15)) else (some ((σ15 o 3), σ15)))) else (bzLet (bzSt σ10 o 4 1) (fun σ17 => if (σ17 o 4) = 0 then (some ((-1), σ17)) else (some ((σ17 o 3), σ17))))) else (bzLet (bzSt σ10 o 4 1) (fun σ12 => if (σ12 o 4) = 0 then (some ((-1), σ12)) else (some ((σ12 o 3), σ12)))))))))))))
set_option maxHeartbeats 4000000 in
set_option maxRecDepth 20000 in
theorem mt_X3_read {g : bzGeo} {o : Nat} {a1 : Nat} {a2 : Int32} {σ : bzS} {r0 : Int32} {σ0 : bzS} (l : Launch) (h : f_X3_read  o a1 a2 σ = some (r0, σ0)) : Met l yX3_read (Cond.code yX3_read cX3_read 3 (some .int) :: GW) (bzR (65)) (va_Pc [.ref (ga g o), .ref (ga g a1), .int a2] (bzP g σ)) (va_Qi (fun (r : Int32) (u : bzS) => r = r0 ∧ u = σ0) (bzB g) (gA g)) 0 0 (gA g) := by
  unfold f_X3_read at h
  obtain ⟨ho, h⟩ := bzGdE h
  obtain ⟨h1, h⟩ := bzGdE h
  refine j_start l (by decide +kernel) [.ref (ga g o), .ref (ga g a1), .int a2] [(0, .ref (ga g o)), (1, .ref (ga g a1)), (2, .int a2)] (Nat.le_of_ble_eq_true rfl) rfl (fun x hF hG => ?_)
  refine j_aload_n hF 0 dX3_read_0 rfl ?_
  refine gf_X3_14 hF ho dX3_read_1 ?_
  refine j_aload_n hF 1 dX3_read_4 rfl ?_
  obtain ⟨σ2, e1, h⟩ := bzBdE h
  refine cs_X3_38 hF (kl_3_0 ho) (fun l => mt_X4_copyFrom l e1) (by decide) (Nat.le_of_ble_eq_true rfl) dX3_read_5 ?_
  refine j_aload_n hF 0 dX3_read_8 rfl ?_
  refine j_iload_n hF 2 dX3_read_9 rfl ?_
  refine pf_X3_27 hF ho dX3_read_10 ?_
  refine j_s (fun σ3 eσ3 => ?_)
  replace h := bzLetE h eσ3
  refine j_aload_n hF 0 dX3_read_13 rfl ?_
  refine j_iconst hF (v := 0) dX3_read_14 (by decide) ?_
  refine pf_X3_31 hF ho dX3_read_15 ?_
  refine j_s (fun σ4 eσ4 => ?_)
  replace h := bzLetE h eσ4
  refine j_aload_n hF 0 dX3_read_18 rfl ?_
  refine j_iconst hF (v := 0) dX3_read_19 (by decide) ?_
  refine pf_X3_34 hF ho (Or.inl rfl) dX3_read_20 ?_
  refine j_s (fun σ5 eσ5 => ?_)
  replace h := bzLetE h eσ5
  refine j_aload_n hF 0 dX3_read_23 rfl ?_
  refine gf_X3_23 hF ho dX3_read_24 ?_
  refine j_iconst hF (v := 1) dX3_read_27 (by decide) ?_
  refine pf_X3_42 hF (kl_3_1 ho) (Or.inr rfl) dX3_read_28 ?_
  refine j_s (fun σ6 eσ6 => ?_)
  replace h := bzLetE h eσ6
  refine j_aload_n hF 0 dX3_read_31 rfl ?_
  refine gf_X3_23 hF ho dX3_read_32 ?_
  refine gf_X3_45 hF (kl_3_1 ho) dX3_read_35 ?_
  obtain ⟨σ8, e7, h⟩ := bzBdE h
  refine cs_X3_48 hF (kl_2_0 (kl_3_1 ho)) (fun l => mt_X4_clear l e7) (by decide) (Nat.le_of_ble_eq_true rfl) dX3_read_38 ?_
  refine j_aload_n hF 0 dX3_read_41 rfl ?_
  refine j_iconst hF (v := 0) dX3_read_42 (by decide) ?_
  refine j_iconst hF (v := 0) dX3_read_43 (by decide) ?_
  obtain ⟨σ10, e9, h⟩ := bzBdE h
  refine cs_X3_51 hF ho (fun l => mt_X3_readLevel l e9) (by decide) (Nat.le_of_ble_eq_true rfl) dX3_read_44 ?_
  refine j_aload_n hF 0 dX3_read_47 rfl ?_
  refine j_aload_n hF 0 dX3_read_48 rfl ?_
  refine gf_X3_34 hF ho dX3_read_49 ?_
  refine j_if_ne hF (tgt := 69) dX3_read_52 (by decide) (fun c11 => ?_) (fun c11 => ?_)
  · replace h := bzIfF h c11
    refine j_iconst hF (v := 1) dX3_read_69 (by decide) ?_
    refine j_goto hF (tgt := 74) dX3_read_70 (by decide) ?_
    refine pf_X3_34 hF ho (Or.inr rfl) dX3_read_74 ?_
    refine j_s (fun σ12 eσ12 => ?_)
    replace h := bzLetE h eσ12
    refine j_aload_n hF 0 dX3_read_77 rfl ?_
    refine gf_X3_34 hF ho dX3_read_78 ?_
    refine j_if_eq hF (tgt := 91) dX3_read_81 (by decide) (fun c13 => ?_) (fun c13 => ?_)
    · replace h := bzIfT h c13
      refine j_iconst hF (v := (-1)) dX3_read_91 (by decide) ?_
      exact j_iret hF hG dX3_read_92  (bzRet h).1 (bzRet h).2
    · replace h := bzIfF h c13
      refine j_aload_n hF 0 dX3_read_84 rfl ?_
      refine gf_X3_31 hF ho dX3_read_85 ?_
      refine j_goto hF (tgt := 92) dX3_read_88 (by decide) ?_
      exact j_iret hF hG dX3_read_92  (bzRet h).1 (bzRet h).2
  · replace h := bzIfT h c11
    refine j_aload_n hF 0 dX3_read_55 rfl ?_
    refine gf_X3_31 hF ho dX3_read_56 ?_
    refine j_aload_n hF 0 dX3_read_59 rfl ?_
    refine gf_X3_14 hF ho dX3_read_60 ?_
    refine gf_X3_55 hF (kl_3_0 ho) dX3_read_63 ?_
    refine j_icmp_ge hF (tgt := 73) dX3_read_66 (by decide) (fun c14 => ?_) (fun c14 => ?_)
    · replace h := bzIfT h c14
      refine j_iconst hF (v := 0) dX3_read_73 (by decide) ?_
      refine pf_X3_34 hF ho (Or.inl rfl) dX3_read_74 ?_
      refine j_s (fun σ15 eσ15 => ?_)
      replace h := bzLetE h eσ15
      refine j_aload_n hF 0 dX3_read_77 rfl ?_
      refine gf_X3_34 hF ho dX3_read_78 ?_
      refine j_if_eq hF (tgt := 91) dX3_read_81 (by decide) (fun c16 => ?_) (fun c16 => ?_)
      · replace h := bzIfT h c16
        refine j_iconst hF (v := (-1)) dX3_read_91 (by decide) ?_
        exact j_iret hF hG dX3_read_92  (bzRet h).1 (bzRet h).2
      · replace h := bzIfF h c16
        refine j_aload_n hF 0 dX3_read_84 rfl ?_
        refine gf_X3_31 hF ho dX3_read_85 ?_
        refine j_goto hF (tgt := 92) dX3_read_88 (by decide) ?_
        exact j_iret hF hG dX3_read_92  (bzRet h).1 (bzRet h).2
    · replace h := bzIfF h c14
      refine j_iconst hF (v := 1) dX3_read_69 (by decide) ?_
      refine j_goto hF (tgt := 74) dX3_read_70 (by decide) ?_
      refine pf_X3_34 hF ho (Or.inr rfl) dX3_read_74 ?_
      refine j_s (fun σ17 eσ17 => ?_)
      replace h := bzLetE h eσ17
      refine j_aload_n hF 0 dX3_read_77 rfl ?_
      refine gf_X3_34 hF ho dX3_read_78 ?_
      refine j_if_eq hF (tgt := 91) dX3_read_81 (by decide) (fun c18 => ?_) (fun c18 => ?_)
      · replace h := bzIfT h c18
        refine j_iconst hF (v := (-1)) dX3_read_91 (by decide) ?_
        exact j_iret hF hG dX3_read_92  (bzRet h).1 (bzRet h).2
      · replace h := bzIfF h c18
        refine j_aload_n hF 0 dX3_read_84 rfl ?_
        refine gf_X3_31 hF ho dX3_read_85 ?_
        refine j_goto hF (tgt := 92) dX3_read_88 (by decide) ?_
        exact j_iret hF hG dX3_read_92  (bzRet h).1 (bzRet h).2
def f_X2_copyFrom (o : Nat) (a1 : Nat) (σ : bzS) : Option bzS :=
  bzGd (kd o = 2) (bzGd (kd a1 = 2) (bzBd (f_X4_copyFrom ((ly o 0)) ((ly a1 0)) σ) (fun σ2 => bzGd ((σ2 a1 2) = 0 ∨ (σ2 a1 2) = 1) (bzLet (bzSt σ2 o 2 (σ2 a1 2)) (fun σ4 => some σ4)))))
set_option maxHeartbeats 4000000 in
set_option maxRecDepth 20000 in
theorem mt_X2_copyFrom {g : bzGeo} {o : Nat} {a1 : Nat} {σ : bzS} {σ0 : bzS} (l : Launch) (h : f_X2_copyFrom  o a1 σ = some σ0) : Met l yX2_copyFrom (Cond.code yX2_copyFrom cX2_copyFrom 2 none :: GW) (bzR (4)) (va_Pc [.ref (ga g o), .ref (ga g a1)] (bzP g σ)) (va_Qv (fun (u : bzS) => u = σ0) (bzB g) (gA g)) 0 0 (gA g) := by
  unfold f_X2_copyFrom at h
  obtain ⟨ho, h⟩ := bzGdE h
  obtain ⟨h1, h⟩ := bzGdE h
  refine j_start l (by decide +kernel) [.ref (ga g o), .ref (ga g a1)] [(0, .ref (ga g o)), (1, .ref (ga g a1))] (Nat.le_of_ble_eq_true rfl) rfl (fun x hF hG => ?_)
  refine j_aload_n hF 0 dX2_copyFrom_0 rfl ?_
  refine gf_X2_14 hF ho dX2_copyFrom_1 ?_
  refine j_aload_n hF 1 dX2_copyFrom_4 rfl ?_
  refine gf_X2_14 hF h1 dX2_copyFrom_5 ?_
  obtain ⟨σ2, e1, h⟩ := bzBdE h
  refine cs_X2_28 hF (kl_2_0 ho) (fun l => mt_X4_copyFrom l e1) (by decide) (Nat.le_of_ble_eq_true rfl) dX2_copyFrom_8 ?_
  refine j_aload_n hF 0 dX2_copyFrom_11 rfl ?_
  refine j_aload_n hF 1 dX2_copyFrom_12 rfl ?_
  refine gf_X2_24 hF h1 dX2_copyFrom_13 ?_
  obtain ⟨g3, h⟩ := bzGdE h
  refine pf_X2_24 hF ho g3 dX2_copyFrom_16 ?_
  refine j_s (fun σ4 eσ4 => ?_)
  replace h := bzLetE h eσ4
  exact j_vret hF hG dX2_copyFrom_19 (Option.some.inj h)
def f_X9_text (o : Nat) (a1 : Int32) (σ : bzS) : Option (Int32 × bzS) :=
  bzGd (kd o = 9) (bzBd (f_X9_within a1 0 1) (fun x2 => if x2 = 0 then (bzBp (f_X9_fails o ((-1000000001)) σ) (fun x16 σ17 => some (x16, σ17))) else (bzBp (f_X3_read ((ly o 5)) ((ly (ly o 0) 2)) a1 σ) (fun x5 σ6 => bzBd (f_X4_clear ((ly (ly o 0) 2)) σ6) (fun σ8 => if x5 < 0 then (bzBd (f_X0_lawOf ((ly (ly o 0) 0)) a1 σ8) (fun x11 => bzOp x11 (none) (fun k12 => bzGd (kd k12 = 2) (bzBd (f_X2_copyFrom k12 ((ly (ly o 5) 1)) σ8) (fun σ14 => some (1, σ14)))))) else (some (((-10) - x5), σ8)))))))
set_option maxHeartbeats 4000000 in
set_option maxRecDepth 20000 in
theorem mt_X9_text {g : bzGeo} {o : Nat} {a1 : Int32} {σ : bzS} {r0 : Int32} {σ0 : bzS} (l : Launch) (h : f_X9_text  o a1 σ = some (r0, σ0)) : Met l yX9_text (Cond.code yX9_text cX9_text 3 (some .int) :: GW) (bzR (66)) (va_Pc [.ref (ga g o), .int a1] (bzP g σ)) (va_Qi (fun (r : Int32) (u : bzS) => r = r0 ∧ u = σ0) (bzB g) (gA g)) 0 0 (gA g) := by
  unfold f_X9_text at h
  obtain ⟨ho, h⟩ := bzGdE h
  refine j_start l (by decide +kernel) [.ref (ga g o), .int a1] [(0, .ref (ga g o)), (1, .int a1)] (Nat.le_of_ble_eq_true rfl) rfl (fun x hF hG => ?_)
  refine j_iload_n hF 1 dX9_text_0 rfl ?_
  refine j_iconst hF (v := 0) dX9_text_1 (by decide) ?_
  refine j_iconst hF (v := 1) dX9_text_2 (by decide) ?_
  obtain ⟨x2, e1, h⟩ := bzBdE h
  refine cs_X9_66 hF (fun l => mt_X9_within l e1) (by decide) (Nat.le_of_ble_eq_true rfl) dX9_text_3 ?_
  refine j_if_ne hF (tgt := 16) dX9_text_6 (by decide) (fun c3 => ?_) (fun c3 => ?_)
  · replace h := bzIfF h c3
    refine j_aload_n hF 0 dX9_text_16 rfl ?_
    refine gf_X9_39 hF ho dX9_text_17 ?_
    refine j_aload_n hF 0 dX9_text_20 rfl ?_
    refine gf_X9_12 hF ho dX9_text_21 ?_
    refine gf_X9_160 hF (kl_9_0 ho) dX9_text_24 ?_
    refine j_iload_n hF 1 dX9_text_27 rfl ?_
    obtain ⟨x5, σ6, e4, h⟩ := bzBpE h
    refine cs_X9_173 hF (kl_9_5 ho) (fun l => mt_X3_read l e4) (by decide) (Nat.le_of_ble_eq_true rfl) dX9_text_28 ?_
    refine j_istore_n hF (lv1 := [(2, .int x5), (0, .ref (ga g o)), (1, .int a1)]) dX9_text_31 (by decide) rfl ?_
    refine j_aload_n hF 1 dX9_text_32 rfl ?_
    refine gf_X9_12 hF ho dX9_text_33 ?_
    refine gf_X9_160 hF (kl_9_0 ho) dX9_text_36 ?_
    obtain ⟨σ8, e7, h⟩ := bzBdE h
    refine cs_X9_177 hF (kl_6_2 (kl_9_0 ho)) (fun l => mt_X4_clear l e7) (by decide) (Nat.le_of_ble_eq_true rfl) dX9_text_39 ?_
    refine j_iload_n hF 0 dX9_text_42 rfl ?_
    refine j_if_lt hF (tgt := 51) dX9_text_43 (by decide) (fun c9 => ?_) (fun c9 => ?_)
    · replace h := bzIfT h c9
      refine j_aload_n hF 1 dX9_text_51 rfl ?_
      refine gf_X9_12 hF ho dX9_text_52 ?_
      refine gf_X9_55 hF (kl_9_0 ho) dX9_text_55 ?_
      refine j_iload_n hF 2 dX9_text_58 rfl ?_
      obtain ⟨x11, e10, h⟩ := bzBdE h
      refine cs_X9_180 hF (kl_6_0 (kl_9_0 ho)) (fun l => mt_X0_lawOf l e10) (by decide) (Nat.le_of_ble_eq_true rfl) dX9_text_59 ?_
      cases x11 with
      | none =>
        replace h := bzOpN h
        cases h
      | some k12 =>
        obtain ⟨h_k12, h⟩ := bzGdE (bzOpS h)
        refine j_som ?_
        refine j_aload_n hF 1 dX9_text_62 rfl ?_
        refine gf_X9_39 hF ho dX9_text_63 ?_
        refine gf_X9_184 hF (kl_9_5 ho) dX9_text_66 ?_
        obtain ⟨σ14, e13, h⟩ := bzBdE h
        refine cs_X9_188 hF h_k12 (fun l => mt_X2_copyFrom l e13) (by decide) (Nat.le_of_ble_eq_true rfl) dX9_text_69 ?_
        refine j_iconst hF (v := 1) dX9_text_72 (by decide) ?_
        exact j_iret hF hG dX9_text_73  (bzRet h).1 (bzRet h).2
    · replace h := bzIfF h c9
      refine j_bipush hF (v := (-10)) dX9_text_46 (by decide) ?_
      refine j_iload_n hF 0 dX9_text_48 rfl ?_
      refine j_isub hF dX9_text_49 ?_
      exact j_iret hF hG dX9_text_50  (bzRet h).1 (bzRet h).2
  · replace h := bzIfT h c3
    refine j_aload_n hF 0 dX9_text_9 rfl ?_
    refine j_ldc hF (v := (-1000000001)) kc_X9_70 dX9_text_10 ?_
    obtain ⟨x16, σ17, e15, h⟩ := bzBpE h
    refine cs_X9_71 hF ho (fun l => mt_X9_fails l e15) (by decide) (Nat.le_of_ble_eq_true rfl) dX9_text_12 ?_
    exact j_iret hF hG dX9_text_15  (bzRet h).1 (bzRet h).2
def f_X9_law (o : Nat) (a1 : Int32) (a2 : Int32) (a3 : Int32) (a4 : Int32) (σ : bzS) : Option (Int32 × bzS) :=
  bzGd (kd o = 9) (bzBd (f_X9_within a1 0 1) (fun x2 => if x2 = 0 then (bzBp (f_X9_fails o ((-1000000001)) σ) (fun x8 σ9 => some (x8, σ9))) else (bzBp (f_X0_given ((ly (ly o 0) 0)) a1 a2 a3 a4 σ) (fun x5 σ6 => some (x5, σ6)))))
set_option maxHeartbeats 4000000 in
set_option maxRecDepth 20000 in
theorem mt_X9_law {g : bzGeo} {o : Nat} {a1 : Int32} {a2 : Int32} {a3 : Int32} {a4 : Int32} {σ : bzS} {r0 : Int32} {σ0 : bzS} (l : Launch) (h : f_X9_law  o a1 a2 a3 a4 σ = some (r0, σ0)) : Met l yX9_law (Cond.code yX9_law cX9_law 5 (some .int) :: GW) (bzR (4)) (va_Pc [.ref (ga g o), .int a1, .int a2, .int a3, .int a4] (bzP g σ)) (va_Qi (fun (r : Int32) (u : bzS) => r = r0 ∧ u = σ0) (bzB g) (gA g)) 0 0 (gA g) := by
  unfold f_X9_law at h
  obtain ⟨ho, h⟩ := bzGdE h
  refine j_start l (by decide +kernel) [.ref (ga g o), .int a1, .int a2, .int a3, .int a4] [(0, .ref (ga g o)), (1, .int a1), (2, .int a2), (3, .int a3), (4, .int a4)] (Nat.le_of_ble_eq_true rfl) rfl (fun x hF hG => ?_)
  refine j_iload_n hF 1 dX9_law_0 rfl ?_
  refine j_iconst hF (v := 0) dX9_law_1 (by decide) ?_
  refine j_iconst hF (v := 1) dX9_law_2 (by decide) ?_
  obtain ⟨x2, e1, h⟩ := bzBdE h
  refine cs_X9_66 hF (fun l => mt_X9_within l e1) (by decide) (Nat.le_of_ble_eq_true rfl) dX9_law_3 ?_
  refine j_if_ne hF (tgt := 16) dX9_law_6 (by decide) (fun c3 => ?_) (fun c3 => ?_)
  · replace h := bzIfF h c3
    refine j_aload_n hF 0 dX9_law_16 rfl ?_
    refine gf_X9_12 hF ho dX9_law_17 ?_
    refine gf_X9_55 hF (kl_9_0 ho) dX9_law_20 ?_
    refine j_iload_n hF 1 dX9_law_23 rfl ?_
    refine j_iload_n hF 2 dX9_law_24 rfl ?_
    refine j_iload_n hF 3 dX9_law_25 rfl ?_
    refine j_iload hF 4 dX9_law_26 rfl ?_
    obtain ⟨x5, σ6, e4, h⟩ := bzBpE h
    refine cs_X9_194 hF (kl_6_0 (kl_9_0 ho)) (fun l => mt_X0_given l e4) (by decide) (Nat.le_of_ble_eq_true rfl) dX9_law_28 ?_
    exact j_iret hF hG dX9_law_31  (bzRet h).1 (bzRet h).2
  · replace h := bzIfT h c3
    refine j_aload_n hF 0 dX9_law_9 rfl ?_
    refine j_ldc hF (v := (-1000000001)) kc_X9_70 dX9_law_10 ?_
    obtain ⟨x8, σ9, e7, h⟩ := bzBpE h
    refine cs_X9_71 hF ho (fun l => mt_X9_fails l e7) (by decide) (Nat.le_of_ble_eq_true rfl) dX9_law_12 ?_
    exact j_iret hF hG dX9_law_15  (bzRet h).1 (bzRet h).2
def fb_X0_passYear_30 (K30 : Int32 → Int32 → Int32 → bzS → Option bzS) (o : Nat) (v1 : Int32) (v2 : Int32) (v3 : Int32) (σ1 : bzS) : Option bzS :=
  if (σ1 (ly o 2) 4) ≤ v3 then (bzBp (f_X0_shifting o σ1) (fun x13 σ14 => bzBd (f_J_min 99 (((σ1 o 6) + x13))) (fun x16 => bzLet (bzSt σ14 o 6 x16) (fun σ17 => bzBd (f_J_max 0 (((σ17 o 7) - v1))) (fun x19 => bzBd (f_J_min 99 ((x19 + v2))) (fun x21 => bzLet (bzSt σ17 o 7 x21) (fun σ22 => bzLet (bzSt σ22 o 8 ((σ22 o 8) + 1)) (fun σ23 => some σ23)))))))) else (bzBd (f_X7_comes ((ly o 2)) v3 ((σ1 o 8)) v2 σ1) (fun x25 => if x25 = 0 then (bzLet (v3 + 1) (fun x27 => K30 v1 v2 x27 σ1)) else (bzBd (f_X7_keeps ((ly o 2)) v3 ((σ1 o 5)) v1 σ1) (fun x29 => bzBd (f_J_max 0 (((σ1 o 5) - x29))) (fun x31 => bzLet (bzSt σ1 o 5 x31) (fun σ32 => bzLet (v3 + 1) (fun x33 => K30 v1 v2 x33 σ32)))))))
def fl_X0_passYear_30 (o : Nat) : Nat → Int32 → Int32 → Int32 → bzS → Option bzS
  | 0, _, _, _, _ => none
  | n + 1, v1, v2, v3, σ1 => fb_X0_passYear_30   (fl_X0_passYear_30   o n) o v1 v2 v3 σ1
def f_X0_passYear (o : Nat) (σ : bzS) : Option bzS :=
  bzGd (kd o = 0) (bzBp (f_X0_yearning o σ) (fun x2 σ3 => bzBd (f_J_min 99 (((σ o 5) + x2))) (fun x5 => bzLet (bzSt σ3 o 5 x5) (fun σ6 => bzBd (f_X0_heatNow o σ6) (fun x8 => bzBd (f_X0_rainNow o σ6) (fun x10 => fl_X0_passYear_30 o 2000 x8 x10 0 σ6))))))
set_option maxHeartbeats 4000000 in
set_option maxRecDepth 20000 in
theorem mt_X0_passYear {g : bzGeo} {o : Nat} {σ : bzS} {σ0 : bzS} (l : Launch) (h : f_X0_passYear  o σ = some σ0) : Met l yX0_passYear (Cond.code yX0_passYear cX0_passYear 4 none :: GW) (bzR (5)) (va_Pc [.ref (ga g o)] (bzP g σ)) (va_Qv (fun (u : bzS) => u = σ0) (bzB g) (gA g)) 0 0 (gA g) := by
  unfold f_X0_passYear at h
  obtain ⟨ho, h⟩ := bzGdE h
  refine j_start l (by decide +kernel) [.ref (ga g o)] [(0, .ref (ga g o))] (Nat.le_of_ble_eq_true rfl) rfl (fun x hF hG => ?_)
  have J30 : (K30 : Int32 → Int32 → Int32 → bzS → Option bzS) → (hK30 : ∀ (v1 : Int32) (v2 : Int32) (v3 : Int32) (σ1 : bzS), K30 v1 v2 v3 σ1 = some σ0 → bzJ g 4 x σ1 30 [(0, .ref (ga g o)), (1, .int v1), (2, .int v2), (3, .int v3)] []) → ∀ (v1 : Int32) (v2 : Int32) (v3 : Int32) (σ1 : bzS), fb_X0_passYear_30 K30 o v1 v2 v3 σ1 = some σ0 → bzJ g 4 x σ1 30 [(0, .ref (ga g o)), (1, .int v1), (2, .int v2), (3, .int v3)] [] := by
    intro K30 hK30 v1 v2 v3 σ1 h
    unfold fb_X0_passYear_30 at h
    refine j_iload_n hF 3 dX0_passYear_30 rfl ?_
    refine j_aload_n hF 0 dX0_passYear_31 rfl ?_
    refine gf_X0_21 hF ho dX0_passYear_32 ?_
    refine gf_X0_89 hF (kl_0_2 ho) dX0_passYear_35 ?_
    refine j_icmp_ge hF (tgt := 89) dX0_passYear_38 (by decide) (fun c11 => ?_) (fun c11 => ?_)
    · replace h := bzIfT h c11
      refine j_aload_n hF 0 dX0_passYear_89 rfl ?_
      refine j_bipush hF (v := 99) dX0_passYear_90 (by decide) ?_
      refine j_aload_n hF 0 dX0_passYear_92 rfl ?_
      refine gf_X0_39 hF ho dX0_passYear_93 ?_
      refine j_aload_n hF 0 dX0_passYear_96 rfl ?_
      obtain ⟨x13, σ14, e12, h⟩ := bzBpE h
      refine cs_X0_99 hF ho (fun l => mt_X0_shifting l e12) (by decide) (Nat.le_of_ble_eq_true rfl) dX0_passYear_97 ?_
      refine j_iadd hF dX0_passYear_100 ?_
      obtain ⟨x16, e15, h⟩ := bzBdE h
      refine cs_X0_66 hF (fun l => mt_J_min l e15) (by decide) (Nat.le_of_ble_eq_true rfl) dX0_passYear_101 ?_
      refine pf_X0_39 hF ho dX0_passYear_104 ?_
      refine j_s (fun σ17 eσ17 => ?_)
      replace h := bzLetE h eσ17
      refine j_aload_n hF 0 dX0_passYear_107 rfl ?_
      refine j_bipush hF (v := 99) dX0_passYear_108 (by decide) ?_
      refine j_iconst hF (v := 0) dX0_passYear_110 (by decide) ?_
      refine j_aload_n hF 0 dX0_passYear_111 rfl ?_
      refine gf_X0_42 hF ho dX0_passYear_112 ?_
      refine j_iload_n hF 1 dX0_passYear_115 rfl ?_
      refine j_isub hF dX0_passYear_116 ?_
      obtain ⟨x19, e18, h⟩ := bzBdE h
      refine cs_X0_69 hF (fun l => mt_J_max l e18) (by decide) (Nat.le_of_ble_eq_true rfl) dX0_passYear_117 ?_
      refine j_iload_n hF 2 dX0_passYear_120 rfl ?_
      refine j_iadd hF dX0_passYear_121 ?_
      obtain ⟨x21, e20, h⟩ := bzBdE h
      refine cs_X0_66 hF (fun l => mt_J_min l e20) (by decide) (Nat.le_of_ble_eq_true rfl) dX0_passYear_122 ?_
      refine pf_X0_42 hF ho dX0_passYear_125 ?_
      refine j_s (fun σ22 eσ22 => ?_)
      replace h := bzLetE h eσ22
      refine j_aload_n hF 0 dX0_passYear_128 rfl ?_
      refine j_dup hF dX0_passYear_129 rfl ?_
      refine gf_X0_45 hF ho dX0_passYear_130 ?_
      refine j_iconst hF (v := 1) dX0_passYear_133 (by decide) ?_
      refine j_iadd hF dX0_passYear_134 ?_
      refine pf_X0_45 hF ho dX0_passYear_135 ?_
      refine j_s (fun σ23 eσ23 => ?_)
      replace h := bzLetE h eσ23
      exact j_vret hF hG dX0_passYear_138 (Option.some.inj h)
    · replace h := bzIfF h c11
      refine j_aload_n hF 0 dX0_passYear_41 rfl ?_
      refine gf_X0_21 hF ho dX0_passYear_42 ?_
      refine j_iload_n hF 3 dX0_passYear_45 rfl ?_
      refine j_aload_n hF 0 dX0_passYear_46 rfl ?_
      refine gf_X0_45 hF ho dX0_passYear_47 ?_
      refine j_iload_n hF 2 dX0_passYear_50 rfl ?_
      obtain ⟨x25, e24, h⟩ := bzBdE h
      refine cs_X0_92 hF (kl_0_2 ho) (fun l => mt_X7_comes l e24) (by decide) (Nat.le_of_ble_eq_true rfl) dX0_passYear_51 ?_
      refine j_if_eq hF (tgt := 83) dX0_passYear_54 (by decide) (fun c26 => ?_) (fun c26 => ?_)
      · replace h := bzIfT h c26
        obtain ⟨x27, ex27⟩ : ∃ y : Int32, y = v3 + 1 := ⟨_, rfl⟩
        replace h := bzLetE h ex27
        refine j_iinc hF (v := x27) (lv1 := [(3, .int x27), (0, .ref (ga g o)), (1, .int v1), (2, .int v2)]) 3 dX0_passYear_83 rfl (by rw [ex27]; rfl) (by decide) rfl ?_
        refine j_goto hF (tgt := 30) dX0_passYear_86 (by decide) ?_
        refine j_sub [1, 2, 3, 0] rfl ?_
        exact hK30 v1 v2 x27 σ1 h
      · replace h := bzIfF h c26
        refine j_aload_n hF 0 dX0_passYear_57 rfl ?_
        refine j_iconst hF (v := 0) dX0_passYear_58 (by decide) ?_
        refine j_aload_n hF 0 dX0_passYear_59 rfl ?_
        refine gf_X0_35 hF ho dX0_passYear_60 ?_
        refine j_aload_n hF 0 dX0_passYear_63 rfl ?_
        refine gf_X0_21 hF ho dX0_passYear_64 ?_
        refine j_iload_n hF 3 dX0_passYear_67 rfl ?_
        refine j_aload_n hF 0 dX0_passYear_68 rfl ?_
        refine gf_X0_35 hF ho dX0_passYear_69 ?_
        refine j_iload_n hF 1 dX0_passYear_72 rfl ?_
        obtain ⟨x29, e28, h⟩ := bzBdE h
        refine cs_X0_96 hF (kl_0_2 ho) (fun l => mt_X7_keeps l e28) (by decide) (Nat.le_of_ble_eq_true rfl) dX0_passYear_73 ?_
        refine j_isub hF dX0_passYear_76 ?_
        obtain ⟨x31, e30, h⟩ := bzBdE h
        refine cs_X0_69 hF (fun l => mt_J_max l e30) (by decide) (Nat.le_of_ble_eq_true rfl) dX0_passYear_77 ?_
        refine pf_X0_35 hF ho dX0_passYear_80 ?_
        refine j_s (fun σ32 eσ32 => ?_)
        replace h := bzLetE h eσ32
        obtain ⟨x33, ex33⟩ : ∃ y : Int32, y = v3 + 1 := ⟨_, rfl⟩
        replace h := bzLetE h ex33
        refine j_iinc hF (v := x33) (lv1 := [(3, .int x33), (0, .ref (ga g o)), (1, .int v1), (2, .int v2)]) 3 dX0_passYear_83 rfl (by rw [ex33]; rfl) (by decide) rfl ?_
        refine j_goto hF (tgt := 30) dX0_passYear_86 (by decide) ?_
        refine j_sub [1, 2, 3, 0] rfl ?_
        exact hK30 v1 v2 x33 σ32 h
  have L30 : ∀ (n : Nat) (v1 : Int32) (v2 : Int32) (v3 : Int32) (σ1 : bzS), fl_X0_passYear_30   o n v1 v2 v3 σ1 = some σ0 → bzJ g 4 x σ1 30 [(0, .ref (ga g o)), (1, .int v1), (2, .int v2), (3, .int v3)] [] := by
    intro  n
    induction n with
    | zero =>
      intro v1 v2 v3 σ1  h
      cases h
    | succ n ih =>
      intro v1 v2 v3 σ1  h
      exact J30  (fl_X0_passYear_30   o n) ih v1 v2 v3 σ1  h
  refine j_aload_n hF 0 dX0_passYear_0 rfl ?_
  refine j_bipush hF (v := 99) dX0_passYear_1 (by decide) ?_
  refine j_aload_n hF 0 dX0_passYear_3 rfl ?_
  refine gf_X0_35 hF ho dX0_passYear_4 ?_
  refine j_aload_n hF 0 dX0_passYear_7 rfl ?_
  obtain ⟨x2, σ3, e1, h⟩ := bzBpE h
  refine cs_X0_83 hF ho (fun l => mt_X0_yearning l e1) (by decide) (Nat.le_of_ble_eq_true rfl) dX0_passYear_8 ?_
  refine j_iadd hF dX0_passYear_11 ?_
  obtain ⟨x5, e4, h⟩ := bzBdE h
  refine cs_X0_66 hF (fun l => mt_J_min l e4) (by decide) (Nat.le_of_ble_eq_true rfl) dX0_passYear_12 ?_
  refine pf_X0_35 hF ho dX0_passYear_15 ?_
  refine j_s (fun σ6 eσ6 => ?_)
  replace h := bzLetE h eσ6
  refine j_aload_n hF 0 dX0_passYear_18 rfl ?_
  obtain ⟨x8, e7, h⟩ := bzBdE h
  refine cs_X0_72 hF ho (fun l => mt_X0_heatNow l e7) (by decide) (Nat.le_of_ble_eq_true rfl) dX0_passYear_19 ?_
  refine j_istore_n hF (lv1 := [(1, .int x8), (0, .ref (ga g o))]) dX0_passYear_22 (by decide) rfl ?_
  refine j_aload_n hF 1 dX0_passYear_23 rfl ?_
  obtain ⟨x10, e9, h⟩ := bzBdE h
  refine cs_X0_86 hF ho (fun l => mt_X0_rainNow l e9) (by decide) (Nat.le_of_ble_eq_true rfl) dX0_passYear_24 ?_
  refine j_istore_n hF (lv1 := [(2, .int x10), (1, .int x8), (0, .ref (ga g o))]) dX0_passYear_27 (by decide) rfl ?_
  refine j_iconst hF (v := 0) dX0_passYear_28 (by decide) ?_
  refine j_istore_n hF (lv1 := [(3, .int 0), (2, .int x10), (1, .int x8), (0, .ref (ga g o))]) dX0_passYear_29 (by decide) rfl ?_
  refine j_sub [3, 2, 1, 0] rfl ?_
  exact L30 2000 x8 x10 0 σ6 h
def fb_X0_pass_2 (K2 : Int32 → bzS → Option (Int32 × bzS)) (o : Nat) (a1 : Int32) (v2 : Int32) (σ1 : bzS) : Option (Int32 × bzS) :=
  if a1 ≤ v2 then (some ((σ1 o 6), σ1)) else (bzBd (f_X0_passYear o σ1) (fun σ3 => bzLet (v2 + 1) (fun x4 => K2 x4 σ3)))
def fl_X0_pass_2 (o : Nat) (a1 : Int32) : Nat → Int32 → bzS → Option (Int32 × bzS)
  | 0, _, _ => none
  | n + 1, v2, σ1 => fb_X0_pass_2   (fl_X0_pass_2   o a1 n) o a1 v2 σ1
def f_X0_pass (o : Nat) (a1 : Int32) (σ : bzS) : Option (Int32 × bzS) :=
  bzGd (kd o = 0) (fl_X0_pass_2 o a1 2000 0 σ)
set_option maxHeartbeats 4000000 in
set_option maxRecDepth 20000 in
theorem mt_X0_pass {g : bzGeo} {o : Nat} {a1 : Int32} {σ : bzS} {r0 : Int32} {σ0 : bzS} (l : Launch) (h : f_X0_pass  o a1 σ = some (r0, σ0)) : Met l yX0_pass (Cond.code yX0_pass cX0_pass 3 (some .int) :: GW) (bzR (6)) (va_Pc [.ref (ga g o), .int a1] (bzP g σ)) (va_Qi (fun (r : Int32) (u : bzS) => r = r0 ∧ u = σ0) (bzB g) (gA g)) 0 0 (gA g) := by
  unfold f_X0_pass at h
  obtain ⟨ho, h⟩ := bzGdE h
  refine j_start l (by decide +kernel) [.ref (ga g o), .int a1] [(0, .ref (ga g o)), (1, .int a1)] (Nat.le_of_ble_eq_true rfl) rfl (fun x hF hG => ?_)
  have J2 : (K2 : Int32 → bzS → Option (Int32 × bzS)) → (hK2 : ∀ (v2 : Int32) (σ1 : bzS), K2 v2 σ1 = some (r0, σ0) → bzJ g 3 x σ1 2 [(0, .ref (ga g o)), (1, .int a1), (2, .int v2)] []) → ∀ (v2 : Int32) (σ1 : bzS), fb_X0_pass_2 K2 o a1 v2 σ1 = some (r0, σ0) → bzJ g 3 x σ1 2 [(0, .ref (ga g o)), (1, .int a1), (2, .int v2)] [] := by
    intro K2 hK2 v2 σ1 h
    unfold fb_X0_pass_2 at h
    refine j_iload_n hF 2 dX0_pass_2 rfl ?_
    refine j_iload_n hF 1 dX0_pass_3 rfl ?_
    refine j_icmp_ge hF (tgt := 17) dX0_pass_4 (by decide) (fun c1 => ?_) (fun c1 => ?_)
    · replace h := bzIfT h c1
      refine j_aload_n hF 0 dX0_pass_17 rfl ?_
      refine gf_X0_39 hF ho dX0_pass_18 ?_
      exact j_iret hF hG dX0_pass_21 (bzRet h).1 (bzRet h).2
    · replace h := bzIfF h c1
      refine j_aload_n hF 0 dX0_pass_7 rfl ?_
      obtain ⟨σ3, e2, h⟩ := bzBdE h
      refine cs_X0_80 hF ho (fun l => mt_X0_passYear l e2) (by decide) (Nat.le_of_ble_eq_true rfl) dX0_pass_8 ?_
      obtain ⟨x4, ex4⟩ : ∃ y : Int32, y = v2 + 1 := ⟨_, rfl⟩
      replace h := bzLetE h ex4
      refine j_iinc hF (v := x4) (lv1 := [(2, .int x4), (0, .ref (ga g o)), (1, .int a1)]) 2 dX0_pass_11 rfl (by rw [ex4]; rfl) (by decide) rfl ?_
      refine j_goto hF (tgt := 2) dX0_pass_14 (by decide) ?_
      refine j_sub [1, 2, 0] rfl ?_
      exact hK2 x4 σ3 h
  have L2 : ∀ (n : Nat) (v2 : Int32) (σ1 : bzS), fl_X0_pass_2   o a1 n v2 σ1 = some (r0, σ0) → bzJ g 3 x σ1 2 [(0, .ref (ga g o)), (1, .int a1), (2, .int v2)] [] := by
    intro  n
    induction n with
    | zero =>
      intro v2 σ1  h
      cases h
    | succ n ih =>
      intro v2 σ1  h
      exact J2  (fl_X0_pass_2   o a1 n) ih v2 σ1  h
  refine j_iconst hF (v := 0) dX0_pass_0 (by decide) ?_
  refine j_istore_n hF (lv1 := [(2, .int 0), (0, .ref (ga g o)), (1, .int a1)]) dX0_pass_1 (by decide) rfl ?_
  refine j_sub [1, 2, 0] rfl ?_
  exact L2 2000 0 σ h
def f_X9_years (o : Nat) (a1 : Int32) (σ : bzS) : Option (Int32 × bzS) :=
  bzGd (kd o = 9) (bzBd (f_X9_within a1 1 60) (fun x2 => if x2 = 0 then (bzBp (f_X9_fails o ((-1000000001)) σ) (fun x12 σ13 => some (x12, σ13))) else (if ((σ (ly (ly o 0) 0) 8) + a1) ≤ 9999 then (bzBp (f_X0_pass ((ly (ly o 0) 0)) a1 σ) (fun x6 σ7 => some (x6, σ7))) else (bzBp (f_X9_fails o ((-1000000003)) σ) (fun x9 σ10 => some (x9, σ10))))))
set_option maxHeartbeats 4000000 in
set_option maxRecDepth 20000 in
theorem mt_X9_years {g : bzGeo} {o : Nat} {a1 : Int32} {σ : bzS} {r0 : Int32} {σ0 : bzS} (l : Launch) (h : f_X9_years  o a1 σ = some (r0, σ0)) : Met l yX9_years (Cond.code yX9_years cX9_years 2 (some .int) :: GW) (bzR (7)) (va_Pc [.ref (ga g o), .int a1] (bzP g σ)) (va_Qi (fun (r : Int32) (u : bzS) => r = r0 ∧ u = σ0) (bzB g) (gA g)) 0 0 (gA g) := by
  unfold f_X9_years at h
  obtain ⟨ho, h⟩ := bzGdE h
  refine j_start l (by decide +kernel) [.ref (ga g o), .int a1] [(0, .ref (ga g o)), (1, .int a1)] (Nat.le_of_ble_eq_true rfl) rfl (fun x hF hG => ?_)
  refine j_iload_n hF 1 dX9_years_0 rfl ?_
  refine j_iconst hF (v := 1) dX9_years_1 (by decide) ?_
  refine j_bipush hF (v := 60) dX9_years_2 (by decide) ?_
  obtain ⟨x2, e1, h⟩ := bzBdE h
  refine cs_X9_66 hF (fun l => mt_X9_within l e1) (by decide) (Nat.le_of_ble_eq_true rfl) dX9_years_4 ?_
  refine j_if_ne hF (tgt := 17) dX9_years_7 (by decide) (fun c3 => ?_) (fun c3 => ?_)
  · replace h := bzIfF h c3
    refine j_aload_n hF 0 dX9_years_17 rfl ?_
    refine gf_X9_12 hF ho dX9_years_18 ?_
    refine gf_X9_55 hF (kl_9_0 ho) dX9_years_21 ?_
    refine gf_X9_138 hF (kl_6_0 (kl_9_0 ho)) dX9_years_24 ?_
    refine j_iload_n hF 1 dX9_years_27 rfl ?_
    refine j_iadd hF dX9_years_28 ?_
    refine j_sipush hF (v := 9999) dX9_years_29 (by decide) ?_
    refine j_icmp_le hF (tgt := 42) dX9_years_32 (by decide) (fun c4 => ?_) (fun c4 => ?_)
    · replace h := bzIfT h c4
      refine j_aload_n hF 0 dX9_years_42 rfl ?_
      refine gf_X9_12 hF ho dX9_years_43 ?_
      refine gf_X9_55 hF (kl_9_0 ho) dX9_years_46 ?_
      refine j_iload_n hF 1 dX9_years_49 rfl ?_
      obtain ⟨x6, σ7, e5, h⟩ := bzBpE h
      refine cs_X9_199 hF (kl_6_0 (kl_9_0 ho)) (fun l => mt_X0_pass l e5) (by decide) (Nat.le_of_ble_eq_true rfl) dX9_years_50 ?_
      exact j_iret hF hG dX9_years_53  (bzRet h).1 (bzRet h).2
    · replace h := bzIfF h c4
      refine j_aload_n hF 0 dX9_years_35 rfl ?_
      refine j_ldc hF (v := (-1000000003)) kc_X9_198 dX9_years_36 ?_
      obtain ⟨x9, σ10, e8, h⟩ := bzBpE h
      refine cs_X9_71 hF ho (fun l => mt_X9_fails l e8) (by decide) (Nat.le_of_ble_eq_true rfl) dX9_years_38 ?_
      exact j_iret hF hG dX9_years_41  (bzRet h).1 (bzRet h).2
  · replace h := bzIfT h c3
    refine j_aload_n hF 0 dX9_years_10 rfl ?_
    refine j_ldc hF (v := (-1000000001)) kc_X9_70 dX9_years_11 ?_
    obtain ⟨x12, σ13, e11, h⟩ := bzBpE h
    refine cs_X9_71 hF ho (fun l => mt_X9_fails l e11) (by decide) (Nat.le_of_ble_eq_true rfl) dX9_years_13 ?_
    exact j_iret hF hG dX9_years_16  (bzRet h).1 (bzRet h).2
def f_X6_draw (o : Nat) (σ : bzS) : Option (Int32 × bzS) :=
  bzGd (kd o = 6) (bzLet (bzSt σ o 4 (((σ o 4) * 1103515245) + 12345)) (fun σ1 => some ((((σ1 o 4).toUInt32 >>> ((8 : Int32).toUInt32 &&& Int32.toUInt32 31)).toInt32), σ1)))
set_option maxHeartbeats 4000000 in
set_option maxRecDepth 20000 in
theorem mt_X6_draw {g : bzGeo} {o : Nat} {σ : bzS} {r0 : Int32} {σ0 : bzS} (l : Launch) (h : f_X6_draw  o σ = some (r0, σ0)) : Met l yX6_draw (Cond.code yX6_draw cX6_draw 1 (some .int) :: GW) (bzR (1)) (va_Pc [.ref (ga g o)] (bzP g σ)) (va_Qi (fun (r : Int32) (u : bzS) => r = r0 ∧ u = σ0) (bzB g) (gA g)) 0 0 (gA g) := by
  unfold f_X6_draw at h
  obtain ⟨ho, h⟩ := bzGdE h
  refine j_start l (by decide +kernel) [.ref (ga g o)] [(0, .ref (ga g o))] (Nat.le_of_ble_eq_true rfl) rfl (fun x hF hG => ?_)
  refine j_aload_n hF 0 dX6_draw_0 rfl ?_
  refine j_aload_n hF 0 dX6_draw_1 rfl ?_
  refine gf_X6_37 hF ho dX6_draw_2 ?_
  refine j_ldc hF (v := 1103515245) kc_X6_68 dX6_draw_5 ?_
  refine j_imul hF dX6_draw_7 ?_
  refine j_sipush hF (v := 12345) dX6_draw_8 (by decide) ?_
  refine j_iadd hF dX6_draw_11 ?_
  refine pf_X6_37 hF ho dX6_draw_12 ?_
  refine j_s (fun σ1 eσ1 => ?_)
  replace h := bzLetE h eσ1
  refine j_aload_n hF 0 dX6_draw_15 rfl ?_
  refine gf_X6_37 hF ho dX6_draw_16 ?_
  refine j_bipush hF (v := 8) dX6_draw_19 (by decide) ?_
  refine j_iushr hF dX6_draw_21 ?_
  exact j_iret hF hG dX6_draw_22  (bzRet h).1 (bzRet h).2
def f_X6_drawRain (o : Nat) (σ : bzS) : Option bzS :=
  bzGd (kd o = 6) (bzBp (f_X6_draw o σ) (fun x2 σ3 => bzLet ((x2 - x2 / 6 * 6)) (fun x4 => bzBp (f_X6_draw o σ3) (fun x6 σ7 => bzLet ((x6 - x6 / 10 * 10)) (fun x8 => bzBd (f_X9_isPlace x4 ((ly (ly o 0) 1))) (fun x10 => if x10 = 0 then (some σ7) else (bzGd (bzIn x4 6) (bzLet (bzSt σ7 (ly (ly o 0) 1) x4.toNatClampNeg x8) (fun σ13 => some σ13)))))))))
set_option maxHeartbeats 4000000 in
set_option maxRecDepth 20000 in
theorem mt_X6_drawRain {g : bzGeo} {o : Nat} {σ : bzS} {σ0 : bzS} (l : Launch) (h : f_X6_drawRain  o σ = some σ0) : Met l yX6_drawRain (Cond.code yX6_drawRain cX6_drawRain 3 none :: GW) (bzR (2)) (va_Pc [.ref (ga g o)] (bzP g σ)) (va_Qv (fun (u : bzS) => u = σ0) (bzB g) (gA g)) 0 0 (gA g) := by
  unfold f_X6_drawRain at h
  obtain ⟨ho, h⟩ := bzGdE h
  refine j_start l (by decide +kernel) [.ref (ga g o)] [(0, .ref (ga g o))] (Nat.le_of_ble_eq_true rfl) rfl (fun x hF hG => ?_)
  refine j_aload_n hF 0 dX6_drawRain_0 rfl ?_
  obtain ⟨x2, σ3, e1, h⟩ := bzBpE h
  refine cs_X6_56 hF ho (fun l => mt_X6_draw l e1) (by decide) (Nat.le_of_ble_eq_true rfl) dX6_drawRain_1 ?_
  refine j_bipush hF (v := 6) dX6_drawRain_4 (by decide) ?_
  refine j_irem hF dX6_drawRain_6 (by decide) ?_
  refine j_topi (fun x4 ex4 => ?_)
  replace h := bzLetE h ex4
  refine j_istore_n hF (lv1 := [(1, .int x4), (0, .ref (ga g o))]) dX6_drawRain_7 (by decide) rfl ?_
  refine j_aload_n hF 1 dX6_drawRain_8 rfl ?_
  obtain ⟨x6, σ7, e5, h⟩ := bzBpE h
  refine cs_X6_56 hF ho (fun l => mt_X6_draw l e5) (by decide) (Nat.le_of_ble_eq_true rfl) dX6_drawRain_9 ?_
  refine j_bipush hF (v := 10) dX6_drawRain_12 (by decide) ?_
  refine j_irem hF dX6_drawRain_14 (by decide) ?_
  refine j_topi (fun x8 ex8 => ?_)
  replace h := bzLetE h ex8
  refine j_istore_n hF (lv1 := [(2, .int x8), (1, .int x4), (0, .ref (ga g o))]) dX6_drawRain_15 (by decide) rfl ?_
  refine j_iload_n hF 1 dX6_drawRain_16 rfl ?_
  refine j_aload_n hF 2 dX6_drawRain_17 rfl ?_
  refine gf_X6_12 hF ho dX6_drawRain_18 ?_
  refine gf_X6_60 hF (kl_6_0 ho) dX6_drawRain_21 ?_
  obtain ⟨x10, e9, h⟩ := bzBdE h
  refine cs_X6_64 hF (fun l => mt_X9_isPlace l e9) (by decide) (Nat.le_of_ble_eq_true rfl) dX6_drawRain_24 ?_
  refine j_if_eq hF (tgt := 40) dX6_drawRain_27 (by decide) (fun c11 => ?_) (fun c11 => ?_)
  · replace h := bzIfT h c11
    exact j_vret hF hG dX6_drawRain_40 (Option.some.inj h)
  · replace h := bzIfF h c11
    refine j_aload_n hF 2 dX6_drawRain_30 rfl ?_
    refine gf_X6_12 hF ho dX6_drawRain_31 ?_
    refine gf_X6_60 hF (kl_6_0 ho) dX6_drawRain_34 ?_
    refine j_iload_n hF 1 dX6_drawRain_37 rfl ?_
    refine j_iload_n hF 0 dX6_drawRain_38 rfl ?_
    obtain ⟨g12, h⟩ := bzGdE h
    refine j_iast hF (c := x4.toNatClampNeg) (kl_0_1 (kl_6_0 ho)) (nl_0_1 (kl_6_0 ho)) g12 rfl dX6_drawRain_39 ?_
    refine j_s (fun σ13 eσ13 => ?_)
    replace h := bzLetE h eσ13
    exact j_vret hF hG dX6_drawRain_40 (Option.some.inj h)
def fb_X9_loose_44 (K44 : Int32 → bzS → Option (Int32 × bzS)) (o : Nat) (a1 : Int32) (v2 : Int32) (σ1 : bzS) : Option (Int32 × bzS) :=
  if a1 ≤ v2 then (some ((σ1 (ly (ly o 0) 0) 6), σ1)) else (bzBd (f_X6_drawRain ((ly o 0)) σ1) (fun σ7 => bzBp (f_X0_pass ((ly (ly o 0) 0)) 1 σ7) (fun x9 σ10 => bzLet (v2 + 1) (fun x11 => K44 x11 σ10))))
def fl_X9_loose_44 (o : Nat) (a1 : Int32) : Nat → Int32 → bzS → Option (Int32 × bzS)
  | 0, _, _ => none
  | n + 1, v2, σ1 => fb_X9_loose_44   (fl_X9_loose_44   o a1 n) o a1 v2 σ1
def f_X9_loose (o : Nat) (a1 : Int32) (σ : bzS) : Option (Int32 × bzS) :=
  bzGd (kd o = 9) (bzBd (f_X9_within a1 1 40) (fun x2 => if x2 = 0 then (bzBp (f_X9_fails o ((-1000000001)) σ) (fun x16 σ17 => some (x16, σ17))) else (if ((σ (ly (ly o 0) 0) 8) + a1) ≤ 9999 then (fl_X9_loose_44 o a1 2000 0 σ) else (bzBp (f_X9_fails o ((-1000000003)) σ) (fun x13 σ14 => some (x13, σ14))))))
set_option maxHeartbeats 4000000 in
set_option maxRecDepth 20000 in
theorem mt_X9_loose {g : bzGeo} {o : Nat} {a1 : Int32} {σ : bzS} {r0 : Int32} {σ0 : bzS} (l : Launch) (h : f_X9_loose  o a1 σ = some (r0, σ0)) : Met l yX9_loose (Cond.code yX9_loose cX9_loose 3 (some .int) :: GW) (bzR (7)) (va_Pc [.ref (ga g o), .int a1] (bzP g σ)) (va_Qi (fun (r : Int32) (u : bzS) => r = r0 ∧ u = σ0) (bzB g) (gA g)) 0 0 (gA g) := by
  unfold f_X9_loose at h
  obtain ⟨ho, h⟩ := bzGdE h
  refine j_start l (by decide +kernel) [.ref (ga g o), .int a1] [(0, .ref (ga g o)), (1, .int a1)] (Nat.le_of_ble_eq_true rfl) rfl (fun x hF hG => ?_)
  have J44 : (K44 : Int32 → bzS → Option (Int32 × bzS)) → (hK44 : ∀ (v2 : Int32) (σ1 : bzS), K44 v2 σ1 = some (r0, σ0) → bzJ g 3 x σ1 44 [(0, .ref (ga g o)), (1, .int a1), (2, .int v2)] []) → ∀ (v2 : Int32) (σ1 : bzS), fb_X9_loose_44 K44 o a1 v2 σ1 = some (r0, σ0) → bzJ g 3 x σ1 44 [(0, .ref (ga g o)), (1, .int a1), (2, .int v2)] [] := by
    intro K44 hK44 v2 σ1 h
    unfold fb_X9_loose_44 at h
    refine j_iload_n hF 2 dX9_loose_44 rfl ?_
    refine j_iload_n hF 1 dX9_loose_45 rfl ?_
    refine j_icmp_ge hF (tgt := 74) dX9_loose_46 (by decide) (fun c5 => ?_) (fun c5 => ?_)
    · replace h := bzIfT h c5
      refine j_aload_n hF 0 dX9_loose_74 rfl ?_
      refine gf_X9_12 hF ho dX9_loose_75 ?_
      refine gf_X9_55 hF (kl_9_0 ho) dX9_loose_78 ?_
      refine gf_X9_205 hF (kl_6_0 (kl_9_0 ho)) dX9_loose_81 ?_
      exact j_iret hF hG dX9_loose_84 (bzRet h).1 (bzRet h).2
    · replace h := bzIfF h c5
      refine j_aload_n hF 0 dX9_loose_49 rfl ?_
      refine gf_X9_12 hF ho dX9_loose_50 ?_
      obtain ⟨σ7, e6, h⟩ := bzBdE h
      refine cs_X9_202 hF (kl_9_0 ho) (fun l => mt_X6_drawRain l e6) (by decide) (Nat.le_of_ble_eq_true rfl) dX9_loose_53 ?_
      refine j_aload_n hF 0 dX9_loose_56 rfl ?_
      refine gf_X9_12 hF ho dX9_loose_57 ?_
      refine gf_X9_55 hF (kl_9_0 ho) dX9_loose_60 ?_
      refine j_iconst hF (v := 1) dX9_loose_63 (by decide) ?_
      obtain ⟨x9, σ10, e8, h⟩ := bzBpE h
      refine cs_X9_199 hF (kl_6_0 (kl_9_0 ho)) (fun l => mt_X0_pass l e8) (by decide) (Nat.le_of_ble_eq_true rfl) dX9_loose_64 ?_
      refine j_pop hF dX9_loose_67 rfl ?_
      obtain ⟨x11, ex11⟩ : ∃ y : Int32, y = v2 + 1 := ⟨_, rfl⟩
      replace h := bzLetE h ex11
      refine j_iinc hF (v := x11) (lv1 := [(2, .int x11), (0, .ref (ga g o)), (1, .int a1)]) 2 dX9_loose_68 rfl (by rw [ex11]; rfl) (by decide) rfl ?_
      refine j_goto hF (tgt := 44) dX9_loose_71 (by decide) ?_
      refine j_sub [1, 2, 0] rfl ?_
      exact hK44 x11 σ10 h
  have L44 : ∀ (n : Nat) (v2 : Int32) (σ1 : bzS), fl_X9_loose_44   o a1 n v2 σ1 = some (r0, σ0) → bzJ g 3 x σ1 44 [(0, .ref (ga g o)), (1, .int a1), (2, .int v2)] [] := by
    intro  n
    induction n with
    | zero =>
      intro v2 σ1  h
      cases h
    | succ n ih =>
      intro v2 σ1  h
      exact J44  (fl_X9_loose_44   o a1 n) ih v2 σ1  h
  refine j_iload_n hF 1 dX9_loose_0 rfl ?_
  refine j_iconst hF (v := 1) dX9_loose_1 (by decide) ?_
  refine j_bipush hF (v := 40) dX9_loose_2 (by decide) ?_
  obtain ⟨x2, e1, h⟩ := bzBdE h
  refine cs_X9_66 hF (fun l => mt_X9_within l e1) (by decide) (Nat.le_of_ble_eq_true rfl) dX9_loose_4 ?_
  refine j_if_ne hF (tgt := 17) dX9_loose_7 (by decide) (fun c3 => ?_) (fun c3 => ?_)
  · replace h := bzIfF h c3
    refine j_aload_n hF 0 dX9_loose_17 rfl ?_
    refine gf_X9_12 hF ho dX9_loose_18 ?_
    refine gf_X9_55 hF (kl_9_0 ho) dX9_loose_21 ?_
    refine gf_X9_138 hF (kl_6_0 (kl_9_0 ho)) dX9_loose_24 ?_
    refine j_iload_n hF 1 dX9_loose_27 rfl ?_
    refine j_iadd hF dX9_loose_28 ?_
    refine j_sipush hF (v := 9999) dX9_loose_29 (by decide) ?_
    refine j_icmp_le hF (tgt := 42) dX9_loose_32 (by decide) (fun c4 => ?_) (fun c4 => ?_)
    · replace h := bzIfT h c4
      refine j_iconst hF (v := 0) dX9_loose_42 (by decide) ?_
      refine j_istore_n hF (lv1 := [(2, .int 0), (0, .ref (ga g o)), (1, .int a1)]) dX9_loose_43 (by decide) rfl ?_
      refine j_sub [1, 2, 0] rfl ?_
      exact L44 2000 0 σ h
    · replace h := bzIfF h c4
      refine j_aload_n hF 0 dX9_loose_35 rfl ?_
      refine j_ldc hF (v := (-1000000003)) kc_X9_198 dX9_loose_36 ?_
      obtain ⟨x13, σ14, e12, h⟩ := bzBpE h
      refine cs_X9_71 hF ho (fun l => mt_X9_fails l e12) (by decide) (Nat.le_of_ble_eq_true rfl) dX9_loose_38 ?_
      exact j_iret hF hG dX9_loose_41  (bzRet h).1 (bzRet h).2
  · replace h := bzIfT h c3
    refine j_aload_n hF 0 dX9_loose_10 rfl ?_
    refine j_ldc hF (v := (-1000000001)) kc_X9_70 dX9_loose_11 ?_
    obtain ⟨x16, σ17, e15, h⟩ := bzBpE h
    refine cs_X9_71 hF ho (fun l => mt_X9_fails l e15) (by decide) (Nat.le_of_ble_eq_true rfl) dX9_loose_13 ?_
    exact j_iret hF hG dX9_loose_16  (bzRet h).1 (bzRet h).2
def f_X7_copyFrom (o : Nat) (a1 : Nat) (σ : bzS) : Option bzS :=
  bzGd (kd o = 7) (bzGd (kd a1 = 7) (bzLet (bzSa σ (ly o 0) (va_cpy (σ (ly a1 0)) (σ (ly o 0)) 0 0 8)) (fun σ1 => bzLet (bzSa σ1 (ly o 1) (va_cpy (σ1 (ly a1 1)) (σ1 (ly o 1)) 0 0 8)) (fun σ2 => bzLet (bzSa σ2 (ly o 2) (va_cpy (σ2 (ly a1 2)) (σ2 (ly o 2)) 0 0 8)) (fun σ3 => bzLet (bzSa σ3 (ly o 3) (va_cpy (σ3 (ly a1 3)) (σ3 (ly o 3)) 0 0 8)) (fun σ4 => bzLet (bzSt σ4 o 4 (σ4 a1 4)) (fun σ5 => bzLet (bzSt σ5 o 5 (σ5 a1 5)) (fun σ6 => some σ6))))))))
set_option maxHeartbeats 4000000 in
set_option maxRecDepth 20000 in
theorem mt_X7_copyFrom {g : bzGeo} {o : Nat} {a1 : Nat} {σ : bzS} {σ0 : bzS} (l : Launch) (h : f_X7_copyFrom  o a1 σ = some σ0) : Met l yX7_copyFrom (Cond.code yX7_copyFrom cX7_copyFrom 2 none :: GW) (bzR (2)) (va_Pc [.ref (ga g o), .ref (ga g a1)] (bzP g σ)) (va_Qv (fun (u : bzS) => u = σ0) (bzB g) (gA g)) 0 0 (gA g) := by
  unfold f_X7_copyFrom at h
  obtain ⟨ho, h⟩ := bzGdE h
  obtain ⟨h1, h⟩ := bzGdE h
  refine j_start l (by decide +kernel) [.ref (ga g o), .ref (ga g a1)] [(0, .ref (ga g o)), (1, .ref (ga g a1))] (Nat.le_of_ble_eq_true rfl) rfl (fun x hF hG => ?_)
  refine j_aload_n hF 1 dX7_copyFrom_0 rfl ?_
  refine gf_X7_9 hF h1 dX7_copyFrom_1 ?_
  refine j_iconst hF (v := 0) dX7_copyFrom_4 (by decide) ?_
  refine j_aload_n hF 0 dX7_copyFrom_5 rfl ?_
  refine gf_X7_9 hF ho dX7_copyFrom_6 ?_
  refine j_iconst hF (v := 0) dX7_copyFrom_9 (by decide) ?_
  refine j_bipush hF (v := 8) dX7_copyFrom_10 (by decide) ?_
  refine j_copy hF (c1 := 0) (c2 := 0) (c3 := 8) km_X7_77 (kl_7_0 h1) (kl_7_0 ho) (nl_7_0 h1) (nl_7_0 ho) (by decide) (by decide) (by decide) (by decide) (by decide) (Nat.le_of_ble_eq_true rfl) dX7_copyFrom_12 ?_
  refine j_s (fun σ1 eσ1 => ?_)
  replace h := bzLetE h eσ1
  refine j_aload_n hF 1 dX7_copyFrom_15 rfl ?_
  refine gf_X7_13 hF h1 dX7_copyFrom_16 ?_
  refine j_iconst hF (v := 0) dX7_copyFrom_19 (by decide) ?_
  refine j_aload_n hF 0 dX7_copyFrom_20 rfl ?_
  refine gf_X7_13 hF ho dX7_copyFrom_21 ?_
  refine j_iconst hF (v := 0) dX7_copyFrom_24 (by decide) ?_
  refine j_bipush hF (v := 8) dX7_copyFrom_25 (by decide) ?_
  refine j_copy hF (c1 := 0) (c2 := 0) (c3 := 8) km_X7_77 (kl_7_1 h1) (kl_7_1 ho) (nl_7_1 h1) (nl_7_1 ho) (by decide) (by decide) (by decide) (by decide) (by decide) (Nat.le_of_ble_eq_true rfl) dX7_copyFrom_27 ?_
  refine j_s (fun σ2 eσ2 => ?_)
  replace h := bzLetE h eσ2
  refine j_aload_n hF 1 dX7_copyFrom_30 rfl ?_
  refine gf_X7_16 hF h1 dX7_copyFrom_31 ?_
  refine j_iconst hF (v := 0) dX7_copyFrom_34 (by decide) ?_
  refine j_aload_n hF 0 dX7_copyFrom_35 rfl ?_
  refine gf_X7_16 hF ho dX7_copyFrom_36 ?_
  refine j_iconst hF (v := 0) dX7_copyFrom_39 (by decide) ?_
  refine j_bipush hF (v := 8) dX7_copyFrom_40 (by decide) ?_
  refine j_copy hF (c1 := 0) (c2 := 0) (c3 := 8) km_X7_77 (kl_7_2 h1) (kl_7_2 ho) (nl_7_2 h1) (nl_7_2 ho) (by decide) (by decide) (by decide) (by decide) (by decide) (Nat.le_of_ble_eq_true rfl) dX7_copyFrom_42 ?_
  refine j_s (fun σ3 eσ3 => ?_)
  replace h := bzLetE h eσ3
  refine j_aload_n hF 1 dX7_copyFrom_45 rfl ?_
  refine gf_X7_19 hF h1 dX7_copyFrom_46 ?_
  refine j_iconst hF (v := 0) dX7_copyFrom_49 (by decide) ?_
  refine j_aload_n hF 0 dX7_copyFrom_50 rfl ?_
  refine gf_X7_19 hF ho dX7_copyFrom_51 ?_
  refine j_iconst hF (v := 0) dX7_copyFrom_54 (by decide) ?_
  refine j_bipush hF (v := 8) dX7_copyFrom_55 (by decide) ?_
  refine j_copy hF (c1 := 0) (c2 := 0) (c3 := 8) km_X7_77 (kl_7_3 h1) (kl_7_3 ho) (nl_7_3 h1) (nl_7_3 ho) (by decide) (by decide) (by decide) (by decide) (by decide) (Nat.le_of_ble_eq_true rfl) dX7_copyFrom_57 ?_
  refine j_s (fun σ4 eσ4 => ?_)
  replace h := bzLetE h eσ4
  refine j_aload_n hF 0 dX7_copyFrom_60 rfl ?_
  refine j_aload_n hF 1 dX7_copyFrom_61 rfl ?_
  refine gf_X7_22 hF h1 dX7_copyFrom_62 ?_
  refine pf_X7_22 hF ho dX7_copyFrom_65 ?_
  refine j_s (fun σ5 eσ5 => ?_)
  replace h := bzLetE h eσ5
  refine j_aload_n hF 0 dX7_copyFrom_68 rfl ?_
  refine j_aload_n hF 1 dX7_copyFrom_69 rfl ?_
  refine gf_X7_26 hF h1 dX7_copyFrom_70 ?_
  refine pf_X7_26 hF ho dX7_copyFrom_73 ?_
  refine j_s (fun σ6 eσ6 => ?_)
  replace h := bzLetE h eσ6
  exact j_vret hF hG dX7_copyFrom_76 (Option.some.inj h)
def f_X0_copyFrom (o : Nat) (a1 : Nat) (σ : bzS) : Option bzS :=
  bzGd (kd o = 0) (bzGd (kd a1 = 0) (bzLet (bzSa σ (ly o 0) (va_cpy (σ (ly a1 0)) (σ (ly o 0)) 0 0 6)) (fun σ1 => bzLet (bzSa σ1 (ly o 1) (va_cpy (σ1 (ly a1 1)) (σ1 (ly o 1)) 0 0 6)) (fun σ2 => bzBd (f_X7_copyFrom ((ly o 2)) ((ly a1 2)) σ2) (fun σ4 => bzBd (f_X2_copyFrom ((ly o 3)) ((ly a1 3)) σ4) (fun σ6 => bzBd (f_X2_copyFrom ((ly o 4)) ((ly a1 4)) σ6) (fun σ8 => bzLet (bzSt σ8 o 5 (σ8 a1 5)) (fun σ9 => bzLet (bzSt σ9 o 6 (σ9 a1 6)) (fun σ10 => bzLet (bzSt σ10 o 7 (σ10 a1 7)) (fun σ11 => bzLet (bzSt σ11 o 8 (σ11 a1 8)) (fun σ12 => some σ12)))))))))))
set_option maxHeartbeats 4000000 in
set_option maxRecDepth 20000 in
theorem mt_X0_copyFrom {g : bzGeo} {o : Nat} {a1 : Nat} {σ : bzS} {σ0 : bzS} (l : Launch) (h : f_X0_copyFrom  o a1 σ = some σ0) : Met l yX0_copyFrom (Cond.code yX0_copyFrom cX0_copyFrom 2 none :: GW) (bzR (5)) (va_Pc [.ref (ga g o), .ref (ga g a1)] (bzP g σ)) (va_Qv (fun (u : bzS) => u = σ0) (bzB g) (gA g)) 0 0 (gA g) := by
  unfold f_X0_copyFrom at h
  obtain ⟨ho, h⟩ := bzGdE h
  obtain ⟨h1, h⟩ := bzGdE h
  refine j_start l (by decide +kernel) [.ref (ga g o), .ref (ga g a1)] [(0, .ref (ga g o)), (1, .ref (ga g a1))] (Nat.le_of_ble_eq_true rfl) rfl (fun x hF hG => ?_)
  refine j_aload_n hF 1 dX0_copyFrom_0 rfl ?_
  refine gf_X0_9 hF h1 dX0_copyFrom_1 ?_
  refine j_iconst hF (v := 0) dX0_copyFrom_4 (by decide) ?_
  refine j_aload_n hF 0 dX0_copyFrom_5 rfl ?_
  refine gf_X0_9 hF ho dX0_copyFrom_6 ?_
  refine j_iconst hF (v := 0) dX0_copyFrom_9 (by decide) ?_
  refine j_bipush hF (v := 6) dX0_copyFrom_10 (by decide) ?_
  refine j_copy hF (c1 := 0) (c2 := 0) (c3 := 6) km_X0_102 (kl_0_0 h1) (kl_0_0 ho) (nl_0_0 h1) (nl_0_0 ho) (by decide) (by decide) (by decide) (by decide) (by decide) (Nat.le_of_ble_eq_true rfl) dX0_copyFrom_12 ?_
  refine j_s (fun σ1 eσ1 => ?_)
  replace h := bzLetE h eσ1
  refine j_aload_n hF 1 dX0_copyFrom_15 rfl ?_
  refine gf_X0_15 hF h1 dX0_copyFrom_16 ?_
  refine j_iconst hF (v := 0) dX0_copyFrom_19 (by decide) ?_
  refine j_aload_n hF 0 dX0_copyFrom_20 rfl ?_
  refine gf_X0_15 hF ho dX0_copyFrom_21 ?_
  refine j_iconst hF (v := 0) dX0_copyFrom_24 (by decide) ?_
  refine j_bipush hF (v := 6) dX0_copyFrom_25 (by decide) ?_
  refine j_copy hF (c1 := 0) (c2 := 0) (c3 := 6) km_X0_102 (kl_0_1 h1) (kl_0_1 ho) (nl_0_1 h1) (nl_0_1 ho) (by decide) (by decide) (by decide) (by decide) (by decide) (Nat.le_of_ble_eq_true rfl) dX0_copyFrom_27 ?_
  refine j_s (fun σ2 eσ2 => ?_)
  replace h := bzLetE h eσ2
  refine j_aload_n hF 0 dX0_copyFrom_30 rfl ?_
  refine gf_X0_21 hF ho dX0_copyFrom_31 ?_
  refine j_aload_n hF 1 dX0_copyFrom_34 rfl ?_
  refine gf_X0_21 hF h1 dX0_copyFrom_35 ?_
  obtain ⟨σ4, e3, h⟩ := bzBdE h
  refine cs_X0_108 hF (kl_0_2 ho) (fun l => mt_X7_copyFrom l e3) (by decide) (Nat.le_of_ble_eq_true rfl) dX0_copyFrom_38 ?_
  refine j_aload_n hF 0 dX0_copyFrom_41 rfl ?_
  refine gf_X0_28 hF ho dX0_copyFrom_42 ?_
  refine j_aload_n hF 1 dX0_copyFrom_45 rfl ?_
  refine gf_X0_28 hF h1 dX0_copyFrom_46 ?_
  obtain ⟨σ6, e5, h⟩ := bzBdE h
  refine cs_X0_112 hF (kl_0_3 ho) (fun l => mt_X2_copyFrom l e5) (by decide) (Nat.le_of_ble_eq_true rfl) dX0_copyFrom_49 ?_
  refine j_aload_n hF 0 dX0_copyFrom_52 rfl ?_
  refine gf_X0_32 hF ho dX0_copyFrom_53 ?_
  refine j_aload_n hF 1 dX0_copyFrom_56 rfl ?_
  refine gf_X0_32 hF h1 dX0_copyFrom_57 ?_
  obtain ⟨σ8, e7, h⟩ := bzBdE h
  refine cs_X0_112 hF (kl_0_4 ho) (fun l => mt_X2_copyFrom l e7) (by decide) (Nat.le_of_ble_eq_true rfl) dX0_copyFrom_60 ?_
  refine j_aload_n hF 0 dX0_copyFrom_63 rfl ?_
  refine j_aload_n hF 1 dX0_copyFrom_64 rfl ?_
  refine gf_X0_35 hF h1 dX0_copyFrom_65 ?_
  refine pf_X0_35 hF ho dX0_copyFrom_68 ?_
  refine j_s (fun σ9 eσ9 => ?_)
  replace h := bzLetE h eσ9
  refine j_aload_n hF 0 dX0_copyFrom_71 rfl ?_
  refine j_aload_n hF 1 dX0_copyFrom_72 rfl ?_
  refine gf_X0_39 hF h1 dX0_copyFrom_73 ?_
  refine pf_X0_39 hF ho dX0_copyFrom_76 ?_
  refine j_s (fun σ10 eσ10 => ?_)
  replace h := bzLetE h eσ10
  refine j_aload_n hF 0 dX0_copyFrom_79 rfl ?_
  refine j_aload_n hF 1 dX0_copyFrom_80 rfl ?_
  refine gf_X0_42 hF h1 dX0_copyFrom_81 ?_
  refine pf_X0_42 hF ho dX0_copyFrom_84 ?_
  refine j_s (fun σ11 eσ11 => ?_)
  replace h := bzLetE h eσ11
  refine j_aload_n hF 0 dX0_copyFrom_87 rfl ?_
  refine j_aload_n hF 1 dX0_copyFrom_88 rfl ?_
  refine gf_X0_45 hF h1 dX0_copyFrom_89 ?_
  refine pf_X0_45 hF ho dX0_copyFrom_92 ?_
  refine j_s (fun σ12 eσ12 => ?_)
  replace h := bzLetE h eσ12
  exact j_vret hF hG dX0_copyFrom_95 (Option.some.inj h)
def f_X9_thinkAfresh (o : Nat) (σ : bzS) : Option bzS :=
  bzGd (kd o = 9) (bzBd (f_X0_copyFrom ((ly o 3)) ((ly (ly o 0) 0)) σ) (fun σ2 => some σ2))
set_option maxHeartbeats 4000000 in
set_option maxRecDepth 20000 in
theorem mt_X9_thinkAfresh {g : bzGeo} {o : Nat} {σ : bzS} {σ0 : bzS} (l : Launch) (h : f_X9_thinkAfresh  o σ = some σ0) : Met l yX9_thinkAfresh (Cond.code yX9_thinkAfresh cX9_thinkAfresh 1 none :: GW) (bzR (6)) (va_Pc [.ref (ga g o)] (bzP g σ)) (va_Qv (fun (u : bzS) => u = σ0) (bzB g) (gA g)) 0 0 (gA g) := by
  unfold f_X9_thinkAfresh at h
  obtain ⟨ho, h⟩ := bzGdE h
  refine j_start l (by decide +kernel) [.ref (ga g o)] [(0, .ref (ga g o))] (Nat.le_of_ble_eq_true rfl) rfl (fun x hF hG => ?_)
  refine j_aload_n hF 0 dX9_thinkAfresh_0 rfl ?_
  refine gf_X9_26 hF ho dX9_thinkAfresh_1 ?_
  refine j_aload_n hF 0 dX9_thinkAfresh_4 rfl ?_
  refine gf_X9_12 hF ho dX9_thinkAfresh_5 ?_
  refine gf_X9_55 hF (kl_9_0 ho) dX9_thinkAfresh_8 ?_
  obtain ⟨σ2, e1, h⟩ := bzBdE h
  refine cs_X9_316 hF (kl_9_3 ho) (fun l => mt_X0_copyFrom l e1) (by decide) (Nat.le_of_ble_eq_true rfl) dX9_thinkAfresh_11 ?_
  exact j_vret hF hG dX9_thinkAfresh_14 (Option.some.inj h)
def f_X9_then (o : Nat) (a1 : Int32) (a2 : Int32) (σ : bzS) : Option (Int32 × bzS) :=
  bzGd (kd o = 9) (bzBd (f_X9_within a1 0 60) (fun x2 => if x2 = 0 then (bzBp (f_X9_fails o ((-1000000001)) σ) (fun x5 σ6 => some (x5, σ6))) else (bzBd (f_X9_within a2 0 2) (fun x8 => if x8 = 0 then (bzBp (f_X9_fails o ((-1000000001)) σ) (fun x18 σ19 => some (x18, σ19))) else (bzBd (f_X9_thinkAfresh o σ) (fun σ11 => bzBp (f_X0_pass ((ly o 3)) a1 σ11) (fun x13 σ14 => if a2 = 0 then (some ((σ14 (ly o 3) 5), σ14)) else if a2 = 1 then (some ((σ14 (ly o 3) 6), σ14)) else (some ((σ14 (ly o 3) 7), σ14)))))))))
set_option maxHeartbeats 4000000 in
set_option maxRecDepth 20000 in
theorem mt_X9_then {g : bzGeo} {o : Nat} {a1 : Int32} {a2 : Int32} {σ : bzS} {r0 : Int32} {σ0 : bzS} (l : Launch) (h : f_X9_then  o a1 a2 σ = some (r0, σ0)) : Met l yX9_then (Cond.code yX9_then cX9_then 3 (some .int) :: GW) (bzR (7)) (va_Pc [.ref (ga g o), .int a1, .int a2] (bzP g σ)) (va_Qi (fun (r : Int32) (u : bzS) => r = r0 ∧ u = σ0) (bzB g) (gA g)) 0 0 (gA g) := by
  unfold f_X9_then at h
  obtain ⟨ho, h⟩ := bzGdE h
  refine j_start l (by decide +kernel) [.ref (ga g o), .int a1, .int a2] [(0, .ref (ga g o)), (1, .int a1), (2, .int a2)] (Nat.le_of_ble_eq_true rfl) rfl (fun x hF hG => ?_)
  refine j_iload_n hF 1 dX9_then_0 rfl ?_
  refine j_iconst hF (v := 0) dX9_then_1 (by decide) ?_
  refine j_bipush hF (v := 60) dX9_then_2 (by decide) ?_
  obtain ⟨x2, e1, h⟩ := bzBdE h
  refine cs_X9_66 hF (fun l => mt_X9_within l e1) (by decide) (Nat.le_of_ble_eq_true rfl) dX9_then_4 ?_
  refine j_if_eq hF (tgt := 19) dX9_then_7 (by decide) (fun c3 => ?_) (fun c3 => ?_)
  · replace h := bzIfT h c3
    refine j_aload_n hF 0 dX9_then_19 rfl ?_
    refine j_ldc hF (v := (-1000000001)) kc_X9_70 dX9_then_20 ?_
    obtain ⟨x5, σ6, e4, h⟩ := bzBpE h
    refine cs_X9_71 hF ho (fun l => mt_X9_fails l e4) (by decide) (Nat.le_of_ble_eq_true rfl) dX9_then_22 ?_
    exact j_iret hF hG dX9_then_25  (bzRet h).1 (bzRet h).2
  · replace h := bzIfF h c3
    refine j_iload_n hF 2 dX9_then_10 rfl ?_
    refine j_iconst hF (v := 0) dX9_then_11 (by decide) ?_
    refine j_iconst hF (v := 2) dX9_then_12 (by decide) ?_
    obtain ⟨x8, e7, h⟩ := bzBdE h
    refine cs_X9_66 hF (fun l => mt_X9_within l e7) (by decide) (Nat.le_of_ble_eq_true rfl) dX9_then_13 ?_
    refine j_if_ne hF (tgt := 26) dX9_then_16 (by decide) (fun c9 => ?_) (fun c9 => ?_)
    · replace h := bzIfF h c9
      refine j_aload_n hF 0 dX9_then_26 rfl ?_
      obtain ⟨σ11, e10, h⟩ := bzBdE h
      refine cs_X9_208 hF ho (fun l => mt_X9_thinkAfresh l e10) (by decide) (Nat.le_of_ble_eq_true rfl) dX9_then_27 ?_
      refine j_aload_n hF 0 dX9_then_30 rfl ?_
      refine gf_X9_26 hF ho dX9_then_31 ?_
      refine j_iload_n hF 1 dX9_then_34 rfl ?_
      obtain ⟨x13, σ14, e12, h⟩ := bzBpE h
      refine cs_X9_199 hF (kl_9_3 ho) (fun l => mt_X0_pass l e12) (by decide) (Nat.le_of_ble_eq_true rfl) dX9_then_35 ?_
      refine j_pop hF dX9_then_38 rfl ?_
      refine j_iload_n hF 2 dX9_then_39 rfl ?_
      rcases Decidable.em (a2 = 0) with c15 | c15
      · replace h := bzIfT h c15
        refine j_lookup hF (tgt := 68) dX9_then_40 (by decide) (by rw [c15] <;> rfl) (by decide) ?_
        refine j_aload_n hF 0 dX9_then_68 rfl ?_
        refine gf_X9_26 hF ho dX9_then_69 ?_
        refine gf_X9_147 hF (kl_9_3 ho) dX9_then_72 ?_
        exact j_iret hF hG dX9_then_75  (bzRet h).1 (bzRet h).2
      · replace h := bzIfF h c15
        rcases Decidable.em (a2 = 1) with c16 | c16
        · replace h := bzIfT h c16
          refine j_lookup hF (tgt := 76) dX9_then_40 (by decide) (by rw [c16] <;> rfl) (by decide) ?_
          refine j_aload_n hF 0 dX9_then_76 rfl ?_
          refine gf_X9_26 hF ho dX9_then_77 ?_
          refine gf_X9_205 hF (kl_9_3 ho) dX9_then_80 ?_
          exact j_iret hF hG dX9_then_83  (bzRet h).1 (bzRet h).2
        · replace h := bzIfF h c16
          refine j_lookup hF (off := 44) (tgt := 84) dX9_then_40 (by decide) ((lv_osw c15 (by decide)).trans ((lv_osw c16 (by decide)).trans (rfl))) (by decide) ?_
          refine j_aload_n hF 0 dX9_then_84 rfl ?_
          refine gf_X9_26 hF ho dX9_then_85 ?_
          refine gf_X9_211 hF (kl_9_3 ho) dX9_then_88 ?_
          exact j_iret hF hG dX9_then_91  (bzRet h).1 (bzRet h).2
    · replace h := bzIfT h c9
      refine j_aload_n hF 0 dX9_then_19 rfl ?_
      refine j_ldc hF (v := (-1000000001)) kc_X9_70 dX9_then_20 ?_
      obtain ⟨x18, σ19, e17, h⟩ := bzBpE h
      refine cs_X9_71 hF ho (fun l => mt_X9_fails l e17) (by decide) (Nat.le_of_ble_eq_true rfl) dX9_then_22 ?_
      exact j_iret hF hG dX9_then_25  (bzRet h).1 (bzRet h).2
def fb_X9_falls_6 (K6 : Int32 → bzS → Option (Int32 × bzS)) (o : Nat) (v1 : Int32) (σ1 : bzS) : Option (Int32 × bzS) :=
  if 60 < v1 then (bzBp (f_X9_fails o ((-1000000002)) σ1) (fun x5 σ6 => some (x5, σ6))) else (if (σ1 (ly o 3) 6) < 60 then (bzBp (f_X0_pass ((ly o 3)) 1 σ1) (fun x9 σ10 => bzLet (v1 + 1) (fun x11 => K6 x11 σ10))) else (some (v1, σ1)))
def fl_X9_falls_6 (o : Nat) : Nat → Int32 → bzS → Option (Int32 × bzS)
  | 0, _, _ => none
  | n + 1, v1, σ1 => fb_X9_falls_6   (fl_X9_falls_6   o n) o v1 σ1
def f_X9_falls (o : Nat) (σ : bzS) : Option (Int32 × bzS) :=
  bzGd (kd o = 9) (bzBd (f_X9_thinkAfresh o σ) (fun σ2 => fl_X9_falls_6 o 2000 0 σ2))
set_option maxHeartbeats 4000000 in
set_option maxRecDepth 20000 in
theorem mt_X9_falls {g : bzGeo} {o : Nat} {σ : bzS} {r0 : Int32} {σ0 : bzS} (l : Launch) (h : f_X9_falls  o σ = some (r0, σ0)) : Met l yX9_falls (Cond.code yX9_falls cX9_falls 2 (some .int) :: GW) (bzR (7)) (va_Pc [.ref (ga g o)] (bzP g σ)) (va_Qi (fun (r : Int32) (u : bzS) => r = r0 ∧ u = σ0) (bzB g) (gA g)) 0 0 (gA g) := by
  unfold f_X9_falls at h
  obtain ⟨ho, h⟩ := bzGdE h
  refine j_start l (by decide +kernel) [.ref (ga g o)] [(0, .ref (ga g o))] (Nat.le_of_ble_eq_true rfl) rfl (fun x hF hG => ?_)
  have J6 : (K6 : Int32 → bzS → Option (Int32 × bzS)) → (hK6 : ∀ (v1 : Int32) (σ1 : bzS), K6 v1 σ1 = some (r0, σ0) → bzJ g 2 x σ1 6 [(0, .ref (ga g o)), (1, .int v1)] []) → ∀ (v1 : Int32) (σ1 : bzS), fb_X9_falls_6 K6 o v1 σ1 = some (r0, σ0) → bzJ g 2 x σ1 6 [(0, .ref (ga g o)), (1, .int v1)] [] := by
    intro K6 hK6 v1 σ1 h
    unfold fb_X9_falls_6 at h
    refine j_iload_n hF 1 dX9_falls_6 rfl ?_
    refine j_bipush hF (v := 60) dX9_falls_7 (by decide) ?_
    refine j_icmp_gt hF (tgt := 41) dX9_falls_9 (by decide) (fun c3 => ?_) (fun c3 => ?_)
    · replace h := bzIfT h c3
      refine j_aload_n hF 0 dX9_falls_41 rfl ?_
      refine j_ldc hF (v := (-1000000002)) kc_X9_214 dX9_falls_42 ?_
      obtain ⟨x5, σ6, e4, h⟩ := bzBpE h
      refine cs_X9_71 hF ho (fun l => mt_X9_fails l e4) (by decide) (Nat.le_of_ble_eq_true rfl) dX9_falls_44 ?_
      exact j_iret hF hG dX9_falls_47 (bzRet h).1 (bzRet h).2
    · replace h := bzIfF h c3
      refine j_aload_n hF 0 dX9_falls_12 rfl ?_
      refine gf_X9_26 hF ho dX9_falls_13 ?_
      refine gf_X9_205 hF (kl_9_3 ho) dX9_falls_16 ?_
      refine j_bipush hF (v := 60) dX9_falls_19 (by decide) ?_
      refine j_icmp_lt hF (tgt := 26) dX9_falls_21 (by decide) (fun c7 => ?_) (fun c7 => ?_)
      · replace h := bzIfT h c7
        refine j_aload_n hF 0 dX9_falls_26 rfl ?_
        refine gf_X9_26 hF ho dX9_falls_27 ?_
        refine j_iconst hF (v := 1) dX9_falls_30 (by decide) ?_
        obtain ⟨x9, σ10, e8, h⟩ := bzBpE h
        refine cs_X9_199 hF (kl_9_3 ho) (fun l => mt_X0_pass l e8) (by decide) (Nat.le_of_ble_eq_true rfl) dX9_falls_31 ?_
        refine j_pop hF dX9_falls_34 rfl ?_
        obtain ⟨x11, ex11⟩ : ∃ y : Int32, y = v1 + 1 := ⟨_, rfl⟩
        replace h := bzLetE h ex11
        refine j_iinc hF (v := x11) (lv1 := [(1, .int x11), (0, .ref (ga g o))]) 1 dX9_falls_35 rfl (by rw [ex11]; rfl) (by decide) rfl ?_
        refine j_goto hF (tgt := 6) dX9_falls_38 (by decide) ?_
        refine j_sub [1, 0] rfl ?_
        exact hK6 x11 σ10 h
      · replace h := bzIfF h c7
        refine j_iload_n hF 1 dX9_falls_24 rfl ?_
        exact j_iret hF hG dX9_falls_25 (bzRet h).1 (bzRet h).2
  have L6 : ∀ (n : Nat) (v1 : Int32) (σ1 : bzS), fl_X9_falls_6   o n v1 σ1 = some (r0, σ0) → bzJ g 2 x σ1 6 [(0, .ref (ga g o)), (1, .int v1)] [] := by
    intro  n
    induction n with
    | zero =>
      intro v1 σ1  h
      cases h
    | succ n ih =>
      intro v1 σ1  h
      exact J6  (fl_X9_falls_6   o n) ih v1 σ1  h
  refine j_aload_n hF 0 dX9_falls_0 rfl ?_
  obtain ⟨σ2, e1, h⟩ := bzBdE h
  refine cs_X9_208 hF ho (fun l => mt_X9_thinkAfresh l e1) (by decide) (Nat.le_of_ble_eq_true rfl) dX9_falls_1 ?_
  refine j_iconst hF (v := 0) dX9_falls_4 (by decide) ?_
  refine j_istore_n hF (lv1 := [(1, .int 0), (0, .ref (ga g o))]) dX9_falls_5 (by decide) rfl ?_
  refine j_sub [1, 0] rfl ?_
  exact L6 2000 0 σ2 h
def fb_X9_wet_36 (K36 : Int32 → Int32 → bzS → Option (Int32 × bzS)) (o : Nat) (a1 : Int32) (a2 : Int32) (v3 : Int32) (v4 : Int32) (σ1 : bzS) : Option (Int32 × bzS) :=
  if a1 ≤ v4 then (some (v3, σ1)) else (bzBp (f_X0_pass ((ly o 3)) 1 σ1) (fun x14 σ15 => if (σ15 (ly o 3) 7) < a2 then (bzLet (v4 + 1) (fun x17 => K36 v3 x17 σ15)) else (bzLet (v3 + 1) (fun x18 => bzLet (v4 + 1) (fun x19 => K36 x18 x19 σ15)))))
def fl_X9_wet_36 (o : Nat) (a1 : Int32) (a2 : Int32) : Nat → Int32 → Int32 → bzS → Option (Int32 × bzS)
  | 0, _, _, _ => none
  | n + 1, v3, v4, σ1 => fb_X9_wet_36   (fl_X9_wet_36   o a1 a2 n) o a1 a2 v3 v4 σ1
def f_X9_wet (o : Nat) (a1 : Int32) (a2 : Int32) (σ : bzS) : Option (Int32 × bzS) :=
  bzGd (kd o = 9) (bzBd (f_X9_within a1 0 60) (fun x2 => if x2 = 0 then (bzBp (f_X9_fails o ((-1000000001)) σ) (fun x5 σ6 => some (x5, σ6))) else (bzBd (f_X9_within a2 1 99) (fun x8 => if x8 = 0 then (bzBp (f_X9_fails o ((-1000000001)) σ) (fun x21 σ22 => some (x21, σ22))) else (bzBd (f_X9_thinkAfresh o σ) (fun σ11 => fl_X9_wet_36 o a1 a2 2000 0 0 σ11))))))
set_option maxHeartbeats 4000000 in
set_option maxRecDepth 20000 in
theorem mt_X9_wet {g : bzGeo} {o : Nat} {a1 : Int32} {a2 : Int32} {σ : bzS} {r0 : Int32} {σ0 : bzS} (l : Launch) (h : f_X9_wet  o a1 a2 σ = some (r0, σ0)) : Met l yX9_wet (Cond.code yX9_wet cX9_wet 5 (some .int) :: GW) (bzR (7)) (va_Pc [.ref (ga g o), .int a1, .int a2] (bzP g σ)) (va_Qi (fun (r : Int32) (u : bzS) => r = r0 ∧ u = σ0) (bzB g) (gA g)) 0 0 (gA g) := by
  unfold f_X9_wet at h
  obtain ⟨ho, h⟩ := bzGdE h
  refine j_start l (by decide +kernel) [.ref (ga g o), .int a1, .int a2] [(0, .ref (ga g o)), (1, .int a1), (2, .int a2)] (Nat.le_of_ble_eq_true rfl) rfl (fun x hF hG => ?_)
  have J36 : (K36 : Int32 → Int32 → bzS → Option (Int32 × bzS)) → (hK36 : ∀ (v3 : Int32) (v4 : Int32) (σ1 : bzS), K36 v3 v4 σ1 = some (r0, σ0) → bzJ g 5 x σ1 36 [(0, .ref (ga g o)), (1, .int a1), (2, .int a2), (3, .int v3), (4, .int v4)] []) → ∀ (v3 : Int32) (v4 : Int32) (σ1 : bzS), fb_X9_wet_36 K36 o a1 a2 v3 v4 σ1 = some (r0, σ0) → bzJ g 5 x σ1 36 [(0, .ref (ga g o)), (1, .int a1), (2, .int a2), (3, .int v3), (4, .int v4)] [] := by
    intro K36 hK36 v3 v4 σ1 h
    unfold fb_X9_wet_36 at h
    refine j_iload hF 4 dX9_wet_36 rfl ?_
    refine j_iload_n hF 1 dX9_wet_38 rfl ?_
    refine j_icmp_ge hF (tgt := 71) dX9_wet_39 (by decide) (fun c12 => ?_) (fun c12 => ?_)
    · replace h := bzIfT h c12
      refine j_iload_n hF 3 dX9_wet_71 rfl ?_
      exact j_iret hF hG dX9_wet_72 (bzRet h).1 (bzRet h).2
    · replace h := bzIfF h c12
      refine j_aload_n hF 0 dX9_wet_42 rfl ?_
      refine gf_X9_26 hF ho dX9_wet_43 ?_
      refine j_iconst hF (v := 1) dX9_wet_46 (by decide) ?_
      obtain ⟨x14, σ15, e13, h⟩ := bzBpE h
      refine cs_X9_199 hF (kl_9_3 ho) (fun l => mt_X0_pass l e13) (by decide) (Nat.le_of_ble_eq_true rfl) dX9_wet_47 ?_
      refine j_pop hF dX9_wet_50 rfl ?_
      refine j_aload_n hF 0 dX9_wet_51 rfl ?_
      refine gf_X9_26 hF ho dX9_wet_52 ?_
      refine gf_X9_211 hF (kl_9_3 ho) dX9_wet_55 ?_
      refine j_iload_n hF 2 dX9_wet_58 rfl ?_
      refine j_icmp_lt hF (tgt := 65) dX9_wet_59 (by decide) (fun c16 => ?_) (fun c16 => ?_)
      · replace h := bzIfT h c16
        obtain ⟨x17, ex17⟩ : ∃ y : Int32, y = v4 + 1 := ⟨_, rfl⟩
        replace h := bzLetE h ex17
        refine j_iinc hF (v := x17) (lv1 := [(4, .int x17), (0, .ref (ga g o)), (1, .int a1), (2, .int a2), (3, .int v3)]) 4 dX9_wet_65 rfl (by rw [ex17]; rfl) (by decide) rfl ?_
        refine j_goto hF (tgt := 36) dX9_wet_68 (by decide) ?_
        refine j_sub [1, 2, 3, 4, 0] rfl ?_
        exact hK36 v3 x17 σ15 h
      · replace h := bzIfF h c16
        obtain ⟨x18, ex18⟩ : ∃ y : Int32, y = v3 + 1 := ⟨_, rfl⟩
        replace h := bzLetE h ex18
        refine j_iinc hF (v := x18) (lv1 := [(3, .int x18), (0, .ref (ga g o)), (1, .int a1), (2, .int a2), (4, .int v4)]) 3 dX9_wet_62 rfl (by rw [ex18]; rfl) (by decide) rfl ?_
        obtain ⟨x19, ex19⟩ : ∃ y : Int32, y = v4 + 1 := ⟨_, rfl⟩
        replace h := bzLetE h ex19
        refine j_iinc hF (v := x19) (lv1 := [(4, .int x19), (3, .int x18), (0, .ref (ga g o)), (1, .int a1), (2, .int a2)]) 4 dX9_wet_65 rfl (by rw [ex19]; rfl) (by decide) rfl ?_
        refine j_goto hF (tgt := 36) dX9_wet_68 (by decide) ?_
        refine j_sub [2, 3, 4, 1, 0] rfl ?_
        exact hK36 x18 x19 σ15 h
  have L36 : ∀ (n : Nat) (v3 : Int32) (v4 : Int32) (σ1 : bzS), fl_X9_wet_36   o a1 a2 n v3 v4 σ1 = some (r0, σ0) → bzJ g 5 x σ1 36 [(0, .ref (ga g o)), (1, .int a1), (2, .int a2), (3, .int v3), (4, .int v4)] [] := by
    intro  n
    induction n with
    | zero =>
      intro v3 v4 σ1  h
      cases h
    | succ n ih =>
      intro v3 v4 σ1  h
      exact J36  (fl_X9_wet_36   o a1 a2 n) ih v3 v4 σ1  h
  refine j_iload_n hF 1 dX9_wet_0 rfl ?_
  refine j_iconst hF (v := 0) dX9_wet_1 (by decide) ?_
  refine j_bipush hF (v := 60) dX9_wet_2 (by decide) ?_
  obtain ⟨x2, e1, h⟩ := bzBdE h
  refine cs_X9_66 hF (fun l => mt_X9_within l e1) (by decide) (Nat.le_of_ble_eq_true rfl) dX9_wet_4 ?_
  refine j_if_eq hF (tgt := 20) dX9_wet_7 (by decide) (fun c3 => ?_) (fun c3 => ?_)
  · replace h := bzIfT h c3
    refine j_aload_n hF 0 dX9_wet_20 rfl ?_
    refine j_ldc hF (v := (-1000000001)) kc_X9_70 dX9_wet_21 ?_
    obtain ⟨x5, σ6, e4, h⟩ := bzBpE h
    refine cs_X9_71 hF ho (fun l => mt_X9_fails l e4) (by decide) (Nat.le_of_ble_eq_true rfl) dX9_wet_23 ?_
    exact j_iret hF hG dX9_wet_26  (bzRet h).1 (bzRet h).2
  · replace h := bzIfF h c3
    refine j_iload_n hF 2 dX9_wet_10 rfl ?_
    refine j_iconst hF (v := 1) dX9_wet_11 (by decide) ?_
    refine j_bipush hF (v := 99) dX9_wet_12 (by decide) ?_
    obtain ⟨x8, e7, h⟩ := bzBdE h
    refine cs_X9_66 hF (fun l => mt_X9_within l e7) (by decide) (Nat.le_of_ble_eq_true rfl) dX9_wet_14 ?_
    refine j_if_ne hF (tgt := 27) dX9_wet_17 (by decide) (fun c9 => ?_) (fun c9 => ?_)
    · replace h := bzIfF h c9
      refine j_aload_n hF 0 dX9_wet_27 rfl ?_
      obtain ⟨σ11, e10, h⟩ := bzBdE h
      refine cs_X9_208 hF ho (fun l => mt_X9_thinkAfresh l e10) (by decide) (Nat.le_of_ble_eq_true rfl) dX9_wet_28 ?_
      refine j_iconst hF (v := 0) dX9_wet_31 (by decide) ?_
      refine j_istore_n hF (lv1 := [(3, .int 0), (0, .ref (ga g o)), (1, .int a1), (2, .int a2)]) dX9_wet_32 (by decide) rfl ?_
      refine j_iconst hF (v := 0) dX9_wet_33 (by decide) ?_
      refine j_istore hF (lv1 := [(4, .int 0), (3, .int 0), (0, .ref (ga g o)), (1, .int a1), (2, .int a2)]) dX9_wet_34 (by decide) rfl ?_
      refine j_sub [2, 3, 4, 1, 0] rfl ?_
      exact L36 2000 0 0 σ11 h
    · replace h := bzIfT h c9
      refine j_aload_n hF 0 dX9_wet_20 rfl ?_
      refine j_ldc hF (v := (-1000000001)) kc_X9_70 dX9_wet_21 ?_
      obtain ⟨x21, σ22, e20, h⟩ := bzBpE h
      refine cs_X9_71 hF ho (fun l => mt_X9_fails l e20) (by decide) (Nat.le_of_ble_eq_true rfl) dX9_wet_23 ?_
      exact j_iret hF hG dX9_wet_26  (bzRet h).1 (bzRet h).2
def fb_X9_loudFor_47 (K47 : Int32 → bzS → Option (Int32 × bzS)) (o : Nat) (a1 : Int32) (a2 : Int32) (a3 : Int32) (v4 : Int32) (σ1 : bzS) : Option (Int32 × bzS) :=
  if 9 < v4 then (bzBp (f_X9_fails o ((-1000000002)) σ1) (fun x18 σ19 => some (x18, σ19))) else (bzBd (f_X9_thinkAfresh o σ1) (fun σ21 => bzGd (bzIn a1 8) (bzLet (bzSt σ21 (ly (ly (ly o 3) 2) 2) a1.toNatClampNeg v4) (fun σ23 => bzBp (f_X0_pass ((ly o 3)) a2 σ23) (fun x25 σ26 => if a3 < x25 then (bzLet (v4 + 1) (fun x28 => K47 x28 σ26)) else (some (v4, σ26)))))))
def fl_X9_loudFor_47 (o : Nat) (a1 : Int32) (a2 : Int32) (a3 : Int32) : Nat → Int32 → bzS → Option (Int32 × bzS)
  | 0, _, _ => none
  | n + 1, v4, σ1 => fb_X9_loudFor_47   (fl_X9_loudFor_47   o a1 a2 a3 n) o a1 a2 a3 v4 σ1
def f_X9_loudFor (o : Nat) (a1 : Int32) (a2 : Int32) (a3 : Int32) (σ : bzS) : Option (Int32 × bzS) :=
  bzGd (kd o = 9) (bzBd (f_X7_has ((ly (ly (ly o 0) 0) 2)) a1 σ) (fun x2 => if x2 = 0 then (bzBp (f_X9_fails o ((-1000000001)) σ) (fun x5 σ6 => some (x5, σ6))) else (bzBd (f_X9_within a2 0 60) (fun x8 => if x8 = 0 then (bzBp (f_X9_fails o ((-1000000001)) σ) (fun x11 σ12 => some (x11, σ12))) else (bzBd (f_X9_within a3 0 99) (fun x14 => if x14 = 0 then (bzBp (f_X9_fails o ((-1000000001)) σ) (fun x30 σ31 => some (x30, σ31))) else (fl_X9_loudFor_47 o a1 a2 a3 2000 0 σ)))))))
set_option maxHeartbeats 4000000 in
set_option maxRecDepth 20000 in
theorem mt_X9_loudFor {g : bzGeo} {o : Nat} {a1 : Int32} {a2 : Int32} {a3 : Int32} {σ : bzS} {r0 : Int32} {σ0 : bzS} (l : Launch) (h : f_X9_loudFor  o a1 a2 a3 σ = some (r0, σ0)) : Met l yX9_loudFor (Cond.code yX9_loudFor cX9_loudFor 5 (some .int) :: GW) (bzR (7)) (va_Pc [.ref (ga g o), .int a1, .int a2, .int a3] (bzP g σ)) (va_Qi (fun (r : Int32) (u : bzS) => r = r0 ∧ u = σ0) (bzB g) (gA g)) 0 0 (gA g) := by
  unfold f_X9_loudFor at h
  obtain ⟨ho, h⟩ := bzGdE h
  refine j_start l (by decide +kernel) [.ref (ga g o), .int a1, .int a2, .int a3] [(0, .ref (ga g o)), (1, .int a1), (2, .int a2), (3, .int a3)] (Nat.le_of_ble_eq_true rfl) rfl (fun x hF hG => ?_)
  have J47 : (K47 : Int32 → bzS → Option (Int32 × bzS)) → (hK47 : ∀ (v4 : Int32) (σ1 : bzS), K47 v4 σ1 = some (r0, σ0) → bzJ g 5 x σ1 47 [(0, .ref (ga g o)), (1, .int a1), (2, .int a2), (3, .int a3), (4, .int v4)] []) → ∀ (v4 : Int32) (σ1 : bzS), fb_X9_loudFor_47 K47 o a1 a2 a3 v4 σ1 = some (r0, σ0) → bzJ g 5 x σ1 47 [(0, .ref (ga g o)), (1, .int a1), (2, .int a2), (3, .int a3), (4, .int v4)] [] := by
    intro K47 hK47 v4 σ1 h
    unfold fb_X9_loudFor_47 at h
    refine j_iload hF 4 dX9_loudFor_47 rfl ?_
    refine j_bipush hF (v := 9) dX9_loudFor_49 (by decide) ?_
    refine j_icmp_gt hF (tgt := 93) dX9_loudFor_51 (by decide) (fun c16 => ?_) (fun c16 => ?_)
    · replace h := bzIfT h c16
      refine j_aload_n hF 0 dX9_loudFor_93 rfl ?_
      refine j_ldc hF (v := (-1000000002)) kc_X9_214 dX9_loudFor_94 ?_
      obtain ⟨x18, σ19, e17, h⟩ := bzBpE h
      refine cs_X9_71 hF ho (fun l => mt_X9_fails l e17) (by decide) (Nat.le_of_ble_eq_true rfl) dX9_loudFor_96 ?_
      exact j_iret hF hG dX9_loudFor_99 (bzRet h).1 (bzRet h).2
    · replace h := bzIfF h c16
      refine j_aload_n hF 0 dX9_loudFor_54 rfl ?_
      obtain ⟨σ21, e20, h⟩ := bzBdE h
      refine cs_X9_208 hF ho (fun l => mt_X9_thinkAfresh l e20) (by decide) (Nat.le_of_ble_eq_true rfl) dX9_loudFor_55 ?_
      refine j_aload_n hF 0 dX9_loudFor_58 rfl ?_
      refine gf_X9_26 hF ho dX9_loudFor_59 ?_
      refine gf_X9_111 hF (kl_9_3 ho) dX9_loudFor_62 ?_
      refine gf_X9_132 hF (kl_0_2 (kl_9_3 ho)) dX9_loudFor_65 ?_
      refine j_iload_n hF 1 dX9_loudFor_68 rfl ?_
      refine j_iload hF 4 dX9_loudFor_69 rfl ?_
      obtain ⟨g22, h⟩ := bzGdE h
      refine j_iast hF (c := a1.toNatClampNeg) (kl_7_2 (kl_0_2 (kl_9_3 ho))) (nl_7_2 (kl_0_2 (kl_9_3 ho))) g22 rfl dX9_loudFor_71 ?_
      refine j_s (fun σ23 eσ23 => ?_)
      replace h := bzLetE h eσ23
      refine j_aload_n hF 0 dX9_loudFor_72 rfl ?_
      refine gf_X9_26 hF ho dX9_loudFor_73 ?_
      refine j_iload_n hF 2 dX9_loudFor_76 rfl ?_
      obtain ⟨x25, σ26, e24, h⟩ := bzBpE h
      refine cs_X9_199 hF (kl_9_3 ho) (fun l => mt_X0_pass l e24) (by decide) (Nat.le_of_ble_eq_true rfl) dX9_loudFor_77 ?_
      refine j_iload_n hF 3 dX9_loudFor_80 rfl ?_
      refine j_icmp_gt hF (tgt := 87) dX9_loudFor_81 (by decide) (fun c27 => ?_) (fun c27 => ?_)
      · replace h := bzIfT h c27
        obtain ⟨x28, ex28⟩ : ∃ y : Int32, y = v4 + 1 := ⟨_, rfl⟩
        replace h := bzLetE h ex28
        refine j_iinc hF (v := x28) (lv1 := [(4, .int x28), (0, .ref (ga g o)), (1, .int a1), (2, .int a2), (3, .int a3)]) 4 dX9_loudFor_87 rfl (by rw [ex28]; rfl) (by decide) rfl ?_
        refine j_goto hF (tgt := 47) dX9_loudFor_90 (by decide) ?_
        refine j_sub [1, 2, 3, 4, 0] rfl ?_
        exact hK47 x28 σ26 h
      · replace h := bzIfF h c27
        refine j_iload hF 4 dX9_loudFor_84 rfl ?_
        exact j_iret hF hG dX9_loudFor_86 (bzRet h).1 (bzRet h).2
  have L47 : ∀ (n : Nat) (v4 : Int32) (σ1 : bzS), fl_X9_loudFor_47   o a1 a2 a3 n v4 σ1 = some (r0, σ0) → bzJ g 5 x σ1 47 [(0, .ref (ga g o)), (1, .int a1), (2, .int a2), (3, .int a3), (4, .int v4)] [] := by
    intro  n
    induction n with
    | zero =>
      intro v4 σ1  h
      cases h
    | succ n ih =>
      intro v4 σ1  h
      exact J47  (fl_X9_loudFor_47   o a1 a2 a3 n) ih v4 σ1  h
  refine j_aload_n hF 0 dX9_loudFor_0 rfl ?_
  refine gf_X9_12 hF ho dX9_loudFor_1 ?_
  refine gf_X9_55 hF (kl_9_0 ho) dX9_loudFor_4 ?_
  refine gf_X9_111 hF (kl_6_0 (kl_9_0 ho)) dX9_loudFor_7 ?_
  refine j_iload_n hF 1 dX9_loudFor_10 rfl ?_
  obtain ⟨x2, e1, h⟩ := bzBdE h
  refine cs_X9_122 hF (kl_0_2 (kl_6_0 (kl_9_0 ho))) (fun l => mt_X7_has l e1) (by decide) (Nat.le_of_ble_eq_true rfl) dX9_loudFor_11 ?_
  refine j_if_eq hF (tgt := 37) dX9_loudFor_14 (by decide) (fun c3 => ?_) (fun c3 => ?_)
  · replace h := bzIfT h c3
    refine j_aload_n hF 0 dX9_loudFor_37 rfl ?_
    refine j_ldc hF (v := (-1000000001)) kc_X9_70 dX9_loudFor_38 ?_
    obtain ⟨x5, σ6, e4, h⟩ := bzBpE h
    refine cs_X9_71 hF ho (fun l => mt_X9_fails l e4) (by decide) (Nat.le_of_ble_eq_true rfl) dX9_loudFor_40 ?_
    exact j_iret hF hG dX9_loudFor_43  (bzRet h).1 (bzRet h).2
  · replace h := bzIfF h c3
    refine j_iload_n hF 2 dX9_loudFor_17 rfl ?_
    refine j_iconst hF (v := 0) dX9_loudFor_18 (by decide) ?_
    refine j_bipush hF (v := 60) dX9_loudFor_19 (by decide) ?_
    obtain ⟨x8, e7, h⟩ := bzBdE h
    refine cs_X9_66 hF (fun l => mt_X9_within l e7) (by decide) (Nat.le_of_ble_eq_true rfl) dX9_loudFor_21 ?_
    refine j_if_eq hF (tgt := 37) dX9_loudFor_24 (by decide) (fun c9 => ?_) (fun c9 => ?_)
    · replace h := bzIfT h c9
      refine j_aload_n hF 0 dX9_loudFor_37 rfl ?_
      refine j_ldc hF (v := (-1000000001)) kc_X9_70 dX9_loudFor_38 ?_
      obtain ⟨x11, σ12, e10, h⟩ := bzBpE h
      refine cs_X9_71 hF ho (fun l => mt_X9_fails l e10) (by decide) (Nat.le_of_ble_eq_true rfl) dX9_loudFor_40 ?_
      exact j_iret hF hG dX9_loudFor_43  (bzRet h).1 (bzRet h).2
    · replace h := bzIfF h c9
      refine j_iload_n hF 3 dX9_loudFor_27 rfl ?_
      refine j_iconst hF (v := 0) dX9_loudFor_28 (by decide) ?_
      refine j_bipush hF (v := 99) dX9_loudFor_29 (by decide) ?_
      obtain ⟨x14, e13, h⟩ := bzBdE h
      refine cs_X9_66 hF (fun l => mt_X9_within l e13) (by decide) (Nat.le_of_ble_eq_true rfl) dX9_loudFor_31 ?_
      refine j_if_ne hF (tgt := 44) dX9_loudFor_34 (by decide) (fun c15 => ?_) (fun c15 => ?_)
      · replace h := bzIfF h c15
        refine j_iconst hF (v := 0) dX9_loudFor_44 (by decide) ?_
        refine j_istore hF (lv1 := [(4, .int 0), (0, .ref (ga g o)), (1, .int a1), (2, .int a2), (3, .int a3)]) dX9_loudFor_45 (by decide) rfl ?_
        refine j_sub [1, 2, 3, 4, 0] rfl ?_
        exact L47 2000 0 σ h
      · replace h := bzIfT h c15
        refine j_aload_n hF 0 dX9_loudFor_37 rfl ?_
        refine j_ldc hF (v := (-1000000001)) kc_X9_70 dX9_loudFor_38 ?_
        obtain ⟨x30, σ31, e29, h⟩ := bzBpE h
        refine cs_X9_71 hF ho (fun l => mt_X9_fails l e29) (by decide) (Nat.le_of_ble_eq_true rfl) dX9_loudFor_40 ?_
        exact j_iret hF hG dX9_loudFor_43  (bzRet h).1 (bzRet h).2
