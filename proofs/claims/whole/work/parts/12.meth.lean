set_option linter.unusedVariables false
def fb_X9_everyFor_43 (K43 : Int32 → Int32 → Int32 → bzS → Option (Int32 × bzS)) (o : Nat) (a1 : Int32) (a2 : Int32) (v3 : Int32) (v4 : Int32) (v5 : Int32) (σ1 : bzS) : Option (Int32 × bzS) :=
  if 12 < v5 then (some (v3, σ1)) else (bzBd (f_X9_thinkAfresh o σ1) (fun σ12 => bzGd (bzIn a1 8) (bzLet (bzSt σ12 (ly (ly (ly o 3) 2) 3) a1.toNatClampNeg v5) (fun σ14 => bzBp (f_X0_pass ((ly o 3)) a2 σ14) (fun x16 σ17 => if v4 ≤ x16 then (bzLet (v5 + 1) (fun x19 => K43 v3 v4 x19 σ17)) else (bzLet (v5 + 1) (fun x20 => K43 v5 x16 x20 σ17)))))))
def fl_X9_everyFor_43 (o : Nat) (a1 : Int32) (a2 : Int32) : Nat → Int32 → Int32 → Int32 → bzS → Option (Int32 × bzS)
  | 0, _, _, _, _ => none
  | n + 1, v3, v4, v5, σ1 => fb_X9_everyFor_43   (fl_X9_everyFor_43   o a1 a2 n) o a1 a2 v3 v4 v5 σ1
def f_X9_everyFor (o : Nat) (a1 : Int32) (a2 : Int32) (σ : bzS) : Option (Int32 × bzS) :=
  bzGd (kd o = 9) (bzBd (f_X7_has ((ly (ly (ly o 0) 0) 2)) a1 σ) (fun x2 => if x2 = 0 then (bzBp (f_X9_fails o ((-1000000001)) σ) (fun x5 σ6 => some (x5, σ6))) else (bzBd (f_X9_within a2 0 60) (fun x8 => if x8 = 0 then (bzBp (f_X9_fails o ((-1000000001)) σ) (fun x22 σ23 => some (x22, σ23))) else (fl_X9_everyFor_43 o a1 a2 2000 1 100 1 σ)))))
set_option maxHeartbeats 4000000 in
set_option maxRecDepth 20000 in
theorem mt_X9_everyFor {g : bzGeo} {o : Nat} {a1 : Int32} {a2 : Int32} {σ : bzS} {r0 : Int32} {σ0 : bzS} (l : Launch) (h : f_X9_everyFor  o a1 a2 σ = some (r0, σ0)) : Met l yX9_everyFor (Cond.code yX9_everyFor cX9_everyFor 7 (some .int) :: GW) (bzR (7)) (va_Pc [.ref (ga g o), .int a1, .int a2] (bzP g σ)) (va_Qi (fun (r : Int32) (u : bzS) => r = r0 ∧ u = σ0) (bzB g) (gA g)) 0 0 (gA g) := by
  unfold f_X9_everyFor at h
  obtain ⟨ho, h⟩ := bzGdE h
  refine j_start l (by decide +kernel) [.ref (ga g o), .int a1, .int a2] [(0, .ref (ga g o)), (1, .int a1), (2, .int a2)] (Nat.le_of_ble_eq_true rfl) rfl (fun x hF hG => ?_)
  have J43 : (K43 : Int32 → Int32 → Int32 → bzS → Option (Int32 × bzS)) → (hK43 : ∀ (v3 : Int32) (v4 : Int32) (v5 : Int32) (σ1 : bzS), K43 v3 v4 v5 σ1 = some (r0, σ0) → bzJ g 7 x σ1 43 [(0, .ref (ga g o)), (1, .int a1), (2, .int a2), (3, .int v3), (4, .int v4), (5, .int v5)] []) → ∀ (v3 : Int32) (v4 : Int32) (v5 : Int32) (σ1 : bzS), fb_X9_everyFor_43 K43 o a1 a2 v3 v4 v5 σ1 = some (r0, σ0) → bzJ g 7 x σ1 43 [(0, .ref (ga g o)), (1, .int a1), (2, .int a2), (3, .int v3), (4, .int v4), (5, .int v5)] [] := by
    intro K43 hK43 v3 v4 v5 σ1 h
    unfold fb_X9_everyFor_43 at h
    refine j_iload hF 5 dX9_everyFor_43 rfl ?_
    refine j_bipush hF (v := 12) dX9_everyFor_45 (by decide) ?_
    refine j_icmp_gt hF (tgt := 98) dX9_everyFor_47 (by decide) (fun c10 => ?_) (fun c10 => ?_)
    · replace h := bzIfT h c10
      refine j_iload_n hF 3 dX9_everyFor_98 rfl ?_
      exact j_iret hF hG dX9_everyFor_99 (bzRet h).1 (bzRet h).2
    · replace h := bzIfF h c10
      refine j_aload_n hF 0 dX9_everyFor_50 rfl ?_
      obtain ⟨σ12, e11, h⟩ := bzBdE h
      refine cs_X9_208 hF ho (fun l => mt_X9_thinkAfresh l e11) (by decide) (Nat.le_of_ble_eq_true rfl) dX9_everyFor_51 ?_
      refine j_aload_n hF 0 dX9_everyFor_54 rfl ?_
      refine gf_X9_26 hF ho dX9_everyFor_55 ?_
      refine gf_X9_111 hF (kl_9_3 ho) dX9_everyFor_58 ?_
      refine gf_X9_135 hF (kl_0_2 (kl_9_3 ho)) dX9_everyFor_61 ?_
      refine j_iload_n hF 1 dX9_everyFor_64 rfl ?_
      refine j_iload hF 5 dX9_everyFor_65 rfl ?_
      obtain ⟨g13, h⟩ := bzGdE h
      refine j_iast hF (c := a1.toNatClampNeg) (kl_7_3 (kl_0_2 (kl_9_3 ho))) (nl_7_3 (kl_0_2 (kl_9_3 ho))) g13 rfl dX9_everyFor_67 ?_
      refine j_s (fun σ14 eσ14 => ?_)
      replace h := bzLetE h eσ14
      refine j_aload_n hF 0 dX9_everyFor_68 rfl ?_
      refine gf_X9_26 hF ho dX9_everyFor_69 ?_
      refine j_iload_n hF 2 dX9_everyFor_72 rfl ?_
      obtain ⟨x16, σ17, e15, h⟩ := bzBpE h
      refine cs_X9_199 hF (kl_9_3 ho) (fun l => mt_X0_pass l e15) (by decide) (Nat.le_of_ble_eq_true rfl) dX9_everyFor_73 ?_
      refine j_istore hF (lv1 := [(6, .int x16), (0, .ref (ga g o)), (1, .int a1), (2, .int a2), (3, .int v3), (4, .int v4), (5, .int v5)]) dX9_everyFor_76 (by decide) rfl ?_
      refine j_iload hF 0 dX9_everyFor_78 rfl ?_
      refine j_iload hF 5 dX9_everyFor_80 rfl ?_
      refine j_icmp_ge hF (tgt := 92) dX9_everyFor_82 (by decide) (fun c18 => ?_) (fun c18 => ?_)
      · replace h := bzIfT h c18
        obtain ⟨x19, ex19⟩ : ∃ y : Int32, y = v5 + 1 := ⟨_, rfl⟩
        replace h := bzLetE h ex19
        refine j_iinc hF (v := x19) (lv1 := [(5, .int x19), (6, .int x16), (0, .ref (ga g o)), (1, .int a1), (2, .int a2), (3, .int v3), (4, .int v4)]) 6 dX9_everyFor_92 rfl (by rw [ex19]; rfl) (by decide) rfl ?_
        refine j_goto hF (tgt := 43) dX9_everyFor_95 (by decide) ?_
        refine j_sub [2, 3, 4, 5, 6, 0] rfl ?_
        exact hK43 v3 v4 x19 σ17 h
      · replace h := bzIfF h c18
        refine j_iload hF 0 dX9_everyFor_85 rfl ?_
        refine j_istore hF (lv1 := [(4, .int x16), (6, .int x16), (0, .ref (ga g o)), (1, .int a1), (2, .int a2), (3, .int v3), (5, .int v5)]) dX9_everyFor_87 (by decide) rfl ?_
        refine j_iload hF 6 dX9_everyFor_89 rfl ?_
        refine j_istore_n hF (lv1 := [(3, .int v5), (4, .int x16), (6, .int x16), (0, .ref (ga g o)), (1, .int a1), (2, .int a2), (5, .int v5)]) dX9_everyFor_91 (by decide) rfl ?_
        obtain ⟨x20, ex20⟩ : ∃ y : Int32, y = v5 + 1 := ⟨_, rfl⟩
        replace h := bzLetE h ex20
        refine j_iinc hF (v := x20) (lv1 := [(5, .int x20), (3, .int v5), (4, .int x16), (6, .int x16), (0, .ref (ga g o)), (1, .int a1), (2, .int a2)]) 6 dX9_everyFor_92 rfl (by rw [ex20]; rfl) (by decide) rfl ?_
        refine j_goto hF (tgt := 43) dX9_everyFor_95 (by decide) ?_
        refine j_sub [4, 5, 6, 1, 2, 0] rfl ?_
        exact hK43 v5 x16 x20 σ17 h
  have L43 : ∀ (n : Nat) (v3 : Int32) (v4 : Int32) (v5 : Int32) (σ1 : bzS), fl_X9_everyFor_43   o a1 a2 n v3 v4 v5 σ1 = some (r0, σ0) → bzJ g 7 x σ1 43 [(0, .ref (ga g o)), (1, .int a1), (2, .int a2), (3, .int v3), (4, .int v4), (5, .int v5)] [] := by
    intro  n
    induction n with
    | zero =>
      intro v3 v4 v5 σ1  h
      cases h
    | succ n ih =>
      intro v3 v4 v5 σ1  h
      exact J43  (fl_X9_everyFor_43   o a1 a2 n) ih v3 v4 v5 σ1  h
  refine j_aload_n hF 0 dX9_everyFor_0 rfl ?_
  refine gf_X9_12 hF ho dX9_everyFor_1 ?_
  refine gf_X9_55 hF (kl_9_0 ho) dX9_everyFor_4 ?_
  refine gf_X9_111 hF (kl_6_0 (kl_9_0 ho)) dX9_everyFor_7 ?_
  refine j_iload_n hF 1 dX9_everyFor_10 rfl ?_
  obtain ⟨x2, e1, h⟩ := bzBdE h
  refine cs_X9_122 hF (kl_0_2 (kl_6_0 (kl_9_0 ho))) (fun l => mt_X7_has l e1) (by decide) (Nat.le_of_ble_eq_true rfl) dX9_everyFor_11 ?_
  refine j_if_eq hF (tgt := 27) dX9_everyFor_14 (by decide) (fun c3 => ?_) (fun c3 => ?_)
  · replace h := bzIfT h c3
    refine j_aload_n hF 0 dX9_everyFor_27 rfl ?_
    refine j_ldc hF (v := (-1000000001)) kc_X9_70 dX9_everyFor_28 ?_
    obtain ⟨x5, σ6, e4, h⟩ := bzBpE h
    refine cs_X9_71 hF ho (fun l => mt_X9_fails l e4) (by decide) (Nat.le_of_ble_eq_true rfl) dX9_everyFor_30 ?_
    exact j_iret hF hG dX9_everyFor_33  (bzRet h).1 (bzRet h).2
  · replace h := bzIfF h c3
    refine j_iload_n hF 2 dX9_everyFor_17 rfl ?_
    refine j_iconst hF (v := 0) dX9_everyFor_18 (by decide) ?_
    refine j_bipush hF (v := 60) dX9_everyFor_19 (by decide) ?_
    obtain ⟨x8, e7, h⟩ := bzBdE h
    refine cs_X9_66 hF (fun l => mt_X9_within l e7) (by decide) (Nat.le_of_ble_eq_true rfl) dX9_everyFor_21 ?_
    refine j_if_ne hF (tgt := 34) dX9_everyFor_24 (by decide) (fun c9 => ?_) (fun c9 => ?_)
    · replace h := bzIfF h c9
      refine j_iconst hF (v := 1) dX9_everyFor_34 (by decide) ?_
      refine j_istore_n hF (lv1 := [(3, .int 1), (0, .ref (ga g o)), (1, .int a1), (2, .int a2)]) dX9_everyFor_35 (by decide) rfl ?_
      refine j_bipush hF (v := 100) dX9_everyFor_36 (by decide) ?_
      refine j_istore hF (lv1 := [(4, .int 100), (3, .int 1), (0, .ref (ga g o)), (1, .int a1), (2, .int a2)]) dX9_everyFor_38 (by decide) rfl ?_
      refine j_iconst hF (v := 1) dX9_everyFor_40 (by decide) ?_
      refine j_istore hF (lv1 := [(5, .int 1), (4, .int 100), (3, .int 1), (0, .ref (ga g o)), (1, .int a1), (2, .int a2)]) dX9_everyFor_41 (by decide) rfl ?_
      refine j_sub [3, 4, 5, 2, 1, 0] rfl ?_
      exact L43 2000 1 100 1 σ h
    · replace h := bzIfT h c9
      refine j_aload_n hF 0 dX9_everyFor_27 rfl ?_
      refine j_ldc hF (v := (-1000000001)) kc_X9_70 dX9_everyFor_28 ?_
      obtain ⟨x22, σ23, e21, h⟩ := bzBpE h
      refine cs_X9_71 hF ho (fun l => mt_X9_fails l e21) (by decide) (Nat.le_of_ble_eq_true rfl) dX9_everyFor_30 ?_
      exact j_iret hF hG dX9_everyFor_33  (bzRet h).1 (bzRet h).2
def fb_X9_needless_35 (K35 : Int32 → Int32 → Int32 → bzS → Option (Int32 × bzS)) (o : Nat) (a1 : Int32) (v2 : Int32) (v3 : Int32) (v4 : Int32) (σ1 : bzS) : Option (Int32 × bzS) :=
  if (σ1 (ly (ly (ly o 0) 0) 2) 4) ≤ v4 then (some (v3, σ1)) else (bzBd (f_X9_thinkAfresh o σ1) (fun σ11 => bzLet (bzSt σ11 (ly (ly o 3) 2) 5 v4) (fun σ12 => bzBp (f_X0_pass ((ly o 3)) a1 σ12) (fun x14 σ15 => if v2 < x14 then (bzLet (v4 + 1) (fun x17 => K35 v2 v3 x17 σ15)) else (bzLet ((v3 ||| (1 <<< (v4 &&& 31)))) (fun x18 => bzLet (v4 + 1) (fun x19 => K35 v2 x18 x19 σ15)))))))
def fl_X9_needless_35 (o : Nat) (a1 : Int32) : Nat → Int32 → Int32 → Int32 → bzS → Option (Int32 × bzS)
  | 0, _, _, _, _ => none
  | n + 1, v2, v3, v4, σ1 => fb_X9_needless_35   (fl_X9_needless_35   o a1 n) o a1 v2 v3 v4 σ1
def f_X9_needless (o : Nat) (a1 : Int32) (σ : bzS) : Option (Int32 × bzS) :=
  bzGd (kd o = 9) (bzBd (f_X9_within a1 0 60) (fun x2 => if x2 = 0 then (bzBp (f_X9_fails o ((-1000000001)) σ) (fun x21 σ22 => some (x21, σ22))) else (bzBd (f_X9_thinkAfresh o σ) (fun σ5 => bzBp (f_X0_pass ((ly o 3)) a1 σ5) (fun x7 σ8 => fl_X9_needless_35 o a1 2000 x7 0 0 σ8)))))
set_option maxHeartbeats 4000000 in
set_option maxRecDepth 20000 in
theorem mt_X9_needless {g : bzGeo} {o : Nat} {a1 : Int32} {σ : bzS} {r0 : Int32} {σ0 : bzS} (l : Launch) (h : f_X9_needless  o a1 σ = some (r0, σ0)) : Met l yX9_needless (Cond.code yX9_needless cX9_needless 5 (some .int) :: GW) (bzR (7)) (va_Pc [.ref (ga g o), .int a1] (bzP g σ)) (va_Qi (fun (r : Int32) (u : bzS) => r = r0 ∧ u = σ0) (bzB g) (gA g)) 0 0 (gA g) := by
  unfold f_X9_needless at h
  obtain ⟨ho, h⟩ := bzGdE h
  refine j_start l (by decide +kernel) [.ref (ga g o), .int a1] [(0, .ref (ga g o)), (1, .int a1)] (Nat.le_of_ble_eq_true rfl) rfl (fun x hF hG => ?_)
  have J35 : (K35 : Int32 → Int32 → Int32 → bzS → Option (Int32 × bzS)) → (hK35 : ∀ (v2 : Int32) (v3 : Int32) (v4 : Int32) (σ1 : bzS), K35 v2 v3 v4 σ1 = some (r0, σ0) → bzJ g 5 x σ1 35 [(0, .ref (ga g o)), (1, .int a1), (2, .int v2), (3, .int v3), (4, .int v4)] []) → ∀ (v2 : Int32) (v3 : Int32) (v4 : Int32) (σ1 : bzS), fb_X9_needless_35 K35 o a1 v2 v3 v4 σ1 = some (r0, σ0) → bzJ g 5 x σ1 35 [(0, .ref (ga g o)), (1, .int a1), (2, .int v2), (3, .int v3), (4, .int v4)] [] := by
    intro K35 hK35 v2 v3 v4 σ1 h
    unfold fb_X9_needless_35 at h
    refine j_iload hF 4 dX9_needless_35 rfl ?_
    refine j_aload_n hF 0 dX9_needless_37 rfl ?_
    refine gf_X9_12 hF ho dX9_needless_38 ?_
    refine gf_X9_55 hF (kl_9_0 ho) dX9_needless_41 ?_
    refine gf_X9_111 hF (kl_6_0 (kl_9_0 ho)) dX9_needless_44 ?_
    refine gf_X9_215 hF (kl_0_2 (kl_6_0 (kl_9_0 ho))) dX9_needless_47 ?_
    refine j_icmp_ge hF (tgt := 94) dX9_needless_50 (by decide) (fun c9 => ?_) (fun c9 => ?_)
    · replace h := bzIfT h c9
      refine j_iload_n hF 3 dX9_needless_94 rfl ?_
      exact j_iret hF hG dX9_needless_95 (bzRet h).1 (bzRet h).2
    · replace h := bzIfF h c9
      refine j_aload_n hF 0 dX9_needless_53 rfl ?_
      obtain ⟨σ11, e10, h⟩ := bzBdE h
      refine cs_X9_208 hF ho (fun l => mt_X9_thinkAfresh l e10) (by decide) (Nat.le_of_ble_eq_true rfl) dX9_needless_54 ?_
      refine j_aload_n hF 0 dX9_needless_57 rfl ?_
      refine gf_X9_26 hF ho dX9_needless_58 ?_
      refine gf_X9_111 hF (kl_9_3 ho) dX9_needless_61 ?_
      refine j_iload hF 4 dX9_needless_64 rfl ?_
      refine pf_X9_216 hF (kl_0_2 (kl_9_3 ho)) dX9_needless_66 ?_
      refine j_s (fun σ12 eσ12 => ?_)
      replace h := bzLetE h eσ12
      refine j_aload_n hF 0 dX9_needless_69 rfl ?_
      refine gf_X9_26 hF ho dX9_needless_70 ?_
      refine j_iload_n hF 1 dX9_needless_73 rfl ?_
      obtain ⟨x14, σ15, e13, h⟩ := bzBpE h
      refine cs_X9_199 hF (kl_9_3 ho) (fun l => mt_X0_pass l e13) (by decide) (Nat.le_of_ble_eq_true rfl) dX9_needless_74 ?_
      refine j_iload_n hF 2 dX9_needless_77 rfl ?_
      refine j_icmp_gt hF (tgt := 88) dX9_needless_78 (by decide) (fun c16 => ?_) (fun c16 => ?_)
      · replace h := bzIfT h c16
        obtain ⟨x17, ex17⟩ : ∃ y : Int32, y = v4 + 1 := ⟨_, rfl⟩
        replace h := bzLetE h ex17
        refine j_iinc hF (v := x17) (lv1 := [(4, .int x17), (0, .ref (ga g o)), (1, .int a1), (2, .int v2), (3, .int v3)]) 4 dX9_needless_88 rfl (by rw [ex17]; rfl) (by decide) rfl ?_
        refine j_goto hF (tgt := 35) dX9_needless_91 (by decide) ?_
        refine j_sub [1, 2, 3, 4, 0] rfl ?_
        exact hK35 v2 v3 x17 σ15 h
      · replace h := bzIfF h c16
        refine j_iload_n hF 3 dX9_needless_81 rfl ?_
        refine j_iconst hF (v := 1) dX9_needless_82 (by decide) ?_
        refine j_iload hF 4 dX9_needless_83 rfl ?_
        refine j_ishl hF dX9_needless_85 ?_
        refine j_ior hF dX9_needless_86 ?_
        refine j_topi (fun x18 ex18 => ?_)
        replace h := bzLetE h ex18
        refine j_istore_n hF (lv1 := [(3, .int x18), (0, .ref (ga g o)), (1, .int a1), (2, .int v2), (4, .int v4)]) dX9_needless_87 (by decide) rfl ?_
        obtain ⟨x19, ex19⟩ : ∃ y : Int32, y = v4 + 1 := ⟨_, rfl⟩
        replace h := bzLetE h ex19
        refine j_iinc hF (v := x19) (lv1 := [(4, .int x19), (3, .int x18), (0, .ref (ga g o)), (1, .int a1), (2, .int v2)]) 4 dX9_needless_88 rfl (by rw [ex19]; rfl) (by decide) rfl ?_
        refine j_goto hF (tgt := 35) dX9_needless_91 (by decide) ?_
        refine j_sub [2, 3, 4, 1, 0] rfl ?_
        exact hK35 v2 x18 x19 σ15 h
  have L35 : ∀ (n : Nat) (v2 : Int32) (v3 : Int32) (v4 : Int32) (σ1 : bzS), fl_X9_needless_35   o a1 n v2 v3 v4 σ1 = some (r0, σ0) → bzJ g 5 x σ1 35 [(0, .ref (ga g o)), (1, .int a1), (2, .int v2), (3, .int v3), (4, .int v4)] [] := by
    intro  n
    induction n with
    | zero =>
      intro v2 v3 v4 σ1  h
      cases h
    | succ n ih =>
      intro v2 v3 v4 σ1  h
      exact J35  (fl_X9_needless_35   o a1 n) ih v2 v3 v4 σ1  h
  refine j_iload_n hF 1 dX9_needless_0 rfl ?_
  refine j_iconst hF (v := 0) dX9_needless_1 (by decide) ?_
  refine j_bipush hF (v := 60) dX9_needless_2 (by decide) ?_
  obtain ⟨x2, e1, h⟩ := bzBdE h
  refine cs_X9_66 hF (fun l => mt_X9_within l e1) (by decide) (Nat.le_of_ble_eq_true rfl) dX9_needless_4 ?_
  refine j_if_ne hF (tgt := 17) dX9_needless_7 (by decide) (fun c3 => ?_) (fun c3 => ?_)
  · replace h := bzIfF h c3
    refine j_aload_n hF 0 dX9_needless_17 rfl ?_
    obtain ⟨σ5, e4, h⟩ := bzBdE h
    refine cs_X9_208 hF ho (fun l => mt_X9_thinkAfresh l e4) (by decide) (Nat.le_of_ble_eq_true rfl) dX9_needless_18 ?_
    refine j_aload_n hF 0 dX9_needless_21 rfl ?_
    refine gf_X9_26 hF ho dX9_needless_22 ?_
    refine j_iload_n hF 1 dX9_needless_25 rfl ?_
    obtain ⟨x7, σ8, e6, h⟩ := bzBpE h
    refine cs_X9_199 hF (kl_9_3 ho) (fun l => mt_X0_pass l e6) (by decide) (Nat.le_of_ble_eq_true rfl) dX9_needless_26 ?_
    refine j_istore_n hF (lv1 := [(2, .int x7), (0, .ref (ga g o)), (1, .int a1)]) dX9_needless_29 (by decide) rfl ?_
    refine j_iconst hF (v := 0) dX9_needless_30 (by decide) ?_
    refine j_istore_n hF (lv1 := [(3, .int 0), (2, .int x7), (0, .ref (ga g o)), (1, .int a1)]) dX9_needless_31 (by decide) rfl ?_
    refine j_iconst hF (v := 0) dX9_needless_32 (by decide) ?_
    refine j_istore hF (lv1 := [(4, .int 0), (3, .int 0), (2, .int x7), (0, .ref (ga g o)), (1, .int a1)]) dX9_needless_33 (by decide) rfl ?_
    refine j_sub [3, 4, 2, 1, 0] rfl ?_
    exact L35 2000 x7 0 0 σ8 h
  · replace h := bzIfT h c3
    refine j_aload_n hF 0 dX9_needless_10 rfl ?_
    refine j_ldc hF (v := (-1000000001)) kc_X9_70 dX9_needless_11 ?_
    obtain ⟨x21, σ22, e20, h⟩ := bzBpE h
    refine cs_X9_71 hF ho (fun l => mt_X9_fails l e20) (by decide) (Nat.le_of_ble_eq_true rfl) dX9_needless_13 ?_
    exact j_iret hF hG dX9_needless_16  (bzRet h).1 (bzRet h).2
def f_X9_sheetOf (o : Nat) (a1 : Int32) (σ : bzS) : Option (Option Nat) :=
  bzGd (kd o = 9) (if a1 < 0 then (some none) else (if 4 ≤ a1 then (some none) else (bzGd (bzIn a1 4) (some (some (ly (ly o 4) a1.toNatClampNeg))))))
set_option maxHeartbeats 4000000 in
set_option maxRecDepth 20000 in
theorem mt_X9_sheetOf {g : bzGeo} {o : Nat} {a1 : Int32} {σ : bzS} {r0 : Option Nat} (l : Launch) (h : f_X9_sheetOf  o a1 σ = some r0) : Met l yX9_sheetOf (Cond.code yX9_sheetOf cX9_sheetOf 2 (some (.object "BronzeDown$Sheet")) :: GW) (bzR (1)) (va_Pc [.ref (ga g o), .int a1] (bzP g σ)) (va_Qq (fun (r : Option Nat) (u : bzS) => r = r0.map (ga g) ∧ u = σ) (bzB g) (gA g)) 0 0 (gA g) := by
  unfold f_X9_sheetOf at h
  obtain ⟨ho, h⟩ := bzGdE h
  refine j_start l (by decide +kernel) [.ref (ga g o), .int a1] [(0, .ref (ga g o)), (1, .int a1)] (Nat.le_of_ble_eq_true rfl) rfl (fun x hF hG => ?_)
  refine j_iload_n hF 1 dX9_sheetOf_0 rfl ?_
  refine j_if_lt hF (tgt := 22) dX9_sheetOf_1 (by decide) (fun c1 => ?_) (fun c1 => ?_)
  · replace h := bzIfT h c1
    refine j_aconst_null hF dX9_sheetOf_22 ?_
    exact j_aretN hF hG (Or.inl ⟨_, rfl⟩) dX9_sheetOf_23 (Option.some.inj h) rfl
  · replace h := bzIfF h c1
    refine j_iload_n hF 1 dX9_sheetOf_4 rfl ?_
    refine j_aload_n hF 0 dX9_sheetOf_5 rfl ?_
    refine gf_X9_32 hF ho dX9_sheetOf_6 ?_
    refine j_alen hF (Or.inr (Or.inl (kl_9_4 ho))) (ln_q (kl_9_4 ho)) (v := 4) (by decide) dX9_sheetOf_9 ?_
    refine j_icmp_ge hF (tgt := 22) dX9_sheetOf_10 (by decide) (fun c2 => ?_) (fun c2 => ?_)
    · replace h := bzIfT h c2
      refine j_aconst_null hF dX9_sheetOf_22 ?_
      exact j_aretN hF hG (Or.inl ⟨_, rfl⟩) dX9_sheetOf_23 (Option.some.inj h) rfl
    · replace h := bzIfF h c2
      refine j_aload_n hF 0 dX9_sheetOf_13 rfl ?_
      refine gf_X9_32 hF ho dX9_sheetOf_14 ?_
      refine j_iload_n hF 1 dX9_sheetOf_17 rfl ?_
      obtain ⟨g3, h⟩ := bzGdE h
      refine j_aald hF (c := a1.toNatClampNeg) (kl_9_4 ho) (ln_q (kl_9_4 ho)) g3 rfl dX9_sheetOf_18 ?_
      refine j_goto hF (tgt := 23) dX9_sheetOf_19 (by decide) ?_
      exact j_aret hF hG (Or.inl ⟨_, rfl⟩) dX9_sheetOf_23 (Option.some.inj h) rfl
def f_X5_isMissing (o : Nat) (σ : bzS) : Option Int32 :=
  bzGd (kd o = 5) (if (σ o 1) = 0 then (some 1) else (some 0))
set_option maxHeartbeats 4000000 in
set_option maxRecDepth 20000 in
theorem mt_X5_isMissing {g : bzGeo} {o : Nat} {σ : bzS} {r0 : Int32} (l : Launch) (h : f_X5_isMissing  o σ = some r0) : Met l yX5_isMissing (Cond.code yX5_isMissing cX5_isMissing 1 (some .boolean) :: GW) (bzR (1)) (va_Pc [.ref (ga g o)] (bzP g σ)) (va_Qi (fun (r : Int32) (u : bzS) => r = r0 ∧ u = σ) (bzB g) (gA g)) 0 0 (gA g) := by
  unfold f_X5_isMissing at h
  obtain ⟨ho, h⟩ := bzGdE h
  refine j_start l (by decide +kernel) [.ref (ga g o)] [(0, .ref (ga g o))] (Nat.le_of_ble_eq_true rfl) rfl (fun x hF hG => ?_)
  refine j_aload_n hF 0 dX5_isMissing_0 rfl ?_
  refine gf_X5_20 hF ho dX5_isMissing_1 ?_
  refine j_if_ne hF (tgt := 11) dX5_isMissing_4 (by decide) (fun c1 => ?_) (fun c1 => ?_)
  · replace h := bzIfF h c1
    refine j_iconst hF (v := 0) dX5_isMissing_11 (by decide) ?_
    exact j_zret hF hG dX5_isMissing_12 (by decide)  (Option.some.inj h) rfl
  · replace h := bzIfT h c1
    refine j_iconst hF (v := 1) dX5_isMissing_7 (by decide) ?_
    refine j_goto hF (tgt := 12) dX5_isMissing_8 (by decide) ?_
    exact j_zret hF hG dX5_isMissing_12 (by decide)  (Option.some.inj h) rfl
def fb_X9_firstUnlike_2 (K2 : Int32 → bzS → Option (Int32 × bzS)) (o : Nat) (a1 : Nat) (v2 : Int32) (σ1 : bzS) : Option (Int32 × bzS) :=
  if (σ1 a1 1) ≤ v2 then (some ((-1), σ1)) else (bzBp (f_X0_pass ((ly o 3)) 1 σ1) (fun x3 σ4 => bzBd (f_X4_at a1 v2 σ4) (fun x6 => if x3 = x6 then (bzLet (v2 + 1) (fun x8 => K2 x8 σ4)) else (some (v2, σ4)))))
def fl_X9_firstUnlike_2 (o : Nat) (a1 : Nat) : Nat → Int32 → bzS → Option (Int32 × bzS)
  | 0, _, _ => none
  | n + 1, v2, σ1 => fb_X9_firstUnlike_2   (fl_X9_firstUnlike_2   o a1 n) o a1 v2 σ1
def f_X9_firstUnlike (o : Nat) (a1 : Nat) (σ : bzS) : Option (Int32 × bzS) :=
  bzGd (kd o = 9) (bzGd (kd a1 = 4) (fl_X9_firstUnlike_2 o a1 2000 0 σ))
set_option maxHeartbeats 4000000 in
set_option maxRecDepth 20000 in
theorem mt_X9_firstUnlike {g : bzGeo} {o : Nat} {a1 : Nat} {σ : bzS} {r0 : Int32} {σ0 : bzS} (l : Launch) (h : f_X9_firstUnlike  o a1 σ = some (r0, σ0)) : Met l yX9_firstUnlike (Cond.code yX9_firstUnlike cX9_firstUnlike 3 (some .int) :: GW) (bzR (7)) (va_Pc [.ref (ga g o), .ref (ga g a1)] (bzP g σ)) (va_Qi (fun (r : Int32) (u : bzS) => r = r0 ∧ u = σ0) (bzB g) (gA g)) 0 0 (gA g) := by
  unfold f_X9_firstUnlike at h
  obtain ⟨ho, h⟩ := bzGdE h
  obtain ⟨h1, h⟩ := bzGdE h
  refine j_start l (by decide +kernel) [.ref (ga g o), .ref (ga g a1)] [(0, .ref (ga g o)), (1, .ref (ga g a1))] (Nat.le_of_ble_eq_true rfl) rfl (fun x hF hG => ?_)
  have J2 : (K2 : Int32 → bzS → Option (Int32 × bzS)) → (hK2 : ∀ (v2 : Int32) (σ1 : bzS), K2 v2 σ1 = some (r0, σ0) → bzJ g 3 x σ1 2 [(0, .ref (ga g o)), (1, .ref (ga g a1)), (2, .int v2)] []) → ∀ (v2 : Int32) (σ1 : bzS), fb_X9_firstUnlike_2 K2 o a1 v2 σ1 = some (r0, σ0) → bzJ g 3 x σ1 2 [(0, .ref (ga g o)), (1, .ref (ga g a1)), (2, .int v2)] [] := by
    intro K2 hK2 v2 σ1 h
    unfold fb_X9_firstUnlike_2 at h
    refine j_iload_n hF 2 dX9_firstUnlike_2 rfl ?_
    refine j_aload_n hF 1 dX9_firstUnlike_3 rfl ?_
    refine gf_X9_164 hF h1 dX9_firstUnlike_4 ?_
    refine j_icmp_ge hF (tgt := 34) dX9_firstUnlike_7 (by decide) (fun c1 => ?_) (fun c1 => ?_)
    · replace h := bzIfT h c1
      refine j_iconst hF (v := (-1)) dX9_firstUnlike_34 (by decide) ?_
      exact j_iret hF hG dX9_firstUnlike_35 (bzRet h).1 (bzRet h).2
    · replace h := bzIfF h c1
      refine j_aload_n hF 0 dX9_firstUnlike_10 rfl ?_
      refine gf_X9_26 hF ho dX9_firstUnlike_11 ?_
      refine j_iconst hF (v := 1) dX9_firstUnlike_14 (by decide) ?_
      obtain ⟨x3, σ4, e2, h⟩ := bzBpE h
      refine cs_X9_199 hF (kl_9_3 ho) (fun l => mt_X0_pass l e2) (by decide) (Nat.le_of_ble_eq_true rfl) dX9_firstUnlike_15 ?_
      refine j_aload_n hF 1 dX9_firstUnlike_18 rfl ?_
      refine j_iload_n hF 2 dX9_firstUnlike_19 rfl ?_
      obtain ⟨x6, e5, h⟩ := bzBdE h
      refine cs_X9_275 hF h1 (fun l => mt_X4_at l e5) (by decide) (Nat.le_of_ble_eq_true rfl) dX9_firstUnlike_20 ?_
      refine j_icmp_eq hF (tgt := 28) dX9_firstUnlike_23 (by decide) (fun c7 => ?_) (fun c7 => ?_)
      · replace h := bzIfT h c7
        obtain ⟨x8, ex8⟩ : ∃ y : Int32, y = v2 + 1 := ⟨_, rfl⟩
        replace h := bzLetE h ex8
        refine j_iinc hF (v := x8) (lv1 := [(2, .int x8), (0, .ref (ga g o)), (1, .ref (ga g a1))]) 2 dX9_firstUnlike_28 rfl (by rw [ex8]; rfl) (by decide) rfl ?_
        refine j_goto hF (tgt := 2) dX9_firstUnlike_31 (by decide) ?_
        refine j_sub [1, 2, 0] rfl ?_
        exact hK2 x8 σ4 h
      · replace h := bzIfF h c7
        refine j_iload_n hF 2 dX9_firstUnlike_26 rfl ?_
        exact j_iret hF hG dX9_firstUnlike_27 (bzRet h).1 (bzRet h).2
  have L2 : ∀ (n : Nat) (v2 : Int32) (σ1 : bzS), fl_X9_firstUnlike_2   o a1 n v2 σ1 = some (r0, σ0) → bzJ g 3 x σ1 2 [(0, .ref (ga g o)), (1, .ref (ga g a1)), (2, .int v2)] [] := by
    intro  n
    induction n with
    | zero =>
      intro v2 σ1  h
      cases h
    | succ n ih =>
      intro v2 σ1  h
      exact J2  (fl_X9_firstUnlike_2   o a1 n) ih v2 σ1  h
  refine j_iconst hF (v := 0) dX9_firstUnlike_0 (by decide) ?_
  refine j_istore_n hF (lv1 := [(2, .int 0), (0, .ref (ga g o)), (1, .ref (ga g a1))]) dX9_firstUnlike_1 (by decide) rfl ?_
  refine j_sub [1, 2, 0] rfl ?_
  exact L2 2000 0 σ h
def fb_X9_wanted_50 (K50 : Nat → Int32 → Int32 → Int32 → bzS → Option (Int32 × bzS)) (o : Nat) (a1 : Int32) (a2 : Int32) (v3 : Nat) (v4 : Int32) (v5 : Int32) (v6 : Int32) (σ1 : bzS) : Option (Int32 × bzS) :=
  if 99 < v6 then (if a2 = 0 then (some (v4, σ1)) else (if v4 ≤ 0 then (bzBp (f_X9_fails o ((-1000000002)) σ1) (fun x17 σ18 => some (x17, σ18))) else (some (v5, σ1)))) else (bzBd (f_X9_thinkAfresh o σ1) (fun σ20 => bzLet (bzSt σ20 (ly o 3) 5 v6) (fun σ21 => bzBp (f_X9_firstUnlike o ((ly v3 0)) σ21) (fun x23 σ24 => if 0 ≤ x23 then (bzLet (v6 + 1) (fun x26 => K50 v3 v4 v5 x26 σ24)) else (bzLet (v4 + 1) (fun x27 => bzBd (f_J_min v5 v6) (fun x29 => bzLet (v6 + 1) (fun x30 => K50 v3 x27 x29 x30 σ24))))))))
def fl_X9_wanted_50 (o : Nat) (a1 : Int32) (a2 : Int32) : Nat → Nat → Int32 → Int32 → Int32 → bzS → Option (Int32 × bzS)
  | 0, _, _, _, _, _ => none
  | n + 1, v3, v4, v5, v6, σ1 => fb_X9_wanted_50   (fl_X9_wanted_50   o a1 a2 n) o a1 a2 v3 v4 v5 v6 σ1
def f_X9_wanted (o : Nat) (a1 : Int32) (a2 : Int32) (σ : bzS) : Option (Int32 × bzS) :=
  bzGd (kd o = 9) (bzBd (f_X9_sheetOf o a1 σ) (fun x2 => bzOp x2 (bzBp (f_X9_fails o ((-1000000001)) σ) (fun x5 σ6 => some (x5, σ6))) (fun k3 => bzGd (kd k3 = 5) (bzBd (f_X9_within a2 0 1) (fun x8 => if x8 = 0 then (bzBp (f_X9_fails o ((-1000000001)) σ) (fun x35 σ36 => some (x35, σ36))) else (bzBd (f_X5_isMissing k3 σ) (fun x11 => if x11 = 0 then (fl_X9_wanted_50 o a1 a2 2000 k3 0 100 0 σ) else (bzBp (f_X9_fails o ((-1000000002)) σ) (fun x32 σ33 => some (x32, σ33))))))))))
set_option maxHeartbeats 4000000 in
set_option maxRecDepth 20000 in
theorem mt_X9_wanted {g : bzGeo} {o : Nat} {a1 : Int32} {a2 : Int32} {σ : bzS} {r0 : Int32} {σ0 : bzS} (l : Launch) (h : f_X9_wanted  o a1 a2 σ = some (r0, σ0)) : Met l yX9_wanted (Cond.code yX9_wanted cX9_wanted 7 (some .int) :: GW) (bzR (8)) (va_Pc [.ref (ga g o), .int a1, .int a2] (bzP g σ)) (va_Qi (fun (r : Int32) (u : bzS) => r = r0 ∧ u = σ0) (bzB g) (gA g)) 0 0 (gA g) := by
  unfold f_X9_wanted at h
  obtain ⟨ho, h⟩ := bzGdE h
  refine j_start l (by decide +kernel) [.ref (ga g o), .int a1, .int a2] [(0, .ref (ga g o)), (1, .int a1), (2, .int a2)] (Nat.le_of_ble_eq_true rfl) rfl (fun x hF hG => ?_)
  have J50 : (K50 : Nat → Int32 → Int32 → Int32 → bzS → Option (Int32 × bzS)) → (hK50 : ∀ (v3 : Nat) (v4 : Int32) (v5 : Int32) (v6 : Int32) (σ1 : bzS), (h_v3 : kd v3 = 5) → K50 v3 v4 v5 v6 σ1 = some (r0, σ0) → bzJ g 7 x σ1 50 [(0, .ref (ga g o)), (1, .int a1), (2, .int a2), (3, .ref (ga g v3)), (4, .int v4), (5, .int v5), (6, .int v6)] []) → ∀ (v3 : Nat) (v4 : Int32) (v5 : Int32) (v6 : Int32) (σ1 : bzS), (h_v3 : kd v3 = 5) → fb_X9_wanted_50 K50 o a1 a2 v3 v4 v5 v6 σ1 = some (r0, σ0) → bzJ g 7 x σ1 50 [(0, .ref (ga g o)), (1, .int a1), (2, .int a2), (3, .ref (ga g v3)), (4, .int v4), (5, .int v5), (6, .int v6)] [] := by
    intro K50 hK50 v3 v4 v5 v6 σ1 h_v3 h
    unfold fb_X9_wanted_50 at h
    refine j_iload hF 6 dX9_wanted_50 rfl ?_
    refine j_bipush hF (v := 99) dX9_wanted_52 (by decide) ?_
    refine j_icmp_gt hF (tgt := 99) dX9_wanted_54 (by decide) (fun c13 => ?_) (fun c13 => ?_)
    · replace h := bzIfT h c13
      refine j_iload_n hF 2 dX9_wanted_99 rfl ?_
      refine j_if_ne hF (tgt := 108) dX9_wanted_100 (by decide) (fun c14 => ?_) (fun c14 => ?_)
      · replace h := bzIfF h c14
        refine j_iload hF 4 dX9_wanted_108 rfl ?_
        refine j_if_le hF (tgt := 118) dX9_wanted_110 (by decide) (fun c15 => ?_) (fun c15 => ?_)
        · replace h := bzIfT h c15
          refine j_aload_n hF 0 dX9_wanted_118 rfl ?_
          refine j_ldc hF (v := (-1000000002)) kc_X9_214 dX9_wanted_119 ?_
          obtain ⟨x17, σ18, e16, h⟩ := bzBpE h
          refine cs_X9_71 hF ho (fun l => mt_X9_fails l e16) (by decide) (Nat.le_of_ble_eq_true rfl) dX9_wanted_121 ?_
          exact j_iret hF hG dX9_wanted_124 (bzRet h).1 (bzRet h).2
        · replace h := bzIfF h c15
          refine j_iload hF 5 dX9_wanted_113 rfl ?_
          refine j_goto hF (tgt := 124) dX9_wanted_115 (by decide) ?_
          exact j_iret hF hG dX9_wanted_124 (bzRet h).1 (bzRet h).2
      · replace h := bzIfT h c14
        refine j_iload hF 4 dX9_wanted_103 rfl ?_
        refine j_goto hF (tgt := 124) dX9_wanted_105 (by decide) ?_
        exact j_iret hF hG dX9_wanted_124 (bzRet h).1 (bzRet h).2
    · replace h := bzIfF h c13
      refine j_aload_n hF 0 dX9_wanted_57 rfl ?_
      obtain ⟨σ20, e19, h⟩ := bzBdE h
      refine cs_X9_208 hF ho (fun l => mt_X9_thinkAfresh l e19) (by decide) (Nat.le_of_ble_eq_true rfl) dX9_wanted_58 ?_
      refine j_aload_n hF 0 dX9_wanted_61 rfl ?_
      refine gf_X9_26 hF ho dX9_wanted_62 ?_
      refine j_iload hF 6 dX9_wanted_65 rfl ?_
      refine pf_X9_147 hF (kl_9_3 ho) dX9_wanted_67 ?_
      refine j_s (fun σ21 eσ21 => ?_)
      replace h := bzLetE h eσ21
      refine j_aload_n hF 0 dX9_wanted_70 rfl ?_
      refine j_aload_n hF 3 dX9_wanted_71 rfl ?_
      refine gf_X9_227 hF h_v3 dX9_wanted_72 ?_
      obtain ⟨x23, σ24, e22, h⟩ := bzBpE h
      refine cs_X9_230 hF ho (fun l => mt_X9_firstUnlike l e22) (by decide) (Nat.le_of_ble_eq_true rfl) dX9_wanted_75 ?_
      refine j_if_ge hF (tgt := 93) dX9_wanted_78 (by decide) (fun c25 => ?_) (fun c25 => ?_)
      · replace h := bzIfT h c25
        obtain ⟨x26, ex26⟩ : ∃ y : Int32, y = v6 + 1 := ⟨_, rfl⟩
        replace h := bzLetE h ex26
        refine j_iinc hF (v := x26) (lv1 := [(6, .int x26), (0, .ref (ga g o)), (1, .int a1), (2, .int a2), (3, .ref (ga g v3)), (4, .int v4), (5, .int v5)]) 6 dX9_wanted_93 rfl (by rw [ex26]; rfl) (by decide) rfl ?_
        refine j_goto hF (tgt := 50) dX9_wanted_96 (by decide) ?_
        refine j_sub [1, 2, 3, 4, 5, 6, 0] rfl ?_
        exact hK50 v3 v4 v5 x26 σ24 h_v3 h
      · replace h := bzIfF h c25
        obtain ⟨x27, ex27⟩ : ∃ y : Int32, y = v4 + 1 := ⟨_, rfl⟩
        replace h := bzLetE h ex27
        refine j_iinc hF (v := x27) (lv1 := [(4, .int x27), (0, .ref (ga g o)), (1, .int a1), (2, .int a2), (3, .ref (ga g v3)), (5, .int v5), (6, .int v6)]) 4 dX9_wanted_81 rfl (by rw [ex27]; rfl) (by decide) rfl ?_
        refine j_iload hF 5 dX9_wanted_84 rfl ?_
        refine j_iload hF 6 dX9_wanted_86 rfl ?_
        obtain ⟨x29, e28, h⟩ := bzBdE h
        refine cs_X9_234 hF (fun l => mt_J_min l e28) (by decide) (Nat.le_of_ble_eq_true rfl) dX9_wanted_88 ?_
        refine j_istore hF (lv1 := [(5, .int x29), (4, .int x27), (0, .ref (ga g o)), (1, .int a1), (2, .int a2), (3, .ref (ga g v3)), (6, .int v6)]) dX9_wanted_91 (by decide) rfl ?_
        obtain ⟨x30, ex30⟩ : ∃ y : Int32, y = v6 + 1 := ⟨_, rfl⟩
        replace h := bzLetE h ex30
        refine j_iinc hF (v := x30) (lv1 := [(6, .int x30), (5, .int x29), (4, .int x27), (0, .ref (ga g o)), (1, .int a1), (2, .int a2), (3, .ref (ga g v3))]) 6 dX9_wanted_93 rfl (by rw [ex30]; rfl) (by decide) rfl ?_
        refine j_goto hF (tgt := 50) dX9_wanted_96 (by decide) ?_
        refine j_sub [3, 4, 5, 6, 2, 1, 0] rfl ?_
        exact hK50 v3 x27 x29 x30 σ24 h_v3 h
  have L50 : ∀ (n : Nat) (v3 : Nat) (v4 : Int32) (v5 : Int32) (v6 : Int32) (σ1 : bzS), (h_v3 : kd v3 = 5) → fl_X9_wanted_50   o a1 a2 n v3 v4 v5 v6 σ1 = some (r0, σ0) → bzJ g 7 x σ1 50 [(0, .ref (ga g o)), (1, .int a1), (2, .int a2), (3, .ref (ga g v3)), (4, .int v4), (5, .int v5), (6, .int v6)] [] := by
    intro  n
    induction n with
    | zero =>
      intro v3 v4 v5 v6 σ1 h_v3 h
      cases h
    | succ n ih =>
      intro v3 v4 v5 v6 σ1 h_v3 h
      exact J50  (fl_X9_wanted_50   o a1 a2 n) ih v3 v4 v5 v6 σ1 h_v3 h
  refine j_aload_n hF 0 dX9_wanted_0 rfl ?_
  refine j_iload_n hF 1 dX9_wanted_1 rfl ?_
  obtain ⟨x2, e1, h⟩ := bzBdE h
  refine cs_X9_219 hF ho (fun l => mt_X9_sheetOf l e1) (by decide) (Nat.le_of_ble_eq_true rfl) dX9_wanted_2 ?_
  cases x2 with
  | none =>
    replace h := bzOpN h
    refine j_nul ?_
    refine j_astore_nN hF (lv1 := [(3, .null), (0, .ref (ga g o)), (1, .int a1), (2, .int a2)]) dX9_wanted_5 (by decide) rfl ?_
    refine j_aload_nN hF 0 dX9_wanted_6 rfl ?_
    refine j_ifnullN hF (tgt := 19) dX9_wanted_7 (by decide) ?_
    refine j_aload_n hF 1 dX9_wanted_19 rfl ?_
    refine j_ldc hF (v := (-1000000001)) kc_X9_70 dX9_wanted_20 ?_
    obtain ⟨x5, σ6, e4, h⟩ := bzBpE h
    refine cs_X9_71 hF ho (fun l => mt_X9_fails l e4) (by decide) (Nat.le_of_ble_eq_true rfl) dX9_wanted_22 ?_
    exact j_iret hF hG dX9_wanted_25  (bzRet h).1 (bzRet h).2
  | some k3 =>
    obtain ⟨h_k3, h⟩ := bzGdE (bzOpS h)
    refine j_som ?_
    refine j_astore_n hF (lv1 := [(3, .ref (ga g k3)), (0, .ref (ga g o)), (1, .int a1), (2, .int a2)]) dX9_wanted_5 (by decide) rfl ?_
    refine j_aload_n hF 0 dX9_wanted_6 rfl ?_
    refine j_ifnull hF dX9_wanted_7 ?_
    refine j_iload_n hF 3 dX9_wanted_10 rfl ?_
    refine j_iconst hF (v := 0) dX9_wanted_11 (by decide) ?_
    refine j_iconst hF (v := 1) dX9_wanted_12 (by decide) ?_
    obtain ⟨x8, e7, h⟩ := bzBdE h
    refine cs_X9_66 hF (fun l => mt_X9_within l e7) (by decide) (Nat.le_of_ble_eq_true rfl) dX9_wanted_13 ?_
    refine j_if_ne hF (tgt := 26) dX9_wanted_16 (by decide) (fun c9 => ?_) (fun c9 => ?_)
    · replace h := bzIfF h c9
      refine j_aload_n hF 0 dX9_wanted_26 rfl ?_
      obtain ⟨x11, e10, h⟩ := bzBdE h
      refine cs_X9_223 hF h_k3 (fun l => mt_X5_isMissing l e10) (by decide) (Nat.le_of_ble_eq_true rfl) dX9_wanted_27 ?_
      refine j_if_eq hF (tgt := 40) dX9_wanted_30 (by decide) (fun c12 => ?_) (fun c12 => ?_)
      · replace h := bzIfT h c12
        refine j_iconst hF (v := 0) dX9_wanted_40 (by decide) ?_
        refine j_istore hF (lv1 := [(4, .int 0), (3, .ref (ga g k3)), (0, .ref (ga g o)), (1, .int a1), (2, .int a2)]) dX9_wanted_41 (by decide) rfl ?_
        refine j_bipush hF (v := 100) dX9_wanted_43 (by decide) ?_
        refine j_istore hF (lv1 := [(5, .int 100), (4, .int 0), (3, .ref (ga g k3)), (0, .ref (ga g o)), (1, .int a1), (2, .int a2)]) dX9_wanted_45 (by decide) rfl ?_
        refine j_iconst hF (v := 0) dX9_wanted_47 (by decide) ?_
        refine j_istore hF (lv1 := [(6, .int 0), (5, .int 100), (4, .int 0), (3, .ref (ga g k3)), (0, .ref (ga g o)), (1, .int a1), (2, .int a2)]) dX9_wanted_48 (by decide) rfl ?_
        refine j_sub [4, 5, 6, 3, 2, 1, 0] rfl ?_
        exact L50 2000 k3 0 100 0 σ h_k3 h
      · replace h := bzIfF h c12
        refine j_aload_n hF 1 dX9_wanted_33 rfl ?_
        refine j_ldc hF (v := (-1000000002)) kc_X9_214 dX9_wanted_34 ?_
        obtain ⟨x32, σ33, e31, h⟩ := bzBpE h
        refine cs_X9_71 hF ho (fun l => mt_X9_fails l e31) (by decide) (Nat.le_of_ble_eq_true rfl) dX9_wanted_36 ?_
        exact j_iret hF hG dX9_wanted_39  (bzRet h).1 (bzRet h).2
    · replace h := bzIfT h c9
      refine j_aload_n hF 1 dX9_wanted_19 rfl ?_
      refine j_ldc hF (v := (-1000000001)) kc_X9_70 dX9_wanted_20 ?_
      obtain ⟨x35, σ36, e34, h⟩ := bzBpE h
      refine cs_X9_71 hF ho (fun l => mt_X9_fails l e34) (by decide) (Nat.le_of_ble_eq_true rfl) dX9_wanted_22 ?_
      exact j_iret hF hG dX9_wanted_25  (bzRet h).1 (bzRet h).2
def fb_X9_which_54 (K54 : Nat → Int32 → Int32 → bzS → Option (Int32 × bzS)) (o : Nat) (a1 : Int32) (a2 : Int32) (v3 : Nat) (v4 : Int32) (v5 : Int32) (σ1 : bzS) : Option (Int32 × bzS) :=
  if 7 ≤ v5 then (some (v4, σ1)) else (bzBd (f_X9_thinkAfresh o σ1) (fun σ15 => bzGd (bzIn a2 8) (bzLet (bzSt σ15 (ly (ly (ly o 3) 2) 0) a2.toNatClampNeg v5) (fun σ17 => bzBp (f_X9_firstUnlike o ((ly v3 0)) σ17) (fun x19 σ20 => if 0 ≤ x19 then (bzLet (v5 + 1) (fun x22 => K54 v3 v4 x22 σ20)) else (bzLet ((v4 ||| (1 <<< (v5 &&& 31)))) (fun x23 => bzLet (v5 + 1) (fun x24 => K54 v3 x23 x24 σ20))))))))
def fl_X9_which_54 (o : Nat) (a1 : Int32) (a2 : Int32) : Nat → Nat → Int32 → Int32 → bzS → Option (Int32 × bzS)
  | 0, _, _, _, _ => none
  | n + 1, v3, v4, v5, σ1 => fb_X9_which_54   (fl_X9_which_54   o a1 a2 n) o a1 a2 v3 v4 v5 σ1
def f_X9_which (o : Nat) (a1 : Int32) (a2 : Int32) (σ : bzS) : Option (Int32 × bzS) :=
  bzGd (kd o = 9) (bzBd (f_X9_sheetOf o a1 σ) (fun x2 => bzOp x2 (bzBp (f_X9_fails o ((-1000000001)) σ) (fun x5 σ6 => some (x5, σ6))) (fun k3 => bzGd (kd k3 = 5) (bzBd (f_X7_has ((ly (ly (ly o 0) 0) 2)) a2 σ) (fun x8 => if x8 = 0 then (bzBp (f_X9_fails o ((-1000000001)) σ) (fun x29 σ30 => some (x29, σ30))) else (bzBd (f_X5_isMissing k3 σ) (fun x11 => if x11 = 0 then (fl_X9_which_54 o a1 a2 2000 k3 0 0 σ) else (bzBp (f_X9_fails o ((-1000000002)) σ) (fun x26 σ27 => some (x26, σ27))))))))))
set_option maxHeartbeats 4000000 in
set_option maxRecDepth 20000 in
theorem mt_X9_which {g : bzGeo} {o : Nat} {a1 : Int32} {a2 : Int32} {σ : bzS} {r0 : Int32} {σ0 : bzS} (l : Launch) (h : f_X9_which  o a1 a2 σ = some (r0, σ0)) : Met l yX9_which (Cond.code yX9_which cX9_which 6 (some .int) :: GW) (bzR (8)) (va_Pc [.ref (ga g o), .int a1, .int a2] (bzP g σ)) (va_Qi (fun (r : Int32) (u : bzS) => r = r0 ∧ u = σ0) (bzB g) (gA g)) 0 0 (gA g) := by
  unfold f_X9_which at h
  obtain ⟨ho, h⟩ := bzGdE h
  refine j_start l (by decide +kernel) [.ref (ga g o), .int a1, .int a2] [(0, .ref (ga g o)), (1, .int a1), (2, .int a2)] (Nat.le_of_ble_eq_true rfl) rfl (fun x hF hG => ?_)
  have J54 : (K54 : Nat → Int32 → Int32 → bzS → Option (Int32 × bzS)) → (hK54 : ∀ (v3 : Nat) (v4 : Int32) (v5 : Int32) (σ1 : bzS), (h_v3 : kd v3 = 5) → K54 v3 v4 v5 σ1 = some (r0, σ0) → bzJ g 6 x σ1 54 [(0, .ref (ga g o)), (1, .int a1), (2, .int a2), (3, .ref (ga g v3)), (4, .int v4), (5, .int v5)] []) → ∀ (v3 : Nat) (v4 : Int32) (v5 : Int32) (σ1 : bzS), (h_v3 : kd v3 = 5) → fb_X9_which_54 K54 o a1 a2 v3 v4 v5 σ1 = some (r0, σ0) → bzJ g 6 x σ1 54 [(0, .ref (ga g o)), (1, .int a1), (2, .int a2), (3, .ref (ga g v3)), (4, .int v4), (5, .int v5)] [] := by
    intro K54 hK54 v3 v4 v5 σ1 h_v3 h
    unfold fb_X9_which_54 at h
    refine j_iload hF 5 dX9_which_54 rfl ?_
    refine j_bipush hF (v := 7) dX9_which_56 (by decide) ?_
    refine j_icmp_ge hF (tgt := 105) dX9_which_58 (by decide) (fun c13 => ?_) (fun c13 => ?_)
    · replace h := bzIfT h c13
      refine j_iload hF 4 dX9_which_105 rfl ?_
      exact j_iret hF hG dX9_which_107 (bzRet h).1 (bzRet h).2
    · replace h := bzIfF h c13
      refine j_aload_n hF 0 dX9_which_61 rfl ?_
      obtain ⟨σ15, e14, h⟩ := bzBdE h
      refine cs_X9_208 hF ho (fun l => mt_X9_thinkAfresh l e14) (by decide) (Nat.le_of_ble_eq_true rfl) dX9_which_62 ?_
      refine j_aload_n hF 0 dX9_which_65 rfl ?_
      refine gf_X9_26 hF ho dX9_which_66 ?_
      refine gf_X9_111 hF (kl_9_3 ho) dX9_which_69 ?_
      refine gf_X9_126 hF (kl_0_2 (kl_9_3 ho)) dX9_which_72 ?_
      refine j_iload_n hF 2 dX9_which_75 rfl ?_
      refine j_iload hF 5 dX9_which_76 rfl ?_
      obtain ⟨g16, h⟩ := bzGdE h
      refine j_iast hF (c := a2.toNatClampNeg) (kl_7_0 (kl_0_2 (kl_9_3 ho))) (nl_7_0 (kl_0_2 (kl_9_3 ho))) g16 rfl dX9_which_78 ?_
      refine j_s (fun σ17 eσ17 => ?_)
      replace h := bzLetE h eσ17
      refine j_aload_n hF 0 dX9_which_79 rfl ?_
      refine j_aload_n hF 3 dX9_which_80 rfl ?_
      refine gf_X9_227 hF h_v3 dX9_which_81 ?_
      obtain ⟨x19, σ20, e18, h⟩ := bzBpE h
      refine cs_X9_230 hF ho (fun l => mt_X9_firstUnlike l e18) (by decide) (Nat.le_of_ble_eq_true rfl) dX9_which_84 ?_
      refine j_if_ge hF (tgt := 99) dX9_which_87 (by decide) (fun c21 => ?_) (fun c21 => ?_)
      · replace h := bzIfT h c21
        obtain ⟨x22, ex22⟩ : ∃ y : Int32, y = v5 + 1 := ⟨_, rfl⟩
        replace h := bzLetE h ex22
        refine j_iinc hF (v := x22) (lv1 := [(5, .int x22), (0, .ref (ga g o)), (1, .int a1), (2, .int a2), (3, .ref (ga g v3)), (4, .int v4)]) 5 dX9_which_99 rfl (by rw [ex22]; rfl) (by decide) rfl ?_
        refine j_goto hF (tgt := 54) dX9_which_102 (by decide) ?_
        refine j_sub [1, 2, 3, 4, 5, 0] rfl ?_
        exact hK54 v3 v4 x22 σ20 h_v3 h
      · replace h := bzIfF h c21
        refine j_iload hF 4 dX9_which_90 rfl ?_
        refine j_iconst hF (v := 1) dX9_which_92 (by decide) ?_
        refine j_iload hF 5 dX9_which_93 rfl ?_
        refine j_ishl hF dX9_which_95 ?_
        refine j_ior hF dX9_which_96 ?_
        refine j_topi (fun x23 ex23 => ?_)
        replace h := bzLetE h ex23
        refine j_istore hF (lv1 := [(4, .int x23), (0, .ref (ga g o)), (1, .int a1), (2, .int a2), (3, .ref (ga g v3)), (5, .int v5)]) dX9_which_97 (by decide) rfl ?_
        obtain ⟨x24, ex24⟩ : ∃ y : Int32, y = v5 + 1 := ⟨_, rfl⟩
        replace h := bzLetE h ex24
        refine j_iinc hF (v := x24) (lv1 := [(5, .int x24), (4, .int x23), (0, .ref (ga g o)), (1, .int a1), (2, .int a2), (3, .ref (ga g v3))]) 5 dX9_which_99 rfl (by rw [ex24]; rfl) (by decide) rfl ?_
        refine j_goto hF (tgt := 54) dX9_which_102 (by decide) ?_
        refine j_sub [2, 3, 4, 5, 1, 0] rfl ?_
        exact hK54 v3 x23 x24 σ20 h_v3 h
  have L54 : ∀ (n : Nat) (v3 : Nat) (v4 : Int32) (v5 : Int32) (σ1 : bzS), (h_v3 : kd v3 = 5) → fl_X9_which_54   o a1 a2 n v3 v4 v5 σ1 = some (r0, σ0) → bzJ g 6 x σ1 54 [(0, .ref (ga g o)), (1, .int a1), (2, .int a2), (3, .ref (ga g v3)), (4, .int v4), (5, .int v5)] [] := by
    intro  n
    induction n with
    | zero =>
      intro v3 v4 v5 σ1 h_v3 h
      cases h
    | succ n ih =>
      intro v3 v4 v5 σ1 h_v3 h
      exact J54  (fl_X9_which_54   o a1 a2 n) ih v3 v4 v5 σ1 h_v3 h
  refine j_aload_n hF 0 dX9_which_0 rfl ?_
  refine j_iload_n hF 1 dX9_which_1 rfl ?_
  obtain ⟨x2, e1, h⟩ := bzBdE h
  refine cs_X9_219 hF ho (fun l => mt_X9_sheetOf l e1) (by decide) (Nat.le_of_ble_eq_true rfl) dX9_which_2 ?_
  cases x2 with
  | none =>
    replace h := bzOpN h
    refine j_nul ?_
    refine j_astore_nN hF (lv1 := [(3, .null), (0, .ref (ga g o)), (1, .int a1), (2, .int a2)]) dX9_which_5 (by decide) rfl ?_
    refine j_aload_nN hF 0 dX9_which_6 rfl ?_
    refine j_ifnullN hF (tgt := 27) dX9_which_7 (by decide) ?_
    refine j_aload_n hF 1 dX9_which_27 rfl ?_
    refine j_ldc hF (v := (-1000000001)) kc_X9_70 dX9_which_28 ?_
    obtain ⟨x5, σ6, e4, h⟩ := bzBpE h
    refine cs_X9_71 hF ho (fun l => mt_X9_fails l e4) (by decide) (Nat.le_of_ble_eq_true rfl) dX9_which_30 ?_
    exact j_iret hF hG dX9_which_33  (bzRet h).1 (bzRet h).2
  | some k3 =>
    obtain ⟨h_k3, h⟩ := bzGdE (bzOpS h)
    refine j_som ?_
    refine j_astore_n hF (lv1 := [(3, .ref (ga g k3)), (0, .ref (ga g o)), (1, .int a1), (2, .int a2)]) dX9_which_5 (by decide) rfl ?_
    refine j_aload_n hF 0 dX9_which_6 rfl ?_
    refine j_ifnull hF dX9_which_7 ?_
    refine j_aload_n hF 1 dX9_which_10 rfl ?_
    refine gf_X9_12 hF ho dX9_which_11 ?_
    refine gf_X9_55 hF (kl_9_0 ho) dX9_which_14 ?_
    refine gf_X9_111 hF (kl_6_0 (kl_9_0 ho)) dX9_which_17 ?_
    refine j_iload_n hF 3 dX9_which_20 rfl ?_
    obtain ⟨x8, e7, h⟩ := bzBdE h
    refine cs_X9_122 hF (kl_0_2 (kl_6_0 (kl_9_0 ho))) (fun l => mt_X7_has l e7) (by decide) (Nat.le_of_ble_eq_true rfl) dX9_which_21 ?_
    refine j_if_ne hF (tgt := 34) dX9_which_24 (by decide) (fun c9 => ?_) (fun c9 => ?_)
    · replace h := bzIfF h c9
      refine j_aload_n hF 0 dX9_which_34 rfl ?_
      obtain ⟨x11, e10, h⟩ := bzBdE h
      refine cs_X9_223 hF h_k3 (fun l => mt_X5_isMissing l e10) (by decide) (Nat.le_of_ble_eq_true rfl) dX9_which_35 ?_
      refine j_if_eq hF (tgt := 48) dX9_which_38 (by decide) (fun c12 => ?_) (fun c12 => ?_)
      · replace h := bzIfT h c12
        refine j_iconst hF (v := 0) dX9_which_48 (by decide) ?_
        refine j_istore hF (lv1 := [(4, .int 0), (3, .ref (ga g k3)), (0, .ref (ga g o)), (1, .int a1), (2, .int a2)]) dX9_which_49 (by decide) rfl ?_
        refine j_iconst hF (v := 0) dX9_which_51 (by decide) ?_
        refine j_istore hF (lv1 := [(5, .int 0), (4, .int 0), (3, .ref (ga g k3)), (0, .ref (ga g o)), (1, .int a1), (2, .int a2)]) dX9_which_52 (by decide) rfl ?_
        refine j_sub [3, 4, 5, 2, 1, 0] rfl ?_
        exact L54 2000 k3 0 0 σ h_k3 h
      · replace h := bzIfF h c12
        refine j_aload_n hF 1 dX9_which_41 rfl ?_
        refine j_ldc hF (v := (-1000000002)) kc_X9_214 dX9_which_42 ?_
        obtain ⟨x26, σ27, e25, h⟩ := bzBpE h
        refine cs_X9_71 hF ho (fun l => mt_X9_fails l e25) (by decide) (Nat.le_of_ble_eq_true rfl) dX9_which_44 ?_
        exact j_iret hF hG dX9_which_47  (bzRet h).1 (bzRet h).2
    · replace h := bzIfT h c9
      refine j_aload_n hF 1 dX9_which_27 rfl ?_
      refine j_ldc hF (v := (-1000000001)) kc_X9_70 dX9_which_28 ?_
      obtain ⟨x29, σ30, e28, h⟩ := bzBpE h
      refine cs_X9_71 hF ho (fun l => mt_X9_fails l e28) (by decide) (Nat.le_of_ble_eq_true rfl) dX9_which_30 ?_
      exact j_iret hF hG dX9_which_33  (bzRet h).1 (bzRet h).2
def fb_X1_goodSteps_4 (K4 : Int32 → Int32 → Option Int32) (o : Nat) (a1 : Int32) (σ : bzS) (v2 : Int32) (v3 : Int32) : Option Int32 :=
  if 10 ≤ v3 then (some v2) else (bzBd (f_X1_isGood o v3 a1 σ) (fun x3 => if x3 = 0 then (bzLet (v3 + 1) (fun x5 => K4 v2 x5)) else (bzLet ((v2 ||| (1 <<< (v3 &&& 31)))) (fun x6 => bzLet (v3 + 1) (fun x7 => K4 x6 x7)))))
def fl_X1_goodSteps_4 (o : Nat) (a1 : Int32) (σ : bzS) : Nat → Int32 → Int32 → Option Int32
  | 0, _, _ => none
  | n + 1, v2, v3 => fb_X1_goodSteps_4   (fl_X1_goodSteps_4   o a1 σ n) o a1 σ v2 v3
def f_X1_goodSteps (o : Nat) (a1 : Int32) (σ : bzS) : Option Int32 :=
  bzGd (kd o = 1) (fl_X1_goodSteps_4 o a1 σ 2000 0 0)
set_option maxHeartbeats 4000000 in
set_option maxRecDepth 20000 in
theorem mt_X1_goodSteps {g : bzGeo} {o : Nat} {a1 : Int32} {σ : bzS} {r0 : Int32} (l : Launch) (h : f_X1_goodSteps  o a1 σ = some r0) : Met l yX1_goodSteps (Cond.code yX1_goodSteps cX1_goodSteps 4 (some .int) :: GW) (bzR (3)) (va_Pc [.ref (ga g o), .int a1] (bzP g σ)) (va_Qi (fun (r : Int32) (u : bzS) => r = r0 ∧ u = σ) (bzB g) (gA g)) 0 0 (gA g) := by
  unfold f_X1_goodSteps at h
  obtain ⟨ho, h⟩ := bzGdE h
  refine j_start l (by decide +kernel) [.ref (ga g o), .int a1] [(0, .ref (ga g o)), (1, .int a1)] (Nat.le_of_ble_eq_true rfl) rfl (fun x hF hG => ?_)
  have J4 : (K4 : Int32 → Int32 → Option Int32) → (hK4 : ∀ (v2 : Int32) (v3 : Int32), K4 v2 v3 = some r0 → bzJ g 4 x σ 4 [(0, .ref (ga g o)), (1, .int a1), (2, .int v2), (3, .int v3)] []) → ∀ (v2 : Int32) (v3 : Int32), fb_X1_goodSteps_4 K4 o a1 σ v2 v3 = some r0 → bzJ g 4 x σ 4 [(0, .ref (ga g o)), (1, .int a1), (2, .int v2), (3, .int v3)] [] := by
    intro K4 hK4 v2 v3 h
    unfold fb_X1_goodSteps_4 at h
    refine j_iload_n hF 3 dX1_goodSteps_4 rfl ?_
    refine j_bipush hF (v := 10) dX1_goodSteps_5 (by decide) ?_
    refine j_icmp_ge hF (tgt := 31) dX1_goodSteps_7 (by decide) (fun c1 => ?_) (fun c1 => ?_)
    · replace h := bzIfT h c1
      refine j_iload_n hF 2 dX1_goodSteps_31 rfl ?_
      exact j_iret hF hG dX1_goodSteps_32 (Option.some.inj h) rfl
    · replace h := bzIfF h c1
      refine j_aload_n hF 0 dX1_goodSteps_10 rfl ?_
      refine j_iload_n hF 3 dX1_goodSteps_11 rfl ?_
      refine j_iload_n hF 1 dX1_goodSteps_12 rfl ?_
      obtain ⟨x3, e2, h⟩ := bzBdE h
      refine cs_X1_38 hF ho (fun l => mt_X1_isGood l e2) (by decide) (Nat.le_of_ble_eq_true rfl) dX1_goodSteps_13 ?_
      refine j_if_eq hF (tgt := 25) dX1_goodSteps_16 (by decide) (fun c4 => ?_) (fun c4 => ?_)
      · replace h := bzIfT h c4
        obtain ⟨x5, ex5⟩ : ∃ y : Int32, y = v3 + 1 := ⟨_, rfl⟩
        replace h := bzLetE h ex5
        refine j_iinc hF (v := x5) (lv1 := [(3, .int x5), (0, .ref (ga g o)), (1, .int a1), (2, .int v2)]) 3 dX1_goodSteps_25 rfl (by rw [ex5]; rfl) (by decide) rfl ?_
        refine j_goto hF (tgt := 4) dX1_goodSteps_28 (by decide) ?_
        refine j_sub [1, 2, 3, 0] rfl ?_
        exact hK4 v2 x5 h
      · replace h := bzIfF h c4
        refine j_iload_n hF 2 dX1_goodSteps_19 rfl ?_
        refine j_iconst hF (v := 1) dX1_goodSteps_20 (by decide) ?_
        refine j_iload_n hF 3 dX1_goodSteps_21 rfl ?_
        refine j_ishl hF dX1_goodSteps_22 ?_
        refine j_ior hF dX1_goodSteps_23 ?_
        refine j_topi (fun x6 ex6 => ?_)
        replace h := bzLetE h ex6
        refine j_istore_n hF (lv1 := [(2, .int x6), (0, .ref (ga g o)), (1, .int a1), (3, .int v3)]) dX1_goodSteps_24 (by decide) rfl ?_
        obtain ⟨x7, ex7⟩ : ∃ y : Int32, y = v3 + 1 := ⟨_, rfl⟩
        replace h := bzLetE h ex7
        refine j_iinc hF (v := x7) (lv1 := [(3, .int x7), (2, .int x6), (0, .ref (ga g o)), (1, .int a1)]) 3 dX1_goodSteps_25 rfl (by rw [ex7]; rfl) (by decide) rfl ?_
        refine j_goto hF (tgt := 4) dX1_goodSteps_28 (by decide) ?_
        refine j_sub [2, 3, 1, 0] rfl ?_
        exact hK4 x6 x7 h
  have L4 : ∀ (n : Nat) (v2 : Int32) (v3 : Int32) , fl_X1_goodSteps_4   o a1 σ n v2 v3 = some r0 → bzJ g 4 x σ 4 [(0, .ref (ga g o)), (1, .int a1), (2, .int v2), (3, .int v3)] [] := by
    intro  n
    induction n with
    | zero =>
      intro v2 v3   h
      cases h
    | succ n ih =>
      intro v2 v3   h
      exact J4  (fl_X1_goodSteps_4   o a1 σ n) ih v2 v3   h
  refine j_iconst hF (v := 0) dX1_goodSteps_0 (by decide) ?_
  refine j_istore_n hF (lv1 := [(2, .int 0), (0, .ref (ga g o)), (1, .int a1)]) dX1_goodSteps_1 (by decide) rfl ?_
  refine j_iconst hF (v := 0) dX1_goodSteps_2 (by decide) ?_
  refine j_istore_n hF (lv1 := [(3, .int 0), (2, .int 0), (0, .ref (ga g o)), (1, .int a1)]) dX1_goodSteps_3 (by decide) rfl ?_
  refine j_sub [2, 3, 1, 0] rfl ?_
  exact L4 2000 0 0 h
def f_J_bitCount (a0 : Int32) : Option Int32 :=
  bzLet ((a0 - (((a0.toUInt32 >>> ((1 : Int32).toUInt32 &&& Int32.toUInt32 31)).toInt32) &&& 1431655765))) (fun x1 => bzLet (((x1 &&& 858993459) + (((x1.toUInt32 >>> ((2 : Int32).toUInt32 &&& Int32.toUInt32 31)).toInt32) &&& 858993459))) (fun x2 => bzLet (((x2 + ((x2.toUInt32 >>> ((4 : Int32).toUInt32 &&& Int32.toUInt32 31)).toInt32)) &&& 252645135)) (fun x3 => bzLet ((x3 + ((x3.toUInt32 >>> ((8 : Int32).toUInt32 &&& Int32.toUInt32 31)).toInt32))) (fun x4 => bzLet ((x4 + ((x4.toUInt32 >>> ((16 : Int32).toUInt32 &&& Int32.toUInt32 31)).toInt32))) (fun x5 => some ((x5 &&& 63)))))))
set_option maxHeartbeats 4000000 in
set_option maxRecDepth 20000 in
theorem mt_J_bitCount {g : bzGeo} {a0 : Int32} {σ : bzS} {r0 : Int32} (l : Launch) (h : f_J_bitCount  a0 = some r0) : Met l yJ_bitCount (Cond.code yJ_bitCount cJ_bitCount 1 (some .int) :: GW) (bzR (1)) (va_Pc [.int a0] (bzP g σ)) (va_Qi (fun (r : Int32) (u : bzS) => r = r0 ∧ u = σ) (bzB g) (gA g)) 0 0 (gA g) := by
  unfold f_J_bitCount at h
  refine j_start l (by decide +kernel) [.int a0] [(0, .int a0)] (Nat.le_of_ble_eq_true rfl) rfl (fun x hF hG => ?_)
  refine j_iload_n hF 0 dJ_bitCount_0 rfl ?_
  refine j_iload_n hF 0 dJ_bitCount_1 rfl ?_
  refine j_iconst hF (v := 1) dJ_bitCount_2 (by decide) ?_
  refine j_iushr hF dJ_bitCount_3 ?_
  refine j_ldc_w hF (v := 1431655765) kc_JI_265 dJ_bitCount_4 ?_
  refine j_iand hF dJ_bitCount_7 ?_
  refine j_isub hF dJ_bitCount_8 ?_
  refine j_topi (fun x1 ex1 => ?_)
  replace h := bzLetE h ex1
  refine j_istore_n hF (lv1 := [(0, .int x1)]) dJ_bitCount_9 (by decide) rfl ?_
  refine j_iload_n hF 0 dJ_bitCount_10 rfl ?_
  refine j_ldc_w hF (v := 858993459) kc_JI_266 dJ_bitCount_11 ?_
  refine j_iand hF dJ_bitCount_14 ?_
  refine j_iload_n hF 0 dJ_bitCount_15 rfl ?_
  refine j_iconst hF (v := 2) dJ_bitCount_16 (by decide) ?_
  refine j_iushr hF dJ_bitCount_17 ?_
  refine j_ldc_w hF (v := 858993459) kc_JI_266 dJ_bitCount_18 ?_
  refine j_iand hF dJ_bitCount_21 ?_
  refine j_iadd hF dJ_bitCount_22 ?_
  refine j_topi (fun x2 ex2 => ?_)
  replace h := bzLetE h ex2
  refine j_istore_n hF (lv1 := [(0, .int x2)]) dJ_bitCount_23 (by decide) rfl ?_
  refine j_iload_n hF 0 dJ_bitCount_24 rfl ?_
  refine j_iload_n hF 0 dJ_bitCount_25 rfl ?_
  refine j_iconst hF (v := 4) dJ_bitCount_26 (by decide) ?_
  refine j_iushr hF dJ_bitCount_27 ?_
  refine j_iadd hF dJ_bitCount_28 ?_
  refine j_ldc_w hF (v := 252645135) kc_JI_267 dJ_bitCount_29 ?_
  refine j_iand hF dJ_bitCount_32 ?_
  refine j_topi (fun x3 ex3 => ?_)
  replace h := bzLetE h ex3
  refine j_istore_n hF (lv1 := [(0, .int x3)]) dJ_bitCount_33 (by decide) rfl ?_
  refine j_iload_n hF 0 dJ_bitCount_34 rfl ?_
  refine j_iload_n hF 0 dJ_bitCount_35 rfl ?_
  refine j_bipush hF (v := 8) dJ_bitCount_36 (by decide) ?_
  refine j_iushr hF dJ_bitCount_38 ?_
  refine j_iadd hF dJ_bitCount_39 ?_
  refine j_topi (fun x4 ex4 => ?_)
  replace h := bzLetE h ex4
  refine j_istore_n hF (lv1 := [(0, .int x4)]) dJ_bitCount_40 (by decide) rfl ?_
  refine j_iload_n hF 0 dJ_bitCount_41 rfl ?_
  refine j_iload_n hF 0 dJ_bitCount_42 rfl ?_
  refine j_bipush hF (v := 16) dJ_bitCount_43 (by decide) ?_
  refine j_iushr hF dJ_bitCount_45 ?_
  refine j_iadd hF dJ_bitCount_46 ?_
  refine j_topi (fun x5 ex5 => ?_)
  replace h := bzLetE h ex5
  refine j_istore_n hF (lv1 := [(0, .int x5)]) dJ_bitCount_47 (by decide) rfl ?_
  refine j_iload_n hF 0 dJ_bitCount_48 rfl ?_
  refine j_bipush hF (v := 63) dJ_bitCount_49 (by decide) ?_
  refine j_iand hF dJ_bitCount_51 ?_
  exact j_iret hF hG dJ_bitCount_52  (Option.some.inj h) rfl
def fb_X1_tallOf_4 (K4 : Int32 → Int32 → Option Int32) (o : Nat) (a1 : Int32) (σ : bzS) (v2 : Int32) (v3 : Int32) : Option Int32 :=
  if 10 ≤ v3 then (some v2) else (bzGd (bzIn v3 10) (bzLet ((v2 + (((a1 >>> (v3 &&& 31)) &&& 1) * (σ (ly o 0) v3.toNatClampNeg)))) (fun x3 => bzLet (v3 + 1) (fun x4 => K4 x3 x4))))
def fl_X1_tallOf_4 (o : Nat) (a1 : Int32) (σ : bzS) : Nat → Int32 → Int32 → Option Int32
  | 0, _, _ => none
  | n + 1, v2, v3 => fb_X1_tallOf_4   (fl_X1_tallOf_4   o a1 σ n) o a1 σ v2 v3
def f_X1_tallOf (o : Nat) (a1 : Int32) (σ : bzS) : Option Int32 :=
  bzGd (kd o = 1) (fl_X1_tallOf_4 o a1 σ 2000 0 0)
set_option maxHeartbeats 4000000 in
set_option maxRecDepth 20000 in
theorem mt_X1_tallOf {g : bzGeo} {o : Nat} {a1 : Int32} {σ : bzS} {r0 : Int32} (l : Launch) (h : f_X1_tallOf  o a1 σ = some r0) : Met l yX1_tallOf (Cond.code yX1_tallOf cX1_tallOf 4 (some .int) :: GW) (bzR (1)) (va_Pc [.ref (ga g o), .int a1] (bzP g σ)) (va_Qi (fun (r : Int32) (u : bzS) => r = r0 ∧ u = σ) (bzB g) (gA g)) 0 0 (gA g) := by
  unfold f_X1_tallOf at h
  obtain ⟨ho, h⟩ := bzGdE h
  refine j_start l (by decide +kernel) [.ref (ga g o), .int a1] [(0, .ref (ga g o)), (1, .int a1)] (Nat.le_of_ble_eq_true rfl) rfl (fun x hF hG => ?_)
  have J4 : (K4 : Int32 → Int32 → Option Int32) → (hK4 : ∀ (v2 : Int32) (v3 : Int32), K4 v2 v3 = some r0 → bzJ g 4 x σ 4 [(0, .ref (ga g o)), (1, .int a1), (2, .int v2), (3, .int v3)] []) → ∀ (v2 : Int32) (v3 : Int32), fb_X1_tallOf_4 K4 o a1 σ v2 v3 = some r0 → bzJ g 4 x σ 4 [(0, .ref (ga g o)), (1, .int a1), (2, .int v2), (3, .int v3)] [] := by
    intro K4 hK4 v2 v3 h
    unfold fb_X1_tallOf_4 at h
    refine j_iload_n hF 3 dX1_tallOf_4 rfl ?_
    refine j_bipush hF (v := 10) dX1_tallOf_5 (by decide) ?_
    refine j_icmp_ge hF (tgt := 31) dX1_tallOf_7 (by decide) (fun c1 => ?_) (fun c1 => ?_)
    · replace h := bzIfT h c1
      refine j_iload_n hF 2 dX1_tallOf_31 rfl ?_
      exact j_iret hF hG dX1_tallOf_32 (Option.some.inj h) rfl
    · replace h := bzIfF h c1
      refine j_iload_n hF 2 dX1_tallOf_10 rfl ?_
      refine j_iload_n hF 1 dX1_tallOf_11 rfl ?_
      refine j_iload_n hF 3 dX1_tallOf_12 rfl ?_
      refine j_ishr hF dX1_tallOf_13 ?_
      refine j_iconst hF (v := 1) dX1_tallOf_14 (by decide) ?_
      refine j_iand hF dX1_tallOf_15 ?_
      refine j_aload_n hF 0 dX1_tallOf_16 rfl ?_
      refine gf_X1_7 hF ho dX1_tallOf_17 ?_
      refine j_iload_n hF 3 dX1_tallOf_20 rfl ?_
      obtain ⟨g2, h⟩ := bzGdE h
      refine j_iald hF (c := v3.toNatClampNeg) (kl_1_0 ho) (nl_1_0 ho) g2 rfl dX1_tallOf_21 ?_
      refine j_imul hF dX1_tallOf_22 ?_
      refine j_iadd hF dX1_tallOf_23 ?_
      refine j_topi (fun x3 ex3 => ?_)
      replace h := bzLetE h ex3
      refine j_istore_n hF (lv1 := [(2, .int x3), (0, .ref (ga g o)), (1, .int a1), (3, .int v3)]) dX1_tallOf_24 (by decide) rfl ?_
      obtain ⟨x4, ex4⟩ : ∃ y : Int32, y = v3 + 1 := ⟨_, rfl⟩
      replace h := bzLetE h ex4
      refine j_iinc hF (v := x4) (lv1 := [(3, .int x4), (2, .int x3), (0, .ref (ga g o)), (1, .int a1)]) 3 dX1_tallOf_25 rfl (by rw [ex4]; rfl) (by decide) rfl ?_
      refine j_goto hF (tgt := 4) dX1_tallOf_28 (by decide) ?_
      refine j_sub [2, 3, 1, 0] rfl ?_
      exact hK4 x3 x4 h
  have L4 : ∀ (n : Nat) (v2 : Int32) (v3 : Int32) , fl_X1_tallOf_4   o a1 σ n v2 v3 = some r0 → bzJ g 4 x σ 4 [(0, .ref (ga g o)), (1, .int a1), (2, .int v2), (3, .int v3)] [] := by
    intro  n
    induction n with
    | zero =>
      intro v2 v3   h
      cases h
    | succ n ih =>
      intro v2 v3   h
      exact J4  (fl_X1_tallOf_4   o a1 σ n) ih v2 v3   h
  refine j_iconst hF (v := 0) dX1_tallOf_0 (by decide) ?_
  refine j_istore_n hF (lv1 := [(2, .int 0), (0, .ref (ga g o)), (1, .int a1)]) dX1_tallOf_1 (by decide) rfl ?_
  refine j_iconst hF (v := 0) dX1_tallOf_2 (by decide) ?_
  refine j_istore_n hF (lv1 := [(3, .int 0), (2, .int 0), (0, .ref (ga g o)), (1, .int a1)]) dX1_tallOf_3 (by decide) rfl ?_
  refine j_sub [2, 3, 1, 0] rfl ?_
  exact L4 2000 0 0 h
def fb_X1_leastStair_47 (K15 : Int32 → Int32 → Int32 → Int32 → Option Int32) (o : Nat) (a1 : Int32) (σ : bzS) (v2 : Int32) (v3 : Int32) (v4 : Int32) (v5 : Int32) (s0 : Int32) : Option Int32 :=
  if s0 = 0 then (bzLet (v5 + 1) (fun x6 => K15 v2 v3 v4 x6)) else (bzBd (f_X1_tallOf o v5 σ) (fun x8 => if x8 < (σ o 5) then (bzLet (v5 + 1) (fun x10 => K15 v2 v3 v4 x10)) else (bzBd (f_J_bitCount v5) (fun x12 => bzLet (v5 + 1) (fun x13 => K15 v2 v5 x12 x13)))))
def fb_X1_leastStair_15 (K15 : Int32 → Int32 → Int32 → Int32 → Option Int32) (o : Nat) (a1 : Int32) (σ : bzS) (v2 : Int32) (v3 : Int32) (v4 : Int32) (v5 : Int32) : Option Int32 :=
  if 1024 ≤ v5 then (some v3) else (if (v5 &&& (v2 ^^^ (-1))) = 0 then (bzBd (f_J_bitCount v5) (fun x15 => if v4 ≤ x15 then (fb_X1_leastStair_47 K15 o a1 σ v2 v3 v4 v5 0) else (fb_X1_leastStair_47 K15 o a1 σ v2 v3 v4 v5 1))) else (fb_X1_leastStair_47 K15 o a1 σ v2 v3 v4 v5 0))
def fl_X1_leastStair_15 (o : Nat) (a1 : Int32) (σ : bzS) : Nat → Int32 → Int32 → Int32 → Int32 → Option Int32
  | 0, _, _, _, _ => none
  | n + 1, v2, v3, v4, v5 => fb_X1_leastStair_15   (fl_X1_leastStair_15   o a1 σ n) o a1 σ v2 v3 v4 v5
def f_X1_leastStair (o : Nat) (a1 : Int32) (σ : bzS) : Option Int32 :=
  bzGd (kd o = 1) (bzBd (f_X1_goodSteps o a1 σ) (fun x2 => fl_X1_leastStair_15 o a1 σ 2000 x2 ((-1)) 11 0))
set_option maxHeartbeats 4000000 in
set_option maxRecDepth 20000 in
theorem mt_X1_leastStair {g : bzGeo} {o : Nat} {a1 : Int32} {σ : bzS} {r0 : Int32} (l : Launch) (h : f_X1_leastStair  o a1 σ = some r0) : Met l yX1_leastStair (Cond.code yX1_leastStair cX1_leastStair 7 (some .int) :: GW) (bzR (4)) (va_Pc [.ref (ga g o), .int a1] (bzP g σ)) (va_Qi (fun (r : Int32) (u : bzS) => r = r0 ∧ u = σ) (bzB g) (gA g)) 0 0 (gA g) := by
  unfold f_X1_leastStair at h
  obtain ⟨ho, h⟩ := bzGdE h
  refine j_start l (by decide +kernel) [.ref (ga g o), .int a1] [(0, .ref (ga g o)), (1, .int a1)] (Nat.le_of_ble_eq_true rfl) rfl (fun x hF hG => ?_)
  have J47 : (K15 : Int32 → Int32 → Int32 → Int32 → Option Int32) → (hK15 : ∀ (v2 : Int32) (v3 : Int32) (v4 : Int32) (v5 : Int32), K15 v2 v3 v4 v5 = some r0 → bzJ g 7 x σ 15 [(0, .ref (ga g o)), (1, .int a1), (2, .int v2), (3, .int v3), (4, .int v4), (5, .int v5)] []) → ∀ (v2 : Int32) (v3 : Int32) (v4 : Int32) (v5 : Int32) (s0 : Int32), fb_X1_leastStair_47 K15 o a1 σ v2 v3 v4 v5 s0 = some r0 → bzJ g 7 x σ 47 [(0, .ref (ga g o)), (1, .int a1), (2, .int v2), (3, .int v3), (4, .int v4), (5, .int v5)] [.int s0] := by
    intro K15 hK15 v2 v3 v4 v5 s0 h
    unfold fb_X1_leastStair_47 at h
    refine j_istore hF (lv1 := [(6, .int s0), (0, .ref (ga g o)), (1, .int a1), (2, .int v2), (3, .int v3), (4, .int v4), (5, .int v5)]) dX1_leastStair_47 (by decide) rfl ?_
    refine j_iload hF 0 dX1_leastStair_49 rfl ?_
    refine j_if_eq hF (tgt := 77) dX1_leastStair_51 (by decide) (fun c5 => ?_) (fun c5 => ?_)
    · replace h := bzIfT h c5
      obtain ⟨x6, ex6⟩ : ∃ y : Int32, y = v5 + 1 := ⟨_, rfl⟩
      replace h := bzLetE h ex6
      refine j_iinc hF (v := x6) (lv1 := [(5, .int x6), (6, .int s0), (0, .ref (ga g o)), (1, .int a1), (2, .int v2), (3, .int v3), (4, .int v4)]) 6 dX1_leastStair_77 rfl (by rw [ex6]; rfl) (by decide) rfl ?_
      refine j_goto hF (tgt := 15) dX1_leastStair_80 (by decide) ?_
      refine j_sub [2, 3, 4, 5, 6, 0] rfl ?_
      exact hK15 v2 v3 v4 x6 h
    · replace h := bzIfF h c5
      refine j_aload_n hF 1 dX1_leastStair_54 rfl ?_
      refine j_iload hF 6 dX1_leastStair_55 rfl ?_
      obtain ⟨x8, e7, h⟩ := bzBdE h
      refine cs_X1_51 hF ho (fun l => mt_X1_tallOf l e7) (by decide) (Nat.le_of_ble_eq_true rfl) dX1_leastStair_57 ?_
      refine j_aload_n hF 1 dX1_leastStair_60 rfl ?_
      refine gf_X1_25 hF ho dX1_leastStair_61 ?_
      refine j_icmp_lt hF (tgt := 77) dX1_leastStair_64 (by decide) (fun c9 => ?_) (fun c9 => ?_)
      · replace h := bzIfT h c9
        obtain ⟨x10, ex10⟩ : ∃ y : Int32, y = v5 + 1 := ⟨_, rfl⟩
        replace h := bzLetE h ex10
        refine j_iinc hF (v := x10) (lv1 := [(5, .int x10), (6, .int s0), (0, .ref (ga g o)), (1, .int a1), (2, .int v2), (3, .int v3), (4, .int v4)]) 6 dX1_leastStair_77 rfl (by rw [ex10]; rfl) (by decide) rfl ?_
        refine j_goto hF (tgt := 15) dX1_leastStair_80 (by decide) ?_
        refine j_sub [2, 3, 4, 5, 6, 0] rfl ?_
        exact hK15 v2 v3 v4 x10 h
      · replace h := bzIfF h c9
        refine j_iload hF 6 dX1_leastStair_67 rfl ?_
        refine j_istore_n hF (lv1 := [(3, .int v5), (6, .int s0), (0, .ref (ga g o)), (1, .int a1), (2, .int v2), (4, .int v4), (5, .int v5)]) dX1_leastStair_69 (by decide) rfl ?_
        refine j_iload hF 6 dX1_leastStair_70 rfl ?_
        obtain ⟨x12, e11, h⟩ := bzBdE h
        refine cs_X1_46 hF (fun l => mt_J_bitCount l e11) (by decide) (Nat.le_of_ble_eq_true rfl) dX1_leastStair_72 ?_
        refine j_istore hF (lv1 := [(4, .int x12), (3, .int v5), (6, .int s0), (0, .ref (ga g o)), (1, .int a1), (2, .int v2), (5, .int v5)]) dX1_leastStair_75 (by decide) rfl ?_
        obtain ⟨x13, ex13⟩ : ∃ y : Int32, y = v5 + 1 := ⟨_, rfl⟩
        replace h := bzLetE h ex13
        refine j_iinc hF (v := x13) (lv1 := [(5, .int x13), (4, .int x12), (3, .int v5), (6, .int s0), (0, .ref (ga g o)), (1, .int a1), (2, .int v2)]) 6 dX1_leastStair_77 rfl (by rw [ex13]; rfl) (by decide) rfl ?_
        refine j_goto hF (tgt := 15) dX1_leastStair_80 (by decide) ?_
        refine j_sub [4, 5, 6, 2, 1, 0] rfl ?_
        exact hK15 v2 v5 x12 x13 h
  have J15 : (K15 : Int32 → Int32 → Int32 → Int32 → Option Int32) → (hK15 : ∀ (v2 : Int32) (v3 : Int32) (v4 : Int32) (v5 : Int32), K15 v2 v3 v4 v5 = some r0 → bzJ g 7 x σ 15 [(0, .ref (ga g o)), (1, .int a1), (2, .int v2), (3, .int v3), (4, .int v4), (5, .int v5)] []) → ∀ (v2 : Int32) (v3 : Int32) (v4 : Int32) (v5 : Int32), fb_X1_leastStair_15 K15 o a1 σ v2 v3 v4 v5 = some r0 → bzJ g 7 x σ 15 [(0, .ref (ga g o)), (1, .int a1), (2, .int v2), (3, .int v3), (4, .int v4), (5, .int v5)] [] := by
    intro K15 hK15 v2 v3 v4 v5 h
    unfold fb_X1_leastStair_15 at h
    refine j_iload hF 5 dX1_leastStair_15 rfl ?_
    refine j_sipush hF (v := 1024) dX1_leastStair_17 (by decide) ?_
    refine j_icmp_ge hF (tgt := 83) dX1_leastStair_20 (by decide) (fun c3 => ?_) (fun c3 => ?_)
    · replace h := bzIfT h c3
      refine j_iload_n hF 3 dX1_leastStair_83 rfl ?_
      exact j_iret hF hG dX1_leastStair_84 (Option.some.inj h) rfl
    · replace h := bzIfF h c3
      refine j_iload hF 5 dX1_leastStair_23 rfl ?_
      refine j_iload_n hF 2 dX1_leastStair_25 rfl ?_
      refine j_iconst hF (v := (-1)) dX1_leastStair_26 (by decide) ?_
      refine j_ixor hF dX1_leastStair_27 ?_
      refine j_iand hF dX1_leastStair_28 ?_
      refine j_if_ne hF (tgt := 46) dX1_leastStair_29 (by decide) (fun c4 => ?_) (fun c4 => ?_)
      · replace h := bzIfF h c4
        refine j_iconst hF (v := 0) dX1_leastStair_46 (by decide) ?_
        exact J47 K15 hK15 v2 v3 v4 v5 0 h
      · replace h := bzIfT h c4
        refine j_iload hF 5 dX1_leastStair_32 rfl ?_
        obtain ⟨x15, e14, h⟩ := bzBdE h
        refine cs_X1_46 hF (fun l => mt_J_bitCount l e14) (by decide) (Nat.le_of_ble_eq_true rfl) dX1_leastStair_34 ?_
        refine j_iload hF 4 dX1_leastStair_37 rfl ?_
        refine j_icmp_ge hF (tgt := 46) dX1_leastStair_39 (by decide) (fun c16 => ?_) (fun c16 => ?_)
        · replace h := bzIfT h c16
          refine j_iconst hF (v := 0) dX1_leastStair_46 (by decide) ?_
          exact J47 K15 hK15 v2 v3 v4 v5 0 h
        · replace h := bzIfF h c16
          refine j_iconst hF (v := 1) dX1_leastStair_42 (by decide) ?_
          refine j_goto hF (tgt := 47) dX1_leastStair_43 (by decide) ?_
          exact J47 K15 hK15 v2 v3 v4 v5 1 h
  have L15 : ∀ (n : Nat) (v2 : Int32) (v3 : Int32) (v4 : Int32) (v5 : Int32) , fl_X1_leastStair_15   o a1 σ n v2 v3 v4 v5 = some r0 → bzJ g 7 x σ 15 [(0, .ref (ga g o)), (1, .int a1), (2, .int v2), (3, .int v3), (4, .int v4), (5, .int v5)] [] := by
    intro  n
    induction n with
    | zero =>
      intro v2 v3 v4 v5   h
      cases h
    | succ n ih =>
      intro v2 v3 v4 v5   h
      exact J15  (fl_X1_leastStair_15   o a1 σ n) ih v2 v3 v4 v5   h
  refine j_aload_n hF 0 dX1_leastStair_0 rfl ?_
  refine j_iload_n hF 1 dX1_leastStair_1 rfl ?_
  obtain ⟨x2, e1, h⟩ := bzBdE h
  refine cs_X1_42 hF ho (fun l => mt_X1_goodSteps l e1) (by decide) (Nat.le_of_ble_eq_true rfl) dX1_leastStair_2 ?_
  refine j_istore_n hF (lv1 := [(2, .int x2), (0, .ref (ga g o)), (1, .int a1)]) dX1_leastStair_5 (by decide) rfl ?_
  refine j_iconst hF (v := (-1)) dX1_leastStair_6 (by decide) ?_
  refine j_istore_n hF (lv1 := [(3, .int (-1)), (2, .int x2), (0, .ref (ga g o)), (1, .int a1)]) dX1_leastStair_7 (by decide) rfl ?_
  refine j_bipush hF (v := 11) dX1_leastStair_8 (by decide) ?_
  refine j_istore hF (lv1 := [(4, .int 11), (3, .int (-1)), (2, .int x2), (0, .ref (ga g o)), (1, .int a1)]) dX1_leastStair_10 (by decide) rfl ?_
  refine j_iconst hF (v := 0) dX1_leastStair_12 (by decide) ?_
  refine j_istore hF (lv1 := [(5, .int 0), (4, .int 11), (3, .int (-1)), (2, .int x2), (0, .ref (ga g o)), (1, .int a1)]) dX1_leastStair_13 (by decide) rfl ?_
  refine j_sub [4, 5, 3, 2, 1, 0] rfl ?_
  exact L15 2000 x2 ((-1)) 11 0 h
def f_X9_stair (o : Nat) (a1 : Int32) (σ : bzS) : Option (Int32 × bzS) :=
  bzGd (kd o = 9) (bzBd (f_X9_within a1 0 1) (fun x2 => if x2 = 0 then (bzBp (f_X9_fails o ((-1000000001)) σ) (fun x16 σ17 => some (x16, σ17))) else (bzBd (f_X0_weight ((ly (ly o 0) 0)) σ) (fun x5 => bzBd (f_X1_leastStair ((ly (ly o 0) 1)) x5 σ) (fun x7 => if 0 ≤ x7 then (if a1 = 0 then (some (x7, σ)) else (bzBd (f_J_bitCount x7) (fun x11 => some (x11, σ)))) else (bzBp (f_X9_fails o ((-1000000002)) σ) (fun x13 σ14 => some (x13, σ14))))))))
set_option maxHeartbeats 4000000 in
set_option maxRecDepth 20000 in
theorem mt_X9_stair {g : bzGeo} {o : Nat} {a1 : Int32} {σ : bzS} {r0 : Int32} {σ0 : bzS} (l : Launch) (h : f_X9_stair  o a1 σ = some (r0, σ0)) : Met l yX9_stair (Cond.code yX9_stair cX9_stair 3 (some .int) :: GW) (bzR (5)) (va_Pc [.ref (ga g o), .int a1] (bzP g σ)) (va_Qi (fun (r : Int32) (u : bzS) => r = r0 ∧ u = σ0) (bzB g) (gA g)) 0 0 (gA g) := by
  unfold f_X9_stair at h
  obtain ⟨ho, h⟩ := bzGdE h
  refine j_start l (by decide +kernel) [.ref (ga g o), .int a1] [(0, .ref (ga g o)), (1, .int a1)] (Nat.le_of_ble_eq_true rfl) rfl (fun x hF hG => ?_)
  refine j_iload_n hF 1 dX9_stair_0 rfl ?_
  refine j_iconst hF (v := 0) dX9_stair_1 (by decide) ?_
  refine j_iconst hF (v := 1) dX9_stair_2 (by decide) ?_
  obtain ⟨x2, e1, h⟩ := bzBdE h
  refine cs_X9_66 hF (fun l => mt_X9_within l e1) (by decide) (Nat.le_of_ble_eq_true rfl) dX9_stair_3 ?_
  refine j_if_ne hF (tgt := 16) dX9_stair_6 (by decide) (fun c3 => ?_) (fun c3 => ?_)
  · replace h := bzIfF h c3
    refine j_aload_n hF 0 dX9_stair_16 rfl ?_
    refine gf_X9_12 hF ho dX9_stair_17 ?_
    refine gf_X9_95 hF (kl_9_0 ho) dX9_stair_20 ?_
    refine j_aload_n hF 0 dX9_stair_23 rfl ?_
    refine gf_X9_12 hF ho dX9_stair_24 ?_
    refine gf_X9_55 hF (kl_9_0 ho) dX9_stair_27 ?_
    obtain ⟨x5, e4, h⟩ := bzBdE h
    refine cs_X9_85 hF (kl_6_0 (kl_9_0 ho)) (fun l => mt_X0_weight l e4) (by decide) (Nat.le_of_ble_eq_true rfl) dX9_stair_30 ?_
    obtain ⟨x7, e6, h⟩ := bzBdE h
    refine cs_X9_240 hF (kl_6_1 (kl_9_0 ho)) (fun l => mt_X1_leastStair l e6) (by decide) (Nat.le_of_ble_eq_true rfl) dX9_stair_33 ?_
    refine j_istore_n hF (lv1 := [(2, .int x7), (0, .ref (ga g o)), (1, .int a1)]) dX9_stair_36 (by decide) rfl ?_
    refine j_iload_n hF 0 dX9_stair_37 rfl ?_
    refine j_if_ge hF (tgt := 48) dX9_stair_38 (by decide) (fun c8 => ?_) (fun c8 => ?_)
    · replace h := bzIfT h c8
      refine j_iload_n hF 2 dX9_stair_48 rfl ?_
      refine j_if_ne hF (tgt := 56) dX9_stair_49 (by decide) (fun c9 => ?_) (fun c9 => ?_)
      · replace h := bzIfF h c9
        refine j_iload_n hF 0 dX9_stair_56 rfl ?_
        obtain ⟨x11, e10, h⟩ := bzBdE h
        refine cs_X9_243 hF (fun l => mt_J_bitCount l e10) (by decide) (Nat.le_of_ble_eq_true rfl) dX9_stair_57 ?_
        exact j_iret hF hG dX9_stair_60  (bzRet h).1 (bzRet h).2
      · replace h := bzIfT h c9
        refine j_iload_n hF 0 dX9_stair_52 rfl ?_
        refine j_goto hF (tgt := 60) dX9_stair_53 (by decide) ?_
        exact j_iret hF hG dX9_stair_60  (bzRet h).1 (bzRet h).2
    · replace h := bzIfF h c8
      refine j_aload_n hF 1 dX9_stair_41 rfl ?_
      refine j_ldc hF (v := (-1000000002)) kc_X9_214 dX9_stair_42 ?_
      obtain ⟨x13, σ14, e12, h⟩ := bzBpE h
      refine cs_X9_71 hF ho (fun l => mt_X9_fails l e12) (by decide) (Nat.le_of_ble_eq_true rfl) dX9_stair_44 ?_
      exact j_iret hF hG dX9_stair_47  (bzRet h).1 (bzRet h).2
  · replace h := bzIfT h c3
    refine j_aload_n hF 0 dX9_stair_9 rfl ?_
    refine j_ldc hF (v := (-1000000001)) kc_X9_70 dX9_stair_10 ?_
    obtain ⟨x16, σ17, e15, h⟩ := bzBpE h
    refine cs_X9_71 hF ho (fun l => mt_X9_fails l e15) (by decide) (Nat.le_of_ble_eq_true rfl) dX9_stair_12 ?_
    exact j_iret hF hG dX9_stair_15  (bzRet h).1 (bzRet h).2
def fb_X1_exactStairs_11 (K11 : Int32 → Int32 → Int32 → Option Int32) (o : Nat) (a1 : Int32) (σ : bzS) (v2 : Int32) (v3 : Int32) (v4 : Int32) : Option Int32 :=
  if 1024 ≤ v4 then (some v3) else (if (v4 &&& (v2 ^^^ (-1))) = 0 then (bzBd (f_X1_tallOf o v4 σ) (fun x7 => if x7 = (σ o 5) then (bzLet (v3 + 1) (fun x10 => bzLet (v4 + 1) (fun x11 => K11 v2 x10 x11))) else (bzLet (v4 + 1) (fun x9 => K11 v2 v3 x9)))) else (bzLet (v4 + 1) (fun x5 => K11 v2 v3 x5)))
def fl_X1_exactStairs_11 (o : Nat) (a1 : Int32) (σ : bzS) : Nat → Int32 → Int32 → Int32 → Option Int32
  | 0, _, _, _ => none
  | n + 1, v2, v3, v4 => fb_X1_exactStairs_11   (fl_X1_exactStairs_11   o a1 σ n) o a1 σ v2 v3 v4
def f_X1_exactStairs (o : Nat) (a1 : Int32) (σ : bzS) : Option Int32 :=
  bzGd (kd o = 1) (bzBd (f_X1_goodSteps o a1 σ) (fun x2 => fl_X1_exactStairs_11 o a1 σ 2000 x2 0 0))
set_option maxHeartbeats 4000000 in
set_option maxRecDepth 20000 in
theorem mt_X1_exactStairs {g : bzGeo} {o : Nat} {a1 : Int32} {σ : bzS} {r0 : Int32} (l : Launch) (h : f_X1_exactStairs  o a1 σ = some r0) : Met l yX1_exactStairs (Cond.code yX1_exactStairs cX1_exactStairs 5 (some .int) :: GW) (bzR (4)) (va_Pc [.ref (ga g o), .int a1] (bzP g σ)) (va_Qi (fun (r : Int32) (u : bzS) => r = r0 ∧ u = σ) (bzB g) (gA g)) 0 0 (gA g) := by
  unfold f_X1_exactStairs at h
  obtain ⟨ho, h⟩ := bzGdE h
  refine j_start l (by decide +kernel) [.ref (ga g o), .int a1] [(0, .ref (ga g o)), (1, .int a1)] (Nat.le_of_ble_eq_true rfl) rfl (fun x hF hG => ?_)
  have J11 : (K11 : Int32 → Int32 → Int32 → Option Int32) → (hK11 : ∀ (v2 : Int32) (v3 : Int32) (v4 : Int32), K11 v2 v3 v4 = some r0 → bzJ g 5 x σ 11 [(0, .ref (ga g o)), (1, .int a1), (2, .int v2), (3, .int v3), (4, .int v4)] []) → ∀ (v2 : Int32) (v3 : Int32) (v4 : Int32), fb_X1_exactStairs_11 K11 o a1 σ v2 v3 v4 = some r0 → bzJ g 5 x σ 11 [(0, .ref (ga g o)), (1, .int a1), (2, .int v2), (3, .int v3), (4, .int v4)] [] := by
    intro K11 hK11 v2 v3 v4 h
    unfold fb_X1_exactStairs_11 at h
    refine j_iload hF 4 dX1_exactStairs_11 rfl ?_
    refine j_sipush hF (v := 1024) dX1_exactStairs_13 (by decide) ?_
    refine j_icmp_ge hF (tgt := 50) dX1_exactStairs_16 (by decide) (fun c3 => ?_) (fun c3 => ?_)
    · replace h := bzIfT h c3
      refine j_iload_n hF 3 dX1_exactStairs_50 rfl ?_
      exact j_iret hF hG dX1_exactStairs_51 (Option.some.inj h) rfl
    · replace h := bzIfF h c3
      refine j_iload hF 4 dX1_exactStairs_19 rfl ?_
      refine j_iload_n hF 2 dX1_exactStairs_21 rfl ?_
      refine j_iconst hF (v := (-1)) dX1_exactStairs_22 (by decide) ?_
      refine j_ixor hF dX1_exactStairs_23 ?_
      refine j_iand hF dX1_exactStairs_24 ?_
      refine j_if_ne hF (tgt := 44) dX1_exactStairs_25 (by decide) (fun c4 => ?_) (fun c4 => ?_)
      · replace h := bzIfF h c4
        obtain ⟨x5, ex5⟩ : ∃ y : Int32, y = v4 + 1 := ⟨_, rfl⟩
        replace h := bzLetE h ex5
        refine j_iinc hF (v := x5) (lv1 := [(4, .int x5), (0, .ref (ga g o)), (1, .int a1), (2, .int v2), (3, .int v3)]) 4 dX1_exactStairs_44 rfl (by rw [ex5]; rfl) (by decide) rfl ?_
        refine j_goto hF (tgt := 11) dX1_exactStairs_47 (by decide) ?_
        refine j_sub [1, 2, 3, 4, 0] rfl ?_
        exact hK11 v2 v3 x5 h
      · replace h := bzIfT h c4
        refine j_aload_n hF 0 dX1_exactStairs_28 rfl ?_
        refine j_iload hF 4 dX1_exactStairs_29 rfl ?_
        obtain ⟨x7, e6, h⟩ := bzBdE h
        refine cs_X1_51 hF ho (fun l => mt_X1_tallOf l e6) (by decide) (Nat.le_of_ble_eq_true rfl) dX1_exactStairs_31 ?_
        refine j_aload_n hF 0 dX1_exactStairs_34 rfl ?_
        refine gf_X1_25 hF ho dX1_exactStairs_35 ?_
        refine j_icmp_ne hF (tgt := 44) dX1_exactStairs_38 (by decide) (fun c8 => ?_) (fun c8 => ?_)
        · replace h := bzIfF h c8
          obtain ⟨x9, ex9⟩ : ∃ y : Int32, y = v4 + 1 := ⟨_, rfl⟩
          replace h := bzLetE h ex9
          refine j_iinc hF (v := x9) (lv1 := [(4, .int x9), (0, .ref (ga g o)), (1, .int a1), (2, .int v2), (3, .int v3)]) 4 dX1_exactStairs_44 rfl (by rw [ex9]; rfl) (by decide) rfl ?_
          refine j_goto hF (tgt := 11) dX1_exactStairs_47 (by decide) ?_
          refine j_sub [1, 2, 3, 4, 0] rfl ?_
          exact hK11 v2 v3 x9 h
        · replace h := bzIfT h c8
          obtain ⟨x10, ex10⟩ : ∃ y : Int32, y = v3 + 1 := ⟨_, rfl⟩
          replace h := bzLetE h ex10
          refine j_iinc hF (v := x10) (lv1 := [(3, .int x10), (0, .ref (ga g o)), (1, .int a1), (2, .int v2), (4, .int v4)]) 3 dX1_exactStairs_41 rfl (by rw [ex10]; rfl) (by decide) rfl ?_
          obtain ⟨x11, ex11⟩ : ∃ y : Int32, y = v4 + 1 := ⟨_, rfl⟩
          replace h := bzLetE h ex11
          refine j_iinc hF (v := x11) (lv1 := [(4, .int x11), (3, .int x10), (0, .ref (ga g o)), (1, .int a1), (2, .int v2)]) 4 dX1_exactStairs_44 rfl (by rw [ex11]; rfl) (by decide) rfl ?_
          refine j_goto hF (tgt := 11) dX1_exactStairs_47 (by decide) ?_
          refine j_sub [2, 3, 4, 1, 0] rfl ?_
          exact hK11 v2 x10 x11 h
  have L11 : ∀ (n : Nat) (v2 : Int32) (v3 : Int32) (v4 : Int32) , fl_X1_exactStairs_11   o a1 σ n v2 v3 v4 = some r0 → bzJ g 5 x σ 11 [(0, .ref (ga g o)), (1, .int a1), (2, .int v2), (3, .int v3), (4, .int v4)] [] := by
    intro  n
    induction n with
    | zero =>
      intro v2 v3 v4   h
      cases h
    | succ n ih =>
      intro v2 v3 v4   h
      exact J11  (fl_X1_exactStairs_11   o a1 σ n) ih v2 v3 v4   h
  refine j_aload_n hF 0 dX1_exactStairs_0 rfl ?_
  refine j_iload_n hF 1 dX1_exactStairs_1 rfl ?_
  obtain ⟨x2, e1, h⟩ := bzBdE h
  refine cs_X1_42 hF ho (fun l => mt_X1_goodSteps l e1) (by decide) (Nat.le_of_ble_eq_true rfl) dX1_exactStairs_2 ?_
  refine j_istore_n hF (lv1 := [(2, .int x2), (0, .ref (ga g o)), (1, .int a1)]) dX1_exactStairs_5 (by decide) rfl ?_
  refine j_iconst hF (v := 0) dX1_exactStairs_6 (by decide) ?_
  refine j_istore_n hF (lv1 := [(3, .int 0), (2, .int x2), (0, .ref (ga g o)), (1, .int a1)]) dX1_exactStairs_7 (by decide) rfl ?_
  refine j_iconst hF (v := 0) dX1_exactStairs_8 (by decide) ?_
  refine j_istore hF (lv1 := [(4, .int 0), (3, .int 0), (2, .int x2), (0, .ref (ga g o)), (1, .int a1)]) dX1_exactStairs_9 (by decide) rfl ?_
  refine j_sub [3, 4, 2, 1, 0] rfl ?_
  exact L11 2000 x2 0 0 h
def f_X9_exact (o : Nat) (σ : bzS) : Option Int32 :=
  bzGd (kd o = 9) (bzBd (f_X0_weight ((ly (ly o 0) 0)) σ) (fun x2 => bzBd (f_X1_exactStairs ((ly (ly o 0) 1)) x2 σ) (fun x4 => some x4)))
set_option maxHeartbeats 4000000 in
set_option maxRecDepth 20000 in
theorem mt_X9_exact {g : bzGeo} {o : Nat} {σ : bzS} {r0 : Int32} (l : Launch) (h : f_X9_exact  o σ = some r0) : Met l yX9_exact (Cond.code yX9_exact cX9_exact 1 (some .int) :: GW) (bzR (5)) (va_Pc [.ref (ga g o)] (bzP g σ)) (va_Qi (fun (r : Int32) (u : bzS) => r = r0 ∧ u = σ) (bzB g) (gA g)) 0 0 (gA g) := by
  unfold f_X9_exact at h
  obtain ⟨ho, h⟩ := bzGdE h
  refine j_start l (by decide +kernel) [.ref (ga g o)] [(0, .ref (ga g o))] (Nat.le_of_ble_eq_true rfl) rfl (fun x hF hG => ?_)
  refine j_aload_n hF 0 dX9_exact_0 rfl ?_
  refine gf_X9_12 hF ho dX9_exact_1 ?_
  refine gf_X9_95 hF (kl_9_0 ho) dX9_exact_4 ?_
  refine j_aload_n hF 0 dX9_exact_7 rfl ?_
  refine gf_X9_12 hF ho dX9_exact_8 ?_
  refine gf_X9_55 hF (kl_9_0 ho) dX9_exact_11 ?_
  obtain ⟨x2, e1, h⟩ := bzBdE h
  refine cs_X9_85 hF (kl_6_0 (kl_9_0 ho)) (fun l => mt_X0_weight l e1) (by decide) (Nat.le_of_ble_eq_true rfl) dX9_exact_14 ?_
  obtain ⟨x4, e3, h⟩ := bzBdE h
  refine cs_X9_248 hF (kl_6_1 (kl_9_0 ho)) (fun l => mt_X1_exactStairs l e3) (by decide) (Nat.le_of_ble_eq_true rfl) dX9_exact_17 ?_
  exact j_iret hF hG dX9_exact_20  (Option.some.inj h) rfl
def f_X1_treesOfRow (o : Nat) (a1 : Int32) (σ : bzS) : Option Int32 :=
  bzGd (kd o = 1) (bzBd (f_X9_isPlace a1 ((ly o 2))) (fun x2 => if x2 = 0 then (some 0) else (bzGd (bzIn a1 8) (bzBd (f_J_bitCount ((σ (ly o 2) a1.toNatClampNeg))) (fun x6 => some x6)))))
set_option maxHeartbeats 4000000 in
set_option maxRecDepth 20000 in
theorem mt_X1_treesOfRow {g : bzGeo} {o : Nat} {a1 : Int32} {σ : bzS} {r0 : Int32} (l : Launch) (h : f_X1_treesOfRow  o a1 σ = some r0) : Met l yX1_treesOfRow (Cond.code yX1_treesOfRow cX1_treesOfRow 2 (some .int) :: GW) (bzR (2)) (va_Pc [.ref (ga g o), .int a1] (bzP g σ)) (va_Qi (fun (r : Int32) (u : bzS) => r = r0 ∧ u = σ) (bzB g) (gA g)) 0 0 (gA g) := by
  unfold f_X1_treesOfRow at h
  obtain ⟨ho, h⟩ := bzGdE h
  refine j_start l (by decide +kernel) [.ref (ga g o), .int a1] [(0, .ref (ga g o)), (1, .int a1)] (Nat.le_of_ble_eq_true rfl) rfl (fun x hF hG => ?_)
  refine j_iload_n hF 1 dX1_treesOfRow_0 rfl ?_
  refine j_aload_n hF 0 dX1_treesOfRow_1 rfl ?_
  refine gf_X1_16 hF ho dX1_treesOfRow_2 ?_
  obtain ⟨x2, e1, h⟩ := bzBdE h
  refine cs_X1_32 hF (fun l => mt_X9_isPlace l e1) (by decide) (Nat.le_of_ble_eq_true rfl) dX1_treesOfRow_5 ?_
  refine j_if_eq hF (tgt := 23) dX1_treesOfRow_8 (by decide) (fun c3 => ?_) (fun c3 => ?_)
  · replace h := bzIfT h c3
    refine j_iconst hF (v := 0) dX1_treesOfRow_23 (by decide) ?_
    exact j_iret hF hG dX1_treesOfRow_24  (Option.some.inj h) rfl
  · replace h := bzIfF h c3
    refine j_aload_n hF 0 dX1_treesOfRow_11 rfl ?_
    refine gf_X1_16 hF ho dX1_treesOfRow_12 ?_
    refine j_iload_n hF 1 dX1_treesOfRow_15 rfl ?_
    obtain ⟨g4, h⟩ := bzGdE h
    refine j_iald hF (c := a1.toNatClampNeg) (kl_1_2 ho) (nl_1_2 ho) g4 rfl dX1_treesOfRow_16 ?_
    obtain ⟨x6, e5, h⟩ := bzBdE h
    refine cs_X1_46 hF (fun l => mt_J_bitCount l e5) (by decide) (Nat.le_of_ble_eq_true rfl) dX1_treesOfRow_17 ?_
    refine j_goto hF (tgt := 24) dX1_treesOfRow_20 (by decide) ?_
    exact j_iret hF hG dX1_treesOfRow_24  (Option.some.inj h) rfl
def f_X1_treeAt (o : Nat) (a1 : Int32) (a2 : Int32) (σ : bzS) : Option Int32 :=
  bzGd (kd o = 1) (bzBd (f_X9_isPlace a1 ((ly o 2))) (fun x2 => if x2 = 0 then (some 0) else (bzBd (f_X9_within a2 0 7) (fun x6 => if x6 = 0 then (some 0) else (bzGd (bzIn a1 8) (some ((((σ (ly o 2) a1.toNatClampNeg) >>> (a2 &&& 31)) &&& 1))))))))
set_option maxHeartbeats 4000000 in
set_option maxRecDepth 20000 in
theorem mt_X1_treeAt {g : bzGeo} {o : Nat} {a1 : Int32} {a2 : Int32} {σ : bzS} {r0 : Int32} (l : Launch) (h : f_X1_treeAt  o a1 a2 σ = some r0) : Met l yX1_treeAt (Cond.code yX1_treeAt cX1_treeAt 4 (some .int) :: GW) (bzR (2)) (va_Pc [.ref (ga g o), .int a1, .int a2] (bzP g σ)) (va_Qi (fun (r : Int32) (u : bzS) => r = r0 ∧ u = σ) (bzB g) (gA g)) 0 0 (gA g) := by
  unfold f_X1_treeAt at h
  obtain ⟨ho, h⟩ := bzGdE h
  refine j_start l (by decide +kernel) [.ref (ga g o), .int a1, .int a2] [(0, .ref (ga g o)), (1, .int a1), (2, .int a2)] (Nat.le_of_ble_eq_true rfl) rfl (fun x hF hG => ?_)
  refine j_iload_n hF 1 dX1_treeAt_0 rfl ?_
  refine j_aload_n hF 0 dX1_treeAt_1 rfl ?_
  refine gf_X1_16 hF ho dX1_treeAt_2 ?_
  obtain ⟨x2, e1, h⟩ := bzBdE h
  refine cs_X1_32 hF (fun l => mt_X9_isPlace l e1) (by decide) (Nat.le_of_ble_eq_true rfl) dX1_treeAt_5 ?_
  refine j_if_eq hF (tgt := 25) dX1_treeAt_8 (by decide) (fun c3 => ?_) (fun c3 => ?_)
  · replace h := bzIfT h c3
    refine j_iconst hF (v := 0) dX1_treeAt_25 (by decide) ?_
    refine j_istore_n hF (lv1 := [(3, .int 0), (0, .ref (ga g o)), (1, .int a1), (2, .int a2)]) dX1_treeAt_26 (by decide) rfl ?_
    refine j_iload_n hF 0 dX1_treeAt_27 rfl ?_
    refine j_if_eq hF (tgt := 44) dX1_treeAt_28 (by decide) (fun c4 => ?_) (fun c4 => absurd c4 (by decide))
    refine j_iconst hF (v := 0) dX1_treeAt_44 (by decide) ?_
    exact j_iret hF hG dX1_treeAt_45  (Option.some.inj h) rfl
  · replace h := bzIfF h c3
    refine j_iload_n hF 2 dX1_treeAt_11 rfl ?_
    refine j_iconst hF (v := 0) dX1_treeAt_12 (by decide) ?_
    refine j_bipush hF (v := 7) dX1_treeAt_13 (by decide) ?_
    obtain ⟨x6, e5, h⟩ := bzBdE h
    refine cs_X1_68 hF (fun l => mt_X9_within l e5) (by decide) (Nat.le_of_ble_eq_true rfl) dX1_treeAt_15 ?_
    refine j_if_eq hF (tgt := 25) dX1_treeAt_18 (by decide) (fun c7 => ?_) (fun c7 => ?_)
    · replace h := bzIfT h c7
      refine j_iconst hF (v := 0) dX1_treeAt_25 (by decide) ?_
      refine j_istore_n hF (lv1 := [(3, .int 0), (0, .ref (ga g o)), (1, .int a1), (2, .int a2)]) dX1_treeAt_26 (by decide) rfl ?_
      refine j_iload_n hF 0 dX1_treeAt_27 rfl ?_
      refine j_if_eq hF (tgt := 44) dX1_treeAt_28 (by decide) (fun c8 => ?_) (fun c8 => absurd c8 (by decide))
      refine j_iconst hF (v := 0) dX1_treeAt_44 (by decide) ?_
      exact j_iret hF hG dX1_treeAt_45  (Option.some.inj h) rfl
    · replace h := bzIfF h c7
      refine j_iconst hF (v := 1) dX1_treeAt_21 (by decide) ?_
      refine j_goto hF (tgt := 26) dX1_treeAt_22 (by decide) ?_
      refine j_istore_n hF (lv1 := [(3, .int 1), (0, .ref (ga g o)), (1, .int a1), (2, .int a2)]) dX1_treeAt_26 (by decide) rfl ?_
      refine j_iload_n hF 0 dX1_treeAt_27 rfl ?_
      refine j_if_eq hF (tgt := 44) dX1_treeAt_28 (by decide) (fun c9 => absurd c9 (by decide)) (fun c9 => ?_)
      refine j_aload_n hF 1 dX1_treeAt_31 rfl ?_
      refine gf_X1_16 hF ho dX1_treeAt_32 ?_
      refine j_iload_n hF 2 dX1_treeAt_35 rfl ?_
      obtain ⟨g10, h⟩ := bzGdE h
      refine j_iald hF (c := a1.toNatClampNeg) (kl_1_2 ho) (nl_1_2 ho) g10 rfl dX1_treeAt_36 ?_
      refine j_iload_n hF 3 dX1_treeAt_37 rfl ?_
      refine j_ishr hF dX1_treeAt_38 ?_
      refine j_iconst hF (v := 1) dX1_treeAt_39 (by decide) ?_
      refine j_iand hF dX1_treeAt_40 ?_
      refine j_goto hF (tgt := 45) dX1_treeAt_41 (by decide) ?_
      exact j_iret hF hG dX1_treeAt_45  (Option.some.inj h) rfl
def fb_X1_treesOfLine_4 (K4 : Int32 → Int32 → Option Int32) (o : Nat) (a1 : Int32) (σ : bzS) (v2 : Int32) (v3 : Int32) : Option Int32 :=
  if 8 ≤ v3 then (some v2) else (bzBd (f_X1_treeAt o v3 a1 σ) (fun x3 => bzLet ((v2 + x3)) (fun x4 => bzLet (v3 + 1) (fun x5 => K4 x4 x5))))
def fl_X1_treesOfLine_4 (o : Nat) (a1 : Int32) (σ : bzS) : Nat → Int32 → Int32 → Option Int32
  | 0, _, _ => none
  | n + 1, v2, v3 => fb_X1_treesOfLine_4   (fl_X1_treesOfLine_4   o a1 σ n) o a1 σ v2 v3
def f_X1_treesOfLine (o : Nat) (a1 : Int32) (σ : bzS) : Option Int32 :=
  bzGd (kd o = 1) (fl_X1_treesOfLine_4 o a1 σ 2000 0 0)
set_option maxHeartbeats 4000000 in
set_option maxRecDepth 20000 in
theorem mt_X1_treesOfLine {g : bzGeo} {o : Nat} {a1 : Int32} {σ : bzS} {r0 : Int32} (l : Launch) (h : f_X1_treesOfLine  o a1 σ = some r0) : Met l yX1_treesOfLine (Cond.code yX1_treesOfLine cX1_treesOfLine 4 (some .int) :: GW) (bzR (3)) (va_Pc [.ref (ga g o), .int a1] (bzP g σ)) (va_Qi (fun (r : Int32) (u : bzS) => r = r0 ∧ u = σ) (bzB g) (gA g)) 0 0 (gA g) := by
  unfold f_X1_treesOfLine at h
  obtain ⟨ho, h⟩ := bzGdE h
  refine j_start l (by decide +kernel) [.ref (ga g o), .int a1] [(0, .ref (ga g o)), (1, .int a1)] (Nat.le_of_ble_eq_true rfl) rfl (fun x hF hG => ?_)
  have J4 : (K4 : Int32 → Int32 → Option Int32) → (hK4 : ∀ (v2 : Int32) (v3 : Int32), K4 v2 v3 = some r0 → bzJ g 4 x σ 4 [(0, .ref (ga g o)), (1, .int a1), (2, .int v2), (3, .int v3)] []) → ∀ (v2 : Int32) (v3 : Int32), fb_X1_treesOfLine_4 K4 o a1 σ v2 v3 = some r0 → bzJ g 4 x σ 4 [(0, .ref (ga g o)), (1, .int a1), (2, .int v2), (3, .int v3)] [] := by
    intro K4 hK4 v2 v3 h
    unfold fb_X1_treesOfLine_4 at h
    refine j_iload_n hF 3 dX1_treesOfLine_4 rfl ?_
    refine j_bipush hF (v := 8) dX1_treesOfLine_5 (by decide) ?_
    refine j_icmp_ge hF (tgt := 25) dX1_treesOfLine_7 (by decide) (fun c1 => ?_) (fun c1 => ?_)
    · replace h := bzIfT h c1
      refine j_iload_n hF 2 dX1_treesOfLine_25 rfl ?_
      exact j_iret hF hG dX1_treesOfLine_26 (Option.some.inj h) rfl
    · replace h := bzIfF h c1
      refine j_iload_n hF 2 dX1_treesOfLine_10 rfl ?_
      refine j_aload_n hF 0 dX1_treesOfLine_11 rfl ?_
      refine j_iload_n hF 3 dX1_treesOfLine_12 rfl ?_
      refine j_iload_n hF 1 dX1_treesOfLine_13 rfl ?_
      obtain ⟨x3, e2, h⟩ := bzBdE h
      refine cs_X1_81 hF ho (fun l => mt_X1_treeAt l e2) (by decide) (Nat.le_of_ble_eq_true rfl) dX1_treesOfLine_14 ?_
      refine j_iadd hF dX1_treesOfLine_17 ?_
      refine j_topi (fun x4 ex4 => ?_)
      replace h := bzLetE h ex4
      refine j_istore_n hF (lv1 := [(2, .int x4), (0, .ref (ga g o)), (1, .int a1), (3, .int v3)]) dX1_treesOfLine_18 (by decide) rfl ?_
      obtain ⟨x5, ex5⟩ : ∃ y : Int32, y = v3 + 1 := ⟨_, rfl⟩
      replace h := bzLetE h ex5
      refine j_iinc hF (v := x5) (lv1 := [(3, .int x5), (2, .int x4), (0, .ref (ga g o)), (1, .int a1)]) 3 dX1_treesOfLine_19 rfl (by rw [ex5]; rfl) (by decide) rfl ?_
      refine j_goto hF (tgt := 4) dX1_treesOfLine_22 (by decide) ?_
      refine j_sub [2, 3, 1, 0] rfl ?_
      exact hK4 x4 x5 h
  have L4 : ∀ (n : Nat) (v2 : Int32) (v3 : Int32) , fl_X1_treesOfLine_4   o a1 σ n v2 v3 = some r0 → bzJ g 4 x σ 4 [(0, .ref (ga g o)), (1, .int a1), (2, .int v2), (3, .int v3)] [] := by
    intro  n
    induction n with
    | zero =>
      intro v2 v3   h
      cases h
    | succ n ih =>
      intro v2 v3   h
      exact J4  (fl_X1_treesOfLine_4   o a1 σ n) ih v2 v3   h
  refine j_iconst hF (v := 0) dX1_treesOfLine_0 (by decide) ?_
  refine j_istore_n hF (lv1 := [(2, .int 0), (0, .ref (ga g o)), (1, .int a1)]) dX1_treesOfLine_1 (by decide) rfl ?_
  refine j_iconst hF (v := 0) dX1_treesOfLine_2 (by decide) ?_
  refine j_istore_n hF (lv1 := [(3, .int 0), (2, .int 0), (0, .ref (ga g o)), (1, .int a1)]) dX1_treesOfLine_3 (by decide) rfl ?_
  refine j_sub [2, 3, 1, 0] rfl ?_
  exact L4 2000 0 0 h
def fb_X1_treesNextTo_26 (K13 : Int32 → Int32 → Option Int32) (K26 : Int32 → Int32 → Int32 → Option Int32) (o : Nat) (a1 : Int32) (a2 : Int32) (σ : bzS) (v3 : Int32) (v4 : Int32) (v5 : Int32) : Option Int32 :=
  if (a2 + 1) < v5 then (bzLet (v4 + 1) (fun x8 => K13 v3 x8)) else (bzBd (f_X1_treeAt o v4 v5 σ) (fun x10 => bzLet ((v3 + x10)) (fun x11 => bzLet (v5 + 1) (fun x12 => K26 x11 v4 x12))))
def fl_X1_treesNextTo_26 (K13 : Int32 → Int32 → Option Int32) (o : Nat) (a1 : Int32) (a2 : Int32) (σ : bzS) : Nat → Int32 → Int32 → Int32 → Option Int32
  | 0, _, _, _ => none
  | n + 1, v3, v4, v5 => fb_X1_treesNextTo_26  K13 (fl_X1_treesNextTo_26  K13 o a1 a2 σ n) o a1 a2 σ v3 v4 v5
def fb_X1_treesNextTo_13 (K13 : Int32 → Int32 → Option Int32) (o : Nat) (a1 : Int32) (a2 : Int32) (σ : bzS) (v3 : Int32) (v4 : Int32) : Option Int32 :=
  if (a1 + 1) < v4 then (some v3) else (bzLet ((a2 - 1)) (fun x6 => fl_X1_treesNextTo_26 K13 o a1 a2 σ 2000 v3 v4 x6))
def fl_X1_treesNextTo_13 (o : Nat) (a1 : Int32) (a2 : Int32) (σ : bzS) : Nat → Int32 → Int32 → Option Int32
  | 0, _, _ => none
  | n + 1, v3, v4 => fb_X1_treesNextTo_13   (fl_X1_treesNextTo_13   o a1 a2 σ n) o a1 a2 σ v3 v4
def f_X1_treesNextTo (o : Nat) (a1 : Int32) (a2 : Int32) (σ : bzS) : Option Int32 :=
  bzGd (kd o = 1) (bzBd (f_X1_treeAt o a1 a2 σ) (fun x2 => bzLet ((-x2)) (fun x3 => bzLet ((a1 - 1)) (fun x4 => fl_X1_treesNextTo_13 o a1 a2 σ 2000 x3 x4))))
set_option maxHeartbeats 4000000 in
set_option maxRecDepth 20000 in
theorem mt_X1_treesNextTo {g : bzGeo} {o : Nat} {a1 : Int32} {a2 : Int32} {σ : bzS} {r0 : Int32} (l : Launch) (h : f_X1_treesNextTo  o a1 a2 σ = some r0) : Met l yX1_treesNextTo (Cond.code yX1_treesNextTo cX1_treesNextTo 6 (some .int) :: GW) (bzR (3)) (va_Pc [.ref (ga g o), .int a1, .int a2] (bzP g σ)) (va_Qi (fun (r : Int32) (u : bzS) => r = r0 ∧ u = σ) (bzB g) (gA g)) 0 0 (gA g) := by
  unfold f_X1_treesNextTo at h
  obtain ⟨ho, h⟩ := bzGdE h
  refine j_start l (by decide +kernel) [.ref (ga g o), .int a1, .int a2] [(0, .ref (ga g o)), (1, .int a1), (2, .int a2)] (Nat.le_of_ble_eq_true rfl) rfl (fun x hF hG => ?_)
  have J26 : (K13 : Int32 → Int32 → Option Int32) → (hK13 : ∀ (v3 : Int32) (v4 : Int32), K13 v3 v4 = some r0 → bzJ g 6 x σ 13 [(0, .ref (ga g o)), (1, .int a1), (2, .int a2), (3, .int v3), (4, .int v4)] []) → (K26 : Int32 → Int32 → Int32 → Option Int32) → (hK26 : ∀ (v3 : Int32) (v4 : Int32) (v5 : Int32), K26 v3 v4 v5 = some r0 → bzJ g 6 x σ 26 [(0, .ref (ga g o)), (1, .int a1), (2, .int a2), (3, .int v3), (4, .int v4), (5, .int v5)] []) → ∀ (v3 : Int32) (v4 : Int32) (v5 : Int32), fb_X1_treesNextTo_26 K13 K26 o a1 a2 σ v3 v4 v5 = some r0 → bzJ g 6 x σ 26 [(0, .ref (ga g o)), (1, .int a1), (2, .int a2), (3, .int v3), (4, .int v4), (5, .int v5)] [] := by
    intro K13 hK13 K26 hK26 v3 v4 v5 h
    unfold fb_X1_treesNextTo_26 at h
    refine j_iload hF 5 dX1_treesNextTo_26 rfl ?_
    refine j_iload_n hF 2 dX1_treesNextTo_28 rfl ?_
    refine j_iconst hF (v := 1) dX1_treesNextTo_29 (by decide) ?_
    refine j_iadd hF dX1_treesNextTo_30 ?_
    refine j_icmp_gt hF (tgt := 51) dX1_treesNextTo_31 (by decide) (fun c7 => ?_) (fun c7 => ?_)
    · replace h := bzIfT h c7
      obtain ⟨x8, ex8⟩ : ∃ y : Int32, y = v4 + 1 := ⟨_, rfl⟩
      replace h := bzLetE h ex8
      refine j_iinc hF (v := x8) (lv1 := [(4, .int x8), (0, .ref (ga g o)), (1, .int a1), (2, .int a2), (3, .int v3), (5, .int v5)]) 4 dX1_treesNextTo_51 rfl (by rw [ex8]; rfl) (by decide) rfl ?_
      refine j_goto hF (tgt := 13) dX1_treesNextTo_54 (by decide) ?_
      refine j_sub [1, 2, 3, 4, 0] rfl ?_
      exact hK13 v3 x8 h
    · replace h := bzIfF h c7
      refine j_iload_n hF 3 dX1_treesNextTo_34 rfl ?_
      refine j_aload_n hF 0 dX1_treesNextTo_35 rfl ?_
      refine j_iload hF 4 dX1_treesNextTo_36 rfl ?_
      refine j_iload hF 5 dX1_treesNextTo_38 rfl ?_
      obtain ⟨x10, e9, h⟩ := bzBdE h
      refine cs_X1_81 hF ho (fun l => mt_X1_treeAt l e9) (by decide) (Nat.le_of_ble_eq_true rfl) dX1_treesNextTo_40 ?_
      refine j_iadd hF dX1_treesNextTo_43 ?_
      refine j_topi (fun x11 ex11 => ?_)
      replace h := bzLetE h ex11
      refine j_istore_n hF (lv1 := [(3, .int x11), (0, .ref (ga g o)), (1, .int a1), (2, .int a2), (4, .int v4), (5, .int v5)]) dX1_treesNextTo_44 (by decide) rfl ?_
      obtain ⟨x12, ex12⟩ : ∃ y : Int32, y = v5 + 1 := ⟨_, rfl⟩
      replace h := bzLetE h ex12
      refine j_iinc hF (v := x12) (lv1 := [(5, .int x12), (3, .int x11), (0, .ref (ga g o)), (1, .int a1), (2, .int a2), (4, .int v4)]) 5 dX1_treesNextTo_45 rfl (by rw [ex12]; rfl) (by decide) rfl ?_
      refine j_goto hF (tgt := 26) dX1_treesNextTo_48 (by decide) ?_
      refine j_sub [2, 3, 4, 1, 5, 0] rfl ?_
      exact hK26 x11 v4 x12 h
  have L26 : (K13 : Int32 → Int32 → Option Int32) → (hK13 : ∀ (v3 : Int32) (v4 : Int32),  K13 v3 v4 = some r0 → bzJ g 6 x σ 13 [(0, .ref (ga g o)), (1, .int a1), (2, .int a2), (3, .int v3), (4, .int v4)] []) → ∀ (n : Nat) (v3 : Int32) (v4 : Int32) (v5 : Int32) , fl_X1_treesNextTo_26  K13 o a1 a2 σ n v3 v4 v5 = some r0 → bzJ g 6 x σ 26 [(0, .ref (ga g o)), (1, .int a1), (2, .int a2), (3, .int v3), (4, .int v4), (5, .int v5)] [] := by
    intro K13 hK13 n
    induction n with
    | zero =>
      intro v3 v4 v5   h
      cases h
    | succ n ih =>
      intro v3 v4 v5   h
      exact J26 K13 hK13 (fl_X1_treesNextTo_26  K13 o a1 a2 σ n) ih v3 v4 v5   h
  have J13 : (K13 : Int32 → Int32 → Option Int32) → (hK13 : ∀ (v3 : Int32) (v4 : Int32), K13 v3 v4 = some r0 → bzJ g 6 x σ 13 [(0, .ref (ga g o)), (1, .int a1), (2, .int a2), (3, .int v3), (4, .int v4)] []) → ∀ (v3 : Int32) (v4 : Int32), fb_X1_treesNextTo_13 K13 o a1 a2 σ v3 v4 = some r0 → bzJ g 6 x σ 13 [(0, .ref (ga g o)), (1, .int a1), (2, .int a2), (3, .int v3), (4, .int v4)] [] := by
    intro K13 hK13 v3 v4 h
    unfold fb_X1_treesNextTo_13 at h
    refine j_iload hF 4 dX1_treesNextTo_13 rfl ?_
    refine j_iload_n hF 1 dX1_treesNextTo_15 rfl ?_
    refine j_iconst hF (v := 1) dX1_treesNextTo_16 (by decide) ?_
    refine j_iadd hF dX1_treesNextTo_17 ?_
    refine j_icmp_gt hF (tgt := 57) dX1_treesNextTo_18 (by decide) (fun c5 => ?_) (fun c5 => ?_)
    · replace h := bzIfT h c5
      refine j_iload_n hF 3 dX1_treesNextTo_57 rfl ?_
      exact j_iret hF hG dX1_treesNextTo_58 (Option.some.inj h) rfl
    · replace h := bzIfF h c5
      refine j_iload_n hF 2 dX1_treesNextTo_21 rfl ?_
      refine j_iconst hF (v := 1) dX1_treesNextTo_22 (by decide) ?_
      refine j_isub hF dX1_treesNextTo_23 ?_
      refine j_topi (fun x6 ex6 => ?_)
      replace h := bzLetE h ex6
      refine j_istore hF (lv1 := [(5, .int x6), (0, .ref (ga g o)), (1, .int a1), (2, .int a2), (3, .int v3), (4, .int v4)]) dX1_treesNextTo_24 (by decide) rfl ?_
      refine j_sub [1, 2, 3, 4, 5, 0] rfl ?_
      exact L26 K13 hK13 2000 v3 v4 x6 h
  have L13 : ∀ (n : Nat) (v3 : Int32) (v4 : Int32) , fl_X1_treesNextTo_13   o a1 a2 σ n v3 v4 = some r0 → bzJ g 6 x σ 13 [(0, .ref (ga g o)), (1, .int a1), (2, .int a2), (3, .int v3), (4, .int v4)] [] := by
    intro  n
    induction n with
    | zero =>
      intro v3 v4   h
      cases h
    | succ n ih =>
      intro v3 v4   h
      exact J13  (fl_X1_treesNextTo_13   o a1 a2 σ n) ih v3 v4   h
  refine j_aload_n hF 0 dX1_treesNextTo_0 rfl ?_
  refine j_iload_n hF 1 dX1_treesNextTo_1 rfl ?_
  refine j_iload_n hF 2 dX1_treesNextTo_2 rfl ?_
  obtain ⟨x2, e1, h⟩ := bzBdE h
  refine cs_X1_81 hF ho (fun l => mt_X1_treeAt l e1) (by decide) (Nat.le_of_ble_eq_true rfl) dX1_treesNextTo_3 ?_
  refine j_ineg hF dX1_treesNextTo_6 ?_
  refine j_topi (fun x3 ex3 => ?_)
  replace h := bzLetE h ex3
  refine j_istore_n hF (lv1 := [(3, .int x3), (0, .ref (ga g o)), (1, .int a1), (2, .int a2)]) dX1_treesNextTo_7 (by decide) rfl ?_
  refine j_iload_n hF 2 dX1_treesNextTo_8 rfl ?_
  refine j_iconst hF (v := 1) dX1_treesNextTo_9 (by decide) ?_
  refine j_isub hF dX1_treesNextTo_10 ?_
  refine j_topi (fun x4 ex4 => ?_)
  replace h := bzLetE h ex4
  refine j_istore hF (lv1 := [(4, .int x4), (3, .int x3), (0, .ref (ga g o)), (1, .int a1), (2, .int a2)]) dX1_treesNextTo_11 (by decide) rfl ?_
  refine j_sub [2, 3, 4, 1, 0] rfl ?_
  exact L13 2000 x3 x4 h
def fb_X1_isToldOf_64 (o : Nat) (a1 : Int32) (a2 : Nat) (σ : bzS) (v3 : Int32) (v4 : Int32) : Option Int32 :=
  if (σ a2 1) < 3 then (some 1) else (bzBd (f_X4_at a2 2 σ) (fun x8 => bzBd (f_X1_treesNextTo o v3 v4 σ) (fun x10 => if x8 = x10 then (some 1) else (some 0))))
def f_X1_isToldOf (o : Nat) (a1 : Int32) (a2 : Nat) (σ : bzS) : Option Int32 :=
  bzGd (kd o = 1) (bzGd (kd a2 = 4) (if (σ a2 1) ≤ 3 then (bzLet ((a1 / 8)) (fun x2 => bzLet ((a1 - a1 / 8 * 8)) (fun x3 => if (σ a2 1) < 1 then (if (σ a2 1) < 2 then (fb_X1_isToldOf_64 o a1 a2 σ x2 x3) else (bzBd (f_X4_at a2 1 σ) (fun x13 => bzBd (f_X1_treesOfLine o x3 σ) (fun x15 => if x13 = x15 then (fb_X1_isToldOf_64 o a1 a2 σ x2 x3) else (some 0))))) else (bzBd (f_X4_at a2 0 σ) (fun x18 => bzBd (f_X1_treesOfRow o x2 σ) (fun x20 => if x18 = x20 then (if (σ a2 1) < 2 then (fb_X1_isToldOf_64 o a1 a2 σ x2 x3) else (bzBd (f_X4_at a2 1 σ) (fun x24 => bzBd (f_X1_treesOfLine o x3 σ) (fun x26 => if x24 = x26 then (fb_X1_isToldOf_64 o a1 a2 σ x2 x3) else (some 0))))) else (some 0))))))) else (some 0)))
set_option maxHeartbeats 4000000 in
set_option maxRecDepth 20000 in
theorem mt_X1_isToldOf {g : bzGeo} {o : Nat} {a1 : Int32} {a2 : Nat} {σ : bzS} {r0 : Int32} (l : Launch) (h : f_X1_isToldOf  o a1 a2 σ = some r0) : Met l yX1_isToldOf (Cond.code yX1_isToldOf cX1_isToldOf 5 (some .boolean) :: GW) (bzR (4)) (va_Pc [.ref (ga g o), .int a1, .ref (ga g a2)] (bzP g σ)) (va_Qi (fun (r : Int32) (u : bzS) => r = r0 ∧ u = σ) (bzB g) (gA g)) 0 0 (gA g) := by
  unfold f_X1_isToldOf at h
  obtain ⟨ho, h⟩ := bzGdE h
  obtain ⟨h2, h⟩ := bzGdE h
  refine j_start l (by decide +kernel) [.ref (ga g o), .int a1, .ref (ga g a2)] [(0, .ref (ga g o)), (1, .int a1), (2, .ref (ga g a2))] (Nat.le_of_ble_eq_true rfl) rfl (fun x hF hG => ?_)
  have J64 : ∀ (v3 : Int32) (v4 : Int32), fb_X1_isToldOf_64 o a1 a2 σ v3 v4 = some r0 → bzJ g 5 x σ 64 [(0, .ref (ga g o)), (1, .int a1), (2, .ref (ga g a2)), (3, .int v3), (4, .int v4)] [] := by
    intro v3 v4 h
    unfold fb_X1_isToldOf_64 at h
    refine j_aload_n hF 2 dX1_isToldOf_64 rfl ?_
    refine gf_X1_54 hF h2 dX1_isToldOf_65 ?_
    refine j_iconst hF (v := 3) dX1_isToldOf_68 (by decide) ?_
    refine j_icmp_lt hF (tgt := 87) dX1_isToldOf_69 (by decide) (fun c6 => ?_) (fun c6 => ?_)
    · replace h := bzIfT h c6
      refine j_iconst hF (v := 1) dX1_isToldOf_87 (by decide) ?_
      refine j_goto hF (tgt := 92) dX1_isToldOf_88 (by decide) ?_
      exact j_zret hF hG dX1_isToldOf_92 (by decide) (Option.some.inj h) rfl
    · replace h := bzIfF h c6
      refine j_aload_n hF 2 dX1_isToldOf_72 rfl ?_
      refine j_iconst hF (v := 2) dX1_isToldOf_73 (by decide) ?_
      obtain ⟨x8, e7, h⟩ := bzBdE h
      refine cs_X1_65 hF h2 (fun l => mt_X4_at l e7) (by decide) (Nat.le_of_ble_eq_true rfl) dX1_isToldOf_74 ?_
      refine j_aload_n hF 0 dX1_isToldOf_77 rfl ?_
      refine j_iload_n hF 3 dX1_isToldOf_78 rfl ?_
      refine j_iload hF 4 dX1_isToldOf_79 rfl ?_
      obtain ⟨x10, e9, h⟩ := bzBdE h
      refine cs_X1_78 hF ho (fun l => mt_X1_treesNextTo l e9) (by decide) (Nat.le_of_ble_eq_true rfl) dX1_isToldOf_81 ?_
      refine j_icmp_ne hF (tgt := 91) dX1_isToldOf_84 (by decide) (fun c11 => ?_) (fun c11 => ?_)
      · replace h := bzIfF h c11
        refine j_iconst hF (v := 0) dX1_isToldOf_91 (by decide) ?_
        exact j_zret hF hG dX1_isToldOf_92 (by decide) (Option.some.inj h) rfl
      · replace h := bzIfT h c11
        refine j_iconst hF (v := 1) dX1_isToldOf_87 (by decide) ?_
        refine j_goto hF (tgt := 92) dX1_isToldOf_88 (by decide) ?_
        exact j_zret hF hG dX1_isToldOf_92 (by decide) (Option.some.inj h) rfl
  refine j_aload_n hF 2 dX1_isToldOf_0 rfl ?_
  refine gf_X1_54 hF h2 dX1_isToldOf_1 ?_
  refine j_iconst hF (v := 3) dX1_isToldOf_4 (by decide) ?_
  refine j_icmp_le hF (tgt := 10) dX1_isToldOf_5 (by decide) (fun c1 => ?_) (fun c1 => ?_)
  · replace h := bzIfT h c1
    refine j_iload_n hF 1 dX1_isToldOf_10 rfl ?_
    refine j_bipush hF (v := 8) dX1_isToldOf_11 (by decide) ?_
    refine j_idiv hF dX1_isToldOf_13 (by decide) ?_
    refine j_topi (fun x2 ex2 => ?_)
    replace h := bzLetE h ex2
    refine j_istore_n hF (lv1 := [(3, .int x2), (0, .ref (ga g o)), (1, .int a1), (2, .ref (ga g a2))]) dX1_isToldOf_14 (by decide) rfl ?_
    refine j_iload_n hF 2 dX1_isToldOf_15 rfl ?_
    refine j_bipush hF (v := 8) dX1_isToldOf_16 (by decide) ?_
    refine j_irem hF dX1_isToldOf_18 (by decide) ?_
    refine j_topi (fun x3 ex3 => ?_)
    replace h := bzLetE h ex3
    refine j_istore hF (lv1 := [(4, .int x3), (3, .int x2), (0, .ref (ga g o)), (1, .int a1), (2, .ref (ga g a2))]) dX1_isToldOf_19 (by decide) rfl ?_
    refine j_aload_n hF 4 dX1_isToldOf_21 rfl ?_
    refine gf_X1_54 hF h2 dX1_isToldOf_22 ?_
    refine j_iconst hF (v := 1) dX1_isToldOf_25 (by decide) ?_
    refine j_icmp_lt hF (tgt := 42) dX1_isToldOf_26 (by decide) (fun c4 => ?_) (fun c4 => ?_)
    · replace h := bzIfT h c4
      refine j_aload_n hF 4 dX1_isToldOf_42 rfl ?_
      refine gf_X1_54 hF h2 dX1_isToldOf_43 ?_
      refine j_iconst hF (v := 2) dX1_isToldOf_46 (by decide) ?_
      refine j_icmp_lt hF (tgt := 64) dX1_isToldOf_47 (by decide) (fun c5 => ?_) (fun c5 => ?_)
      · replace h := bzIfT h c5
        refine j_sub [2, 3, 4, 1, 0] rfl ?_
        exact J64 x2 x3 h
      · replace h := bzIfF h c5
        refine j_aload_n hF 4 dX1_isToldOf_50 rfl ?_
        refine j_iconst hF (v := 1) dX1_isToldOf_51 (by decide) ?_
        obtain ⟨x13, e12, h⟩ := bzBdE h
        refine cs_X1_65 hF h2 (fun l => mt_X4_at l e12) (by decide) (Nat.le_of_ble_eq_true rfl) dX1_isToldOf_52 ?_
        refine j_aload_n hF 2 dX1_isToldOf_55 rfl ?_
        refine j_iload hF 0 dX1_isToldOf_56 rfl ?_
        obtain ⟨x15, e14, h⟩ := bzBdE h
        refine cs_X1_75 hF ho (fun l => mt_X1_treesOfLine l e14) (by decide) (Nat.le_of_ble_eq_true rfl) dX1_isToldOf_58 ?_
        refine j_icmp_ne hF (tgt := 91) dX1_isToldOf_61 (by decide) (fun c16 => ?_) (fun c16 => ?_)
        · replace h := bzIfF h c16
          refine j_iconst hF (v := 0) dX1_isToldOf_91 (by decide) ?_
          exact j_zret hF hG dX1_isToldOf_92 (by decide)  (Option.some.inj h) rfl
        · replace h := bzIfT h c16
          refine j_sub [2, 3, 4, 1, 0] rfl ?_
          exact J64 x2 x3 h
    · replace h := bzIfF h c4
      refine j_aload_n hF 4 dX1_isToldOf_29 rfl ?_
      refine j_iconst hF (v := 0) dX1_isToldOf_30 (by decide) ?_
      obtain ⟨x18, e17, h⟩ := bzBdE h
      refine cs_X1_65 hF h2 (fun l => mt_X4_at l e17) (by decide) (Nat.le_of_ble_eq_true rfl) dX1_isToldOf_31 ?_
      refine j_aload_n hF 2 dX1_isToldOf_34 rfl ?_
      refine j_iload_n hF 1 dX1_isToldOf_35 rfl ?_
      obtain ⟨x20, e19, h⟩ := bzBdE h
      refine cs_X1_72 hF ho (fun l => mt_X1_treesOfRow l e19) (by decide) (Nat.le_of_ble_eq_true rfl) dX1_isToldOf_36 ?_
      refine j_icmp_ne hF (tgt := 91) dX1_isToldOf_39 (by decide) (fun c21 => ?_) (fun c21 => ?_)
      · replace h := bzIfF h c21
        refine j_iconst hF (v := 0) dX1_isToldOf_91 (by decide) ?_
        exact j_zret hF hG dX1_isToldOf_92 (by decide)  (Option.some.inj h) rfl
      · replace h := bzIfT h c21
        refine j_aload_n hF 4 dX1_isToldOf_42 rfl ?_
        refine gf_X1_54 hF h2 dX1_isToldOf_43 ?_
        refine j_iconst hF (v := 2) dX1_isToldOf_46 (by decide) ?_
        refine j_icmp_lt hF (tgt := 64) dX1_isToldOf_47 (by decide) (fun c22 => ?_) (fun c22 => ?_)
        · replace h := bzIfT h c22
          refine j_sub [2, 3, 4, 1, 0] rfl ?_
          exact J64 x2 x3 h
        · replace h := bzIfF h c22
          refine j_aload_n hF 4 dX1_isToldOf_50 rfl ?_
          refine j_iconst hF (v := 1) dX1_isToldOf_51 (by decide) ?_
          obtain ⟨x24, e23, h⟩ := bzBdE h
          refine cs_X1_65 hF h2 (fun l => mt_X4_at l e23) (by decide) (Nat.le_of_ble_eq_true rfl) dX1_isToldOf_52 ?_
          refine j_aload_n hF 2 dX1_isToldOf_55 rfl ?_
          refine j_iload hF 0 dX1_isToldOf_56 rfl ?_
          obtain ⟨x26, e25, h⟩ := bzBdE h
          refine cs_X1_75 hF ho (fun l => mt_X1_treesOfLine l e25) (by decide) (Nat.le_of_ble_eq_true rfl) dX1_isToldOf_58 ?_
          refine j_icmp_ne hF (tgt := 91) dX1_isToldOf_61 (by decide) (fun c27 => ?_) (fun c27 => ?_)
          · replace h := bzIfF h c27
            refine j_iconst hF (v := 0) dX1_isToldOf_91 (by decide) ?_
            exact j_zret hF hG dX1_isToldOf_92 (by decide)  (Option.some.inj h) rfl
          · replace h := bzIfT h c27
            refine j_sub [2, 3, 4, 1, 0] rfl ?_
            exact J64 x2 x3 h
  · replace h := bzIfF h c1
    refine j_iconst hF (v := 0) dX1_isToldOf_8 (by decide) ?_
    exact j_zret hF hG dX1_isToldOf_9 (by decide)  (Option.some.inj h) rfl
def fb_X9_house_49 (K49 : Nat → Int32 → Int32 → Int32 → bzS → Option (Int32 × bzS)) (o : Nat) (a1 : Int32) (a2 : Int32) (v3 : Nat) (v4 : Int32) (v5 : Int32) (v6 : Int32) (σ1 : bzS) : Option (Int32 × bzS) :=
  if 64 ≤ v6 then (if a2 = 0 then (some (v4, σ1)) else (if v4 ≤ 0 then (bzBp (f_X9_fails o ((-1000000002)) σ1) (fun x17 σ18 => some (x17, σ18))) else (some (v5, σ1)))) else (bzBd (f_X1_isToldOf ((ly (ly o 0) 1)) v6 ((ly v3 0)) σ1) (fun x20 => if x20 = 0 then (bzLet (v6 + 1) (fun x22 => K49 v3 v4 v5 x22 σ1)) else (if v4 = 0 then (bzLet (v4 + 1) (fun x26 => bzLet (v6 + 1) (fun x27 => K49 v3 x26 v6 x27 σ1))) else (bzLet (v4 + 1) (fun x24 => bzLet (v6 + 1) (fun x25 => K49 v3 x24 v5 x25 σ1))))))
def fl_X9_house_49 (o : Nat) (a1 : Int32) (a2 : Int32) : Nat → Nat → Int32 → Int32 → Int32 → bzS → Option (Int32 × bzS)
  | 0, _, _, _, _, _ => none
  | n + 1, v3, v4, v5, v6, σ1 => fb_X9_house_49   (fl_X9_house_49   o a1 a2 n) o a1 a2 v3 v4 v5 v6 σ1
def f_X9_house (o : Nat) (a1 : Int32) (a2 : Int32) (σ : bzS) : Option (Int32 × bzS) :=
  bzGd (kd o = 9) (bzBd (f_X9_sheetOf o a1 σ) (fun x2 => bzOp x2 (bzBp (f_X9_fails o ((-1000000001)) σ) (fun x5 σ6 => some (x5, σ6))) (fun k3 => bzGd (kd k3 = 5) (bzBd (f_X9_within a2 0 1) (fun x8 => if x8 = 0 then (bzBp (f_X9_fails o ((-1000000001)) σ) (fun x32 σ33 => some (x32, σ33))) else (bzBd (f_X5_isMissing k3 σ) (fun x11 => if x11 = 0 then (fl_X9_house_49 o a1 a2 2000 k3 0 ((-1)) 0 σ) else (bzBp (f_X9_fails o ((-1000000002)) σ) (fun x29 σ30 => some (x29, σ30))))))))))
set_option maxHeartbeats 4000000 in
set_option maxRecDepth 20000 in
theorem mt_X9_house {g : bzGeo} {o : Nat} {a1 : Int32} {a2 : Int32} {σ : bzS} {r0 : Int32} {σ0 : bzS} (l : Launch) (h : f_X9_house  o a1 a2 σ = some (r0, σ0)) : Met l yX9_house (Cond.code yX9_house cX9_house 7 (some .int) :: GW) (bzR (5)) (va_Pc [.ref (ga g o), .int a1, .int a2] (bzP g σ)) (va_Qi (fun (r : Int32) (u : bzS) => r = r0 ∧ u = σ0) (bzB g) (gA g)) 0 0 (gA g) := by
  unfold f_X9_house at h
  obtain ⟨ho, h⟩ := bzGdE h
  refine j_start l (by decide +kernel) [.ref (ga g o), .int a1, .int a2] [(0, .ref (ga g o)), (1, .int a1), (2, .int a2)] (Nat.le_of_ble_eq_true rfl) rfl (fun x hF hG => ?_)
  have J49 : (K49 : Nat → Int32 → Int32 → Int32 → bzS → Option (Int32 × bzS)) → (hK49 : ∀ (v3 : Nat) (v4 : Int32) (v5 : Int32) (v6 : Int32) (σ1 : bzS), (h_v3 : kd v3 = 5) → K49 v3 v4 v5 v6 σ1 = some (r0, σ0) → bzJ g 7 x σ1 49 [(0, .ref (ga g o)), (1, .int a1), (2, .int a2), (3, .ref (ga g v3)), (4, .int v4), (5, .int v5), (6, .int v6)] []) → ∀ (v3 : Nat) (v4 : Int32) (v5 : Int32) (v6 : Int32) (σ1 : bzS), (h_v3 : kd v3 = 5) → fb_X9_house_49 K49 o a1 a2 v3 v4 v5 v6 σ1 = some (r0, σ0) → bzJ g 7 x σ1 49 [(0, .ref (ga g o)), (1, .int a1), (2, .int a2), (3, .ref (ga g v3)), (4, .int v4), (5, .int v5), (6, .int v6)] [] := by
    intro K49 hK49 v3 v4 v5 v6 σ1 h_v3 h
    unfold fb_X9_house_49 at h
    refine j_iload hF 6 dX9_house_49 rfl ?_
    refine j_bipush hF (v := 64) dX9_house_51 (by decide) ?_
    refine j_icmp_ge hF (tgt := 98) dX9_house_53 (by decide) (fun c13 => ?_) (fun c13 => ?_)
    · replace h := bzIfT h c13
      refine j_iload_n hF 2 dX9_house_98 rfl ?_
      refine j_if_ne hF (tgt := 107) dX9_house_99 (by decide) (fun c14 => ?_) (fun c14 => ?_)
      · replace h := bzIfF h c14
        refine j_iload hF 4 dX9_house_107 rfl ?_
        refine j_if_le hF (tgt := 117) dX9_house_109 (by decide) (fun c15 => ?_) (fun c15 => ?_)
        · replace h := bzIfT h c15
          refine j_aload_n hF 0 dX9_house_117 rfl ?_
          refine j_ldc hF (v := (-1000000002)) kc_X9_214 dX9_house_118 ?_
          obtain ⟨x17, σ18, e16, h⟩ := bzBpE h
          refine cs_X9_71 hF ho (fun l => mt_X9_fails l e16) (by decide) (Nat.le_of_ble_eq_true rfl) dX9_house_120 ?_
          exact j_iret hF hG dX9_house_123 (bzRet h).1 (bzRet h).2
        · replace h := bzIfF h c15
          refine j_iload hF 5 dX9_house_112 rfl ?_
          refine j_goto hF (tgt := 123) dX9_house_114 (by decide) ?_
          exact j_iret hF hG dX9_house_123 (bzRet h).1 (bzRet h).2
      · replace h := bzIfT h c14
        refine j_iload hF 4 dX9_house_102 rfl ?_
        refine j_goto hF (tgt := 123) dX9_house_104 (by decide) ?_
        exact j_iret hF hG dX9_house_123 (bzRet h).1 (bzRet h).2
    · replace h := bzIfF h c13
      refine j_aload_n hF 0 dX9_house_56 rfl ?_
      refine gf_X9_12 hF ho dX9_house_57 ?_
      refine gf_X9_95 hF (kl_9_0 ho) dX9_house_60 ?_
      refine j_iload hF 6 dX9_house_63 rfl ?_
      refine j_aload_n hF 3 dX9_house_65 rfl ?_
      refine gf_X9_227 hF h_v3 dX9_house_66 ?_
      obtain ⟨x20, e19, h⟩ := bzBdE h
      refine cs_X9_251 hF (kl_6_1 (kl_9_0 ho)) (fun l => mt_X1_isToldOf l e19) (by decide) (Nat.le_of_ble_eq_true rfl) dX9_house_69 ?_
      refine j_if_eq hF (tgt := 92) dX9_house_72 (by decide) (fun c21 => ?_) (fun c21 => ?_)
      · replace h := bzIfT h c21
        obtain ⟨x22, ex22⟩ : ∃ y : Int32, y = v6 + 1 := ⟨_, rfl⟩
        replace h := bzLetE h ex22
        refine j_iinc hF (v := x22) (lv1 := [(6, .int x22), (0, .ref (ga g o)), (1, .int a1), (2, .int a2), (3, .ref (ga g v3)), (4, .int v4), (5, .int v5)]) 6 dX9_house_92 rfl (by rw [ex22]; rfl) (by decide) rfl ?_
        refine j_goto hF (tgt := 49) dX9_house_95 (by decide) ?_
        refine j_sub [1, 2, 3, 4, 5, 6, 0] rfl ?_
        exact hK49 v3 v4 v5 x22 σ1 h_v3 h
      · replace h := bzIfF h c21
        refine j_iload hF 4 dX9_house_75 rfl ?_
        refine j_if_ne hF (tgt := 85) dX9_house_77 (by decide) (fun c23 => ?_) (fun c23 => ?_)
        · replace h := bzIfF h c23
          refine j_iload hF 5 dX9_house_85 rfl ?_
          refine j_istore hF (lv1 := [(5, .int v5), (0, .ref (ga g o)), (1, .int a1), (2, .int a2), (3, .ref (ga g v3)), (4, .int v4), (6, .int v6)]) dX9_house_87 (by decide) rfl ?_
          obtain ⟨x24, ex24⟩ : ∃ y : Int32, y = v4 + 1 := ⟨_, rfl⟩
          replace h := bzLetE h ex24
          refine j_iinc hF (v := x24) (lv1 := [(4, .int x24), (5, .int v5), (0, .ref (ga g o)), (1, .int a1), (2, .int a2), (3, .ref (ga g v3)), (6, .int v6)]) 5 dX9_house_89 rfl (by rw [ex24]; rfl) (by decide) rfl ?_
          obtain ⟨x25, ex25⟩ : ∃ y : Int32, y = v6 + 1 := ⟨_, rfl⟩
          replace h := bzLetE h ex25
          refine j_iinc hF (v := x25) (lv1 := [(6, .int x25), (4, .int x24), (5, .int v5), (0, .ref (ga g o)), (1, .int a1), (2, .int a2), (3, .ref (ga g v3))]) 6 dX9_house_92 rfl (by rw [ex25]; rfl) (by decide) rfl ?_
          refine j_goto hF (tgt := 49) dX9_house_95 (by decide) ?_
          refine j_sub [3, 4, 5, 6, 1, 2, 0] rfl ?_
          exact hK49 v3 x24 v5 x25 σ1 h_v3 h
        · replace h := bzIfT h c23
          refine j_iload hF 6 dX9_house_80 rfl ?_
          refine j_goto hF (tgt := 87) dX9_house_82 (by decide) ?_
          refine j_istore hF (lv1 := [(5, .int v6), (0, .ref (ga g o)), (1, .int a1), (2, .int a2), (3, .ref (ga g v3)), (4, .int v4), (6, .int v6)]) dX9_house_87 (by decide) rfl ?_
          obtain ⟨x26, ex26⟩ : ∃ y : Int32, y = v4 + 1 := ⟨_, rfl⟩
          replace h := bzLetE h ex26
          refine j_iinc hF (v := x26) (lv1 := [(4, .int x26), (5, .int v6), (0, .ref (ga g o)), (1, .int a1), (2, .int a2), (3, .ref (ga g v3)), (6, .int v6)]) 5 dX9_house_89 rfl (by rw [ex26]; rfl) (by decide) rfl ?_
          obtain ⟨x27, ex27⟩ : ∃ y : Int32, y = v6 + 1 := ⟨_, rfl⟩
          replace h := bzLetE h ex27
          refine j_iinc hF (v := x27) (lv1 := [(6, .int x27), (4, .int x26), (5, .int v6), (0, .ref (ga g o)), (1, .int a1), (2, .int a2), (3, .ref (ga g v3))]) 6 dX9_house_92 rfl (by rw [ex27]; rfl) (by decide) rfl ?_
          refine j_goto hF (tgt := 49) dX9_house_95 (by decide) ?_
          refine j_sub [3, 4, 5, 6, 1, 2, 0] rfl ?_
          exact hK49 v3 x26 v6 x27 σ1 h_v3 h
  have L49 : ∀ (n : Nat) (v3 : Nat) (v4 : Int32) (v5 : Int32) (v6 : Int32) (σ1 : bzS), (h_v3 : kd v3 = 5) → fl_X9_house_49   o a1 a2 n v3 v4 v5 v6 σ1 = some (r0, σ0) → bzJ g 7 x σ1 49 [(0, .ref (ga g o)), (1, .int a1), (2, .int a2), (3, .ref (ga g v3)), (4, .int v4), (5, .int v5), (6, .int v6)] [] := by
    intro  n
    induction n with
    | zero =>
      intro v3 v4 v5 v6 σ1 h_v3 h
      cases h
    | succ n ih =>
      intro v3 v4 v5 v6 σ1 h_v3 h
      exact J49  (fl_X9_house_49   o a1 a2 n) ih v3 v4 v5 v6 σ1 h_v3 h
  refine j_aload_n hF 0 dX9_house_0 rfl ?_
  refine j_iload_n hF 1 dX9_house_1 rfl ?_
  obtain ⟨x2, e1, h⟩ := bzBdE h
  refine cs_X9_219 hF ho (fun l => mt_X9_sheetOf l e1) (by decide) (Nat.le_of_ble_eq_true rfl) dX9_house_2 ?_
  cases x2 with
  | none =>
    replace h := bzOpN h
    refine j_nul ?_
    refine j_astore_nN hF (lv1 := [(3, .null), (0, .ref (ga g o)), (1, .int a1), (2, .int a2)]) dX9_house_5 (by decide) rfl ?_
    refine j_aload_nN hF 0 dX9_house_6 rfl ?_
    refine j_ifnullN hF (tgt := 19) dX9_house_7 (by decide) ?_
    refine j_aload_n hF 1 dX9_house_19 rfl ?_
    refine j_ldc hF (v := (-1000000001)) kc_X9_70 dX9_house_20 ?_
    obtain ⟨x5, σ6, e4, h⟩ := bzBpE h
    refine cs_X9_71 hF ho (fun l => mt_X9_fails l e4) (by decide) (Nat.le_of_ble_eq_true rfl) dX9_house_22 ?_
    exact j_iret hF hG dX9_house_25  (bzRet h).1 (bzRet h).2
  | some k3 =>
    obtain ⟨h_k3, h⟩ := bzGdE (bzOpS h)
    refine j_som ?_
    refine j_astore_n hF (lv1 := [(3, .ref (ga g k3)), (0, .ref (ga g o)), (1, .int a1), (2, .int a2)]) dX9_house_5 (by decide) rfl ?_
    refine j_aload_n hF 0 dX9_house_6 rfl ?_
    refine j_ifnull hF dX9_house_7 ?_
    refine j_iload_n hF 3 dX9_house_10 rfl ?_
    refine j_iconst hF (v := 0) dX9_house_11 (by decide) ?_
    refine j_iconst hF (v := 1) dX9_house_12 (by decide) ?_
    obtain ⟨x8, e7, h⟩ := bzBdE h
    refine cs_X9_66 hF (fun l => mt_X9_within l e7) (by decide) (Nat.le_of_ble_eq_true rfl) dX9_house_13 ?_
    refine j_if_ne hF (tgt := 26) dX9_house_16 (by decide) (fun c9 => ?_) (fun c9 => ?_)
    · replace h := bzIfF h c9
      refine j_aload_n hF 0 dX9_house_26 rfl ?_
      obtain ⟨x11, e10, h⟩ := bzBdE h
      refine cs_X9_223 hF h_k3 (fun l => mt_X5_isMissing l e10) (by decide) (Nat.le_of_ble_eq_true rfl) dX9_house_27 ?_
      refine j_if_eq hF (tgt := 40) dX9_house_30 (by decide) (fun c12 => ?_) (fun c12 => ?_)
      · replace h := bzIfT h c12
        refine j_iconst hF (v := 0) dX9_house_40 (by decide) ?_
        refine j_istore hF (lv1 := [(4, .int 0), (3, .ref (ga g k3)), (0, .ref (ga g o)), (1, .int a1), (2, .int a2)]) dX9_house_41 (by decide) rfl ?_
        refine j_iconst hF (v := (-1)) dX9_house_43 (by decide) ?_
        refine j_istore hF (lv1 := [(5, .int (-1)), (4, .int 0), (3, .ref (ga g k3)), (0, .ref (ga g o)), (1, .int a1), (2, .int a2)]) dX9_house_44 (by decide) rfl ?_
        refine j_iconst hF (v := 0) dX9_house_46 (by decide) ?_
        refine j_istore hF (lv1 := [(6, .int 0), (5, .int (-1)), (4, .int 0), (3, .ref (ga g k3)), (0, .ref (ga g o)), (1, .int a1), (2, .int a2)]) dX9_house_47 (by decide) rfl ?_
        refine j_sub [4, 5, 6, 3, 2, 1, 0] rfl ?_
        exact L49 2000 k3 0 ((-1)) 0 σ h_k3 h
      · replace h := bzIfF h c12
        refine j_aload_n hF 1 dX9_house_33 rfl ?_
        refine j_ldc hF (v := (-1000000002)) kc_X9_214 dX9_house_34 ?_
        obtain ⟨x29, σ30, e28, h⟩ := bzBpE h
        refine cs_X9_71 hF ho (fun l => mt_X9_fails l e28) (by decide) (Nat.le_of_ble_eq_true rfl) dX9_house_36 ?_
        exact j_iret hF hG dX9_house_39  (bzRet h).1 (bzRet h).2
    · replace h := bzIfT h c9
      refine j_aload_n hF 1 dX9_house_19 rfl ?_
      refine j_ldc hF (v := (-1000000001)) kc_X9_70 dX9_house_20 ?_
      obtain ⟨x32, σ33, e31, h⟩ := bzBpE h
      refine cs_X9_71 hF ho (fun l => mt_X9_fails l e31) (by decide) (Nat.le_of_ble_eq_true rfl) dX9_house_22 ?_
      exact j_iret hF hG dX9_house_25  (bzRet h).1 (bzRet h).2
def fb_X7_loudOf_4 (K4 : Int32 → Int32 → Option Int32) (o : Nat) (a1 : Int32) (σ : bzS) (v2 : Int32) (v3 : Int32) : Option Int32 :=
  if 8 ≤ v3 then (some v2) else (bzGd (bzIn v3 8) (bzLet ((v2 + (((a1 >>> (v3 &&& 31)) &&& 1) * (σ (ly o 2) v3.toNatClampNeg)))) (fun x3 => bzLet (v3 + 1) (fun x4 => K4 x3 x4))))
def fl_X7_loudOf_4 (o : Nat) (a1 : Int32) (σ : bzS) : Nat → Int32 → Int32 → Option Int32
  | 0, _, _ => none
  | n + 1, v2, v3 => fb_X7_loudOf_4   (fl_X7_loudOf_4   o a1 σ n) o a1 σ v2 v3
def f_X7_loudOf (o : Nat) (a1 : Int32) (σ : bzS) : Option Int32 :=
  bzGd (kd o = 7) (fl_X7_loudOf_4 o a1 σ 2000 0 0)
set_option maxHeartbeats 4000000 in
set_option maxRecDepth 20000 in
theorem mt_X7_loudOf {g : bzGeo} {o : Nat} {a1 : Int32} {σ : bzS} {r0 : Int32} (l : Launch) (h : f_X7_loudOf  o a1 σ = some r0) : Met l yX7_loudOf (Cond.code yX7_loudOf cX7_loudOf 4 (some .int) :: GW) (bzR (1)) (va_Pc [.ref (ga g o), .int a1] (bzP g σ)) (va_Qi (fun (r : Int32) (u : bzS) => r = r0 ∧ u = σ) (bzB g) (gA g)) 0 0 (gA g) := by
  unfold f_X7_loudOf at h
  obtain ⟨ho, h⟩ := bzGdE h
  refine j_start l (by decide +kernel) [.ref (ga g o), .int a1] [(0, .ref (ga g o)), (1, .int a1)] (Nat.le_of_ble_eq_true rfl) rfl (fun x hF hG => ?_)
  have J4 : (K4 : Int32 → Int32 → Option Int32) → (hK4 : ∀ (v2 : Int32) (v3 : Int32), K4 v2 v3 = some r0 → bzJ g 4 x σ 4 [(0, .ref (ga g o)), (1, .int a1), (2, .int v2), (3, .int v3)] []) → ∀ (v2 : Int32) (v3 : Int32), fb_X7_loudOf_4 K4 o a1 σ v2 v3 = some r0 → bzJ g 4 x σ 4 [(0, .ref (ga g o)), (1, .int a1), (2, .int v2), (3, .int v3)] [] := by
    intro K4 hK4 v2 v3 h
    unfold fb_X7_loudOf_4 at h
    refine j_iload_n hF 3 dX7_loudOf_4 rfl ?_
    refine j_bipush hF (v := 8) dX7_loudOf_5 (by decide) ?_
    refine j_icmp_ge hF (tgt := 31) dX7_loudOf_7 (by decide) (fun c1 => ?_) (fun c1 => ?_)
    · replace h := bzIfT h c1
      refine j_iload_n hF 2 dX7_loudOf_31 rfl ?_
      exact j_iret hF hG dX7_loudOf_32 (Option.some.inj h) rfl
    · replace h := bzIfF h c1
      refine j_iload_n hF 2 dX7_loudOf_10 rfl ?_
      refine j_iload_n hF 1 dX7_loudOf_11 rfl ?_
      refine j_iload_n hF 3 dX7_loudOf_12 rfl ?_
      refine j_ishr hF dX7_loudOf_13 ?_
      refine j_iconst hF (v := 1) dX7_loudOf_14 (by decide) ?_
      refine j_iand hF dX7_loudOf_15 ?_
      refine j_aload_n hF 0 dX7_loudOf_16 rfl ?_
      refine gf_X7_16 hF ho dX7_loudOf_17 ?_
      refine j_iload_n hF 3 dX7_loudOf_20 rfl ?_
      obtain ⟨g2, h⟩ := bzGdE h
      refine j_iald hF (c := v3.toNatClampNeg) (kl_7_2 ho) (nl_7_2 ho) g2 rfl dX7_loudOf_21 ?_
      refine j_imul hF dX7_loudOf_22 ?_
      refine j_iadd hF dX7_loudOf_23 ?_
      refine j_topi (fun x3 ex3 => ?_)
      replace h := bzLetE h ex3
      refine j_istore_n hF (lv1 := [(2, .int x3), (0, .ref (ga g o)), (1, .int a1), (3, .int v3)]) dX7_loudOf_24 (by decide) rfl ?_
      obtain ⟨x4, ex4⟩ : ∃ y : Int32, y = v3 + 1 := ⟨_, rfl⟩
      replace h := bzLetE h ex4
      refine j_iinc hF (v := x4) (lv1 := [(3, .int x4), (2, .int x3), (0, .ref (ga g o)), (1, .int a1)]) 3 dX7_loudOf_25 rfl (by rw [ex4]; rfl) (by decide) rfl ?_
      refine j_goto hF (tgt := 4) dX7_loudOf_28 (by decide) ?_
      refine j_sub [2, 3, 1, 0] rfl ?_
      exact hK4 x3 x4 h
  have L4 : ∀ (n : Nat) (v2 : Int32) (v3 : Int32) , fl_X7_loudOf_4   o a1 σ n v2 v3 = some r0 → bzJ g 4 x σ 4 [(0, .ref (ga g o)), (1, .int a1), (2, .int v2), (3, .int v3)] [] := by
    intro  n
    induction n with
    | zero =>
      intro v2 v3   h
      cases h
    | succ n ih =>
      intro v2 v3   h
      exact J4  (fl_X7_loudOf_4   o a1 σ n) ih v2 v3   h
  refine j_iconst hF (v := 0) dX7_loudOf_0 (by decide) ?_
  refine j_istore_n hF (lv1 := [(2, .int 0), (0, .ref (ga g o)), (1, .int a1)]) dX7_loudOf_1 (by decide) rfl ?_
  refine j_iconst hF (v := 0) dX7_loudOf_2 (by decide) ?_
  refine j_istore_n hF (lv1 := [(3, .int 0), (2, .int 0), (0, .ref (ga g o)), (1, .int a1)]) dX7_loudOf_3 (by decide) rfl ?_
  refine j_sub [2, 3, 1, 0] rfl ?_
  exact L4 2000 0 0 h
def f_X7_loudOfAll (o : Nat) (σ : bzS) : Option Int32 :=
  bzGd (kd o = 7) (bzBd (f_X7_loudOf o (((1 <<< ((σ o 4) &&& 31)) - 1)) σ) (fun x2 => some x2))
set_option maxHeartbeats 4000000 in
set_option maxRecDepth 20000 in
theorem mt_X7_loudOfAll {g : bzGeo} {o : Nat} {σ : bzS} {r0 : Int32} (l : Launch) (h : f_X7_loudOfAll  o σ = some r0) : Met l yX7_loudOfAll (Cond.code yX7_loudOfAll cX7_loudOfAll 1 (some .int) :: GW) (bzR (2)) (va_Pc [.ref (ga g o)] (bzP g σ)) (va_Qi (fun (r : Int32) (u : bzS) => r = r0 ∧ u = σ) (bzB g) (gA g)) 0 0 (gA g) := by
  unfold f_X7_loudOfAll at h
  obtain ⟨ho, h⟩ := bzGdE h
  refine j_start l (by decide +kernel) [.ref (ga g o)] [(0, .ref (ga g o))] (Nat.le_of_ble_eq_true rfl) rfl (fun x hF hG => ?_)
  refine j_aload_n hF 0 dX7_loudOfAll_0 rfl ?_
  refine j_iconst hF (v := 1) dX7_loudOfAll_1 (by decide) ?_
  refine j_aload_n hF 0 dX7_loudOfAll_2 rfl ?_
  refine gf_X7_22 hF ho dX7_loudOfAll_3 ?_
  refine j_ishl hF dX7_loudOfAll_6 ?_
  refine j_iconst hF (v := 1) dX7_loudOfAll_7 (by decide) ?_
  refine j_isub hF dX7_loudOfAll_8 ?_
  obtain ⟨x2, e1, h⟩ := bzBdE h
  refine cs_X7_46 hF ho (fun l => mt_X7_loudOf l e1) (by decide) (Nat.le_of_ble_eq_true rfl) dX7_loudOfAll_9 ?_
  exact j_iret hF hG dX7_loudOfAll_12  (Option.some.inj h) rfl
def f_X7_ordersOf (a0 : Int32) (σ : bzS) : Option Int32 :=
  bzBd (f_X9_isPlace a0 110) (fun x2 => if x2 = 0 then (some 0) else (bzGd (bzIn a0 9) (some ((tb 110 a0.toNatClampNeg)))))
set_option maxHeartbeats 4000000 in
set_option maxRecDepth 20000 in
theorem mt_X7_ordersOf {g : bzGeo} {a0 : Int32} {σ : bzS} {r0 : Int32} (l : Launch) (h : f_X7_ordersOf  a0 σ = some r0) : Met l yX7_ordersOf (Cond.code yX7_ordersOf cX7_ordersOf 1 (some .int) :: GW) (bzR (2)) (va_Pc [.int a0] (bzP g σ)) (va_Qi (fun (r : Int32) (u : bzS) => r = r0 ∧ u = σ) (bzB g) (gA g)) 0 0 (gA g) := by
  unfold f_X7_ordersOf at h
  refine j_start l (by decide +kernel) [.int a0] [(0, .int a0)] (Nat.le_of_ble_eq_true rfl) rfl (fun x hF hG => ?_)
  refine j_iload_n hF 0 dX7_ordersOf_0 rfl ?_
  refine gs_X7_61 hF dX7_ordersOf_1 ?_
  obtain ⟨x2, e1, h⟩ := bzBdE h
  refine cs_X7_32 hF (fun l => mt_X9_isPlace l e1) (by decide) (Nat.le_of_ble_eq_true rfl) dX7_ordersOf_4 ?_
  refine j_if_eq hF (tgt := 18) dX7_ordersOf_7 (by decide) (fun c3 => ?_) (fun c3 => ?_)
  · replace h := bzIfT h c3
    refine j_iconst hF (v := 0) dX7_ordersOf_18 (by decide) ?_
    exact j_iret hF hG dX7_ordersOf_19  (Option.some.inj h) rfl
  · replace h := bzIfF h c3
    refine gs_X7_61 hF dX7_ordersOf_10 ?_
    refine j_iload_n hF 0 dX7_ordersOf_13 rfl ?_
    obtain ⟨g4, h⟩ := bzGdE h
    refine j_tald hF (c := a0.toNatClampNeg) (by decide) rfl g4 rfl dX7_ordersOf_14 ?_
    refine j_goto hF (tgt := 19) dX7_ordersOf_15 (by decide) ?_
    exact j_iret hF hG dX7_ordersOf_19  (Option.some.inj h) rfl
def fb_X7_ordersTippedBy_67 (K20 : Int32 → Int32 → Int32 → Option Int32) (o : Nat) (a1 : Int32) (σ : bzS) (v2 : Int32) (v3 : Int32) (v4 : Int32) (s0 : Int32) : Option Int32 :=
  if ((v4 >>> (a1 &&& 31)) &&& 1) = 0 then (if s0 = 0 then (bzLet (v4 + 1) (fun x13 => K20 v2 v3 x13)) else (bzBd (f_J_bitCount v4) (fun x15 => bzBd (f_X7_ordersOf x15 σ) (fun x17 => bzBd (f_X7_ordersOf ((((σ o 4) - 1) - x15)) σ) (fun x19 => bzLet ((v3 + (x17 * x19))) (fun x20 => bzLet (v4 + 1) (fun x21 => K20 v2 x20 x21))))))) else (bzLet (v4 + 1) (fun x11 => K20 v2 v3 x11))
def fb_X7_ordersTippedBy_20 (K20 : Int32 → Int32 → Int32 → Option Int32) (o : Nat) (a1 : Int32) (σ : bzS) (v2 : Int32) (v3 : Int32) (v4 : Int32) : Option Int32 :=
  if (1 <<< ((σ o 4) &&& 31)) ≤ v4 then (some v3) else (bzBd (f_X7_loudOf o v4 σ) (fun x8 => if v2 < (2 * x8) then (fb_X7_ordersTippedBy_67 K20 o a1 σ v2 v3 v4 0) else (bzGd (bzIn a1 8) (if (2 * (x8 + (σ (ly o 2) a1.toNatClampNeg))) ≤ v2 then (fb_X7_ordersTippedBy_67 K20 o a1 σ v2 v3 v4 0) else (fb_X7_ordersTippedBy_67 K20 o a1 σ v2 v3 v4 1)))))
def fl_X7_ordersTippedBy_20 (o : Nat) (a1 : Int32) (σ : bzS) : Nat → Int32 → Int32 → Int32 → Option Int32
  | 0, _, _, _ => none
  | n + 1, v2, v3, v4 => fb_X7_ordersTippedBy_20   (fl_X7_ordersTippedBy_20   o a1 σ n) o a1 σ v2 v3 v4
def f_X7_ordersTippedBy (o : Nat) (a1 : Int32) (σ : bzS) : Option Int32 :=
  bzGd (kd o = 7) (bzBd (f_X7_has o a1 σ) (fun x2 => if x2 = 0 then (some 0) else (bzBd (f_X7_loudOfAll o σ) (fun x5 => fl_X7_ordersTippedBy_20 o a1 σ 2000 x5 0 0))))
set_option maxHeartbeats 4000000 in
set_option maxRecDepth 20000 in
theorem mt_X7_ordersTippedBy {g : bzGeo} {o : Nat} {a1 : Int32} {σ : bzS} {r0 : Int32} (l : Launch) (h : f_X7_ordersTippedBy  o a1 σ = some r0) : Met l yX7_ordersTippedBy (Cond.code yX7_ordersTippedBy cX7_ordersTippedBy 8 (some .int) :: GW) (bzR (3)) (va_Pc [.ref (ga g o), .int a1] (bzP g σ)) (va_Qi (fun (r : Int32) (u : bzS) => r = r0 ∧ u = σ) (bzB g) (gA g)) 0 0 (gA g) := by
  unfold f_X7_ordersTippedBy at h
  obtain ⟨ho, h⟩ := bzGdE h
  refine j_start l (by decide +kernel) [.ref (ga g o), .int a1] [(0, .ref (ga g o)), (1, .int a1)] (Nat.le_of_ble_eq_true rfl) rfl (fun x hF hG => ?_)
  have J67 : (K20 : Int32 → Int32 → Int32 → Option Int32) → (hK20 : ∀ (v2 : Int32) (v3 : Int32) (v4 : Int32), K20 v2 v3 v4 = some r0 → bzJ g 8 x σ 20 [(0, .ref (ga g o)), (1, .int a1), (2, .int v2), (3, .int v3), (4, .int v4)] []) → ∀ (v2 : Int32) (v3 : Int32) (v4 : Int32) (s0 : Int32), fb_X7_ordersTippedBy_67 K20 o a1 σ v2 v3 v4 s0 = some r0 → bzJ g 8 x σ 67 [(0, .ref (ga g o)), (1, .int a1), (2, .int v2), (3, .int v3), (4, .int v4)] [.int s0] := by
    intro K20 hK20 v2 v3 v4 s0 h
    unfold fb_X7_ordersTippedBy_67 at h
    refine j_istore hF (lv1 := [(6, .int s0), (0, .ref (ga g o)), (1, .int a1), (2, .int v2), (3, .int v3), (4, .int v4)]) dX7_ordersTippedBy_67 (by decide) rfl ?_
    refine j_iload hF 5 dX7_ordersTippedBy_69 rfl ?_
    refine j_iload_n hF 2 dX7_ordersTippedBy_71 rfl ?_
    refine j_ishr hF dX7_ordersTippedBy_72 ?_
    refine j_iconst hF (v := 1) dX7_ordersTippedBy_73 (by decide) ?_
    refine j_iand hF dX7_ordersTippedBy_74 ?_
    refine j_if_ne hF (tgt := 111) dX7_ordersTippedBy_75 (by decide) (fun c10 => ?_) (fun c10 => ?_)
    · replace h := bzIfF h c10
      obtain ⟨x11, ex11⟩ : ∃ y : Int32, y = v4 + 1 := ⟨_, rfl⟩
      replace h := bzLetE h ex11
      refine j_iinc hF (v := x11) (lv1 := [(4, .int x11), (6, .int s0), (0, .ref (ga g o)), (1, .int a1), (2, .int v2), (3, .int v3)]) 5 dX7_ordersTippedBy_111 rfl (by rw [ex11]; rfl) (by decide) rfl ?_
      refine j_goto hF (tgt := 20) dX7_ordersTippedBy_114 (by decide) ?_
      refine j_sub [2, 3, 4, 5, 0] rfl ?_
      exact hK20 v2 v3 x11 h
    · replace h := bzIfT h c10
      refine j_iload hF 0 dX7_ordersTippedBy_78 rfl ?_
      refine j_if_eq hF (tgt := 111) dX7_ordersTippedBy_80 (by decide) (fun c12 => ?_) (fun c12 => ?_)
      · replace h := bzIfT h c12
        obtain ⟨x13, ex13⟩ : ∃ y : Int32, y = v4 + 1 := ⟨_, rfl⟩
        replace h := bzLetE h ex13
        refine j_iinc hF (v := x13) (lv1 := [(4, .int x13), (6, .int s0), (0, .ref (ga g o)), (1, .int a1), (2, .int v2), (3, .int v3)]) 5 dX7_ordersTippedBy_111 rfl (by rw [ex13]; rfl) (by decide) rfl ?_
        refine j_goto hF (tgt := 20) dX7_ordersTippedBy_114 (by decide) ?_
        refine j_sub [2, 3, 4, 5, 0] rfl ?_
        exact hK20 v2 v3 x13 h
      · replace h := bzIfF h c12
        refine j_iload hF 5 dX7_ordersTippedBy_83 rfl ?_
        obtain ⟨x15, e14, h⟩ := bzBdE h
        refine cs_X7_53 hF (fun l => mt_J_bitCount l e14) (by decide) (Nat.le_of_ble_eq_true rfl) dX7_ordersTippedBy_85 ?_
        refine j_istore hF (lv1 := [(7, .int x15), (6, .int s0), (0, .ref (ga g o)), (1, .int a1), (2, .int v2), (3, .int v3), (4, .int v4)]) dX7_ordersTippedBy_88 (by decide) rfl ?_
        refine j_iload_n hF 5 dX7_ordersTippedBy_90 rfl ?_
        refine j_iload hF 0 dX7_ordersTippedBy_91 rfl ?_
        obtain ⟨x17, e16, h⟩ := bzBdE h
        refine cs_X7_58 hF (fun l => mt_X7_ordersOf l e16) (by decide) (Nat.le_of_ble_eq_true rfl) dX7_ordersTippedBy_93 ?_
        refine j_aload_n hF 2 dX7_ordersTippedBy_96 rfl ?_
        refine gf_X7_22 hF ho dX7_ordersTippedBy_97 ?_
        refine j_iconst hF (v := 1) dX7_ordersTippedBy_100 (by decide) ?_
        refine j_isub hF dX7_ordersTippedBy_101 ?_
        refine j_iload hF 0 dX7_ordersTippedBy_102 rfl ?_
        refine j_isub hF dX7_ordersTippedBy_104 ?_
        obtain ⟨x19, e18, h⟩ := bzBdE h
        refine cs_X7_58 hF (fun l => mt_X7_ordersOf l e18) (by decide) (Nat.le_of_ble_eq_true rfl) dX7_ordersTippedBy_105 ?_
        refine j_imul hF dX7_ordersTippedBy_108 ?_
        refine j_iadd hF dX7_ordersTippedBy_109 ?_
        refine j_topi (fun x20 ex20 => ?_)
        replace h := bzLetE h ex20
        refine j_istore_n hF (lv1 := [(3, .int x20), (7, .int x15), (6, .int s0), (0, .ref (ga g o)), (1, .int a1), (2, .int v2), (4, .int v4)]) dX7_ordersTippedBy_110 (by decide) rfl ?_
        obtain ⟨x21, ex21⟩ : ∃ y : Int32, y = v4 + 1 := ⟨_, rfl⟩
        replace h := bzLetE h ex21
        refine j_iinc hF (v := x21) (lv1 := [(4, .int x21), (3, .int x20), (7, .int x15), (6, .int s0), (0, .ref (ga g o)), (1, .int a1), (2, .int v2)]) 6 dX7_ordersTippedBy_111 rfl (by rw [ex21]; rfl) (by decide) rfl ?_
        refine j_goto hF (tgt := 20) dX7_ordersTippedBy_114 (by decide) ?_
        refine j_sub [4, 5, 6, 1, 0] rfl ?_
        exact hK20 v2 x20 x21 h
  have J20 : (K20 : Int32 → Int32 → Int32 → Option Int32) → (hK20 : ∀ (v2 : Int32) (v3 : Int32) (v4 : Int32), K20 v2 v3 v4 = some r0 → bzJ g 8 x σ 20 [(0, .ref (ga g o)), (1, .int a1), (2, .int v2), (3, .int v3), (4, .int v4)] []) → ∀ (v2 : Int32) (v3 : Int32) (v4 : Int32), fb_X7_ordersTippedBy_20 K20 o a1 σ v2 v3 v4 = some r0 → bzJ g 8 x σ 20 [(0, .ref (ga g o)), (1, .int a1), (2, .int v2), (3, .int v3), (4, .int v4)] [] := by
    intro K20 hK20 v2 v3 v4 h
    unfold fb_X7_ordersTippedBy_20 at h
    refine j_iload hF 4 dX7_ordersTippedBy_20 rfl ?_
    refine j_iconst hF (v := 1) dX7_ordersTippedBy_22 (by decide) ?_
    refine j_aload_n hF 0 dX7_ordersTippedBy_23 rfl ?_
    refine gf_X7_22 hF ho dX7_ordersTippedBy_24 ?_
    refine j_ishl hF dX7_ordersTippedBy_27 ?_
    refine j_icmp_ge hF (tgt := 117) dX7_ordersTippedBy_28 (by decide) (fun c6 => ?_) (fun c6 => ?_)
    · replace h := bzIfT h c6
      refine j_iload_n hF 3 dX7_ordersTippedBy_117 rfl ?_
      exact j_iret hF hG dX7_ordersTippedBy_118 (Option.some.inj h) rfl
    · replace h := bzIfF h c6
      refine j_aload_n hF 0 dX7_ordersTippedBy_31 rfl ?_
      refine j_iload hF 4 dX7_ordersTippedBy_32 rfl ?_
      obtain ⟨x8, e7, h⟩ := bzBdE h
      refine cs_X7_46 hF ho (fun l => mt_X7_loudOf l e7) (by decide) (Nat.le_of_ble_eq_true rfl) dX7_ordersTippedBy_34 ?_
      refine j_istore hF (lv1 := [(5, .int x8), (0, .ref (ga g o)), (1, .int a1), (2, .int v2), (3, .int v3), (4, .int v4)]) dX7_ordersTippedBy_37 (by decide) rfl ?_
      refine j_iconst hF (v := 2) dX7_ordersTippedBy_39 (by decide) ?_
      refine j_iload hF 0 dX7_ordersTippedBy_40 rfl ?_
      refine j_imul hF dX7_ordersTippedBy_42 ?_
      refine j_iload_n hF 3 dX7_ordersTippedBy_43 rfl ?_
      refine j_icmp_gt hF (tgt := 66) dX7_ordersTippedBy_44 (by decide) (fun c9 => ?_) (fun c9 => ?_)
      · replace h := bzIfT h c9
        refine j_iconst hF (v := 0) dX7_ordersTippedBy_66 (by decide) ?_
        refine j_sub [1, 2, 3, 4, 5] rfl ?_
        exact J67 K20 hK20 v2 v3 v4 0 h
      · replace h := bzIfF h c9
        refine j_iconst hF (v := 2) dX7_ordersTippedBy_47 (by decide) ?_
        refine j_iload hF 0 dX7_ordersTippedBy_48 rfl ?_
        refine j_aload_n hF 1 dX7_ordersTippedBy_50 rfl ?_
        refine gf_X7_16 hF ho dX7_ordersTippedBy_51 ?_
        refine j_iload_n hF 2 dX7_ordersTippedBy_54 rfl ?_
        obtain ⟨g22, h⟩ := bzGdE h
        refine j_iald hF (c := a1.toNatClampNeg) (kl_7_2 ho) (nl_7_2 ho) g22 rfl dX7_ordersTippedBy_55 ?_
        refine j_iadd hF dX7_ordersTippedBy_56 ?_
        refine j_imul hF dX7_ordersTippedBy_57 ?_
        refine j_iload_n hF 3 dX7_ordersTippedBy_58 rfl ?_
        refine j_icmp_le hF (tgt := 66) dX7_ordersTippedBy_59 (by decide) (fun c23 => ?_) (fun c23 => ?_)
        · replace h := bzIfT h c23
          refine j_iconst hF (v := 0) dX7_ordersTippedBy_66 (by decide) ?_
          refine j_sub [1, 2, 3, 4, 5] rfl ?_
          exact J67 K20 hK20 v2 v3 v4 0 h
        · replace h := bzIfF h c23
          refine j_iconst hF (v := 1) dX7_ordersTippedBy_62 (by decide) ?_
          refine j_goto hF (tgt := 67) dX7_ordersTippedBy_63 (by decide) ?_
          refine j_sub [1, 2, 3, 4, 5] rfl ?_
          exact J67 K20 hK20 v2 v3 v4 1 h
  have L20 : ∀ (n : Nat) (v2 : Int32) (v3 : Int32) (v4 : Int32) , fl_X7_ordersTippedBy_20   o a1 σ n v2 v3 v4 = some r0 → bzJ g 8 x σ 20 [(0, .ref (ga g o)), (1, .int a1), (2, .int v2), (3, .int v3), (4, .int v4)] [] := by
    intro  n
    induction n with
    | zero =>
      intro v2 v3 v4   h
      cases h
    | succ n ih =>
      intro v2 v3 v4   h
      exact J20  (fl_X7_ordersTippedBy_20   o a1 σ n) ih v2 v3 v4   h
  refine j_aload_n hF 0 dX7_ordersTippedBy_0 rfl ?_
  refine j_iload_n hF 1 dX7_ordersTippedBy_1 rfl ?_
  obtain ⟨x2, e1, h⟩ := bzBdE h
  refine cs_X7_42 hF ho (fun l => mt_X7_has l e1) (by decide) (Nat.le_of_ble_eq_true rfl) dX7_ordersTippedBy_2 ?_
  refine j_if_ne hF (tgt := 10) dX7_ordersTippedBy_5 (by decide) (fun c3 => ?_) (fun c3 => ?_)
  · replace h := bzIfF h c3
    refine j_aload_n hF 0 dX7_ordersTippedBy_10 rfl ?_
    obtain ⟨x5, e4, h⟩ := bzBdE h
    refine cs_X7_49 hF ho (fun l => mt_X7_loudOfAll l e4) (by decide) (Nat.le_of_ble_eq_true rfl) dX7_ordersTippedBy_11 ?_
    refine j_istore_n hF (lv1 := [(2, .int x5), (0, .ref (ga g o)), (1, .int a1)]) dX7_ordersTippedBy_14 (by decide) rfl ?_
    refine j_iconst hF (v := 0) dX7_ordersTippedBy_15 (by decide) ?_
    refine j_istore_n hF (lv1 := [(3, .int 0), (2, .int x5), (0, .ref (ga g o)), (1, .int a1)]) dX7_ordersTippedBy_16 (by decide) rfl ?_
    refine j_iconst hF (v := 0) dX7_ordersTippedBy_17 (by decide) ?_
    refine j_istore hF (lv1 := [(4, .int 0), (3, .int 0), (2, .int x5), (0, .ref (ga g o)), (1, .int a1)]) dX7_ordersTippedBy_18 (by decide) rfl ?_
    refine j_sub [3, 4, 2, 1, 0] rfl ?_
    exact L20 2000 x5 0 0 h
  · replace h := bzIfT h c3
    refine j_iconst hF (v := 0) dX7_ordersTippedBy_8 (by decide) ?_
    exact j_iret hF hG dX7_ordersTippedBy_9  (Option.some.inj h) rfl
def f_X9_power (o : Nat) (a1 : Int32) (σ : bzS) : Option (Int32 × bzS) :=
  bzGd (kd o = 9) (bzBd (f_X7_has ((ly (ly (ly o 0) 0) 2)) a1 σ) (fun x2 => if x2 = 0 then (bzBp (f_X9_fails o ((-1000000001)) σ) (fun x5 σ6 => some (x5, σ6))) else (bzBd (f_X7_ordersTippedBy ((ly (ly (ly o 0) 0) 2)) a1 σ) (fun x8 => some (x8, σ)))))
set_option maxHeartbeats 4000000 in
set_option maxRecDepth 20000 in
theorem mt_X9_power {g : bzGeo} {o : Nat} {a1 : Int32} {σ : bzS} {r0 : Int32} {σ0 : bzS} (l : Launch) (h : f_X9_power  o a1 σ = some (r0, σ0)) : Met l yX9_power (Cond.code yX9_power cX9_power 3 (some .int) :: GW) (bzR (4)) (va_Pc [.ref (ga g o), .int a1] (bzP g σ)) (va_Qi (fun (r : Int32) (u : bzS) => r = r0 ∧ u = σ0) (bzB g) (gA g)) 0 0 (gA g) := by
  unfold f_X9_power at h
  obtain ⟨ho, h⟩ := bzGdE h
  refine j_start l (by decide +kernel) [.ref (ga g o), .int a1] [(0, .ref (ga g o)), (1, .int a1)] (Nat.le_of_ble_eq_true rfl) rfl (fun x hF hG => ?_)
  refine j_aload_n hF 0 dX9_power_0 rfl ?_
  refine gf_X9_12 hF ho dX9_power_1 ?_
  refine gf_X9_55 hF (kl_9_0 ho) dX9_power_4 ?_
  refine gf_X9_111 hF (kl_6_0 (kl_9_0 ho)) dX9_power_7 ?_
  refine j_astore_n hF (lv1 := [(2, .ref (ga g (ly (ly (ly o 0) 0) 2))), (0, .ref (ga g o)), (1, .int a1)]) dX9_power_10 (by decide) rfl ?_
  refine j_aload_n hF 0 dX9_power_11 rfl ?_
  refine j_iload_n hF 2 dX9_power_12 rfl ?_
  obtain ⟨x2, e1, h⟩ := bzBdE h
  refine cs_X9_122 hF (kl_0_2 (kl_6_0 (kl_9_0 ho))) (fun l => mt_X7_has l e1) (by decide) (Nat.le_of_ble_eq_true rfl) dX9_power_13 ?_
  refine j_if_eq hF (tgt := 27) dX9_power_16 (by decide) (fun c3 => ?_) (fun c3 => ?_)
  · replace h := bzIfT h c3
    refine j_aload_n hF 1 dX9_power_27 rfl ?_
    refine j_ldc hF (v := (-1000000001)) kc_X9_70 dX9_power_28 ?_
    obtain ⟨x5, σ6, e4, h⟩ := bzBpE h
    refine cs_X9_71 hF ho (fun l => mt_X9_fails l e4) (by decide) (Nat.le_of_ble_eq_true rfl) dX9_power_30 ?_
    exact j_iret hF hG dX9_power_33  (bzRet h).1 (bzRet h).2
  · replace h := bzIfF h c3
    refine j_aload_n hF 0 dX9_power_19 rfl ?_
    refine j_iload_n hF 2 dX9_power_20 rfl ?_
    obtain ⟨x8, e7, h⟩ := bzBdE h
    refine cs_X9_255 hF (kl_0_2 (kl_6_0 (kl_9_0 ho))) (fun l => mt_X7_ordersTippedBy l e7) (by decide) (Nat.le_of_ble_eq_true rfl) dX9_power_21 ?_
    refine j_goto hF (tgt := 33) dX9_power_24 (by decide) ?_
    exact j_iret hF hG dX9_power_33  (bzRet h).1 (bzRet h).2
def f_X1_tumbles (a0 : Int32) : Option Int32 :=
  bzBd (f_J_bitCount a0) (fun x2 => if 2 < x2 then (some 1) else (if (a0 &&& 3) = 3 then (some 1) else (if (a0 &&& 12) = 12 then (some 1) else (some 0))))
set_option maxHeartbeats 4000000 in
set_option maxRecDepth 20000 in
theorem mt_X1_tumbles {g : bzGeo} {a0 : Int32} {σ : bzS} {r0 : Int32} (l : Launch) (h : f_X1_tumbles  a0 = some r0) : Met l yX1_tumbles (Cond.code yX1_tumbles cX1_tumbles 1 (some .boolean) :: GW) (bzR (2)) (va_Pc [.int a0] (bzP g σ)) (va_Qi (fun (r : Int32) (u : bzS) => r = r0 ∧ u = σ) (bzB g) (gA g)) 0 0 (gA g) := by
  unfold f_X1_tumbles at h
  refine j_start l (by decide +kernel) [.int a0] [(0, .int a0)] (Nat.le_of_ble_eq_true rfl) rfl (fun x hF hG => ?_)
  refine j_iload_n hF 0 dX1_tumbles_0 rfl ?_
  obtain ⟨x2, e1, h⟩ := bzBdE h
  refine cs_X1_46 hF (fun l => mt_J_bitCount l e1) (by decide) (Nat.le_of_ble_eq_true rfl) dX1_tumbles_1 ?_
  refine j_iconst hF (v := 2) dX1_tumbles_4 (by decide) ?_
  refine j_icmp_gt hF (tgt := 24) dX1_tumbles_5 (by decide) (fun c3 => ?_) (fun c3 => ?_)
  · replace h := bzIfT h c3
    refine j_iconst hF (v := 1) dX1_tumbles_24 (by decide) ?_
    refine j_goto hF (tgt := 29) dX1_tumbles_25 (by decide) ?_
    exact j_zret hF hG dX1_tumbles_29 (by decide)  (Option.some.inj h) rfl
  · replace h := bzIfF h c3
    refine j_iload_n hF 0 dX1_tumbles_8 rfl ?_
    refine j_iconst hF (v := 3) dX1_tumbles_9 (by decide) ?_
    refine j_iand hF dX1_tumbles_10 ?_
    refine j_iconst hF (v := 3) dX1_tumbles_11 (by decide) ?_
    refine j_icmp_eq hF (tgt := 24) dX1_tumbles_12 (by decide) (fun c4 => ?_) (fun c4 => ?_)
    · replace h := bzIfT h c4
      refine j_iconst hF (v := 1) dX1_tumbles_24 (by decide) ?_
      refine j_goto hF (tgt := 29) dX1_tumbles_25 (by decide) ?_
      exact j_zret hF hG dX1_tumbles_29 (by decide)  (Option.some.inj h) rfl
    · replace h := bzIfF h c4
      refine j_iload_n hF 0 dX1_tumbles_15 rfl ?_
      refine j_bipush hF (v := 12) dX1_tumbles_16 (by decide) ?_
      refine j_iand hF dX1_tumbles_18 ?_
      refine j_bipush hF (v := 12) dX1_tumbles_19 (by decide) ?_
      refine j_icmp_ne hF (tgt := 28) dX1_tumbles_21 (by decide) (fun c5 => ?_) (fun c5 => ?_)
      · replace h := bzIfF h c5
        refine j_iconst hF (v := 0) dX1_tumbles_28 (by decide) ?_
        exact j_zret hF hG dX1_tumbles_29 (by decide)  (Option.some.inj h) rfl
      · replace h := bzIfT h c5
        refine j_iconst hF (v := 1) dX1_tumbles_24 (by decide) ?_
        refine j_goto hF (tgt := 29) dX1_tumbles_25 (by decide) ?_
        exact j_zret hF hG dX1_tumbles_29 (by decide)  (Option.some.inj h) rfl
def fb_X1_moveOneFoot_20 (K2 : Int32 → bzS → Option bzS) (o : Nat) (v1 : Int32) (s0 : Int32) (σ1 : bzS) : Option bzS :=
  if s0 = 0 then (bzGd (bzIn v1 16) (bzLet (bzSt σ1 (ly o 4) v1.toNatClampNeg 0) (fun σ8 => bzLet (v1 + 1) (fun x9 => K2 x9 σ8)))) else (bzGd (bzIn (v1 ^^^ 1) 16) (bzGd (bzIn (v1 ^^^ 2) 16) (bzGd (bzIn (v1 ^^^ 4) 16) (bzGd (bzIn (v1 ^^^ 8) 16) (bzGd (bzIn v1 16) (bzLet (bzSt σ1 (ly o 4) v1.toNatClampNeg ((((σ1 (ly o 3) (((v1 ^^^ 1)).toNatClampNeg)) + (σ1 (ly o 3) (((v1 ^^^ 2)).toNatClampNeg))) + (σ1 (ly o 3) (((v1 ^^^ 4)).toNatClampNeg))) + (σ1 (ly o 3) (((v1 ^^^ 8)).toNatClampNeg)))) (fun σ15 => bzLet (v1 + 1) (fun x16 => K2 x16 σ15))))))))
def fb_X1_moveOneFoot_2 (K2 : Int32 → bzS → Option bzS) (o : Nat) (v1 : Int32) (σ1 : bzS) : Option bzS :=
  if 16 ≤ v1 then (bzLet (bzSa σ1 (ly o 3) (va_cpy (σ1 (ly o 4)) (σ1 (ly o 3)) 0 0 16)) (fun σ2 => some σ2)) else (bzBd (f_X1_tumbles v1) (fun x4 => if x4 = 0 then (fb_X1_moveOneFoot_20 K2 o v1 1 σ1) else (fb_X1_moveOneFoot_20 K2 o v1 0 σ1)))
def fl_X1_moveOneFoot_2 (o : Nat) : Nat → Int32 → bzS → Option bzS
  | 0, _, _ => none
  | n + 1, v1, σ1 => fb_X1_moveOneFoot_2   (fl_X1_moveOneFoot_2   o n) o v1 σ1
def f_X1_moveOneFoot (o : Nat) (σ : bzS) : Option bzS :=
  bzGd (kd o = 1) (fl_X1_moveOneFoot_2 o 2000 0 σ)
set_option maxHeartbeats 4000000 in
set_option maxRecDepth 20000 in
theorem mt_X1_moveOneFoot {g : bzGeo} {o : Nat} {σ : bzS} {σ0 : bzS} (l : Launch) (h : f_X1_moveOneFoot  o σ = some σ0) : Met l yX1_moveOneFoot (Cond.code yX1_moveOneFoot cX1_moveOneFoot 3 none :: GW) (bzR (3)) (va_Pc [.ref (ga g o)] (bzP g σ)) (va_Qv (fun (u : bzS) => u = σ0) (bzB g) (gA g)) 0 0 (gA g) := by
  unfold f_X1_moveOneFoot at h
  obtain ⟨ho, h⟩ := bzGdE h
  refine j_start l (by decide +kernel) [.ref (ga g o)] [(0, .ref (ga g o))] (Nat.le_of_ble_eq_true rfl) rfl (fun x hF hG => ?_)
  have J20 : (K2 : Int32 → bzS → Option bzS) → (hK2 : ∀ (v1 : Int32) (σ1 : bzS), K2 v1 σ1 = some σ0 → bzJ g 3 x σ1 2 [(0, .ref (ga g o)), (1, .int v1)] []) → ∀ (v1 : Int32) (s0 : Int32) (σ1 : bzS), fb_X1_moveOneFoot_20 K2 o v1 s0 σ1 = some σ0 → bzJ g 3 x σ1 20 [(0, .ref (ga g o)), (1, .int v1)] [.int s0] := by
    intro K2 hK2 v1 s0 σ1 h
    unfold fb_X1_moveOneFoot_20 at h
    refine j_istore_n hF (lv1 := [(2, .int s0), (0, .ref (ga g o)), (1, .int v1)]) dX1_moveOneFoot_20 (by decide) rfl ?_
    refine j_aload_n hF 1 dX1_moveOneFoot_21 rfl ?_
    refine gf_X1_22 hF ho dX1_moveOneFoot_22 ?_
    refine j_iload_n hF 2 dX1_moveOneFoot_25 rfl ?_
    refine j_iload_n hF 0 dX1_moveOneFoot_26 rfl ?_
    refine j_if_eq hF (tgt := 69) dX1_moveOneFoot_27 (by decide) (fun c6 => ?_) (fun c6 => ?_)
    · replace h := bzIfT h c6
      refine j_iconst hF (v := 0) dX1_moveOneFoot_69 (by decide) ?_
      obtain ⟨g7, h⟩ := bzGdE h
      refine j_iast hF (c := v1.toNatClampNeg) (kl_1_4 ho) (nl_1_4 ho) g7 rfl dX1_moveOneFoot_70 ?_
      refine j_s (fun σ8 eσ8 => ?_)
      replace h := bzLetE h eσ8
      obtain ⟨x9, ex9⟩ : ∃ y : Int32, y = v1 + 1 := ⟨_, rfl⟩
      replace h := bzLetE h ex9
      refine j_iinc hF (v := x9) (lv1 := [(1, .int x9), (2, .int s0), (0, .ref (ga g o))]) 2 dX1_moveOneFoot_71 rfl (by rw [ex9]; rfl) (by decide) rfl ?_
      refine j_goto hF (tgt := 2) dX1_moveOneFoot_74 (by decide) ?_
      refine j_sub [2, 0] rfl ?_
      exact hK2 x9 σ8 h
    · replace h := bzIfF h c6
      refine j_aload_n hF 1 dX1_moveOneFoot_30 rfl ?_
      refine gf_X1_19 hF ho dX1_moveOneFoot_31 ?_
      refine j_iload_n hF 2 dX1_moveOneFoot_34 rfl ?_
      refine j_iconst hF (v := 1) dX1_moveOneFoot_35 (by decide) ?_
      refine j_ixor hF dX1_moveOneFoot_36 ?_
      obtain ⟨g10, h⟩ := bzGdE h
      refine j_iald hF (c := ((v1 ^^^ 1)).toNatClampNeg) (kl_1_3 ho) (nl_1_3 ho) g10 rfl dX1_moveOneFoot_37 ?_
      refine j_aload_n hF 1 dX1_moveOneFoot_38 rfl ?_
      refine gf_X1_19 hF ho dX1_moveOneFoot_39 ?_
      refine j_iload_n hF 2 dX1_moveOneFoot_42 rfl ?_
      refine j_iconst hF (v := 2) dX1_moveOneFoot_43 (by decide) ?_
      refine j_ixor hF dX1_moveOneFoot_44 ?_
      obtain ⟨g11, h⟩ := bzGdE h
      refine j_iald hF (c := ((v1 ^^^ 2)).toNatClampNeg) (kl_1_3 ho) (nl_1_3 ho) g11 rfl dX1_moveOneFoot_45 ?_
      refine j_iadd hF dX1_moveOneFoot_46 ?_
      refine j_aload_n hF 1 dX1_moveOneFoot_47 rfl ?_
      refine gf_X1_19 hF ho dX1_moveOneFoot_48 ?_
      refine j_iload_n hF 2 dX1_moveOneFoot_51 rfl ?_
      refine j_iconst hF (v := 4) dX1_moveOneFoot_52 (by decide) ?_
      refine j_ixor hF dX1_moveOneFoot_53 ?_
      obtain ⟨g12, h⟩ := bzGdE h
      refine j_iald hF (c := ((v1 ^^^ 4)).toNatClampNeg) (kl_1_3 ho) (nl_1_3 ho) g12 rfl dX1_moveOneFoot_54 ?_
      refine j_iadd hF dX1_moveOneFoot_55 ?_
      refine j_aload_n hF 1 dX1_moveOneFoot_56 rfl ?_
      refine gf_X1_19 hF ho dX1_moveOneFoot_57 ?_
      refine j_iload_n hF 2 dX1_moveOneFoot_60 rfl ?_
      refine j_bipush hF (v := 8) dX1_moveOneFoot_61 (by decide) ?_
      refine j_ixor hF dX1_moveOneFoot_63 ?_
      obtain ⟨g13, h⟩ := bzGdE h
      refine j_iald hF (c := ((v1 ^^^ 8)).toNatClampNeg) (kl_1_3 ho) (nl_1_3 ho) g13 rfl dX1_moveOneFoot_64 ?_
      refine j_iadd hF dX1_moveOneFoot_65 ?_
      refine j_goto hF (tgt := 70) dX1_moveOneFoot_66 (by decide) ?_
      obtain ⟨g14, h⟩ := bzGdE h
      refine j_iast hF (c := v1.toNatClampNeg) (kl_1_4 ho) (nl_1_4 ho) g14 rfl dX1_moveOneFoot_70 ?_
      refine j_s (fun σ15 eσ15 => ?_)
      replace h := bzLetE h eσ15
      obtain ⟨x16, ex16⟩ : ∃ y : Int32, y = v1 + 1 := ⟨_, rfl⟩
      replace h := bzLetE h ex16
      refine j_iinc hF (v := x16) (lv1 := [(1, .int x16), (2, .int s0), (0, .ref (ga g o))]) 2 dX1_moveOneFoot_71 rfl (by rw [ex16]; rfl) (by decide) rfl ?_
      refine j_goto hF (tgt := 2) dX1_moveOneFoot_74 (by decide) ?_
      refine j_sub [2, 0] rfl ?_
      exact hK2 x16 σ15 h
  have J2 : (K2 : Int32 → bzS → Option bzS) → (hK2 : ∀ (v1 : Int32) (σ1 : bzS), K2 v1 σ1 = some σ0 → bzJ g 3 x σ1 2 [(0, .ref (ga g o)), (1, .int v1)] []) → ∀ (v1 : Int32) (σ1 : bzS), fb_X1_moveOneFoot_2 K2 o v1 σ1 = some σ0 → bzJ g 3 x σ1 2 [(0, .ref (ga g o)), (1, .int v1)] [] := by
    intro K2 hK2 v1 σ1 h
    unfold fb_X1_moveOneFoot_2 at h
    refine j_iload_n hF 1 dX1_moveOneFoot_2 rfl ?_
    refine j_bipush hF (v := 16) dX1_moveOneFoot_3 (by decide) ?_
    refine j_icmp_ge hF (tgt := 77) dX1_moveOneFoot_5 (by decide) (fun c1 => ?_) (fun c1 => ?_)
    · replace h := bzIfT h c1
      refine j_aload_n hF 0 dX1_moveOneFoot_77 rfl ?_
      refine gf_X1_22 hF ho dX1_moveOneFoot_78 ?_
      refine j_iconst hF (v := 0) dX1_moveOneFoot_81 (by decide) ?_
      refine j_aload_n hF 0 dX1_moveOneFoot_82 rfl ?_
      refine gf_X1_19 hF ho dX1_moveOneFoot_83 ?_
      refine j_iconst hF (v := 0) dX1_moveOneFoot_86 (by decide) ?_
      refine j_bipush hF (v := 16) dX1_moveOneFoot_87 (by decide) ?_
      refine j_copy hF (c1 := 0) (c2 := 0) (c3 := 16) km_X1_91 (kl_1_4 ho) (kl_1_3 ho) (nl_1_4 ho) (nl_1_3 ho) (by decide) (by decide) (by decide) (by decide) (by decide) (Nat.le_of_ble_eq_true rfl) dX1_moveOneFoot_89 ?_
      refine j_s (fun σ2 eσ2 => ?_)
      replace h := bzLetE h eσ2
      exact j_vret hF hG dX1_moveOneFoot_92 (Option.some.inj h)
    · replace h := bzIfF h c1
      refine j_iload_n hF 1 dX1_moveOneFoot_8 rfl ?_
      obtain ⟨x4, e3, h⟩ := bzBdE h
      refine cs_X1_84 hF (fun l => mt_X1_tumbles l e3) (by decide) (Nat.le_of_ble_eq_true rfl) dX1_moveOneFoot_9 ?_
      refine j_if_ne hF (tgt := 19) dX1_moveOneFoot_12 (by decide) (fun c5 => ?_) (fun c5 => ?_)
      · replace h := bzIfF h c5
        refine j_iconst hF (v := 0) dX1_moveOneFoot_19 (by decide) ?_
        exact J20 K2 hK2 v1 0 σ1 h
      · replace h := bzIfT h c5
        refine j_iconst hF (v := 1) dX1_moveOneFoot_15 (by decide) ?_
        refine j_goto hF (tgt := 20) dX1_moveOneFoot_16 (by decide) ?_
        exact J20 K2 hK2 v1 1 σ1 h
  have L2 : ∀ (n : Nat) (v1 : Int32) (σ1 : bzS), fl_X1_moveOneFoot_2   o n v1 σ1 = some σ0 → bzJ g 3 x σ1 2 [(0, .ref (ga g o)), (1, .int v1)] [] := by
    intro  n
    induction n with
    | zero =>
      intro v1 σ1  h
      cases h
    | succ n ih =>
      intro v1 σ1  h
      exact J2  (fl_X1_moveOneFoot_2   o n) ih v1 σ1  h
  refine j_iconst hF (v := 0) dX1_moveOneFoot_0 (by decide) ?_
  refine j_istore_n hF (lv1 := [(1, .int 0), (0, .ref (ga g o))]) dX1_moveOneFoot_1 (by decide) rfl ?_
  refine j_sub [1, 0] rfl ?_
  exact L2 2000 0 σ h
def fb_X1_gaits_61 (K61 : Int32 → bzS → Option (Int32 × bzS)) (o : Nat) (a1 : Int32) (v2 : Int32) (σ1 : bzS) : Option (Int32 × bzS) :=
  if a1 ≤ v2 then (bzGd (bzIn (σ1 o 6) 16) (some ((σ1 (ly o 3) (((σ1 o 6)).toNatClampNeg)), σ1))) else (bzBd (f_X1_moveOneFoot o σ1) (fun σ11 => bzLet (v2 + 1) (fun x12 => K61 x12 σ11)))
def fl_X1_gaits_61 (o : Nat) (a1 : Int32) : Nat → Int32 → bzS → Option (Int32 × bzS)
  | 0, _, _ => none
  | n + 1, v2, σ1 => fb_X1_gaits_61   (fl_X1_gaits_61   o a1 n) o a1 v2 σ1
def fb_X1_gaits_28 (K28 : Int32 → bzS → Option (Int32 × bzS)) (o : Nat) (a1 : Int32) (v2 : Int32) (σ1 : bzS) : Option (Int32 × bzS) :=
  if 16 ≤ v2 then (fl_X1_gaits_61 o a1 2000 0 σ1) else (if v2 = (σ1 o 6) then (bzGd (bzIn v2 16) (bzLet (bzSt σ1 (ly o 3) v2.toNatClampNeg 1) (fun σ18 => bzLet (v2 + 1) (fun x19 => K28 x19 σ18)))) else (bzGd (bzIn v2 16) (bzLet (bzSt σ1 (ly o 3) v2.toNatClampNeg 0) (fun σ15 => bzLet (v2 + 1) (fun x16 => K28 x16 σ15)))))
def fl_X1_gaits_28 (o : Nat) (a1 : Int32) : Nat → Int32 → bzS → Option (Int32 × bzS)
  | 0, _, _ => none
  | n + 1, v2, σ1 => fb_X1_gaits_28   (fl_X1_gaits_28   o a1 n) o a1 v2 σ1
def f_X1_gaits (o : Nat) (a1 : Int32) (σ : bzS) : Option (Int32 × bzS) :=
  bzGd (kd o = 1) (bzBd (f_X9_isPlace ((σ o 6)) ((ly o 3))) (fun x2 => if x2 = 0 then (some (0, σ)) else (bzBd (f_X1_tumbles ((σ o 6))) (fun x5 => if x5 = 0 then (fl_X1_gaits_28 o a1 2000 0 σ) else (some (0, σ))))))
set_option maxHeartbeats 4000000 in
set_option maxRecDepth 20000 in
theorem mt_X1_gaits {g : bzGeo} {o : Nat} {a1 : Int32} {σ : bzS} {r0 : Int32} {σ0 : bzS} (l : Launch) (h : f_X1_gaits  o a1 σ = some (r0, σ0)) : Met l yX1_gaits (Cond.code yX1_gaits cX1_gaits 3 (some .int) :: GW) (bzR (4)) (va_Pc [.ref (ga g o), .int a1] (bzP g σ)) (va_Qi (fun (r : Int32) (u : bzS) => r = r0 ∧ u = σ0) (bzB g) (gA g)) 0 0 (gA g) := by
  unfold f_X1_gaits at h
  obtain ⟨ho, h⟩ := bzGdE h
  refine j_start l (by decide +kernel) [.ref (ga g o), .int a1] [(0, .ref (ga g o)), (1, .int a1)] (Nat.le_of_ble_eq_true rfl) rfl (fun x hF hG => ?_)
  have J61 : (K61 : Int32 → bzS → Option (Int32 × bzS)) → (hK61 : ∀ (v2 : Int32) (σ1 : bzS), K61 v2 σ1 = some (r0, σ0) → bzJ g 3 x σ1 61 [(0, .ref (ga g o)), (1, .int a1), (2, .int v2)] []) → ∀ (v2 : Int32) (σ1 : bzS), fb_X1_gaits_61 K61 o a1 v2 σ1 = some (r0, σ0) → bzJ g 3 x σ1 61 [(0, .ref (ga g o)), (1, .int a1), (2, .int v2)] [] := by
    intro K61 hK61 v2 σ1 h
    unfold fb_X1_gaits_61 at h
    refine j_iload_n hF 2 dX1_gaits_61 rfl ?_
    refine j_iload_n hF 1 dX1_gaits_62 rfl ?_
    refine j_icmp_ge hF (tgt := 76) dX1_gaits_63 (by decide) (fun c8 => ?_) (fun c8 => ?_)
    · replace h := bzIfT h c8
      refine j_aload_n hF 0 dX1_gaits_76 rfl ?_
      refine gf_X1_19 hF ho dX1_gaits_77 ?_
      refine j_aload_n hF 0 dX1_gaits_80 rfl ?_
      refine gf_X1_29 hF ho dX1_gaits_81 ?_
      obtain ⟨g9, h⟩ := bzGdE h
      refine j_iald hF (c := ((σ1 o 6)).toNatClampNeg) (kl_1_3 ho) (nl_1_3 ho) g9 rfl dX1_gaits_84 ?_
      exact j_iret hF hG dX1_gaits_85 (bzRet h).1 (bzRet h).2
    · replace h := bzIfF h c8
      refine j_aload_n hF 0 dX1_gaits_66 rfl ?_
      obtain ⟨σ11, e10, h⟩ := bzBdE h
      refine cs_X1_88 hF ho (fun l => mt_X1_moveOneFoot l e10) (by decide) (Nat.le_of_ble_eq_true rfl) dX1_gaits_67 ?_
      obtain ⟨x12, ex12⟩ : ∃ y : Int32, y = v2 + 1 := ⟨_, rfl⟩
      replace h := bzLetE h ex12
      refine j_iinc hF (v := x12) (lv1 := [(2, .int x12), (0, .ref (ga g o)), (1, .int a1)]) 2 dX1_gaits_70 rfl (by rw [ex12]; rfl) (by decide) rfl ?_
      refine j_goto hF (tgt := 61) dX1_gaits_73 (by decide) ?_
      refine j_sub [1, 2, 0] rfl ?_
      exact hK61 x12 σ11 h
  have L61 : ∀ (n : Nat) (v2 : Int32) (σ1 : bzS), fl_X1_gaits_61   o a1 n v2 σ1 = some (r0, σ0) → bzJ g 3 x σ1 61 [(0, .ref (ga g o)), (1, .int a1), (2, .int v2)] [] := by
    intro  n
    induction n with
    | zero =>
      intro v2 σ1  h
      cases h
    | succ n ih =>
      intro v2 σ1  h
      exact J61  (fl_X1_gaits_61   o a1 n) ih v2 σ1  h
  have J28 : (K28 : Int32 → bzS → Option (Int32 × bzS)) → (hK28 : ∀ (v2 : Int32) (σ1 : bzS), K28 v2 σ1 = some (r0, σ0) → bzJ g 3 x σ1 28 [(0, .ref (ga g o)), (1, .int a1), (2, .int v2)] []) → ∀ (v2 : Int32) (σ1 : bzS), fb_X1_gaits_28 K28 o a1 v2 σ1 = some (r0, σ0) → bzJ g 3 x σ1 28 [(0, .ref (ga g o)), (1, .int a1), (2, .int v2)] [] := by
    intro K28 hK28 v2 σ1 h
    unfold fb_X1_gaits_28 at h
    refine j_iload_n hF 2 dX1_gaits_28 rfl ?_
    refine j_bipush hF (v := 16) dX1_gaits_29 (by decide) ?_
    refine j_icmp_ge hF (tgt := 59) dX1_gaits_31 (by decide) (fun c7 => ?_) (fun c7 => ?_)
    · replace h := bzIfT h c7
      refine j_iconst hF (v := 0) dX1_gaits_59 (by decide) ?_
      refine j_istore_n hF (lv1 := [(2, .int 0), (0, .ref (ga g o)), (1, .int a1)]) dX1_gaits_60 (by decide) rfl ?_
      refine j_sub [1, 2, 0] rfl ?_
      exact L61 2000 0 σ1 h
    · replace h := bzIfF h c7
      refine j_aload_n hF 0 dX1_gaits_34 rfl ?_
      refine gf_X1_19 hF ho dX1_gaits_35 ?_
      refine j_iload_n hF 2 dX1_gaits_38 rfl ?_
      refine j_iload_n hF 2 dX1_gaits_39 rfl ?_
      refine j_aload_n hF 0 dX1_gaits_40 rfl ?_
      refine gf_X1_29 hF ho dX1_gaits_41 ?_
      refine j_icmp_ne hF (tgt := 51) dX1_gaits_44 (by decide) (fun c13 => ?_) (fun c13 => ?_)
      · replace h := bzIfF h c13
        refine j_iconst hF (v := 0) dX1_gaits_51 (by decide) ?_
        obtain ⟨g14, h⟩ := bzGdE h
        refine j_iast hF (c := v2.toNatClampNeg) (kl_1_3 ho) (nl_1_3 ho) g14 rfl dX1_gaits_52 ?_
        refine j_s (fun σ15 eσ15 => ?_)
        replace h := bzLetE h eσ15
        obtain ⟨x16, ex16⟩ : ∃ y : Int32, y = v2 + 1 := ⟨_, rfl⟩
        replace h := bzLetE h ex16
        refine j_iinc hF (v := x16) (lv1 := [(2, .int x16), (0, .ref (ga g o)), (1, .int a1)]) 2 dX1_gaits_53 rfl (by rw [ex16]; rfl) (by decide) rfl ?_
        refine j_goto hF (tgt := 28) dX1_gaits_56 (by decide) ?_
        refine j_sub [1, 2, 0] rfl ?_
        exact hK28 x16 σ15 h
      · replace h := bzIfT h c13
        refine j_iconst hF (v := 1) dX1_gaits_47 (by decide) ?_
        refine j_goto hF (tgt := 52) dX1_gaits_48 (by decide) ?_
        obtain ⟨g17, h⟩ := bzGdE h
        refine j_iast hF (c := v2.toNatClampNeg) (kl_1_3 ho) (nl_1_3 ho) g17 rfl dX1_gaits_52 ?_
        refine j_s (fun σ18 eσ18 => ?_)
        replace h := bzLetE h eσ18
        obtain ⟨x19, ex19⟩ : ∃ y : Int32, y = v2 + 1 := ⟨_, rfl⟩
        replace h := bzLetE h ex19
        refine j_iinc hF (v := x19) (lv1 := [(2, .int x19), (0, .ref (ga g o)), (1, .int a1)]) 2 dX1_gaits_53 rfl (by rw [ex19]; rfl) (by decide) rfl ?_
        refine j_goto hF (tgt := 28) dX1_gaits_56 (by decide) ?_
        refine j_sub [1, 2, 0] rfl ?_
        exact hK28 x19 σ18 h
  have L28 : ∀ (n : Nat) (v2 : Int32) (σ1 : bzS), fl_X1_gaits_28   o a1 n v2 σ1 = some (r0, σ0) → bzJ g 3 x σ1 28 [(0, .ref (ga g o)), (1, .int a1), (2, .int v2)] [] := by
    intro  n
    induction n with
    | zero =>
      intro v2 σ1  h
      cases h
    | succ n ih =>
      intro v2 σ1  h
      exact J28  (fl_X1_gaits_28   o a1 n) ih v2 σ1  h
  refine j_aload_n hF 0 dX1_gaits_0 rfl ?_
  refine gf_X1_29 hF ho dX1_gaits_1 ?_
  refine j_aload_n hF 0 dX1_gaits_4 rfl ?_
  refine gf_X1_19 hF ho dX1_gaits_5 ?_
  obtain ⟨x2, e1, h⟩ := bzBdE h
  refine cs_X1_32 hF (fun l => mt_X9_isPlace l e1) (by decide) (Nat.le_of_ble_eq_true rfl) dX1_gaits_8 ?_
  refine j_if_eq hF (tgt := 24) dX1_gaits_11 (by decide) (fun c3 => ?_) (fun c3 => ?_)
  · replace h := bzIfT h c3
    refine j_iconst hF (v := 0) dX1_gaits_24 (by decide) ?_
    exact j_iret hF hG dX1_gaits_25  (bzRet h).1 (bzRet h).2
  · replace h := bzIfF h c3
    refine j_aload_n hF 0 dX1_gaits_14 rfl ?_
    refine gf_X1_29 hF ho dX1_gaits_15 ?_
    obtain ⟨x5, e4, h⟩ := bzBdE h
    refine cs_X1_84 hF (fun l => mt_X1_tumbles l e4) (by decide) (Nat.le_of_ble_eq_true rfl) dX1_gaits_18 ?_
    refine j_if_eq hF (tgt := 26) dX1_gaits_21 (by decide) (fun c6 => ?_) (fun c6 => ?_)
    · replace h := bzIfT h c6
      refine j_iconst hF (v := 0) dX1_gaits_26 (by decide) ?_
      refine j_istore_n hF (lv1 := [(2, .int 0), (0, .ref (ga g o)), (1, .int a1)]) dX1_gaits_27 (by decide) rfl ?_
      refine j_sub [1, 2, 0] rfl ?_
      exact L28 2000 0 σ h
    · replace h := bzIfF h c6
      refine j_iconst hF (v := 0) dX1_gaits_24 (by decide) ?_
      exact j_iret hF hG dX1_gaits_25  (bzRet h).1 (bzRet h).2
