set_option linter.unusedVariables false
def f_X0_rowOfSeasons (o : Nat) (a1 : Int32) (σ : bzS) : Option (Option Nat) :=
  bzGd (kd o = 0) (if a1 = 0 then (some (some (ly o 0))) else (if a1 = 1 then (some (some (ly o 1))) else (some none)))
set_option maxHeartbeats 4000000 in
set_option maxRecDepth 20000 in
theorem mt_X0_rowOfSeasons {g : bzGeo} {o : Nat} {a1 : Int32} {σ : bzS} {r0 : Option Nat} (l : Launch) (h : f_X0_rowOfSeasons  o a1 σ = some r0) : Met l yX0_rowOfSeasons (Cond.code yX0_rowOfSeasons cX0_rowOfSeasons 2 (some (.array .int)) :: GW) (bzR (1)) (va_Pc [.ref (ga g o), .int a1] (bzP g σ)) (va_Qq (fun (r : Option Nat) (u : bzS) => r = r0.map (ga g) ∧ u = σ) (bzB g) (gA g)) 0 0 (gA g) := by
  unfold f_X0_rowOfSeasons at h
  obtain ⟨ho, h⟩ := bzGdE h
  refine j_start l (by decide +kernel) [.ref (ga g o), .int a1] [(0, .ref (ga g o)), (1, .int a1)] (Nat.le_of_ble_eq_true rfl) rfl (fun x hF hG => ?_)
  refine j_iload_n hF 1 dX0_rowOfSeasons_0 rfl ?_
  refine j_if_ne hF (tgt := 11) dX0_rowOfSeasons_1 (by decide) (fun c1 => ?_) (fun c1 => ?_)
  · replace h := bzIfF h c1
    refine j_iload_n hF 1 dX0_rowOfSeasons_11 rfl ?_
    refine j_iconst hF (v := 1) dX0_rowOfSeasons_12 (by decide) ?_
    refine j_icmp_ne hF (tgt := 23) dX0_rowOfSeasons_13 (by decide) (fun c2 => ?_) (fun c2 => ?_)
    · replace h := bzIfF h c2
      refine j_aconst_null hF dX0_rowOfSeasons_23 ?_
      exact j_aretN hF hG (Or.inr ⟨_, rfl⟩) dX0_rowOfSeasons_24 (Option.some.inj h) rfl
    · replace h := bzIfT h c2
      refine j_aload_n hF 0 dX0_rowOfSeasons_16 rfl ?_
      refine gf_X0_15 hF ho dX0_rowOfSeasons_17 ?_
      refine j_goto hF (tgt := 24) dX0_rowOfSeasons_20 (by decide) ?_
      exact j_aret hF hG (Or.inr ⟨_, rfl⟩) dX0_rowOfSeasons_24 (Option.some.inj h) rfl
  · replace h := bzIfT h c1
    refine j_aload_n hF 0 dX0_rowOfSeasons_4 rfl ?_
    refine gf_X0_9 hF ho dX0_rowOfSeasons_5 ?_
    refine j_goto hF (tgt := 24) dX0_rowOfSeasons_8 (by decide) ?_
    exact j_aret hF hG (Or.inr ⟨_, rfl⟩) dX0_rowOfSeasons_24 (Option.some.inj h) rfl
def f_X9_isPlace (a0 : Int32) (a1 : Nat) : Option Int32 :=
  bzGd (kd a1 = 11 ∨ kd a1 = 13) (if a0 < 0 then (some 0) else (if (Int32.ofNat ((ln a1))) ≤ a0 then (some 0) else (some 1)))
set_option maxHeartbeats 4000000 in
set_option maxRecDepth 20000 in
theorem mt_X9_isPlace {g : bzGeo} {a0 : Int32} {a1 : Nat} {σ : bzS} {r0 : Int32} (l : Launch) (h : f_X9_isPlace  a0 a1 = some r0) : Met l yX9_isPlace (Cond.code yX9_isPlace cX9_isPlace 2 (some .boolean) :: GW) (bzR (1)) (va_Pc [.int a0, .ref (ga g a1)] (bzP g σ)) (va_Qi (fun (r : Int32) (u : bzS) => r = r0 ∧ u = σ) (bzB g) (gA g)) 0 0 (gA g) := by
  unfold f_X9_isPlace at h
  obtain ⟨h1, h⟩ := bzGdE h
  refine j_start l (by decide +kernel) [.int a0, .ref (ga g a1)] [(0, .int a0), (1, .ref (ga g a1))] (Nat.le_of_ble_eq_true rfl) rfl (fun x hF hG => ?_)
  refine j_iload_n hF 0 dX9_isPlace_0 rfl ?_
  refine j_if_lt hF (tgt := 14) dX9_isPlace_1 (by decide) (fun c1 => ?_) (fun c1 => ?_)
  · replace h := bzIfT h c1
    refine j_iconst hF (v := 0) dX9_isPlace_14 (by decide) ?_
    exact j_zret hF hG dX9_isPlace_15 (by decide)  (Option.some.inj h) rfl
  · replace h := bzIfF h c1
    refine j_iload_n hF 0 dX9_isPlace_4 rfl ?_
    refine j_aload_n hF 1 dX9_isPlace_5 rfl ?_
    refine j_alen hF (h1.elim Or.inl (fun z => Or.inr (Or.inr z))) rfl (v := (Int32.ofNat ((ln a1)))) rfl dX9_isPlace_6 ?_
    refine j_icmp_ge hF (tgt := 14) dX9_isPlace_7 (by decide) (fun c2 => ?_) (fun c2 => ?_)
    · replace h := bzIfT h c2
      refine j_iconst hF (v := 0) dX9_isPlace_14 (by decide) ?_
      exact j_zret hF hG dX9_isPlace_15 (by decide)  (Option.some.inj h) rfl
    · replace h := bzIfF h c2
      refine j_iconst hF (v := 1) dX9_isPlace_10 (by decide) ?_
      refine j_goto hF (tgt := 15) dX9_isPlace_11 (by decide) ?_
      exact j_zret hF hG dX9_isPlace_15 (by decide)  (Option.some.inj h) rfl
def f_X9_within (a0 : Int32) (a1 : Int32) (a2 : Int32) : Option Int32 :=
  if a0 < a1 then (some 0) else (if a2 < a0 then (some 0) else (some 1))
set_option maxHeartbeats 4000000 in
set_option maxRecDepth 20000 in
theorem mt_X9_within {g : bzGeo} {a0 : Int32} {a1 : Int32} {a2 : Int32} {σ : bzS} {r0 : Int32} (l : Launch) (h : f_X9_within  a0 a1 a2 = some r0) : Met l yX9_within (Cond.code yX9_within cX9_within 3 (some .boolean) :: GW) (bzR (1)) (va_Pc [.int a0, .int a1, .int a2] (bzP g σ)) (va_Qi (fun (r : Int32) (u : bzS) => r = r0 ∧ u = σ) (bzB g) (gA g)) 0 0 (gA g) := by
  unfold f_X9_within at h
  refine j_start l (by decide +kernel) [.int a0, .int a1, .int a2] [(0, .int a0), (1, .int a1), (2, .int a2)] (Nat.le_of_ble_eq_true rfl) rfl (fun x hF hG => ?_)
  refine j_iload_n hF 0 dX9_within_0 rfl ?_
  refine j_iload_n hF 1 dX9_within_1 rfl ?_
  refine j_icmp_lt hF (tgt := 14) dX9_within_2 (by decide) (fun c1 => ?_) (fun c1 => ?_)
  · replace h := bzIfT h c1
    refine j_iconst hF (v := 0) dX9_within_14 (by decide) ?_
    exact j_zret hF hG dX9_within_15 (by decide)  (Option.some.inj h) rfl
  · replace h := bzIfF h c1
    refine j_iload_n hF 0 dX9_within_5 rfl ?_
    refine j_iload_n hF 2 dX9_within_6 rfl ?_
    refine j_icmp_gt hF (tgt := 14) dX9_within_7 (by decide) (fun c2 => ?_) (fun c2 => ?_)
    · replace h := bzIfT h c2
      refine j_iconst hF (v := 0) dX9_within_14 (by decide) ?_
      exact j_zret hF hG dX9_within_15 (by decide)  (Option.some.inj h) rfl
    · replace h := bzIfF h c2
      refine j_iconst hF (v := 1) dX9_within_10 (by decide) ?_
      refine j_goto hF (tgt := 15) dX9_within_11 (by decide) ?_
      exact j_zret hF hG dX9_within_15 (by decide)  (Option.some.inj h) rfl
def f_X9_fails (o : Nat) (a1 : Int32) (σ : bzS) : Option (Int32 × bzS) :=
  bzGd (kd o = 9) (bzLet (((-1000000000) - a1)) (fun x1 => bzBd (f_X9_isPlace x1 ((ly o 7))) (fun x3 => if x3 = 0 then (some (a1, σ)) else (bzGd (bzIn x1 6) (bzGd (bzIn x1 6) (bzLet (bzSt σ (ly o 7) x1.toNatClampNeg ((σ (ly o 7) x1.toNatClampNeg) + 1)) (fun σ7 => some (a1, σ7))))))))
set_option maxHeartbeats 4000000 in
set_option maxRecDepth 20000 in
theorem mt_X9_fails {g : bzGeo} {o : Nat} {a1 : Int32} {σ : bzS} {r0 : Int32} {σ0 : bzS} (l : Launch) (h : f_X9_fails  o a1 σ = some (r0, σ0)) : Met l yX9_fails (Cond.code yX9_fails cX9_fails 3 (some .int) :: GW) (bzR (2)) (va_Pc [.ref (ga g o), .int a1] (bzP g σ)) (va_Qi (fun (r : Int32) (u : bzS) => r = r0 ∧ u = σ0) (bzB g) (gA g)) 0 0 (gA g) := by
  unfold f_X9_fails at h
  obtain ⟨ho, h⟩ := bzGdE h
  refine j_start l (by decide +kernel) [.ref (ga g o), .int a1] [(0, .ref (ga g o)), (1, .int a1)] (Nat.le_of_ble_eq_true rfl) rfl (fun x hF hG => ?_)
  refine j_ldc_w hF (v := (-1000000000)) kc_X9_315 dX9_fails_0 ?_
  refine j_iload_n hF 1 dX9_fails_3 rfl ?_
  refine j_isub hF dX9_fails_4 ?_
  refine j_topi (fun x1 ex1 => ?_)
  replace h := bzLetE h ex1
  refine j_istore_n hF (lv1 := [(2, .int x1), (0, .ref (ga g o)), (1, .int a1)]) dX9_fails_5 (by decide) rfl ?_
  refine j_iload_n hF 0 dX9_fails_6 rfl ?_
  refine j_aload_n hF 1 dX9_fails_7 rfl ?_
  refine gf_X9_50 hF ho dX9_fails_8 ?_
  obtain ⟨x3, e2, h⟩ := bzBdE h
  refine cs_X9_62 hF (fun l => mt_X9_isPlace l e2) (by decide) (Nat.le_of_ble_eq_true rfl) dX9_fails_11 ?_
  refine j_if_eq hF (tgt := 27) dX9_fails_14 (by decide) (fun c4 => ?_) (fun c4 => ?_)
  · replace h := bzIfT h c4
    refine j_iload_n hF 2 dX9_fails_27 rfl ?_
    exact j_iret hF hG dX9_fails_28  (bzRet h).1 (bzRet h).2
  · replace h := bzIfF h c4
    refine j_aload_n hF 1 dX9_fails_17 rfl ?_
    refine gf_X9_50 hF ho dX9_fails_18 ?_
    refine j_iload_n hF 0 dX9_fails_21 rfl ?_
    refine j_dup2 hF dX9_fails_22 rfl rfl ?_
    obtain ⟨g5, h⟩ := bzGdE h
    refine j_iald hF (c := x1.toNatClampNeg) (kl_9_7 ho) (nl_9_7 ho) g5 rfl dX9_fails_23 ?_
    refine j_iconst hF (v := 1) dX9_fails_24 (by decide) ?_
    refine j_iadd hF dX9_fails_25 ?_
    obtain ⟨g6, h⟩ := bzGdE h
    refine j_iast hF (c := x1.toNatClampNeg) (kl_9_7 ho) (nl_9_7 ho) g6 rfl dX9_fails_26 ?_
    refine j_s (fun σ7 eσ7 => ?_)
    replace h := bzLetE h eσ7
    refine j_iload_n hF 2 dX9_fails_27 rfl ?_
    exact j_iret hF hG dX9_fails_28  (bzRet h).1 (bzRet h).2
def f_X9_season (o : Nat) (a1 : Int32) (a2 : Int32) (a3 : Int32) (σ : bzS) : Option (Int32 × bzS) :=
  bzGd (kd o = 9) (bzBd (f_X0_rowOfSeasons ((ly (ly o 0) 0)) a2 σ) (fun x2 => bzOp x2 (bzBp (f_X9_fails o ((-1000000001)) σ) (fun x5 σ6 => some (x5, σ6))) (fun k3 => bzGd (kd k3 = 11) (bzBd (f_X9_isPlace a1 k3) (fun x8 => if x8 = 0 then (bzBp (f_X9_fails o ((-1000000001)) σ) (fun x11 σ12 => some (x11, σ12))) else (bzBd (f_X9_within a3 0 9) (fun x14 => if x14 = 0 then (bzBp (f_X9_fails o ((-1000000001)) σ) (fun x21 σ22 => some (x21, σ22))) else (bzGd (bzIn a1 (ln k3)) (bzLet ((σ k3 a1.toNatClampNeg)) (fun x17 => bzGd (bzIn a1 (ln k3)) (bzLet (bzSt σ k3 a1.toNatClampNeg a3) (fun σ19 => some (x17, σ19)))))))))))))
set_option maxHeartbeats 4000000 in
set_option maxRecDepth 20000 in
theorem mt_X9_season {g : bzGeo} {o : Nat} {a1 : Int32} {a2 : Int32} {a3 : Int32} {σ : bzS} {r0 : Int32} {σ0 : bzS} (l : Launch) (h : f_X9_season  o a1 a2 a3 σ = some (r0, σ0)) : Met l yX9_season (Cond.code yX9_season cX9_season 6 (some .int) :: GW) (bzR (3)) (va_Pc [.ref (ga g o), .int a1, .int a2, .int a3] (bzP g σ)) (va_Qi (fun (r : Int32) (u : bzS) => r = r0 ∧ u = σ0) (bzB g) (gA g)) 0 0 (gA g) := by
  unfold f_X9_season at h
  obtain ⟨ho, h⟩ := bzGdE h
  refine j_start l (by decide +kernel) [.ref (ga g o), .int a1, .int a2, .int a3] [(0, .ref (ga g o)), (1, .int a1), (2, .int a2), (3, .int a3)] (Nat.le_of_ble_eq_true rfl) rfl (fun x hF hG => ?_)
  refine j_aload_n hF 0 dX9_season_0 rfl ?_
  refine gf_X9_12 hF ho dX9_season_1 ?_
  refine gf_X9_55 hF (kl_9_0 ho) dX9_season_4 ?_
  refine j_iload_n hF 2 dX9_season_7 rfl ?_
  obtain ⟨x2, e1, h⟩ := bzBdE h
  refine cs_X9_58 hF (kl_6_0 (kl_9_0 ho)) (fun l => mt_X0_rowOfSeasons l e1) (by decide) (Nat.le_of_ble_eq_true rfl) dX9_season_8 ?_
  cases x2 with
  | none =>
    replace h := bzOpN h
    refine j_nul ?_
    refine j_astoreN hF (lv1 := [(4, .null), (0, .ref (ga g o)), (1, .int a1), (2, .int a2), (3, .int a3)]) dX9_season_11 (by decide) rfl ?_
    refine j_aloadN hF 0 dX9_season_13 rfl ?_
    refine j_ifnullN hF (tgt := 37) dX9_season_15 (by decide) ?_
    refine j_aload_n hF 1 dX9_season_37 rfl ?_
    refine j_ldc hF (v := (-1000000001)) kc_X9_70 dX9_season_38 ?_
    obtain ⟨x5, σ6, e4, h⟩ := bzBpE h
    refine cs_X9_71 hF ho (fun l => mt_X9_fails l e4) (by decide) (Nat.le_of_ble_eq_true rfl) dX9_season_40 ?_
    exact j_iret hF hG dX9_season_43  (bzRet h).1 (bzRet h).2
  | some k3 =>
    obtain ⟨h_k3, h⟩ := bzGdE (bzOpS h)
    refine j_som ?_
    refine j_astore hF (lv1 := [(4, .ref (ga g k3)), (0, .ref (ga g o)), (1, .int a1), (2, .int a2), (3, .int a3)]) dX9_season_11 (by decide) rfl ?_
    refine j_aload hF 0 dX9_season_13 rfl ?_
    refine j_ifnull hF dX9_season_15 ?_
    refine j_iload_n hF 2 dX9_season_18 rfl ?_
    refine j_aload hF 0 dX9_season_19 rfl ?_
    obtain ⟨x8, e7, h⟩ := bzBdE h
    refine cs_X9_62 hF (fun l => mt_X9_isPlace l e7) (by decide) (Nat.le_of_ble_eq_true rfl) dX9_season_21 ?_
    refine j_if_eq hF (tgt := 37) dX9_season_24 (by decide) (fun c9 => ?_) (fun c9 => ?_)
    · replace h := bzIfT h c9
      refine j_aload_n hF 1 dX9_season_37 rfl ?_
      refine j_ldc hF (v := (-1000000001)) kc_X9_70 dX9_season_38 ?_
      obtain ⟨x11, σ12, e10, h⟩ := bzBpE h
      refine cs_X9_71 hF ho (fun l => mt_X9_fails l e10) (by decide) (Nat.le_of_ble_eq_true rfl) dX9_season_40 ?_
      exact j_iret hF hG dX9_season_43  (bzRet h).1 (bzRet h).2
    · replace h := bzIfF h c9
      refine j_iload_n hF 4 dX9_season_27 rfl ?_
      refine j_iconst hF (v := 0) dX9_season_28 (by decide) ?_
      refine j_bipush hF (v := 9) dX9_season_29 (by decide) ?_
      obtain ⟨x14, e13, h⟩ := bzBdE h
      refine cs_X9_66 hF (fun l => mt_X9_within l e13) (by decide) (Nat.le_of_ble_eq_true rfl) dX9_season_31 ?_
      refine j_if_ne hF (tgt := 44) dX9_season_34 (by decide) (fun c15 => ?_) (fun c15 => ?_)
      · replace h := bzIfF h c15
        refine j_aload hF 0 dX9_season_44 rfl ?_
        refine j_iload_n hF 2 dX9_season_46 rfl ?_
        obtain ⟨g16, h⟩ := bzGdE h
        refine j_iald hF (c := a1.toNatClampNeg) h_k3 rfl g16 rfl dX9_season_47 ?_
        refine j_topi (fun x17 ex17 => ?_)
        replace h := bzLetE h ex17
        refine j_istore hF (lv1 := [(5, .int x17), (4, .ref (ga g k3)), (0, .ref (ga g o)), (1, .int a1), (2, .int a2), (3, .int a3)]) dX9_season_48 (by decide) rfl ?_
        refine j_aload hF 1 dX9_season_50 rfl ?_
        refine j_iload_n hF 3 dX9_season_52 rfl ?_
        refine j_iload_n hF 5 dX9_season_53 rfl ?_
        obtain ⟨g18, h⟩ := bzGdE h
        refine j_iast hF (c := a1.toNatClampNeg) h_k3 rfl g18 rfl dX9_season_54 ?_
        refine j_s (fun σ19 eσ19 => ?_)
        replace h := bzLetE h eσ19
        refine j_iload hF 0 dX9_season_55 rfl ?_
        exact j_iret hF hG dX9_season_57  (bzRet h).1 (bzRet h).2
      · replace h := bzIfT h c15
        refine j_aload_n hF 1 dX9_season_37 rfl ?_
        refine j_ldc hF (v := (-1000000001)) kc_X9_70 dX9_season_38 ?_
        obtain ⟨x21, σ22, e20, h⟩ := bzBpE h
        refine cs_X9_71 hF ho (fun l => mt_X9_fails l e20) (by decide) (Nat.le_of_ble_eq_true rfl) dX9_season_40 ?_
        exact j_iret hF hG dX9_season_43  (bzRet h).1 (bzRet h).2
def f_X9_ofSeason (o : Nat) (a1 : Int32) (a2 : Int32) (σ : bzS) : Option (Int32 × bzS) :=
  bzGd (kd o = 9) (bzBd (f_X0_rowOfSeasons ((ly (ly o 0) 0)) a2 σ) (fun x2 => bzOp x2 (bzBp (f_X9_fails o ((-1000000001)) σ) (fun x5 σ6 => some (x5, σ6))) (fun k3 => bzGd (kd k3 = 11) (bzBd (f_X9_isPlace a1 k3) (fun x8 => if x8 = 0 then (bzBp (f_X9_fails o ((-1000000001)) σ) (fun x12 σ13 => some (x12, σ13))) else (bzGd (bzIn a1 (ln k3)) (some ((σ k3 a1.toNatClampNeg), σ))))))))
set_option maxHeartbeats 4000000 in
set_option maxRecDepth 20000 in
theorem mt_X9_ofSeason {g : bzGeo} {o : Nat} {a1 : Int32} {a2 : Int32} {σ : bzS} {r0 : Int32} {σ0 : bzS} (l : Launch) (h : f_X9_ofSeason  o a1 a2 σ = some (r0, σ0)) : Met l yX9_ofSeason (Cond.code yX9_ofSeason cX9_ofSeason 4 (some .int) :: GW) (bzR (3)) (va_Pc [.ref (ga g o), .int a1, .int a2] (bzP g σ)) (va_Qi (fun (r : Int32) (u : bzS) => r = r0 ∧ u = σ0) (bzB g) (gA g)) 0 0 (gA g) := by
  unfold f_X9_ofSeason at h
  obtain ⟨ho, h⟩ := bzGdE h
  refine j_start l (by decide +kernel) [.ref (ga g o), .int a1, .int a2] [(0, .ref (ga g o)), (1, .int a1), (2, .int a2)] (Nat.le_of_ble_eq_true rfl) rfl (fun x hF hG => ?_)
  refine j_aload_n hF 0 dX9_ofSeason_0 rfl ?_
  refine gf_X9_12 hF ho dX9_ofSeason_1 ?_
  refine gf_X9_55 hF (kl_9_0 ho) dX9_ofSeason_4 ?_
  refine j_iload_n hF 2 dX9_ofSeason_7 rfl ?_
  obtain ⟨x2, e1, h⟩ := bzBdE h
  refine cs_X9_58 hF (kl_6_0 (kl_9_0 ho)) (fun l => mt_X0_rowOfSeasons l e1) (by decide) (Nat.le_of_ble_eq_true rfl) dX9_ofSeason_8 ?_
  cases x2 with
  | none =>
    replace h := bzOpN h
    refine j_nul ?_
    refine j_astore_nN hF (lv1 := [(3, .null), (0, .ref (ga g o)), (1, .int a1), (2, .int a2)]) dX9_ofSeason_11 (by decide) rfl ?_
    refine j_aload_nN hF 0 dX9_ofSeason_12 rfl ?_
    refine j_ifnullN hF (tgt := 24) dX9_ofSeason_13 (by decide) ?_
    refine j_aload_n hF 1 dX9_ofSeason_24 rfl ?_
    refine j_ldc hF (v := (-1000000001)) kc_X9_70 dX9_ofSeason_25 ?_
    obtain ⟨x5, σ6, e4, h⟩ := bzBpE h
    refine cs_X9_71 hF ho (fun l => mt_X9_fails l e4) (by decide) (Nat.le_of_ble_eq_true rfl) dX9_ofSeason_27 ?_
    exact j_iret hF hG dX9_ofSeason_30  (bzRet h).1 (bzRet h).2
  | some k3 =>
    obtain ⟨h_k3, h⟩ := bzGdE (bzOpS h)
    refine j_som ?_
    refine j_astore_n hF (lv1 := [(3, .ref (ga g k3)), (0, .ref (ga g o)), (1, .int a1), (2, .int a2)]) dX9_ofSeason_11 (by decide) rfl ?_
    refine j_aload_n hF 0 dX9_ofSeason_12 rfl ?_
    refine j_ifnull hF dX9_ofSeason_13 ?_
    refine j_iload_n hF 2 dX9_ofSeason_16 rfl ?_
    refine j_aload_n hF 0 dX9_ofSeason_17 rfl ?_
    obtain ⟨x8, e7, h⟩ := bzBdE h
    refine cs_X9_62 hF (fun l => mt_X9_isPlace l e7) (by decide) (Nat.le_of_ble_eq_true rfl) dX9_ofSeason_18 ?_
    refine j_if_ne hF (tgt := 31) dX9_ofSeason_21 (by decide) (fun c9 => ?_) (fun c9 => ?_)
    · replace h := bzIfF h c9
      refine j_aload_n hF 0 dX9_ofSeason_31 rfl ?_
      refine j_iload_n hF 2 dX9_ofSeason_32 rfl ?_
      obtain ⟨g10, h⟩ := bzGdE h
      refine j_iald hF (c := a1.toNatClampNeg) h_k3 rfl g10 rfl dX9_ofSeason_33 ?_
      exact j_iret hF hG dX9_ofSeason_34  (bzRet h).1 (bzRet h).2
    · replace h := bzIfT h c9
      refine j_aload_n hF 1 dX9_ofSeason_24 rfl ?_
      refine j_ldc hF (v := (-1000000001)) kc_X9_70 dX9_ofSeason_25 ?_
      obtain ⟨x12, σ13, e11, h⟩ := bzBpE h
      refine cs_X9_71 hF ho (fun l => mt_X9_fails l e11) (by decide) (Nat.le_of_ble_eq_true rfl) dX9_ofSeason_27 ?_
      exact j_iret hF hG dX9_ofSeason_30  (bzRet h).1 (bzRet h).2
def f_X6_partOfFigure (o : Nat) (a1 : Int32) (σ : bzS) : Option Int32 :=
  bzGd (kd o = 6) (if a1 = 0 then (some ((σ (ly o 0) 5))) else if a1 = 1 then (some ((σ (ly o 0) 6))) else if a1 = 2 then (some ((σ (ly o 0) 7))) else if a1 = 3 then (some ((σ (ly o 1) 5))) else (some ((σ (ly o 1) 6))))
set_option maxHeartbeats 4000000 in
set_option maxRecDepth 20000 in
theorem mt_X6_partOfFigure {g : bzGeo} {o : Nat} {a1 : Int32} {σ : bzS} {r0 : Int32} (l : Launch) (h : f_X6_partOfFigure  o a1 σ = some r0) : Met l yX6_partOfFigure (Cond.code yX6_partOfFigure cX6_partOfFigure 2 (some .int) :: GW) (bzR (1)) (va_Pc [.ref (ga g o), .int a1] (bzP g σ)) (va_Qi (fun (r : Int32) (u : bzS) => r = r0 ∧ u = σ) (bzB g) (gA g)) 0 0 (gA g) := by
  unfold f_X6_partOfFigure at h
  obtain ⟨ho, h⟩ := bzGdE h
  refine j_start l (by decide +kernel) [.ref (ga g o), .int a1] [(0, .ref (ga g o)), (1, .int a1)] (Nat.le_of_ble_eq_true rfl) rfl (fun x hF hG => ?_)
  refine j_iload_n hF 1 dX6_partOfFigure_0 rfl ?_
  rcases Decidable.em (a1 = 0) with c1 | c1
  · replace h := bzIfT h c1
    refine j_tableIn hF (tgt := 32) dX6_partOfFigure_1 (by rw [c1] <;> decide) (by rw [c1] <;> decide) (by rw [c1] <;> rfl) (by decide) ?_
    refine j_aload_n hF 0 dX6_partOfFigure_32 rfl ?_
    refine gf_X6_12 hF ho dX6_partOfFigure_33 ?_
    refine gf_X6_41 hF (kl_6_0 ho) dX6_partOfFigure_36 ?_
    exact j_iret hF hG dX6_partOfFigure_39  (Option.some.inj h) rfl
  · replace h := bzIfF h c1
    rcases Decidable.em (a1 = 1) with c2 | c2
    · replace h := bzIfT h c2
      refine j_tableIn hF (tgt := 40) dX6_partOfFigure_1 (by rw [c2] <;> decide) (by rw [c2] <;> decide) (by rw [c2] <;> rfl) (by decide) ?_
      refine j_aload_n hF 0 dX6_partOfFigure_40 rfl ?_
      refine gf_X6_12 hF ho dX6_partOfFigure_41 ?_
      refine gf_X6_44 hF (kl_6_0 ho) dX6_partOfFigure_44 ?_
      exact j_iret hF hG dX6_partOfFigure_47  (Option.some.inj h) rfl
    · replace h := bzIfF h c2
      rcases Decidable.em (a1 = 2) with c3 | c3
      · replace h := bzIfT h c3
        refine j_tableIn hF (tgt := 48) dX6_partOfFigure_1 (by rw [c3] <;> decide) (by rw [c3] <;> decide) (by rw [c3] <;> rfl) (by decide) ?_
        refine j_aload_n hF 0 dX6_partOfFigure_48 rfl ?_
        refine gf_X6_12 hF ho dX6_partOfFigure_49 ?_
        refine gf_X6_47 hF (kl_6_0 ho) dX6_partOfFigure_52 ?_
        exact j_iret hF hG dX6_partOfFigure_55  (Option.some.inj h) rfl
      · replace h := bzIfF h c3
        rcases Decidable.em (a1 = 3) with c4 | c4
        · replace h := bzIfT h c4
          refine j_tableIn hF (tgt := 56) dX6_partOfFigure_1 (by rw [c4] <;> decide) (by rw [c4] <;> decide) (by rw [c4] <;> rfl) (by decide) ?_
          refine j_aload_n hF 0 dX6_partOfFigure_56 rfl ?_
          refine gf_X6_21 hF ho dX6_partOfFigure_57 ?_
          refine gf_X6_50 hF (kl_6_1 ho) dX6_partOfFigure_60 ?_
          exact j_iret hF hG dX6_partOfFigure_63  (Option.some.inj h) rfl
        · replace h := bzIfF h c4
          refine j_tableOut hF (tgt := 64) dX6_partOfFigure_1 (by have q0 := lv_neT (a := 0) c1 (by decide); have q1 := lv_neT (a := 1) c2 (by decide); have q2 := lv_neT (a := 2) c3 (by decide); have q3 := lv_neT (a := 3) c4 (by decide); omega) (by decide) ?_
          refine j_aload_n hF 0 dX6_partOfFigure_64 rfl ?_
          refine gf_X6_21 hF ho dX6_partOfFigure_65 ?_
          refine gf_X6_53 hF (kl_6_1 ho) dX6_partOfFigure_68 ?_
          exact j_iret hF hG dX6_partOfFigure_71  (Option.some.inj h) rfl
def f_X6_setPartOfFigure (o : Nat) (a1 : Int32) (a2 : Int32) (σ : bzS) : Option bzS :=
  bzGd (kd o = 6) (if a1 = 0 then (bzLet (bzSt σ (ly o 0) 5 a2) (fun σ2 => some σ2)) else if a1 = 1 then (bzLet (bzSt σ (ly o 0) 6 a2) (fun σ4 => some σ4)) else if a1 = 2 then (bzLet (bzSt σ (ly o 0) 7 a2) (fun σ6 => some σ6)) else if a1 = 3 then (bzLet (bzSt σ (ly o 1) 5 a2) (fun σ8 => some σ8)) else (bzLet (bzSt σ (ly o 1) 6 a2) (fun σ9 => some σ9)))
set_option maxHeartbeats 4000000 in
set_option maxRecDepth 20000 in
theorem mt_X6_setPartOfFigure {g : bzGeo} {o : Nat} {a1 : Int32} {a2 : Int32} {σ : bzS} {σ0 : bzS} (l : Launch) (h : f_X6_setPartOfFigure  o a1 a2 σ = some σ0) : Met l yX6_setPartOfFigure (Cond.code yX6_setPartOfFigure cX6_setPartOfFigure 3 none :: GW) (bzR (1)) (va_Pc [.ref (ga g o), .int a1, .int a2] (bzP g σ)) (va_Qv (fun (u : bzS) => u = σ0) (bzB g) (gA g)) 0 0 (gA g) := by
  unfold f_X6_setPartOfFigure at h
  obtain ⟨ho, h⟩ := bzGdE h
  refine j_start l (by decide +kernel) [.ref (ga g o), .int a1, .int a2] [(0, .ref (ga g o)), (1, .int a1), (2, .int a2)] (Nat.le_of_ble_eq_true rfl) rfl (fun x hF hG => ?_)
  refine j_iload_n hF 1 dX6_setPartOfFigure_0 rfl ?_
  rcases Decidable.em (a1 = 0) with c1 | c1
  · replace h := bzIfT h c1
    refine j_tableIn hF (tgt := 32) dX6_setPartOfFigure_1 (by rw [c1] <;> decide) (by rw [c1] <;> decide) (by rw [c1] <;> rfl) (by decide) ?_
    refine j_aload_n hF 0 dX6_setPartOfFigure_32 rfl ?_
    refine gf_X6_12 hF ho dX6_setPartOfFigure_33 ?_
    refine j_iload_n hF 2 dX6_setPartOfFigure_36 rfl ?_
    refine pf_X6_41 hF (kl_6_0 ho) dX6_setPartOfFigure_37 ?_
    refine j_s (fun σ2 eσ2 => ?_)
    replace h := bzLetE h eσ2
    refine j_goto hF (tgt := 84) dX6_setPartOfFigure_40 (by decide) ?_
    exact j_vret hF hG dX6_setPartOfFigure_84 (Option.some.inj h)
  · replace h := bzIfF h c1
    rcases Decidable.em (a1 = 1) with c3 | c3
    · replace h := bzIfT h c3
      refine j_tableIn hF (tgt := 43) dX6_setPartOfFigure_1 (by rw [c3] <;> decide) (by rw [c3] <;> decide) (by rw [c3] <;> rfl) (by decide) ?_
      refine j_aload_n hF 0 dX6_setPartOfFigure_43 rfl ?_
      refine gf_X6_12 hF ho dX6_setPartOfFigure_44 ?_
      refine j_iload_n hF 2 dX6_setPartOfFigure_47 rfl ?_
      refine pf_X6_44 hF (kl_6_0 ho) dX6_setPartOfFigure_48 ?_
      refine j_s (fun σ4 eσ4 => ?_)
      replace h := bzLetE h eσ4
      refine j_goto hF (tgt := 84) dX6_setPartOfFigure_51 (by decide) ?_
      exact j_vret hF hG dX6_setPartOfFigure_84 (Option.some.inj h)
    · replace h := bzIfF h c3
      rcases Decidable.em (a1 = 2) with c5 | c5
      · replace h := bzIfT h c5
        refine j_tableIn hF (tgt := 54) dX6_setPartOfFigure_1 (by rw [c5] <;> decide) (by rw [c5] <;> decide) (by rw [c5] <;> rfl) (by decide) ?_
        refine j_aload_n hF 0 dX6_setPartOfFigure_54 rfl ?_
        refine gf_X6_12 hF ho dX6_setPartOfFigure_55 ?_
        refine j_iload_n hF 2 dX6_setPartOfFigure_58 rfl ?_
        refine pf_X6_47 hF (kl_6_0 ho) dX6_setPartOfFigure_59 ?_
        refine j_s (fun σ6 eσ6 => ?_)
        replace h := bzLetE h eσ6
        refine j_goto hF (tgt := 84) dX6_setPartOfFigure_62 (by decide) ?_
        exact j_vret hF hG dX6_setPartOfFigure_84 (Option.some.inj h)
      · replace h := bzIfF h c5
        rcases Decidable.em (a1 = 3) with c7 | c7
        · replace h := bzIfT h c7
          refine j_tableIn hF (tgt := 65) dX6_setPartOfFigure_1 (by rw [c7] <;> decide) (by rw [c7] <;> decide) (by rw [c7] <;> rfl) (by decide) ?_
          refine j_aload_n hF 0 dX6_setPartOfFigure_65 rfl ?_
          refine gf_X6_21 hF ho dX6_setPartOfFigure_66 ?_
          refine j_iload_n hF 2 dX6_setPartOfFigure_69 rfl ?_
          refine pf_X6_50 hF (kl_6_1 ho) dX6_setPartOfFigure_70 ?_
          refine j_s (fun σ8 eσ8 => ?_)
          replace h := bzLetE h eσ8
          refine j_goto hF (tgt := 84) dX6_setPartOfFigure_73 (by decide) ?_
          exact j_vret hF hG dX6_setPartOfFigure_84 (Option.some.inj h)
        · replace h := bzIfF h c7
          refine j_tableOut hF (tgt := 76) dX6_setPartOfFigure_1 (by have q0 := lv_neT (a := 0) c1 (by decide); have q1 := lv_neT (a := 1) c3 (by decide); have q2 := lv_neT (a := 2) c5 (by decide); have q3 := lv_neT (a := 3) c7 (by decide); omega) (by decide) ?_
          refine j_aload_n hF 0 dX6_setPartOfFigure_76 rfl ?_
          refine gf_X6_21 hF ho dX6_setPartOfFigure_77 ?_
          refine j_iload_n hF 2 dX6_setPartOfFigure_80 rfl ?_
          refine pf_X6_53 hF (kl_6_1 ho) dX6_setPartOfFigure_81 ?_
          refine j_s (fun σ9 eσ9 => ?_)
          replace h := bzLetE h eσ9
          exact j_vret hF hG dX6_setPartOfFigure_84 (Option.some.inj h)
def f_X9_figure (o : Nat) (a1 : Int32) (a2 : Int32) (σ : bzS) : Option (Int32 × bzS) :=
  bzGd (kd o = 9) (bzBd (f_X9_isPlace a1 108) (fun x2 => if x2 = 0 then (bzBp (f_X9_fails o ((-1000000001)) σ) (fun x5 σ6 => some (x5, σ6))) else (bzGd (bzIn a1 5) (bzBd (f_X9_within a2 0 ((tb 108 a1.toNatClampNeg))) (fun x9 => if x9 = 0 then (bzBp (f_X9_fails o ((-1000000001)) σ) (fun x16 σ17 => some (x16, σ17))) else (bzBd (f_X6_partOfFigure ((ly o 0)) a1 σ) (fun x12 => bzBd (f_X6_setPartOfFigure ((ly o 0)) a1 a2 σ) (fun σ14 => some (x12, σ14)))))))))
set_option maxHeartbeats 4000000 in
set_option maxRecDepth 20000 in
theorem mt_X9_figure {g : bzGeo} {o : Nat} {a1 : Int32} {a2 : Int32} {σ : bzS} {r0 : Int32} {σ0 : bzS} (l : Launch) (h : f_X9_figure  o a1 a2 σ = some (r0, σ0)) : Met l yX9_figure (Cond.code yX9_figure cX9_figure 4 (some .int) :: GW) (bzR (3)) (va_Pc [.ref (ga g o), .int a1, .int a2] (bzP g σ)) (va_Qi (fun (r : Int32) (u : bzS) => r = r0 ∧ u = σ0) (bzB g) (gA g)) 0 0 (gA g) := by
  unfold f_X9_figure at h
  obtain ⟨ho, h⟩ := bzGdE h
  refine j_start l (by decide +kernel) [.ref (ga g o), .int a1, .int a2] [(0, .ref (ga g o)), (1, .int a1), (2, .int a2)] (Nat.le_of_ble_eq_true rfl) rfl (fun x hF hG => ?_)
  refine j_iload_n hF 1 dX9_figure_0 rfl ?_
  refine gs_X9_75 hF dX9_figure_1 ?_
  obtain ⟨x2, e1, h⟩ := bzBdE h
  refine cs_X9_62 hF (fun l => mt_X9_isPlace l e1) (by decide) (Nat.le_of_ble_eq_true rfl) dX9_figure_4 ?_
  refine j_if_eq hF (tgt := 23) dX9_figure_7 (by decide) (fun c3 => ?_) (fun c3 => ?_)
  · replace h := bzIfT h c3
    refine j_aload_n hF 0 dX9_figure_23 rfl ?_
    refine j_ldc hF (v := (-1000000001)) kc_X9_70 dX9_figure_24 ?_
    obtain ⟨x5, σ6, e4, h⟩ := bzBpE h
    refine cs_X9_71 hF ho (fun l => mt_X9_fails l e4) (by decide) (Nat.le_of_ble_eq_true rfl) dX9_figure_26 ?_
    exact j_iret hF hG dX9_figure_29  (bzRet h).1 (bzRet h).2
  · replace h := bzIfF h c3
    refine j_iload_n hF 2 dX9_figure_10 rfl ?_
    refine j_iconst hF (v := 0) dX9_figure_11 (by decide) ?_
    refine gs_X9_75 hF dX9_figure_12 ?_
    refine j_iload_n hF 1 dX9_figure_15 rfl ?_
    obtain ⟨g7, h⟩ := bzGdE h
    refine j_tald hF (c := a1.toNatClampNeg) (by decide) rfl g7 rfl dX9_figure_16 ?_
    obtain ⟨x9, e8, h⟩ := bzBdE h
    refine cs_X9_66 hF (fun l => mt_X9_within l e8) (by decide) (Nat.le_of_ble_eq_true rfl) dX9_figure_17 ?_
    refine j_if_ne hF (tgt := 30) dX9_figure_20 (by decide) (fun c10 => ?_) (fun c10 => ?_)
    · replace h := bzIfF h c10
      refine j_aload_n hF 0 dX9_figure_30 rfl ?_
      refine gf_X9_12 hF ho dX9_figure_31 ?_
      refine j_iload_n hF 1 dX9_figure_34 rfl ?_
      obtain ⟨x12, e11, h⟩ := bzBdE h
      refine cs_X9_78 hF (kl_9_0 ho) (fun l => mt_X6_partOfFigure l e11) (by decide) (Nat.le_of_ble_eq_true rfl) dX9_figure_35 ?_
      refine j_istore_n hF (lv1 := [(3, .int x12), (0, .ref (ga g o)), (1, .int a1), (2, .int a2)]) dX9_figure_38 (by decide) rfl ?_
      refine j_aload_n hF 1 dX9_figure_39 rfl ?_
      refine gf_X9_12 hF ho dX9_figure_40 ?_
      refine j_iload_n hF 2 dX9_figure_43 rfl ?_
      refine j_iload_n hF 3 dX9_figure_44 rfl ?_
      obtain ⟨σ14, e13, h⟩ := bzBdE h
      refine cs_X9_81 hF (kl_9_0 ho) (fun l => mt_X6_setPartOfFigure l e13) (by decide) (Nat.le_of_ble_eq_true rfl) dX9_figure_45 ?_
      refine j_iload_n hF 0 dX9_figure_48 rfl ?_
      exact j_iret hF hG dX9_figure_49  (bzRet h).1 (bzRet h).2
    · replace h := bzIfT h c10
      refine j_aload_n hF 0 dX9_figure_23 rfl ?_
      refine j_ldc hF (v := (-1000000001)) kc_X9_70 dX9_figure_24 ?_
      obtain ⟨x16, σ17, e15, h⟩ := bzBpE h
      refine cs_X9_71 hF ho (fun l => mt_X9_fails l e15) (by decide) (Nat.le_of_ble_eq_true rfl) dX9_figure_26 ?_
      exact j_iret hF hG dX9_figure_29  (bzRet h).1 (bzRet h).2
def f_X0_weight (o : Nat) (σ : bzS) : Option Int32 :=
  bzGd (kd o = 0) (some ((40 + ((σ o 7) / 4))))
set_option maxHeartbeats 4000000 in
set_option maxRecDepth 20000 in
theorem mt_X0_weight {g : bzGeo} {o : Nat} {σ : bzS} {r0 : Int32} (l : Launch) (h : f_X0_weight  o σ = some r0) : Met l yX0_weight (Cond.code yX0_weight cX0_weight 1 (some .int) :: GW) (bzR (1)) (va_Pc [.ref (ga g o)] (bzP g σ)) (va_Qi (fun (r : Int32) (u : bzS) => r = r0 ∧ u = σ) (bzB g) (gA g)) 0 0 (gA g) := by
  unfold f_X0_weight at h
  obtain ⟨ho, h⟩ := bzGdE h
  refine j_start l (by decide +kernel) [.ref (ga g o)] [(0, .ref (ga g o))] (Nat.le_of_ble_eq_true rfl) rfl (fun x hF hG => ?_)
  refine j_bipush hF (v := 40) dX0_weight_0 (by decide) ?_
  refine j_aload_n hF 0 dX0_weight_2 rfl ?_
  refine gf_X0_42 hF ho dX0_weight_3 ?_
  refine j_iconst hF (v := 4) dX0_weight_6 (by decide) ?_
  refine j_idiv hF dX0_weight_7 (by decide) ?_
  refine j_iadd hF dX0_weight_8 ?_
  exact j_iret hF hG dX0_weight_9  (Option.some.inj h) rfl
def f_J_floorMod (a0 : Int32) (a1 : Int32) : Option Int32 :=
  bzGd (¬ a1 = 0) (bzLet ((a0 - a0 / a1 * a1)) (fun x2 => if 0 ≤ (a0 ^^^ a1) then (some x2) else (if x2 = 0 then (some x2) else (some ((x2 + a1))))))
set_option maxHeartbeats 4000000 in
set_option maxRecDepth 20000 in
theorem mt_J_floorMod {g : bzGeo} {a0 : Int32} {a1 : Int32} {σ : bzS} {r0 : Int32} (l : Launch) (h : f_J_floorMod  a0 a1 = some r0) : Met l yJ_floorMod (Cond.code yJ_floorMod cJ_floorMod 3 (some .int) :: GW) (bzR (1)) (va_Pc [.int a0, .int a1] (bzP g σ)) (va_Qi (fun (r : Int32) (u : bzS) => r = r0 ∧ u = σ) (bzB g) (gA g)) 0 0 (gA g) := by
  unfold f_J_floorMod at h
  refine j_start l (by decide +kernel) [.int a0, .int a1] [(0, .int a0), (1, .int a1)] (Nat.le_of_ble_eq_true rfl) rfl (fun x hF hG => ?_)
  refine j_iload_n hF 0 dJ_floorMod_0 rfl ?_
  refine j_iload_n hF 1 dJ_floorMod_1 rfl ?_
  obtain ⟨g1, h⟩ := bzGdE h
  refine j_irem hF dJ_floorMod_2 g1 ?_
  refine j_topi (fun x2 ex2 => ?_)
  replace h := bzLetE h ex2
  refine j_istore_n hF (lv1 := [(2, .int x2), (0, .int a0), (1, .int a1)]) dJ_floorMod_3 (by decide) rfl ?_
  refine j_iload_n hF 1 dJ_floorMod_4 rfl ?_
  refine j_iload_n hF 2 dJ_floorMod_5 rfl ?_
  refine j_ixor hF dJ_floorMod_6 ?_
  refine j_if_ge hF (tgt := 18) dJ_floorMod_7 (by decide) (fun c3 => ?_) (fun c3 => ?_)
  · replace h := bzIfT h c3
    refine j_iload_n hF 0 dJ_floorMod_18 rfl ?_
    exact j_iret hF hG dJ_floorMod_19  (Option.some.inj h) rfl
  · replace h := bzIfF h c3
    refine j_iload_n hF 0 dJ_floorMod_10 rfl ?_
    refine j_if_eq hF (tgt := 18) dJ_floorMod_11 (by decide) (fun c4 => ?_) (fun c4 => ?_)
    · replace h := bzIfT h c4
      refine j_iload_n hF 0 dJ_floorMod_18 rfl ?_
      exact j_iret hF hG dJ_floorMod_19  (Option.some.inj h) rfl
    · replace h := bzIfF h c4
      refine j_iload_n hF 0 dJ_floorMod_14 rfl ?_
      refine j_iload_n hF 2 dJ_floorMod_15 rfl ?_
      refine j_iadd hF dJ_floorMod_16 ?_
      exact j_iret hF hG dJ_floorMod_17  (Option.some.inj h) rfl
def f_X0_heatNow (o : Nat) (σ : bzS) : Option Int32 :=
  bzGd (kd o = 0) (bzBd (f_J_floorMod ((σ o 8)) 6) (fun x2 => bzGd (bzIn x2 6) (some ((σ (ly o 0) x2.toNatClampNeg)))))
set_option maxHeartbeats 4000000 in
set_option maxRecDepth 20000 in
theorem mt_X0_heatNow {g : bzGeo} {o : Nat} {σ : bzS} {r0 : Int32} (l : Launch) (h : f_X0_heatNow  o σ = some r0) : Met l yX0_heatNow (Cond.code yX0_heatNow cX0_heatNow 1 (some .int) :: GW) (bzR (2)) (va_Pc [.ref (ga g o)] (bzP g σ)) (va_Qi (fun (r : Int32) (u : bzS) => r = r0 ∧ u = σ) (bzB g) (gA g)) 0 0 (gA g) := by
  unfold f_X0_heatNow at h
  obtain ⟨ho, h⟩ := bzGdE h
  refine j_start l (by decide +kernel) [.ref (ga g o)] [(0, .ref (ga g o))] (Nat.le_of_ble_eq_true rfl) rfl (fun x hF hG => ?_)
  refine j_aload_n hF 0 dX0_heatNow_0 rfl ?_
  refine gf_X0_9 hF ho dX0_heatNow_1 ?_
  refine j_aload_n hF 0 dX0_heatNow_4 rfl ?_
  refine gf_X0_45 hF ho dX0_heatNow_5 ?_
  refine j_bipush hF (v := 6) dX0_heatNow_8 (by decide) ?_
  obtain ⟨x2, e1, h⟩ := bzBdE h
  refine cs_X0_48 hF (fun l => mt_J_floorMod l e1) (by decide) (Nat.le_of_ble_eq_true rfl) dX0_heatNow_10 ?_
  obtain ⟨g3, h⟩ := bzGdE h
  refine j_iald hF (c := x2.toNatClampNeg) (kl_0_0 ho) (nl_0_0 ho) g3 rfl dX0_heatNow_13 ?_
  exact j_iret hF hG dX0_heatNow_14  (Option.some.inj h) rfl
def f_X0_lawOf (o : Nat) (a1 : Int32) (σ : bzS) : Option (Option Nat) :=
  bzGd (kd o = 0) (if a1 = 0 then (some (some (ly o 3))) else (some (some (ly o 4))))
set_option maxHeartbeats 4000000 in
set_option maxRecDepth 20000 in
theorem mt_X0_lawOf {g : bzGeo} {o : Nat} {a1 : Int32} {σ : bzS} {r0 : Option Nat} (l : Launch) (h : f_X0_lawOf  o a1 σ = some r0) : Met l yX0_lawOf (Cond.code yX0_lawOf cX0_lawOf 2 (some (.object "BronzeDown$Law")) :: GW) (bzR (1)) (va_Pc [.ref (ga g o), .int a1] (bzP g σ)) (va_Qq (fun (r : Option Nat) (u : bzS) => r = r0.map (ga g) ∧ u = σ) (bzB g) (gA g)) 0 0 (gA g) := by
  unfold f_X0_lawOf at h
  obtain ⟨ho, h⟩ := bzGdE h
  refine j_start l (by decide +kernel) [.ref (ga g o), .int a1] [(0, .ref (ga g o)), (1, .int a1)] (Nat.le_of_ble_eq_true rfl) rfl (fun x hF hG => ?_)
  refine j_iload_n hF 1 dX0_lawOf_0 rfl ?_
  refine j_if_ne hF (tgt := 11) dX0_lawOf_1 (by decide) (fun c1 => ?_) (fun c1 => ?_)
  · replace h := bzIfF h c1
    refine j_aload_n hF 0 dX0_lawOf_11 rfl ?_
    refine gf_X0_32 hF ho dX0_lawOf_12 ?_
    exact j_aret hF hG (Or.inl ⟨_, rfl⟩) dX0_lawOf_15 (Option.some.inj h) rfl
  · replace h := bzIfT h c1
    refine j_aload_n hF 0 dX0_lawOf_4 rfl ?_
    refine gf_X0_28 hF ho dX0_lawOf_5 ?_
    refine j_goto hF (tgt := 15) dX0_lawOf_8 (by decide) ?_
    exact j_aret hF hG (Or.inl ⟨_, rfl⟩) dX0_lawOf_15 (Option.some.inj h) rfl
def f_X4_at (o : Nat) (a1 : Int32) (σ : bzS) : Option Int32 :=
  bzGd (kd o = 4) (if a1 < 0 then (some 0) else (if (σ o 1) ≤ a1 then (some 0) else (if (Int32.ofNat ((ln (ly o 0)))) ≤ a1 then (some 0) else (bzGd (bzIn a1 (ln (ly o 0))) (some ((σ (ly o 0) a1.toNatClampNeg)))))))
set_option maxHeartbeats 4000000 in
set_option maxRecDepth 20000 in
theorem mt_X4_at {g : bzGeo} {o : Nat} {a1 : Int32} {σ : bzS} {r0 : Int32} (l : Launch) (h : f_X4_at  o a1 σ = some r0) : Met l yX4_at (Cond.code yX4_at cX4_at 2 (some .int) :: GW) (bzR (1)) (va_Pc [.ref (ga g o), .int a1] (bzP g σ)) (va_Qi (fun (r : Int32) (u : bzS) => r = r0 ∧ u = σ) (bzB g) (gA g)) 0 0 (gA g) := by
  unfold f_X4_at at h
  obtain ⟨ho, h⟩ := bzGdE h
  refine j_start l (by decide +kernel) [.ref (ga g o), .int a1] [(0, .ref (ga g o)), (1, .int a1)] (Nat.le_of_ble_eq_true rfl) rfl (fun x hF hG => ?_)
  refine j_iload_n hF 1 dX4_at_0 rfl ?_
  refine j_if_lt hF (tgt := 30) dX4_at_1 (by decide) (fun c1 => ?_) (fun c1 => ?_)
  · replace h := bzIfT h c1
    refine j_iconst hF (v := 0) dX4_at_30 (by decide) ?_
    exact j_iret hF hG dX4_at_31  (Option.some.inj h) rfl
  · replace h := bzIfF h c1
    refine j_iload_n hF 1 dX4_at_4 rfl ?_
    refine j_aload_n hF 0 dX4_at_5 rfl ?_
    refine gf_X4_7 hF ho dX4_at_6 ?_
    refine j_icmp_ge hF (tgt := 30) dX4_at_9 (by decide) (fun c2 => ?_) (fun c2 => ?_)
    · replace h := bzIfT h c2
      refine j_iconst hF (v := 0) dX4_at_30 (by decide) ?_
      exact j_iret hF hG dX4_at_31  (Option.some.inj h) rfl
    · replace h := bzIfF h c2
      refine j_iload_n hF 1 dX4_at_12 rfl ?_
      refine j_aload_n hF 0 dX4_at_13 rfl ?_
      refine gf_X4_19 hF ho dX4_at_14 ?_
      refine j_alen hF (Or.inl (kl_4_0 ho)) rfl (v := (Int32.ofNat ((ln (ly o 0))))) rfl dX4_at_17 ?_
      refine j_icmp_ge hF (tgt := 30) dX4_at_18 (by decide) (fun c3 => ?_) (fun c3 => ?_)
      · replace h := bzIfT h c3
        refine j_iconst hF (v := 0) dX4_at_30 (by decide) ?_
        exact j_iret hF hG dX4_at_31  (Option.some.inj h) rfl
      · replace h := bzIfF h c3
        refine j_aload_n hF 0 dX4_at_21 rfl ?_
        refine gf_X4_19 hF ho dX4_at_22 ?_
        refine j_iload_n hF 1 dX4_at_25 rfl ?_
        obtain ⟨g4, h⟩ := bzGdE h
        refine j_iald hF (c := a1.toNatClampNeg) (kl_4_0 ho) rfl g4 rfl dX4_at_26 ?_
        refine j_goto hF (tgt := 31) dX4_at_27 (by decide) ?_
        exact j_iret hF hG dX4_at_31  (Option.some.inj h) rfl
def f_X2_operand (a0 : Int32) (a1 : Int32) (a2 : Int32) (a3 : Int32) : Option Int32 :=
  if a0 < 0 then (if a0 = (-1) then (some a1) else (if a0 = (-3) then (some a3) else (some a2))) else (some a0)
set_option maxHeartbeats 4000000 in
set_option maxRecDepth 20000 in
theorem mt_X2_operand {g : bzGeo} {a0 : Int32} {a1 : Int32} {a2 : Int32} {a3 : Int32} {σ : bzS} {r0 : Int32} (l : Launch) (h : f_X2_operand  a0 a1 a2 a3 = some r0) : Met l yX2_operand (Cond.code yX2_operand cX2_operand 4 (some .int) :: GW) (bzR (1)) (va_Pc [.int a0, .int a1, .int a2, .int a3] (bzP g σ)) (va_Qi (fun (r : Int32) (u : bzS) => r = r0 ∧ u = σ) (bzB g) (gA g)) 0 0 (gA g) := by
  unfold f_X2_operand at h
  refine j_start l (by decide +kernel) [.int a0, .int a1, .int a2, .int a3] [(0, .int a0), (1, .int a1), (2, .int a2), (3, .int a3)] (Nat.le_of_ble_eq_true rfl) rfl (fun x hF hG => ?_)
  refine j_iload_n hF 0 dX2_operand_0 rfl ?_
  refine j_if_lt hF (tgt := 6) dX2_operand_1 (by decide) (fun c1 => ?_) (fun c1 => ?_)
  · replace h := bzIfT h c1
    refine j_iload_n hF 0 dX2_operand_6 rfl ?_
    refine j_iconst hF (v := (-1)) dX2_operand_7 (by decide) ?_
    refine j_icmp_ne hF (tgt := 15) dX2_operand_8 (by decide) (fun c2 => ?_) (fun c2 => ?_)
    · replace h := bzIfF h c2
      refine j_iload_n hF 0 dX2_operand_15 rfl ?_
      refine j_bipush hF (v := (-3)) dX2_operand_16 (by decide) ?_
      refine j_icmp_ne hF (tgt := 25) dX2_operand_18 (by decide) (fun c3 => ?_) (fun c3 => ?_)
      · replace h := bzIfF h c3
        refine j_iload_n hF 2 dX2_operand_25 rfl ?_
        exact j_iret hF hG dX2_operand_26  (Option.some.inj h) rfl
      · replace h := bzIfT h c3
        refine j_iload_n hF 3 dX2_operand_21 rfl ?_
        refine j_goto hF (tgt := 26) dX2_operand_22 (by decide) ?_
        exact j_iret hF hG dX2_operand_26  (Option.some.inj h) rfl
    · replace h := bzIfT h c2
      refine j_iload_n hF 1 dX2_operand_11 rfl ?_
      refine j_goto hF (tgt := 26) dX2_operand_12 (by decide) ?_
      exact j_iret hF hG dX2_operand_26  (Option.some.inj h) rfl
  · replace h := bzIfF h c1
    refine j_iload_n hF 0 dX2_operand_4 rfl ?_
    exact j_iret hF hG dX2_operand_5  (Option.some.inj h) rfl
def f_X2_joined (a0 : Int32) (a1 : Int32) (a2 : Int32) : Option Int32 :=
  if a0 = 37 then (if a2 = 0 then (some 0) else (bzGd (¬ a2 = 0) (some ((a1 - a1 / a2 * a2))))) else if a0 = 38 then (if a1 = 0 then (some 0) else (if a2 = 0 then (some 0) else (some 1))) else if a0 = 42 then (some ((a1 * a2))) else if a0 = 43 then (some ((a1 + a2))) else if a0 = 45 then (some ((a1 - a2))) else if a0 = 47 then (if a2 = 0 then (some 0) else (bzGd (¬ a2 = 0) (some ((a1 / a2))))) else if a0 = 60 then (if a2 ≤ a1 then (some 0) else (some 1)) else if a0 = 61 then (if a1 = a2 then (some 1) else (some 0)) else if a0 = 62 then (if a1 ≤ a2 then (some 0) else (some 1)) else if a0 = 124 then (if a1 = 0 then (if a2 = 0 then (some 0) else (some 1)) else (some 1)) else (some 0)
set_option maxHeartbeats 4000000 in
set_option maxRecDepth 20000 in
theorem mt_X2_joined {g : bzGeo} {a0 : Int32} {a1 : Int32} {a2 : Int32} {σ : bzS} {r0 : Int32} (l : Launch) (h : f_X2_joined  a0 a1 a2 = some r0) : Met l yX2_joined (Cond.code yX2_joined cX2_joined 3 (some .int) :: GW) (bzR (1)) (va_Pc [.int a0, .int a1, .int a2] (bzP g σ)) (va_Qi (fun (r : Int32) (u : bzS) => r = r0 ∧ u = σ) (bzB g) (gA g)) 0 0 (gA g) := by
  unfold f_X2_joined at h
  refine j_start l (by decide +kernel) [.int a0, .int a1, .int a2] [(0, .int a0), (1, .int a1), (2, .int a2)] (Nat.le_of_ble_eq_true rfl) rfl (fun x hF hG => ?_)
  refine j_iload_n hF 0 dX2_joined_0 rfl ?_
  rcases Decidable.em (a0 = 37) with c1 | c1
  · replace h := bzIfT h c1
    refine j_lookup hF (tgt := 177) dX2_joined_1 (by decide) (by rw [c1] <;> rfl) (by decide) ?_
    refine j_iload_n hF 2 dX2_joined_177 rfl ?_
    refine j_if_ne hF (tgt := 185) dX2_joined_178 (by decide) (fun c2 => ?_) (fun c2 => ?_)
    · replace h := bzIfF h c2
      refine j_iload_n hF 1 dX2_joined_185 rfl ?_
      refine j_iload_n hF 2 dX2_joined_186 rfl ?_
      obtain ⟨g3, h⟩ := bzGdE h
      refine j_irem hF dX2_joined_187 g3 ?_
      exact j_iret hF hG dX2_joined_188  (Option.some.inj h) rfl
    · replace h := bzIfT h c2
      refine j_iconst hF (v := 0) dX2_joined_181 (by decide) ?_
      refine j_goto hF (tgt := 188) dX2_joined_182 (by decide) ?_
      exact j_iret hF hG dX2_joined_188  (Option.some.inj h) rfl
  · replace h := bzIfF h c1
    rcases Decidable.em (a0 = 38) with c4 | c4
    · replace h := bzIfT h c4
      refine j_lookup hF (tgt := 106) dX2_joined_1 (by decide) (by rw [c4] <;> rfl) (by decide) ?_
      refine j_iload_n hF 1 dX2_joined_106 rfl ?_
      refine j_if_eq hF (tgt := 118) dX2_joined_107 (by decide) (fun c5 => ?_) (fun c5 => ?_)
      · replace h := bzIfT h c5
        refine j_iconst hF (v := 0) dX2_joined_118 (by decide) ?_
        exact j_iret hF hG dX2_joined_119  (Option.some.inj h) rfl
      · replace h := bzIfF h c5
        refine j_iload_n hF 2 dX2_joined_110 rfl ?_
        refine j_if_eq hF (tgt := 118) dX2_joined_111 (by decide) (fun c6 => ?_) (fun c6 => ?_)
        · replace h := bzIfT h c6
          refine j_iconst hF (v := 0) dX2_joined_118 (by decide) ?_
          exact j_iret hF hG dX2_joined_119  (Option.some.inj h) rfl
        · replace h := bzIfF h c6
          refine j_iconst hF (v := 1) dX2_joined_114 (by decide) ?_
          refine j_goto hF (tgt := 119) dX2_joined_115 (by decide) ?_
          exact j_iret hF hG dX2_joined_119  (Option.some.inj h) rfl
    · replace h := bzIfF h c4
      rcases Decidable.em (a0 = 42) with c7 | c7
      · replace h := bzIfT h c7
        refine j_lookup hF (tgt := 161) dX2_joined_1 (by decide) (by rw [c7] <;> rfl) (by decide) ?_
        refine j_iload_n hF 1 dX2_joined_161 rfl ?_
        refine j_iload_n hF 2 dX2_joined_162 rfl ?_
        refine j_imul hF dX2_joined_163 ?_
        exact j_iret hF hG dX2_joined_164  (Option.some.inj h) rfl
      · replace h := bzIfF h c7
        rcases Decidable.em (a0 = 43) with c8 | c8
        · replace h := bzIfT h c8
          refine j_lookup hF (tgt := 153) dX2_joined_1 (by decide) (by rw [c8] <;> rfl) (by decide) ?_
          refine j_iload_n hF 1 dX2_joined_153 rfl ?_
          refine j_iload_n hF 2 dX2_joined_154 rfl ?_
          refine j_iadd hF dX2_joined_155 ?_
          exact j_iret hF hG dX2_joined_156  (Option.some.inj h) rfl
        · replace h := bzIfF h c8
          rcases Decidable.em (a0 = 45) with c9 | c9
          · replace h := bzIfT h c9
            refine j_lookup hF (tgt := 157) dX2_joined_1 (by decide) (by rw [c9] <;> rfl) (by decide) ?_
            refine j_iload_n hF 1 dX2_joined_157 rfl ?_
            refine j_iload_n hF 2 dX2_joined_158 rfl ?_
            refine j_isub hF dX2_joined_159 ?_
            exact j_iret hF hG dX2_joined_160  (Option.some.inj h) rfl
          · replace h := bzIfF h c9
            rcases Decidable.em (a0 = 47) with c10 | c10
            · replace h := bzIfT h c10
              refine j_lookup hF (tgt := 165) dX2_joined_1 (by decide) (by rw [c10] <;> rfl) (by decide) ?_
              refine j_iload_n hF 2 dX2_joined_165 rfl ?_
              refine j_if_ne hF (tgt := 173) dX2_joined_166 (by decide) (fun c11 => ?_) (fun c11 => ?_)
              · replace h := bzIfF h c11
                refine j_iload_n hF 1 dX2_joined_173 rfl ?_
                refine j_iload_n hF 2 dX2_joined_174 rfl ?_
                obtain ⟨g12, h⟩ := bzGdE h
                refine j_idiv hF dX2_joined_175 g12 ?_
                exact j_iret hF hG dX2_joined_176  (Option.some.inj h) rfl
              · replace h := bzIfT h c11
                refine j_iconst hF (v := 0) dX2_joined_169 (by decide) ?_
                refine j_goto hF (tgt := 176) dX2_joined_170 (by decide) ?_
                exact j_iret hF hG dX2_joined_176  (Option.some.inj h) rfl
            · replace h := bzIfF h c10
              rcases Decidable.em (a0 = 60) with c13 | c13
              · replace h := bzIfT h c13
                refine j_lookup hF (tgt := 120) dX2_joined_1 (by decide) (by rw [c13] <;> rfl) (by decide) ?_
                refine j_iload_n hF 1 dX2_joined_120 rfl ?_
                refine j_iload_n hF 2 dX2_joined_121 rfl ?_
                refine j_icmp_ge hF (tgt := 129) dX2_joined_122 (by decide) (fun c14 => ?_) (fun c14 => ?_)
                · replace h := bzIfT h c14
                  refine j_iconst hF (v := 0) dX2_joined_129 (by decide) ?_
                  exact j_iret hF hG dX2_joined_130  (Option.some.inj h) rfl
                · replace h := bzIfF h c14
                  refine j_iconst hF (v := 1) dX2_joined_125 (by decide) ?_
                  refine j_goto hF (tgt := 130) dX2_joined_126 (by decide) ?_
                  exact j_iret hF hG dX2_joined_130  (Option.some.inj h) rfl
              · replace h := bzIfF h c13
                rcases Decidable.em (a0 = 61) with c15 | c15
                · replace h := bzIfT h c15
                  refine j_lookup hF (tgt := 131) dX2_joined_1 (by decide) (by rw [c15] <;> rfl) (by decide) ?_
                  refine j_iload_n hF 1 dX2_joined_131 rfl ?_
                  refine j_iload_n hF 2 dX2_joined_132 rfl ?_
                  refine j_icmp_ne hF (tgt := 140) dX2_joined_133 (by decide) (fun c16 => ?_) (fun c16 => ?_)
                  · replace h := bzIfF h c16
                    refine j_iconst hF (v := 0) dX2_joined_140 (by decide) ?_
                    exact j_iret hF hG dX2_joined_141  (Option.some.inj h) rfl
                  · replace h := bzIfT h c16
                    refine j_iconst hF (v := 1) dX2_joined_136 (by decide) ?_
                    refine j_goto hF (tgt := 141) dX2_joined_137 (by decide) ?_
                    exact j_iret hF hG dX2_joined_141  (Option.some.inj h) rfl
                · replace h := bzIfF h c15
                  rcases Decidable.em (a0 = 62) with c17 | c17
                  · replace h := bzIfT h c17
                    refine j_lookup hF (tgt := 142) dX2_joined_1 (by decide) (by rw [c17] <;> rfl) (by decide) ?_
                    refine j_iload_n hF 1 dX2_joined_142 rfl ?_
                    refine j_iload_n hF 2 dX2_joined_143 rfl ?_
                    refine j_icmp_le hF (tgt := 151) dX2_joined_144 (by decide) (fun c18 => ?_) (fun c18 => ?_)
                    · replace h := bzIfT h c18
                      refine j_iconst hF (v := 0) dX2_joined_151 (by decide) ?_
                      exact j_iret hF hG dX2_joined_152  (Option.some.inj h) rfl
                    · replace h := bzIfF h c18
                      refine j_iconst hF (v := 1) dX2_joined_147 (by decide) ?_
                      refine j_goto hF (tgt := 152) dX2_joined_148 (by decide) ?_
                      exact j_iret hF hG dX2_joined_152  (Option.some.inj h) rfl
                  · replace h := bzIfF h c17
                    rcases Decidable.em (a0 = 124) with c19 | c19
                    · replace h := bzIfT h c19
                      refine j_lookup hF (tgt := 92) dX2_joined_1 (by decide) (by rw [c19] <;> rfl) (by decide) ?_
                      refine j_iload_n hF 1 dX2_joined_92 rfl ?_
                      refine j_if_ne hF (tgt := 100) dX2_joined_93 (by decide) (fun c20 => ?_) (fun c20 => ?_)
                      · replace h := bzIfF h c20
                        refine j_iconst hF (v := 1) dX2_joined_100 (by decide) ?_
                        refine j_goto hF (tgt := 105) dX2_joined_101 (by decide) ?_
                        exact j_iret hF hG dX2_joined_105  (Option.some.inj h) rfl
                      · replace h := bzIfT h c20
                        refine j_iload_n hF 2 dX2_joined_96 rfl ?_
                        refine j_if_eq hF (tgt := 104) dX2_joined_97 (by decide) (fun c21 => ?_) (fun c21 => ?_)
                        · replace h := bzIfT h c21
                          refine j_iconst hF (v := 0) dX2_joined_104 (by decide) ?_
                          exact j_iret hF hG dX2_joined_105  (Option.some.inj h) rfl
                        · replace h := bzIfF h c21
                          refine j_iconst hF (v := 1) dX2_joined_100 (by decide) ?_
                          refine j_goto hF (tgt := 105) dX2_joined_101 (by decide) ?_
                          exact j_iret hF hG dX2_joined_105  (Option.some.inj h) rfl
                    · replace h := bzIfF h c19
                      refine j_lookup hF (off := 188) (tgt := 189) dX2_joined_1 (by decide) ((lv_osw c1 (by decide)).trans ((lv_osw c4 (by decide)).trans ((lv_osw c7 (by decide)).trans ((lv_osw c8 (by decide)).trans ((lv_osw c9 (by decide)).trans ((lv_osw c10 (by decide)).trans ((lv_osw c13 (by decide)).trans ((lv_osw c15 (by decide)).trans ((lv_osw c17 (by decide)).trans ((lv_osw c19 (by decide)).trans (rfl))))))))))) (by decide) ?_
                      refine j_iconst hF (v := 0) dX2_joined_189 (by decide) ?_
                      exact j_iret hF hG dX2_joined_190  (Option.some.inj h) rfl
def fb_X2_workOut_6 (K6 : Int32 → Int32 → bzS → Option (Int32 × bzS)) (o : Nat) (a1 : Int32) (a2 : Int32) (a3 : Int32) (v4 : Int32) (v5 : Int32) (σ1 : bzS) : Option (Int32 × bzS) :=
  if (σ1 (ly o 0) 1) ≤ v5 then (if v4 ≤ 0 then (some (0, σ1)) else (some ((σ1 (ly o 1) 0), σ1))) else (bzBd (f_X4_at ((ly o 0)) v5 σ1) (fun x4 => if x4 < (-3) then (if x4 = (-33) then (if v4 < 1 then (bzLet (v5 + 1) (fun x20 => K6 v4 x20 σ1)) else (if 50 < v4 then (bzLet (v5 + 1) (fun x22 => K6 v4 x22 σ1)) else (bzGd (bzIn (v4 - 1) 50) (if (σ1 (ly o 1) (((v4 - 1)).toNatClampNeg)) = 0 then (bzGd (bzIn (v4 - 1) 50) (bzLet (bzSt σ1 (ly o 1) (((v4 - 1)).toNatClampNeg) 1) (fun σ29 => bzLet (v5 + 1) (fun x30 => K6 v4 x30 σ29)))) else (bzGd (bzIn (v4 - 1) 50) (bzLet (bzSt σ1 (ly o 1) (((v4 - 1)).toNatClampNeg) 0) (fun σ26 => bzLet (v5 + 1) (fun x27 => K6 v4 x27 σ26)))))))) else (if v4 < 2 then (bzLet (v5 + 1) (fun x8 => K6 v4 x8 σ1)) else (if 50 < v4 then (bzLet (v5 + 1) (fun x10 => K6 v4 x10 σ1)) else (bzLet (v4 + (-1)) (fun x11 => bzGd (bzIn (x11 - 1) 50) (bzGd (bzIn x11 50) (bzBd (f_X2_joined ((-x4)) ((σ1 (ly o 1) (((x11 - 1)).toNatClampNeg))) ((σ1 (ly o 1) x11.toNatClampNeg))) (fun x15 => bzGd (bzIn (x11 - 1) 50) (bzLet (bzSt σ1 (ly o 1) (((x11 - 1)).toNatClampNeg) x15) (fun σ17 => bzLet (v5 + 1) (fun x18 => K6 x11 x18 σ17))))))))))) else (if 50 ≤ v4 then (bzLet (v5 + 1) (fun x32 => K6 v4 x32 σ1)) else (bzBd (f_X2_operand x4 a1 a2 a3) (fun x34 => bzGd (bzIn v4 50) (bzLet (bzSt σ1 (ly o 1) v4.toNatClampNeg x34) (fun σ36 => bzLet (v4 + 1) (fun x37 => bzLet (v5 + 1) (fun x38 => K6 x37 x38 σ36)))))))))
def fl_X2_workOut_6 (o : Nat) (a1 : Int32) (a2 : Int32) (a3 : Int32) : Nat → Int32 → Int32 → bzS → Option (Int32 × bzS)
  | 0, _, _, _ => none
  | n + 1, v4, v5, σ1 => fb_X2_workOut_6   (fl_X2_workOut_6   o a1 a2 a3 n) o a1 a2 a3 v4 v5 σ1
def f_X2_workOut (o : Nat) (a1 : Int32) (a2 : Int32) (a3 : Int32) (σ : bzS) : Option (Int32 × bzS) :=
  bzGd (kd o = 2) (fl_X2_workOut_6 o a1 a2 a3 2000 0 0 σ)
set_option maxHeartbeats 4000000 in
set_option maxRecDepth 20000 in
theorem mt_X2_workOut {g : bzGeo} {o : Nat} {a1 : Int32} {a2 : Int32} {a3 : Int32} {σ : bzS} {r0 : Int32} {σ0 : bzS} (l : Launch) (h : f_X2_workOut  o a1 a2 a3 σ = some (r0, σ0)) : Met l yX2_workOut (Cond.code yX2_workOut cX2_workOut 7 (some .int) :: GW) (bzR (2)) (va_Pc [.ref (ga g o), .int a1, .int a2, .int a3] (bzP g σ)) (va_Qi (fun (r : Int32) (u : bzS) => r = r0 ∧ u = σ0) (bzB g) (gA g)) 0 0 (gA g) := by
  unfold f_X2_workOut at h
  obtain ⟨ho, h⟩ := bzGdE h
  refine j_start l (by decide +kernel) [.ref (ga g o), .int a1, .int a2, .int a3] [(0, .ref (ga g o)), (1, .int a1), (2, .int a2), (3, .int a3)] (Nat.le_of_ble_eq_true rfl) rfl (fun x hF hG => ?_)
  have J6 : (K6 : Int32 → Int32 → bzS → Option (Int32 × bzS)) → (hK6 : ∀ (v4 : Int32) (v5 : Int32) (σ1 : bzS), K6 v4 v5 σ1 = some (r0, σ0) → bzJ g 7 x σ1 6 [(0, .ref (ga g o)), (1, .int a1), (2, .int a2), (3, .int a3), (4, .int v4), (5, .int v5)] []) → ∀ (v4 : Int32) (v5 : Int32) (σ1 : bzS), fb_X2_workOut_6 K6 o a1 a2 a3 v4 v5 σ1 = some (r0, σ0) → bzJ g 7 x σ1 6 [(0, .ref (ga g o)), (1, .int a1), (2, .int a2), (3, .int a3), (4, .int v4), (5, .int v5)] [] := by
    intro K6 hK6 v4 v5 σ1 h
    unfold fb_X2_workOut_6 at h
    refine j_iload hF 5 dX2_workOut_6 rfl ?_
    refine j_aload_n hF 0 dX2_workOut_8 rfl ?_
    refine gf_X2_14 hF ho dX2_workOut_9 ?_
    refine gf_X2_32 hF (kl_2_0 ho) dX2_workOut_12 ?_
    refine j_icmp_ge hF (tgt := 175) dX2_workOut_15 (by decide) (fun c1 => ?_) (fun c1 => ?_)
    · replace h := bzIfT h c1
      refine j_iload hF 4 dX2_workOut_175 rfl ?_
      refine j_if_le hF (tgt := 189) dX2_workOut_177 (by decide) (fun c2 => ?_) (fun c2 => ?_)
      · replace h := bzIfT h c2
        refine j_iconst hF (v := 0) dX2_workOut_189 (by decide) ?_
        exact j_iret hF hG dX2_workOut_190 (bzRet h).1 (bzRet h).2
      · replace h := bzIfF h c2
        refine j_aload_n hF 0 dX2_workOut_180 rfl ?_
        refine gf_X2_20 hF ho dX2_workOut_181 ?_
        refine j_iconst hF (v := 0) dX2_workOut_184 (by decide) ?_
        refine j_iald hF (c := 0) (kl_2_1 ho) (nl_2_1 ho) (by decide) (by decide) dX2_workOut_185 ?_
        refine j_goto hF (tgt := 190) dX2_workOut_186 (by decide) ?_
        exact j_iret hF hG dX2_workOut_190 (bzRet h).1 (bzRet h).2
    · replace h := bzIfF h c1
      refine j_aload_n hF 0 dX2_workOut_18 rfl ?_
      refine gf_X2_14 hF ho dX2_workOut_19 ?_
      refine j_iload hF 5 dX2_workOut_22 rfl ?_
      obtain ⟨x4, e3, h⟩ := bzBdE h
      refine cs_X2_36 hF (kl_2_0 ho) (fun l => mt_X4_at l e3) (by decide) (Nat.le_of_ble_eq_true rfl) dX2_workOut_24 ?_
      refine j_istore hF (lv1 := [(6, .int x4), (0, .ref (ga g o)), (1, .int a1), (2, .int a2), (3, .int a3), (4, .int v4), (5, .int v5)]) dX2_workOut_27 (by decide) rfl ?_
      refine j_iload hF 0 dX2_workOut_29 rfl ?_
      refine j_bipush hF (v := (-3)) dX2_workOut_31 (by decide) ?_
      refine j_icmp_lt hF (tgt := 67) dX2_workOut_33 (by decide) (fun c5 => ?_) (fun c5 => ?_)
      · replace h := bzIfT h c5
        refine j_iload hF 0 dX2_workOut_67 rfl ?_
        refine j_bipush hF (v := (-33)) dX2_workOut_69 (by decide) ?_
        refine j_icmp_ne hF (tgt := 119) dX2_workOut_71 (by decide) (fun c6 => ?_) (fun c6 => ?_)
        · replace h := bzIfF h c6
          refine j_iload hF 5 dX2_workOut_119 rfl ?_
          refine j_iconst hF (v := 2) dX2_workOut_121 (by decide) ?_
          refine j_icmp_lt hF (tgt := 169) dX2_workOut_122 (by decide) (fun c7 => ?_) (fun c7 => ?_)
          · replace h := bzIfT h c7
            obtain ⟨x8, ex8⟩ : ∃ y : Int32, y = v5 + 1 := ⟨_, rfl⟩
            replace h := bzLetE h ex8
            refine j_iinc hF (v := x8) (lv1 := [(5, .int x8), (6, .int x4), (0, .ref (ga g o)), (1, .int a1), (2, .int a2), (3, .int a3), (4, .int v4)]) 6 dX2_workOut_169 rfl (by rw [ex8]; rfl) (by decide) rfl ?_
            refine j_goto hF (tgt := 6) dX2_workOut_172 (by decide) ?_
            refine j_sub [2, 3, 4, 5, 6, 0] rfl ?_
            exact hK6 v4 x8 σ1 h
          · replace h := bzIfF h c7
            refine j_iload hF 5 dX2_workOut_125 rfl ?_
            refine j_aload_n hF 1 dX2_workOut_127 rfl ?_
            refine gf_X2_20 hF ho dX2_workOut_128 ?_
            refine j_alen hF (Or.inl (kl_2_1 ho)) (nl_2_1 ho) (v := 50) (by decide) dX2_workOut_131 ?_
            refine j_icmp_gt hF (tgt := 169) dX2_workOut_132 (by decide) (fun c9 => ?_) (fun c9 => ?_)
            · replace h := bzIfT h c9
              obtain ⟨x10, ex10⟩ : ∃ y : Int32, y = v5 + 1 := ⟨_, rfl⟩
              replace h := bzLetE h ex10
              refine j_iinc hF (v := x10) (lv1 := [(5, .int x10), (6, .int x4), (0, .ref (ga g o)), (1, .int a1), (2, .int a2), (3, .int a3), (4, .int v4)]) 6 dX2_workOut_169 rfl (by rw [ex10]; rfl) (by decide) rfl ?_
              refine j_goto hF (tgt := 6) dX2_workOut_172 (by decide) ?_
              refine j_sub [2, 3, 4, 5, 6, 0] rfl ?_
              exact hK6 v4 x10 σ1 h
            · replace h := bzIfF h c9
              obtain ⟨x11, ex11⟩ : ∃ y : Int32, y = v4 + (-1) := ⟨_, rfl⟩
              replace h := bzLetE h ex11
              refine j_iinc hF (v := x11) (lv1 := [(4, .int x11), (6, .int x4), (0, .ref (ga g o)), (1, .int a1), (2, .int a2), (3, .int a3), (5, .int v5)]) 5 dX2_workOut_135 rfl (by rw [ex11]; rfl) (by decide) rfl ?_
              refine j_aload_n hF 2 dX2_workOut_138 rfl ?_
              refine gf_X2_20 hF ho dX2_workOut_139 ?_
              refine j_iload hF 0 dX2_workOut_142 rfl ?_
              refine j_iconst hF (v := 1) dX2_workOut_144 (by decide) ?_
              refine j_isub hF dX2_workOut_145 ?_
              refine j_iload hF 1 dX2_workOut_146 rfl ?_
              refine j_ineg hF dX2_workOut_148 ?_
              refine j_aload_n hF 2 dX2_workOut_149 rfl ?_
              refine gf_X2_20 hF ho dX2_workOut_150 ?_
              refine j_iload hF 0 dX2_workOut_153 rfl ?_
              refine j_iconst hF (v := 1) dX2_workOut_155 (by decide) ?_
              refine j_isub hF dX2_workOut_156 ?_
              obtain ⟨g12, h⟩ := bzGdE h
              refine j_iald hF (c := ((x11 - 1)).toNatClampNeg) (kl_2_1 ho) (nl_2_1 ho) g12 rfl dX2_workOut_157 ?_
              refine j_aload_n hF 2 dX2_workOut_158 rfl ?_
              refine gf_X2_20 hF ho dX2_workOut_159 ?_
              refine j_iload hF 0 dX2_workOut_162 rfl ?_
              obtain ⟨g13, h⟩ := bzGdE h
              refine j_iald hF (c := x11.toNatClampNeg) (kl_2_1 ho) (nl_2_1 ho) g13 rfl dX2_workOut_164 ?_
              obtain ⟨x15, e14, h⟩ := bzBdE h
              refine cs_X2_44 hF (fun l => mt_X2_joined l e14) (by decide) (Nat.le_of_ble_eq_true rfl) dX2_workOut_165 ?_
              obtain ⟨g16, h⟩ := bzGdE h
              refine j_iast hF (c := ((x11 - 1)).toNatClampNeg) (kl_2_1 ho) (nl_2_1 ho) g16 rfl dX2_workOut_168 ?_
              refine j_s (fun σ17 eσ17 => ?_)
              replace h := bzLetE h eσ17
              obtain ⟨x18, ex18⟩ : ∃ y : Int32, y = v5 + 1 := ⟨_, rfl⟩
              replace h := bzLetE h ex18
              refine j_iinc hF (v := x18) (lv1 := [(5, .int x18), (4, .int x11), (6, .int x4), (0, .ref (ga g o)), (1, .int a1), (2, .int a2), (3, .int a3)]) 6 dX2_workOut_169 rfl (by rw [ex18]; rfl) (by decide) rfl ?_
              refine j_goto hF (tgt := 6) dX2_workOut_172 (by decide) ?_
              refine j_sub [3, 4, 5, 6, 1, 0] rfl ?_
              exact hK6 x11 x18 σ17 h
        · replace h := bzIfT h c6
          refine j_iload hF 5 dX2_workOut_74 rfl ?_
          refine j_iconst hF (v := 1) dX2_workOut_76 (by decide) ?_
          refine j_icmp_lt hF (tgt := 169) dX2_workOut_77 (by decide) (fun c19 => ?_) (fun c19 => ?_)
          · replace h := bzIfT h c19
            obtain ⟨x20, ex20⟩ : ∃ y : Int32, y = v5 + 1 := ⟨_, rfl⟩
            replace h := bzLetE h ex20
            refine j_iinc hF (v := x20) (lv1 := [(5, .int x20), (6, .int x4), (0, .ref (ga g o)), (1, .int a1), (2, .int a2), (3, .int a3), (4, .int v4)]) 6 dX2_workOut_169 rfl (by rw [ex20]; rfl) (by decide) rfl ?_
            refine j_goto hF (tgt := 6) dX2_workOut_172 (by decide) ?_
            refine j_sub [2, 3, 4, 5, 6, 0] rfl ?_
            exact hK6 v4 x20 σ1 h
          · replace h := bzIfF h c19
            refine j_iload hF 5 dX2_workOut_80 rfl ?_
            refine j_aload_n hF 1 dX2_workOut_82 rfl ?_
            refine gf_X2_20 hF ho dX2_workOut_83 ?_
            refine j_alen hF (Or.inl (kl_2_1 ho)) (nl_2_1 ho) (v := 50) (by decide) dX2_workOut_86 ?_
            refine j_icmp_gt hF (tgt := 169) dX2_workOut_87 (by decide) (fun c21 => ?_) (fun c21 => ?_)
            · replace h := bzIfT h c21
              obtain ⟨x22, ex22⟩ : ∃ y : Int32, y = v5 + 1 := ⟨_, rfl⟩
              replace h := bzLetE h ex22
              refine j_iinc hF (v := x22) (lv1 := [(5, .int x22), (6, .int x4), (0, .ref (ga g o)), (1, .int a1), (2, .int a2), (3, .int a3), (4, .int v4)]) 6 dX2_workOut_169 rfl (by rw [ex22]; rfl) (by decide) rfl ?_
              refine j_goto hF (tgt := 6) dX2_workOut_172 (by decide) ?_
              refine j_sub [2, 3, 4, 5, 6, 0] rfl ?_
              exact hK6 v4 x22 σ1 h
            · replace h := bzIfF h c21
              refine j_aload_n hF 1 dX2_workOut_90 rfl ?_
              refine gf_X2_20 hF ho dX2_workOut_91 ?_
              refine j_iload hF 5 dX2_workOut_94 rfl ?_
              refine j_iconst hF (v := 1) dX2_workOut_96 (by decide) ?_
              refine j_isub hF dX2_workOut_97 ?_
              refine j_aload_n hF 1 dX2_workOut_98 rfl ?_
              refine gf_X2_20 hF ho dX2_workOut_99 ?_
              refine j_iload hF 5 dX2_workOut_102 rfl ?_
              refine j_iconst hF (v := 1) dX2_workOut_104 (by decide) ?_
              refine j_isub hF dX2_workOut_105 ?_
              obtain ⟨g23, h⟩ := bzGdE h
              refine j_iald hF (c := ((v4 - 1)).toNatClampNeg) (kl_2_1 ho) (nl_2_1 ho) g23 rfl dX2_workOut_106 ?_
              refine j_if_ne hF (tgt := 114) dX2_workOut_107 (by decide) (fun c24 => ?_) (fun c24 => ?_)
              · replace h := bzIfF h c24
                refine j_iconst hF (v := 0) dX2_workOut_114 (by decide) ?_
                obtain ⟨g25, h⟩ := bzGdE h
                refine j_iast hF (c := ((v4 - 1)).toNatClampNeg) (kl_2_1 ho) (nl_2_1 ho) g25 rfl dX2_workOut_115 ?_
                refine j_s (fun σ26 eσ26 => ?_)
                replace h := bzLetE h eσ26
                refine j_goto hF (tgt := 169) dX2_workOut_116 (by decide) ?_
                obtain ⟨x27, ex27⟩ : ∃ y : Int32, y = v5 + 1 := ⟨_, rfl⟩
                replace h := bzLetE h ex27
                refine j_iinc hF (v := x27) (lv1 := [(5, .int x27), (6, .int x4), (0, .ref (ga g o)), (1, .int a1), (2, .int a2), (3, .int a3), (4, .int v4)]) 6 dX2_workOut_169 rfl (by rw [ex27]; rfl) (by decide) rfl ?_
                refine j_goto hF (tgt := 6) dX2_workOut_172 (by decide) ?_
                refine j_sub [2, 3, 4, 5, 6, 0] rfl ?_
                exact hK6 v4 x27 σ26 h
              · replace h := bzIfT h c24
                refine j_iconst hF (v := 1) dX2_workOut_110 (by decide) ?_
                refine j_goto hF (tgt := 115) dX2_workOut_111 (by decide) ?_
                obtain ⟨g28, h⟩ := bzGdE h
                refine j_iast hF (c := ((v4 - 1)).toNatClampNeg) (kl_2_1 ho) (nl_2_1 ho) g28 rfl dX2_workOut_115 ?_
                refine j_s (fun σ29 eσ29 => ?_)
                replace h := bzLetE h eσ29
                refine j_goto hF (tgt := 169) dX2_workOut_116 (by decide) ?_
                obtain ⟨x30, ex30⟩ : ∃ y : Int32, y = v5 + 1 := ⟨_, rfl⟩
                replace h := bzLetE h ex30
                refine j_iinc hF (v := x30) (lv1 := [(5, .int x30), (6, .int x4), (0, .ref (ga g o)), (1, .int a1), (2, .int a2), (3, .int a3), (4, .int v4)]) 6 dX2_workOut_169 rfl (by rw [ex30]; rfl) (by decide) rfl ?_
                refine j_goto hF (tgt := 6) dX2_workOut_172 (by decide) ?_
                refine j_sub [2, 3, 4, 5, 6, 0] rfl ?_
                exact hK6 v4 x30 σ29 h
      · replace h := bzIfF h c5
        refine j_iload hF 5 dX2_workOut_36 rfl ?_
        refine j_aload_n hF 1 dX2_workOut_38 rfl ?_
        refine gf_X2_20 hF ho dX2_workOut_39 ?_
        refine j_alen hF (Or.inl (kl_2_1 ho)) (nl_2_1 ho) (v := 50) (by decide) dX2_workOut_42 ?_
        refine j_icmp_ge hF (tgt := 169) dX2_workOut_43 (by decide) (fun c31 => ?_) (fun c31 => ?_)
        · replace h := bzIfT h c31
          obtain ⟨x32, ex32⟩ : ∃ y : Int32, y = v5 + 1 := ⟨_, rfl⟩
          replace h := bzLetE h ex32
          refine j_iinc hF (v := x32) (lv1 := [(5, .int x32), (6, .int x4), (0, .ref (ga g o)), (1, .int a1), (2, .int a2), (3, .int a3), (4, .int v4)]) 6 dX2_workOut_169 rfl (by rw [ex32]; rfl) (by decide) rfl ?_
          refine j_goto hF (tgt := 6) dX2_workOut_172 (by decide) ?_
          refine j_sub [2, 3, 4, 5, 6, 0] rfl ?_
          exact hK6 v4 x32 σ1 h
        · replace h := bzIfF h c31
          refine j_aload_n hF 1 dX2_workOut_46 rfl ?_
          refine gf_X2_20 hF ho dX2_workOut_47 ?_
          refine j_iload hF 5 dX2_workOut_50 rfl ?_
          refine j_iload hF 0 dX2_workOut_52 rfl ?_
          refine j_iload_n hF 2 dX2_workOut_54 rfl ?_
          refine j_iload_n hF 3 dX2_workOut_55 rfl ?_
          refine j_iload_n hF 4 dX2_workOut_56 rfl ?_
          obtain ⟨x34, e33, h⟩ := bzBdE h
          refine cs_X2_40 hF (fun l => mt_X2_operand l e33) (by decide) (Nat.le_of_ble_eq_true rfl) dX2_workOut_57 ?_
          obtain ⟨g35, h⟩ := bzGdE h
          refine j_iast hF (c := v4.toNatClampNeg) (kl_2_1 ho) (nl_2_1 ho) g35 rfl dX2_workOut_60 ?_
          refine j_s (fun σ36 eσ36 => ?_)
          replace h := bzLetE h eσ36
          obtain ⟨x37, ex37⟩ : ∃ y : Int32, y = v4 + 1 := ⟨_, rfl⟩
          replace h := bzLetE h ex37
          refine j_iinc hF (v := x37) (lv1 := [(4, .int x37), (6, .int x4), (0, .ref (ga g o)), (1, .int a1), (2, .int a2), (3, .int a3), (5, .int v5)]) 5 dX2_workOut_61 rfl (by rw [ex37]; rfl) (by decide) rfl ?_
          refine j_goto hF (tgt := 169) dX2_workOut_64 (by decide) ?_
          obtain ⟨x38, ex38⟩ : ∃ y : Int32, y = v5 + 1 := ⟨_, rfl⟩
          replace h := bzLetE h ex38
          refine j_iinc hF (v := x38) (lv1 := [(5, .int x38), (4, .int x37), (6, .int x4), (0, .ref (ga g o)), (1, .int a1), (2, .int a2), (3, .int a3)]) 6 dX2_workOut_169 rfl (by rw [ex38]; rfl) (by decide) rfl ?_
          refine j_goto hF (tgt := 6) dX2_workOut_172 (by decide) ?_
          refine j_sub [3, 4, 5, 6, 1, 0] rfl ?_
          exact hK6 x37 x38 σ36 h
  have L6 : ∀ (n : Nat) (v4 : Int32) (v5 : Int32) (σ1 : bzS), fl_X2_workOut_6   o a1 a2 a3 n v4 v5 σ1 = some (r0, σ0) → bzJ g 7 x σ1 6 [(0, .ref (ga g o)), (1, .int a1), (2, .int a2), (3, .int a3), (4, .int v4), (5, .int v5)] [] := by
    intro  n
    induction n with
    | zero =>
      intro v4 v5 σ1  h
      cases h
    | succ n ih =>
      intro v4 v5 σ1  h
      exact J6  (fl_X2_workOut_6   o a1 a2 a3 n) ih v4 v5 σ1  h
  refine j_iconst hF (v := 0) dX2_workOut_0 (by decide) ?_
  refine j_istore hF (lv1 := [(4, .int 0), (0, .ref (ga g o)), (1, .int a1), (2, .int a2), (3, .int a3)]) dX2_workOut_1 (by decide) rfl ?_
  refine j_iconst hF (v := 0) dX2_workOut_3 (by decide) ?_
  refine j_istore hF (lv1 := [(5, .int 0), (4, .int 0), (0, .ref (ga g o)), (1, .int a1), (2, .int a2), (3, .int a3)]) dX2_workOut_4 (by decide) rfl ?_
  refine j_sub [2, 3, 4, 5, 1, 0] rfl ?_
  exact L6 2000 0 0 σ h
def f_J_min (a0 : Int32) (a1 : Int32) : Option Int32 :=
  if a1 < a0 then (some a1) else (some a0)
set_option maxHeartbeats 4000000 in
set_option maxRecDepth 20000 in
theorem mt_J_min {g : bzGeo} {a0 : Int32} {a1 : Int32} {σ : bzS} {r0 : Int32} (l : Launch) (h : f_J_min  a0 a1 = some r0) : Met l yJ_min (Cond.code yJ_min cJ_min 2 (some .int) :: GW) (bzR (1)) (va_Pc [.int a0, .int a1] (bzP g σ)) (va_Qi (fun (r : Int32) (u : bzS) => r = r0 ∧ u = σ) (bzB g) (gA g)) 0 0 (gA g) := by
  unfold f_J_min at h
  refine j_start l (by decide +kernel) [.int a0, .int a1] [(0, .int a0), (1, .int a1)] (Nat.le_of_ble_eq_true rfl) rfl (fun x hF hG => ?_)
  refine j_iload_n hF 0 dJ_min_0 rfl ?_
  refine j_iload_n hF 1 dJ_min_1 rfl ?_
  refine j_icmp_gt hF (tgt := 9) dJ_min_2 (by decide) (fun c1 => ?_) (fun c1 => ?_)
  · replace h := bzIfT h c1
    refine j_iload_n hF 1 dJ_min_9 rfl ?_
    exact j_iret hF hG dJ_min_10  (Option.some.inj h) rfl
  · replace h := bzIfF h c1
    refine j_iload_n hF 0 dJ_min_5 rfl ?_
    refine j_goto hF (tgt := 10) dJ_min_6 (by decide) ?_
    exact j_iret hF hG dJ_min_10  (Option.some.inj h) rfl
def f_J_max (a0 : Int32) (a1 : Int32) : Option Int32 :=
  if a0 < a1 then (some a1) else (some a0)
set_option maxHeartbeats 4000000 in
set_option maxRecDepth 20000 in
theorem mt_J_max {g : bzGeo} {a0 : Int32} {a1 : Int32} {σ : bzS} {r0 : Int32} (l : Launch) (h : f_J_max  a0 a1 = some r0) : Met l yJ_max (Cond.code yJ_max cJ_max 2 (some .int) :: GW) (bzR (1)) (va_Pc [.int a0, .int a1] (bzP g σ)) (va_Qi (fun (r : Int32) (u : bzS) => r = r0 ∧ u = σ) (bzB g) (gA g)) 0 0 (gA g) := by
  unfold f_J_max at h
  refine j_start l (by decide +kernel) [.int a0, .int a1] [(0, .int a0), (1, .int a1)] (Nat.le_of_ble_eq_true rfl) rfl (fun x hF hG => ?_)
  refine j_iload_n hF 0 dJ_max_0 rfl ?_
  refine j_iload_n hF 1 dJ_max_1 rfl ?_
  refine j_icmp_lt hF (tgt := 9) dJ_max_2 (by decide) (fun c1 => ?_) (fun c1 => ?_)
  · replace h := bzIfT h c1
    refine j_iload_n hF 1 dJ_max_9 rfl ?_
    exact j_iret hF hG dJ_max_10  (Option.some.inj h) rfl
  · replace h := bzIfF h c1
    refine j_iload_n hF 0 dJ_max_5 rfl ?_
    refine j_goto hF (tgt := 10) dJ_max_6 (by decide) ?_
    exact j_iret hF hG dJ_max_10  (Option.some.inj h) rfl
def f_X0_given (o : Nat) (a1 : Int32) (a2 : Int32) (a3 : Int32) (a4 : Int32) (σ : bzS) : Option (Int32 × bzS) :=
  bzGd (kd o = 0) (bzBd (f_X0_lawOf o a1 σ) (fun x2 => bzOp x2 (if a1 = 0 then none else none) (fun k3 => bzGd (kd k3 = 2) (if a1 = 0 then (if (σ k3 2) = 0 then (bzBd (f_J_min 20 a3) (fun x20 => bzBd (f_J_max 0 x20) (fun x22 => some (x22, σ)))) else (bzBp (f_X2_workOut k3 a2 a3 a4 σ) (fun x24 σ25 => bzBd (f_J_min 20 x24) (fun x27 => bzBd (f_J_max 0 x27) (fun x29 => some (x29, σ25)))))) else (if (σ k3 2) = 0 then (bzBd (f_J_min 9 ((a2 / 10))) (fun x8 => bzBd (f_J_max 0 x8) (fun x10 => some (x10, σ)))) else (bzBp (f_X2_workOut k3 a2 a3 a4 σ) (fun x12 σ13 => bzBd (f_J_min 9 x12) (fun x15 => bzBd (f_J_max 0 x15) (fun x17 => some (x17, σ13))))))))))
set_option maxHeartbeats 4000000 in
set_option maxRecDepth 20000 in
theorem mt_X0_given {g : bzGeo} {o : Nat} {a1 : Int32} {a2 : Int32} {a3 : Int32} {a4 : Int32} {σ : bzS} {r0 : Int32} {σ0 : bzS} (l : Launch) (h : f_X0_given  o a1 a2 a3 a4 σ = some (r0, σ0)) : Met l yX0_given (Cond.code yX0_given cX0_given 6 (some .int) :: GW) (bzR (3)) (va_Pc [.ref (ga g o), .int a1, .int a2, .int a3, .int a4] (bzP g σ)) (va_Qi (fun (r : Int32) (u : bzS) => r = r0 ∧ u = σ0) (bzB g) (gA g)) 0 0 (gA g) := by
  unfold f_X0_given at h
  obtain ⟨ho, h⟩ := bzGdE h
  refine j_start l (by decide +kernel) [.ref (ga g o), .int a1, .int a2, .int a3, .int a4] [(0, .ref (ga g o)), (1, .int a1), (2, .int a2), (3, .int a3), (4, .int a4)] (Nat.le_of_ble_eq_true rfl) rfl (fun x hF hG => ?_)
  refine j_aload_n hF 0 dX0_given_0 rfl ?_
  refine j_iload_n hF 1 dX0_given_1 rfl ?_
  obtain ⟨x2, e1, h⟩ := bzBdE h
  refine cs_X0_54 hF ho (fun l => mt_X0_lawOf l e1) (by decide) (Nat.le_of_ble_eq_true rfl) dX0_given_2 ?_
  cases x2 with
  | none =>
    replace h := bzOpN h
    refine j_nul ?_
    refine j_astoreN hF (lv1 := [(5, .null), (0, .ref (ga g o)), (1, .int a1), (2, .int a2), (3, .int a3), (4, .int a4)]) dX0_given_5 (by decide) rfl ?_
    refine j_iload_n hF 2 dX0_given_7 rfl ?_
    refine j_if_ne hF (tgt := 42) dX0_given_8 (by decide) (fun c4 => ?_) (fun c4 => ?_)
    · replace h := bzIfF h c4
      refine j_iconst hF (v := 0) dX0_given_42 (by decide) ?_
      refine j_bipush hF (v := 9) dX0_given_43 (by decide) ?_
      refine j_aloadN hF 0 dX0_given_45 rfl ?_
      cases h
    · replace h := bzIfT h c4
      refine j_iconst hF (v := 0) dX0_given_11 (by decide) ?_
      refine j_bipush hF (v := 20) dX0_given_12 (by decide) ?_
      refine j_aloadN hF 0 dX0_given_14 rfl ?_
      cases h
  | some k3 =>
    obtain ⟨h_k3, h⟩ := bzGdE (bzOpS h)
    refine j_som ?_
    refine j_astore hF (lv1 := [(5, .ref (ga g k3)), (0, .ref (ga g o)), (1, .int a1), (2, .int a2), (3, .int a3), (4, .int a4)]) dX0_given_5 (by decide) rfl ?_
    refine j_iload_n hF 2 dX0_given_7 rfl ?_
    refine j_if_ne hF (tgt := 42) dX0_given_8 (by decide) (fun c5 => ?_) (fun c5 => ?_)
    · replace h := bzIfF h c5
      refine j_iconst hF (v := 0) dX0_given_42 (by decide) ?_
      refine j_bipush hF (v := 9) dX0_given_43 (by decide) ?_
      refine j_aload hF 0 dX0_given_45 rfl ?_
      refine gf_X0_58 hF h_k3 dX0_given_47 ?_
      refine j_if_eq hF (tgt := 65) dX0_given_50 (by decide) (fun c6 => ?_) (fun c6 => ?_)
      · replace h := bzIfT h c6
        refine j_iload_n hF 3 dX0_given_65 rfl ?_
        refine j_bipush hF (v := 10) dX0_given_66 (by decide) ?_
        refine j_idiv hF dX0_given_68 (by decide) ?_
        obtain ⟨x8, e7, h⟩ := bzBdE h
        refine cs_X0_66 hF (fun l => mt_J_min l e7) (by decide) (Nat.le_of_ble_eq_true rfl) dX0_given_69 ?_
        obtain ⟨x10, e9, h⟩ := bzBdE h
        refine cs_X0_69 hF (fun l => mt_J_max l e9) (by decide) (Nat.le_of_ble_eq_true rfl) dX0_given_72 ?_
        exact j_iret hF hG dX0_given_75  (bzRet h).1 (bzRet h).2
      · replace h := bzIfF h c6
        refine j_aload hF 0 dX0_given_53 rfl ?_
        refine j_iload_n hF 3 dX0_given_55 rfl ?_
        refine j_iload_n hF 4 dX0_given_56 rfl ?_
        refine j_iload hF 5 dX0_given_57 rfl ?_
        obtain ⟨x12, σ13, e11, h⟩ := bzBpE h
        refine cs_X0_62 hF h_k3 (fun l => mt_X2_workOut l e11) (by decide) (Nat.le_of_ble_eq_true rfl) dX0_given_59 ?_
        refine j_goto hF (tgt := 69) dX0_given_62 (by decide) ?_
        obtain ⟨x15, e14, h⟩ := bzBdE h
        refine cs_X0_66 hF (fun l => mt_J_min l e14) (by decide) (Nat.le_of_ble_eq_true rfl) dX0_given_69 ?_
        obtain ⟨x17, e16, h⟩ := bzBdE h
        refine cs_X0_69 hF (fun l => mt_J_max l e16) (by decide) (Nat.le_of_ble_eq_true rfl) dX0_given_72 ?_
        exact j_iret hF hG dX0_given_75  (bzRet h).1 (bzRet h).2
    · replace h := bzIfT h c5
      refine j_iconst hF (v := 0) dX0_given_11 (by decide) ?_
      refine j_bipush hF (v := 20) dX0_given_12 (by decide) ?_
      refine j_aload hF 0 dX0_given_14 rfl ?_
      refine gf_X0_58 hF h_k3 dX0_given_16 ?_
      refine j_if_eq hF (tgt := 34) dX0_given_19 (by decide) (fun c18 => ?_) (fun c18 => ?_)
      · replace h := bzIfT h c18
        refine j_iload_n hF 4 dX0_given_34 rfl ?_
        obtain ⟨x20, e19, h⟩ := bzBdE h
        refine cs_X0_66 hF (fun l => mt_J_min l e19) (by decide) (Nat.le_of_ble_eq_true rfl) dX0_given_35 ?_
        obtain ⟨x22, e21, h⟩ := bzBdE h
        refine cs_X0_69 hF (fun l => mt_J_max l e21) (by decide) (Nat.le_of_ble_eq_true rfl) dX0_given_38 ?_
        exact j_iret hF hG dX0_given_41  (bzRet h).1 (bzRet h).2
      · replace h := bzIfF h c18
        refine j_aload hF 0 dX0_given_22 rfl ?_
        refine j_iload_n hF 3 dX0_given_24 rfl ?_
        refine j_iload_n hF 4 dX0_given_25 rfl ?_
        refine j_iload hF 5 dX0_given_26 rfl ?_
        obtain ⟨x24, σ25, e23, h⟩ := bzBpE h
        refine cs_X0_62 hF h_k3 (fun l => mt_X2_workOut l e23) (by decide) (Nat.le_of_ble_eq_true rfl) dX0_given_28 ?_
        refine j_goto hF (tgt := 35) dX0_given_31 (by decide) ?_
        obtain ⟨x27, e26, h⟩ := bzBdE h
        refine cs_X0_66 hF (fun l => mt_J_min l e26) (by decide) (Nat.le_of_ble_eq_true rfl) dX0_given_35 ?_
        obtain ⟨x29, e28, h⟩ := bzBdE h
        refine cs_X0_69 hF (fun l => mt_J_max l e28) (by decide) (Nat.le_of_ble_eq_true rfl) dX0_given_38 ?_
        exact j_iret hF hG dX0_given_41  (bzRet h).1 (bzRet h).2
def f_X0_yearning (o : Nat) (σ : bzS) : Option (Int32 × bzS) :=
  bzGd (kd o = 0) (bzBd (f_X0_heatNow o σ) (fun x2 => bzBp (f_X0_given o 0 ((σ o 5)) x2 ((σ o 6)) σ) (fun x4 σ5 => some (x4, σ5))))
set_option maxHeartbeats 4000000 in
set_option maxRecDepth 20000 in
theorem mt_X0_yearning {g : bzGeo} {o : Nat} {σ : bzS} {r0 : Int32} {σ0 : bzS} (l : Launch) (h : f_X0_yearning  o σ = some (r0, σ0)) : Met l yX0_yearning (Cond.code yX0_yearning cX0_yearning 1 (some .int) :: GW) (bzR (4)) (va_Pc [.ref (ga g o)] (bzP g σ)) (va_Qi (fun (r : Int32) (u : bzS) => r = r0 ∧ u = σ0) (bzB g) (gA g)) 0 0 (gA g) := by
  unfold f_X0_yearning at h
  obtain ⟨ho, h⟩ := bzGdE h
  refine j_start l (by decide +kernel) [.ref (ga g o)] [(0, .ref (ga g o))] (Nat.le_of_ble_eq_true rfl) rfl (fun x hF hG => ?_)
  refine j_aload_n hF 0 dX0_yearning_0 rfl ?_
  refine j_iconst hF (v := 0) dX0_yearning_1 (by decide) ?_
  refine j_aload_n hF 0 dX0_yearning_2 rfl ?_
  refine gf_X0_35 hF ho dX0_yearning_3 ?_
  refine j_aload_n hF 0 dX0_yearning_6 rfl ?_
  obtain ⟨x2, e1, h⟩ := bzBdE h
  refine cs_X0_72 hF ho (fun l => mt_X0_heatNow l e1) (by decide) (Nat.le_of_ble_eq_true rfl) dX0_yearning_7 ?_
  refine j_aload_n hF 0 dX0_yearning_10 rfl ?_
  refine gf_X0_39 hF ho dX0_yearning_11 ?_
  obtain ⟨x4, σ5, e3, h⟩ := bzBpE h
  refine cs_X0_76 hF ho (fun l => mt_X0_given l e3) (by decide) (Nat.le_of_ble_eq_true rfl) dX0_yearning_14 ?_
  exact j_iret hF hG dX0_yearning_17  (bzRet h).1 (bzRet h).2
def f_X0_shifting (o : Nat) (σ : bzS) : Option (Int32 × bzS) :=
  bzGd (kd o = 0) (bzBd (f_X0_heatNow o σ) (fun x2 => bzBp (f_X0_given o 1 ((σ o 5)) x2 ((σ o 7)) σ) (fun x4 σ5 => some (x4, σ5))))
set_option maxHeartbeats 4000000 in
set_option maxRecDepth 20000 in
theorem mt_X0_shifting {g : bzGeo} {o : Nat} {σ : bzS} {r0 : Int32} {σ0 : bzS} (l : Launch) (h : f_X0_shifting  o σ = some (r0, σ0)) : Met l yX0_shifting (Cond.code yX0_shifting cX0_shifting 1 (some .int) :: GW) (bzR (4)) (va_Pc [.ref (ga g o)] (bzP g σ)) (va_Qi (fun (r : Int32) (u : bzS) => r = r0 ∧ u = σ0) (bzB g) (gA g)) 0 0 (gA g) := by
  unfold f_X0_shifting at h
  obtain ⟨ho, h⟩ := bzGdE h
  refine j_start l (by decide +kernel) [.ref (ga g o)] [(0, .ref (ga g o))] (Nat.le_of_ble_eq_true rfl) rfl (fun x hF hG => ?_)
  refine j_aload_n hF 0 dX0_shifting_0 rfl ?_
  refine j_iconst hF (v := 1) dX0_shifting_1 (by decide) ?_
  refine j_aload_n hF 0 dX0_shifting_2 rfl ?_
  refine gf_X0_35 hF ho dX0_shifting_3 ?_
  refine j_aload_n hF 0 dX0_shifting_6 rfl ?_
  obtain ⟨x2, e1, h⟩ := bzBdE h
  refine cs_X0_72 hF ho (fun l => mt_X0_heatNow l e1) (by decide) (Nat.le_of_ble_eq_true rfl) dX0_shifting_7 ?_
  refine j_aload_n hF 0 dX0_shifting_10 rfl ?_
  refine gf_X0_42 hF ho dX0_shifting_11 ?_
  obtain ⟨x4, σ5, e3, h⟩ := bzBpE h
  refine cs_X0_76 hF ho (fun l => mt_X0_given l e3) (by decide) (Nat.le_of_ble_eq_true rfl) dX0_shifting_14 ?_
  exact j_iret hF hG dX0_shifting_17  (bzRet h).1 (bzRet h).2
def f_X9_ofFigure (o : Nat) (a1 : Int32) (σ : bzS) : Option (Int32 × bzS) :=
  bzGd (kd o = 9) (if a1 = 5 then (bzBd (f_X0_weight ((ly (ly o 0) 0)) σ) (fun x3 => some (x3, σ))) else if a1 = 6 then (bzBp (f_X0_yearning ((ly (ly o 0) 0)) σ) (fun x6 σ7 => some (x6, σ7))) else if a1 = 7 then (bzBp (f_X0_shifting ((ly (ly o 0) 0)) σ) (fun x10 σ11 => some (x10, σ11))) else (bzBd (f_X9_isPlace a1 108) (fun x13 => if x13 = 0 then (bzBp (f_X9_fails o ((-1000000001)) σ) (fun x16 σ17 => some (x16, σ17))) else (bzBd (f_X6_partOfFigure ((ly o 0)) a1 σ) (fun x19 => some (x19, σ))))))
set_option maxHeartbeats 4000000 in
set_option maxRecDepth 20000 in
theorem mt_X9_ofFigure {g : bzGeo} {o : Nat} {a1 : Int32} {σ : bzS} {r0 : Int32} {σ0 : bzS} (l : Launch) (h : f_X9_ofFigure  o a1 σ = some (r0, σ0)) : Met l yX9_ofFigure (Cond.code yX9_ofFigure cX9_ofFigure 2 (some .int) :: GW) (bzR (5)) (va_Pc [.ref (ga g o), .int a1] (bzP g σ)) (va_Qi (fun (r : Int32) (u : bzS) => r = r0 ∧ u = σ0) (bzB g) (gA g)) 0 0 (gA g) := by
  unfold f_X9_ofFigure at h
  obtain ⟨ho, h⟩ := bzGdE h
  refine j_start l (by decide +kernel) [.ref (ga g o), .int a1] [(0, .ref (ga g o)), (1, .int a1)] (Nat.le_of_ble_eq_true rfl) rfl (fun x hF hG => ?_)
  refine j_iload_n hF 1 dX9_ofFigure_0 rfl ?_
  rcases Decidable.em (a1 = 5) with c1 | c1
  · replace h := bzIfT h c1
    refine j_tableIn hF (tgt := 28) dX9_ofFigure_1 (by rw [c1] <;> decide) (by rw [c1] <;> decide) (by rw [c1] <;> rfl) (by decide) ?_
    refine j_aload_n hF 0 dX9_ofFigure_28 rfl ?_
    refine gf_X9_12 hF ho dX9_ofFigure_29 ?_
    refine gf_X9_55 hF (kl_9_0 ho) dX9_ofFigure_32 ?_
    obtain ⟨x3, e2, h⟩ := bzBdE h
    refine cs_X9_85 hF (kl_6_0 (kl_9_0 ho)) (fun l => mt_X0_weight l e2) (by decide) (Nat.le_of_ble_eq_true rfl) dX9_ofFigure_35 ?_
    exact j_iret hF hG dX9_ofFigure_38  (bzRet h).1 (bzRet h).2
  · replace h := bzIfF h c1
    rcases Decidable.em (a1 = 6) with c4 | c4
    · replace h := bzIfT h c4
      refine j_tableIn hF (tgt := 39) dX9_ofFigure_1 (by rw [c4] <;> decide) (by rw [c4] <;> decide) (by rw [c4] <;> rfl) (by decide) ?_
      refine j_aload_n hF 0 dX9_ofFigure_39 rfl ?_
      refine gf_X9_12 hF ho dX9_ofFigure_40 ?_
      refine gf_X9_55 hF (kl_9_0 ho) dX9_ofFigure_43 ?_
      obtain ⟨x6, σ7, e5, h⟩ := bzBpE h
      refine cs_X9_89 hF (kl_6_0 (kl_9_0 ho)) (fun l => mt_X0_yearning l e5) (by decide) (Nat.le_of_ble_eq_true rfl) dX9_ofFigure_46 ?_
      exact j_iret hF hG dX9_ofFigure_49  (bzRet h).1 (bzRet h).2
    · replace h := bzIfF h c4
      rcases Decidable.em (a1 = 7) with c8 | c8
      · replace h := bzIfT h c8
        refine j_tableIn hF (tgt := 50) dX9_ofFigure_1 (by rw [c8] <;> decide) (by rw [c8] <;> decide) (by rw [c8] <;> rfl) (by decide) ?_
        refine j_aload_n hF 0 dX9_ofFigure_50 rfl ?_
        refine gf_X9_12 hF ho dX9_ofFigure_51 ?_
        refine gf_X9_55 hF (kl_9_0 ho) dX9_ofFigure_54 ?_
        obtain ⟨x10, σ11, e9, h⟩ := bzBpE h
        refine cs_X9_92 hF (kl_6_0 (kl_9_0 ho)) (fun l => mt_X0_shifting l e9) (by decide) (Nat.le_of_ble_eq_true rfl) dX9_ofFigure_57 ?_
        exact j_iret hF hG dX9_ofFigure_60  (bzRet h).1 (bzRet h).2
      · replace h := bzIfF h c8
        refine j_tableOut hF (tgt := 61) dX9_ofFigure_1 (by have q0 := lv_neT (a := 5) c1 (by decide); have q1 := lv_neT (a := 6) c4 (by decide); have q2 := lv_neT (a := 7) c8 (by decide); omega) (by decide) ?_
        refine j_iload_n hF 1 dX9_ofFigure_61 rfl ?_
        refine gs_X9_75 hF dX9_ofFigure_62 ?_
        obtain ⟨x13, e12, h⟩ := bzBdE h
        refine cs_X9_62 hF (fun l => mt_X9_isPlace l e12) (by decide) (Nat.le_of_ble_eq_true rfl) dX9_ofFigure_65 ?_
        refine j_if_eq hF (tgt := 82) dX9_ofFigure_68 (by decide) (fun c14 => ?_) (fun c14 => ?_)
        · replace h := bzIfT h c14
          refine j_aload_n hF 0 dX9_ofFigure_82 rfl ?_
          refine j_ldc hF (v := (-1000000001)) kc_X9_70 dX9_ofFigure_83 ?_
          obtain ⟨x16, σ17, e15, h⟩ := bzBpE h
          refine cs_X9_71 hF ho (fun l => mt_X9_fails l e15) (by decide) (Nat.le_of_ble_eq_true rfl) dX9_ofFigure_85 ?_
          exact j_iret hF hG dX9_ofFigure_88  (bzRet h).1 (bzRet h).2
        · replace h := bzIfF h c14
          refine j_aload_n hF 0 dX9_ofFigure_71 rfl ?_
          refine gf_X9_12 hF ho dX9_ofFigure_72 ?_
          refine j_iload_n hF 1 dX9_ofFigure_75 rfl ?_
          obtain ⟨x19, e18, h⟩ := bzBdE h
          refine cs_X9_78 hF (kl_9_0 ho) (fun l => mt_X6_partOfFigure l e18) (by decide) (Nat.le_of_ble_eq_true rfl) dX9_ofFigure_76 ?_
          refine j_goto hF (tgt := 88) dX9_ofFigure_79 (by decide) ?_
          exact j_iret hF hG dX9_ofFigure_88  (bzRet h).1 (bzRet h).2
def f_X1_rowOfSteps (o : Nat) (a1 : Int32) (σ : bzS) : Option (Option Nat) :=
  bzGd (kd o = 1) (if a1 = 0 then (some (some (ly o 0))) else (if a1 = 1 then (some (some (ly o 1))) else (some none)))
set_option maxHeartbeats 4000000 in
set_option maxRecDepth 20000 in
theorem mt_X1_rowOfSteps {g : bzGeo} {o : Nat} {a1 : Int32} {σ : bzS} {r0 : Option Nat} (l : Launch) (h : f_X1_rowOfSteps  o a1 σ = some r0) : Met l yX1_rowOfSteps (Cond.code yX1_rowOfSteps cX1_rowOfSteps 2 (some (.array .int)) :: GW) (bzR (1)) (va_Pc [.ref (ga g o), .int a1] (bzP g σ)) (va_Qq (fun (r : Option Nat) (u : bzS) => r = r0.map (ga g) ∧ u = σ) (bzB g) (gA g)) 0 0 (gA g) := by
  unfold f_X1_rowOfSteps at h
  obtain ⟨ho, h⟩ := bzGdE h
  refine j_start l (by decide +kernel) [.ref (ga g o), .int a1] [(0, .ref (ga g o)), (1, .int a1)] (Nat.le_of_ble_eq_true rfl) rfl (fun x hF hG => ?_)
  refine j_iload_n hF 1 dX1_rowOfSteps_0 rfl ?_
  refine j_if_ne hF (tgt := 11) dX1_rowOfSteps_1 (by decide) (fun c1 => ?_) (fun c1 => ?_)
  · replace h := bzIfF h c1
    refine j_iload_n hF 1 dX1_rowOfSteps_11 rfl ?_
    refine j_iconst hF (v := 1) dX1_rowOfSteps_12 (by decide) ?_
    refine j_icmp_ne hF (tgt := 23) dX1_rowOfSteps_13 (by decide) (fun c2 => ?_) (fun c2 => ?_)
    · replace h := bzIfF h c2
      refine j_aconst_null hF dX1_rowOfSteps_23 ?_
      exact j_aretN hF hG (Or.inr ⟨_, rfl⟩) dX1_rowOfSteps_24 (Option.some.inj h) rfl
    · replace h := bzIfT h c2
      refine j_aload_n hF 0 dX1_rowOfSteps_16 rfl ?_
      refine gf_X1_13 hF ho dX1_rowOfSteps_17 ?_
      refine j_goto hF (tgt := 24) dX1_rowOfSteps_20 (by decide) ?_
      exact j_aret hF hG (Or.inr ⟨_, rfl⟩) dX1_rowOfSteps_24 (Option.some.inj h) rfl
  · replace h := bzIfT h c1
    refine j_aload_n hF 0 dX1_rowOfSteps_4 rfl ?_
    refine gf_X1_7 hF ho dX1_rowOfSteps_5 ?_
    refine j_goto hF (tgt := 24) dX1_rowOfSteps_8 (by decide) ?_
    exact j_aret hF hG (Or.inr ⟨_, rfl⟩) dX1_rowOfSteps_24 (Option.some.inj h) rfl
def f_X9_step (o : Nat) (a1 : Int32) (a2 : Int32) (a3 : Int32) (σ : bzS) : Option (Int32 × bzS) :=
  bzGd (kd o = 9) (bzBd (f_X1_rowOfSteps ((ly (ly o 0) 1)) a2 σ) (fun x2 => bzOp x2 (bzBp (f_X9_fails o ((-1000000001)) σ) (fun x5 σ6 => some (x5, σ6))) (fun k3 => bzGd (kd k3 = 11) (bzBd (f_X9_isPlace a1 k3) (fun x8 => if x8 = 0 then (bzBp (f_X9_fails o ((-1000000001)) σ) (fun x11 σ12 => some (x11, σ12))) else (if a2 = 0 then (bzBd (f_X9_within a3 0 9) (fun x25 => if x25 = 0 then (bzBp (f_X9_fails o ((-1000000001)) σ) (fun x32 σ33 => some (x32, σ33))) else (bzGd (bzIn a1 (ln k3)) (bzLet ((σ k3 a1.toNatClampNeg)) (fun x28 => bzGd (bzIn a1 (ln k3)) (bzLet (bzSt σ k3 a1.toNatClampNeg a3) (fun σ30 => some (x28, σ30)))))))) else (bzBd (f_X9_within a3 0 99) (fun x15 => if x15 = 0 then (bzBp (f_X9_fails o ((-1000000001)) σ) (fun x22 σ23 => some (x22, σ23))) else (bzGd (bzIn a1 (ln k3)) (bzLet ((σ k3 a1.toNatClampNeg)) (fun x18 => bzGd (bzIn a1 (ln k3)) (bzLet (bzSt σ k3 a1.toNatClampNeg a3) (fun σ20 => some (x18, σ20))))))))))))))
set_option maxHeartbeats 4000000 in
set_option maxRecDepth 20000 in
theorem mt_X9_step {g : bzGeo} {o : Nat} {a1 : Int32} {a2 : Int32} {a3 : Int32} {σ : bzS} {r0 : Int32} {σ0 : bzS} (l : Launch) (h : f_X9_step  o a1 a2 a3 σ = some (r0, σ0)) : Met l yX9_step (Cond.code yX9_step cX9_step 6 (some .int) :: GW) (bzR (3)) (va_Pc [.ref (ga g o), .int a1, .int a2, .int a3] (bzP g σ)) (va_Qi (fun (r : Int32) (u : bzS) => r = r0 ∧ u = σ0) (bzB g) (gA g)) 0 0 (gA g) := by
  unfold f_X9_step at h
  obtain ⟨ho, h⟩ := bzGdE h
  refine j_start l (by decide +kernel) [.ref (ga g o), .int a1, .int a2, .int a3] [(0, .ref (ga g o)), (1, .int a1), (2, .int a2), (3, .int a3)] (Nat.le_of_ble_eq_true rfl) rfl (fun x hF hG => ?_)
  refine j_aload_n hF 0 dX9_step_0 rfl ?_
  refine gf_X9_12 hF ho dX9_step_1 ?_
  refine gf_X9_95 hF (kl_9_0 ho) dX9_step_4 ?_
  refine j_iload_n hF 2 dX9_step_7 rfl ?_
  obtain ⟨x2, e1, h⟩ := bzBdE h
  refine cs_X9_99 hF (kl_6_1 (kl_9_0 ho)) (fun l => mt_X1_rowOfSteps l e1) (by decide) (Nat.le_of_ble_eq_true rfl) dX9_step_8 ?_
  cases x2 with
  | none =>
    replace h := bzOpN h
    refine j_nul ?_
    refine j_astoreN hF (lv1 := [(4, .null), (0, .ref (ga g o)), (1, .int a1), (2, .int a2), (3, .int a3)]) dX9_step_11 (by decide) rfl ?_
    refine j_aloadN hF 0 dX9_step_13 rfl ?_
    refine j_ifnullN hF (tgt := 46) dX9_step_15 (by decide) ?_
    refine j_aload_n hF 1 dX9_step_46 rfl ?_
    refine j_ldc hF (v := (-1000000001)) kc_X9_70 dX9_step_47 ?_
    obtain ⟨x5, σ6, e4, h⟩ := bzBpE h
    refine cs_X9_71 hF ho (fun l => mt_X9_fails l e4) (by decide) (Nat.le_of_ble_eq_true rfl) dX9_step_49 ?_
    exact j_iret hF hG dX9_step_52  (bzRet h).1 (bzRet h).2
  | some k3 =>
    obtain ⟨h_k3, h⟩ := bzGdE (bzOpS h)
    refine j_som ?_
    refine j_astore hF (lv1 := [(4, .ref (ga g k3)), (0, .ref (ga g o)), (1, .int a1), (2, .int a2), (3, .int a3)]) dX9_step_11 (by decide) rfl ?_
    refine j_aload hF 0 dX9_step_13 rfl ?_
    refine j_ifnull hF dX9_step_15 ?_
    refine j_iload_n hF 2 dX9_step_18 rfl ?_
    refine j_aload hF 0 dX9_step_19 rfl ?_
    obtain ⟨x8, e7, h⟩ := bzBdE h
    refine cs_X9_62 hF (fun l => mt_X9_isPlace l e7) (by decide) (Nat.le_of_ble_eq_true rfl) dX9_step_21 ?_
    refine j_if_eq hF (tgt := 46) dX9_step_24 (by decide) (fun c9 => ?_) (fun c9 => ?_)
    · replace h := bzIfT h c9
      refine j_aload_n hF 1 dX9_step_46 rfl ?_
      refine j_ldc hF (v := (-1000000001)) kc_X9_70 dX9_step_47 ?_
      obtain ⟨x11, σ12, e10, h⟩ := bzBpE h
      refine cs_X9_71 hF ho (fun l => mt_X9_fails l e10) (by decide) (Nat.le_of_ble_eq_true rfl) dX9_step_49 ?_
      exact j_iret hF hG dX9_step_52  (bzRet h).1 (bzRet h).2
    · replace h := bzIfF h c9
      refine j_iload_n hF 4 dX9_step_27 rfl ?_
      refine j_iconst hF (v := 0) dX9_step_28 (by decide) ?_
      refine j_iload_n hF 3 dX9_step_29 rfl ?_
      refine j_if_ne hF (tgt := 38) dX9_step_30 (by decide) (fun c13 => ?_) (fun c13 => ?_)
      · replace h := bzIfF h c13
        refine j_bipush hF (v := 99) dX9_step_38 (by decide) ?_
        obtain ⟨x15, e14, h⟩ := bzBdE h
        refine cs_X9_66 hF (fun l => mt_X9_within l e14) (by decide) (Nat.le_of_ble_eq_true rfl) dX9_step_40 ?_
        refine j_if_ne hF (tgt := 53) dX9_step_43 (by decide) (fun c16 => ?_) (fun c16 => ?_)
        · replace h := bzIfF h c16
          refine j_aload hF 0 dX9_step_53 rfl ?_
          refine j_iload_n hF 2 dX9_step_55 rfl ?_
          obtain ⟨g17, h⟩ := bzGdE h
          refine j_iald hF (c := a1.toNatClampNeg) h_k3 rfl g17 rfl dX9_step_56 ?_
          refine j_topi (fun x18 ex18 => ?_)
          replace h := bzLetE h ex18
          refine j_istore hF (lv1 := [(5, .int x18), (4, .ref (ga g k3)), (0, .ref (ga g o)), (1, .int a1), (2, .int a2), (3, .int a3)]) dX9_step_57 (by decide) rfl ?_
          refine j_aload hF 1 dX9_step_59 rfl ?_
          refine j_iload_n hF 3 dX9_step_61 rfl ?_
          refine j_iload_n hF 5 dX9_step_62 rfl ?_
          obtain ⟨g19, h⟩ := bzGdE h
          refine j_iast hF (c := a1.toNatClampNeg) h_k3 rfl g19 rfl dX9_step_63 ?_
          refine j_s (fun σ20 eσ20 => ?_)
          replace h := bzLetE h eσ20
          refine j_iload hF 0 dX9_step_64 rfl ?_
          exact j_iret hF hG dX9_step_66  (bzRet h).1 (bzRet h).2
        · replace h := bzIfT h c16
          refine j_aload_n hF 1 dX9_step_46 rfl ?_
          refine j_ldc hF (v := (-1000000001)) kc_X9_70 dX9_step_47 ?_
          obtain ⟨x22, σ23, e21, h⟩ := bzBpE h
          refine cs_X9_71 hF ho (fun l => mt_X9_fails l e21) (by decide) (Nat.le_of_ble_eq_true rfl) dX9_step_49 ?_
          exact j_iret hF hG dX9_step_52  (bzRet h).1 (bzRet h).2
      · replace h := bzIfT h c13
        refine j_bipush hF (v := 9) dX9_step_33 (by decide) ?_
        refine j_goto hF (tgt := 40) dX9_step_35 (by decide) ?_
        obtain ⟨x25, e24, h⟩ := bzBdE h
        refine cs_X9_66 hF (fun l => mt_X9_within l e24) (by decide) (Nat.le_of_ble_eq_true rfl) dX9_step_40 ?_
        refine j_if_ne hF (tgt := 53) dX9_step_43 (by decide) (fun c26 => ?_) (fun c26 => ?_)
        · replace h := bzIfF h c26
          refine j_aload hF 0 dX9_step_53 rfl ?_
          refine j_iload_n hF 2 dX9_step_55 rfl ?_
          obtain ⟨g27, h⟩ := bzGdE h
          refine j_iald hF (c := a1.toNatClampNeg) h_k3 rfl g27 rfl dX9_step_56 ?_
          refine j_topi (fun x28 ex28 => ?_)
          replace h := bzLetE h ex28
          refine j_istore hF (lv1 := [(5, .int x28), (4, .ref (ga g k3)), (0, .ref (ga g o)), (1, .int a1), (2, .int a2), (3, .int a3)]) dX9_step_57 (by decide) rfl ?_
          refine j_aload hF 1 dX9_step_59 rfl ?_
          refine j_iload_n hF 3 dX9_step_61 rfl ?_
          refine j_iload_n hF 5 dX9_step_62 rfl ?_
          obtain ⟨g29, h⟩ := bzGdE h
          refine j_iast hF (c := a1.toNatClampNeg) h_k3 rfl g29 rfl dX9_step_63 ?_
          refine j_s (fun σ30 eσ30 => ?_)
          replace h := bzLetE h eσ30
          refine j_iload hF 0 dX9_step_64 rfl ?_
          exact j_iret hF hG dX9_step_66  (bzRet h).1 (bzRet h).2
        · replace h := bzIfT h c26
          refine j_aload_n hF 1 dX9_step_46 rfl ?_
          refine j_ldc hF (v := (-1000000001)) kc_X9_70 dX9_step_47 ?_
          obtain ⟨x32, σ33, e31, h⟩ := bzBpE h
          refine cs_X9_71 hF ho (fun l => mt_X9_fails l e31) (by decide) (Nat.le_of_ble_eq_true rfl) dX9_step_49 ?_
          exact j_iret hF hG dX9_step_52  (bzRet h).1 (bzRet h).2
def f_X1_isGood (o : Nat) (a1 : Int32) (a2 : Int32) (σ : bzS) : Option Int32 :=
  bzGd (kd o = 1) (bzBd (f_X9_isPlace a1 ((ly o 1))) (fun x2 => if x2 = 0 then (some 0) else (bzGd (bzIn a1 10) (if (σ (ly o 1) a1.toNatClampNeg) < a2 then (some 0) else (some 1)))))
set_option maxHeartbeats 4000000 in
set_option maxRecDepth 20000 in
theorem mt_X1_isGood {g : bzGeo} {o : Nat} {a1 : Int32} {a2 : Int32} {σ : bzS} {r0 : Int32} (l : Launch) (h : f_X1_isGood  o a1 a2 σ = some r0) : Met l yX1_isGood (Cond.code yX1_isGood cX1_isGood 3 (some .boolean) :: GW) (bzR (2)) (va_Pc [.ref (ga g o), .int a1, .int a2] (bzP g σ)) (va_Qi (fun (r : Int32) (u : bzS) => r = r0 ∧ u = σ) (bzB g) (gA g)) 0 0 (gA g) := by
  unfold f_X1_isGood at h
  obtain ⟨ho, h⟩ := bzGdE h
  refine j_start l (by decide +kernel) [.ref (ga g o), .int a1, .int a2] [(0, .ref (ga g o)), (1, .int a1), (2, .int a2)] (Nat.le_of_ble_eq_true rfl) rfl (fun x hF hG => ?_)
  refine j_iload_n hF 1 dX1_isGood_0 rfl ?_
  refine j_aload_n hF 0 dX1_isGood_1 rfl ?_
  refine gf_X1_13 hF ho dX1_isGood_2 ?_
  obtain ⟨x2, e1, h⟩ := bzBdE h
  refine cs_X1_32 hF (fun l => mt_X9_isPlace l e1) (by decide) (Nat.le_of_ble_eq_true rfl) dX1_isGood_5 ?_
  refine j_if_eq hF (tgt := 25) dX1_isGood_8 (by decide) (fun c3 => ?_) (fun c3 => ?_)
  · replace h := bzIfT h c3
    refine j_iconst hF (v := 0) dX1_isGood_25 (by decide) ?_
    exact j_zret hF hG dX1_isGood_26 (by decide)  (Option.some.inj h) rfl
  · replace h := bzIfF h c3
    refine j_aload_n hF 0 dX1_isGood_11 rfl ?_
    refine gf_X1_13 hF ho dX1_isGood_12 ?_
    refine j_iload_n hF 1 dX1_isGood_15 rfl ?_
    obtain ⟨g4, h⟩ := bzGdE h
    refine j_iald hF (c := a1.toNatClampNeg) (kl_1_1 ho) (nl_1_1 ho) g4 rfl dX1_isGood_16 ?_
    refine j_iload_n hF 2 dX1_isGood_17 rfl ?_
    refine j_icmp_lt hF (tgt := 25) dX1_isGood_18 (by decide) (fun c5 => ?_) (fun c5 => ?_)
    · replace h := bzIfT h c5
      refine j_iconst hF (v := 0) dX1_isGood_25 (by decide) ?_
      exact j_zret hF hG dX1_isGood_26 (by decide)  (Option.some.inj h) rfl
    · replace h := bzIfF h c5
      refine j_iconst hF (v := 1) dX1_isGood_21 (by decide) ?_
      refine j_goto hF (tgt := 26) dX1_isGood_22 (by decide) ?_
      exact j_zret hF hG dX1_isGood_26 (by decide)  (Option.some.inj h) rfl
def fb_X9_ofStep_45 (o : Nat) (a1 : Int32) (a2 : Int32) (σ1 : bzS) : Option (Int32 × bzS) :=
  bzBd (f_X1_rowOfSteps ((ly (ly o 0) 1)) a2 σ1) (fun x3 => bzOp x3 (bzBp (f_X9_fails o ((-1000000001)) σ1) (fun x6 σ7 => some (x6, σ7))) (fun k4 => bzGd (kd k4 = 11) (bzBd (f_X9_isPlace a1 k4) (fun x9 => if x9 = 0 then (bzBp (f_X9_fails o ((-1000000001)) σ1) (fun x13 σ14 => some (x13, σ14))) else (bzGd (bzIn a1 (ln k4)) (some ((σ1 k4 a1.toNatClampNeg), σ1)))))))
def f_X9_ofStep (o : Nat) (a1 : Int32) (a2 : Int32) (σ : bzS) : Option (Int32 × bzS) :=
  bzGd (kd o = 9) (if a2 = 2 then (bzBd (f_X9_within a1 0 9) (fun x16 => if x16 = 0 then (fb_X9_ofStep_45 o a1 a2 σ) else (bzBd (f_X0_weight ((ly (ly o 0) 0)) σ) (fun x19 => bzBd (f_X1_isGood ((ly (ly o 0) 1)) a1 x19 σ) (fun x21 => if x21 = 0 then (some (0, σ)) else (some (1, σ))))))) else (fb_X9_ofStep_45 o a1 a2 σ))
set_option maxHeartbeats 4000000 in
set_option maxRecDepth 20000 in
theorem mt_X9_ofStep {g : bzGeo} {o : Nat} {a1 : Int32} {a2 : Int32} {σ : bzS} {r0 : Int32} {σ0 : bzS} (l : Launch) (h : f_X9_ofStep  o a1 a2 σ = some (r0, σ0)) : Met l yX9_ofStep (Cond.code yX9_ofStep cX9_ofStep 4 (some .int) :: GW) (bzR (3)) (va_Pc [.ref (ga g o), .int a1, .int a2] (bzP g σ)) (va_Qi (fun (r : Int32) (u : bzS) => r = r0 ∧ u = σ0) (bzB g) (gA g)) 0 0 (gA g) := by
  unfold f_X9_ofStep at h
  obtain ⟨ho, h⟩ := bzGdE h
  refine j_start l (by decide +kernel) [.ref (ga g o), .int a1, .int a2] [(0, .ref (ga g o)), (1, .int a1), (2, .int a2)] (Nat.le_of_ble_eq_true rfl) rfl (fun x hF hG => ?_)
  have J45 : ∀ (σ1 : bzS), fb_X9_ofStep_45 o a1 a2 σ1 = some (r0, σ0) → bzJ g 4 x σ1 45 [(0, .ref (ga g o)), (1, .int a1), (2, .int a2)] [] := by
    intro σ1 h
    unfold fb_X9_ofStep_45 at h
    refine j_aload_n hF 0 dX9_ofStep_45 rfl ?_
    refine gf_X9_12 hF ho dX9_ofStep_46 ?_
    refine gf_X9_95 hF (kl_9_0 ho) dX9_ofStep_49 ?_
    refine j_iload_n hF 2 dX9_ofStep_52 rfl ?_
    obtain ⟨x3, e2, h⟩ := bzBdE h
    refine cs_X9_99 hF (kl_6_1 (kl_9_0 ho)) (fun l => mt_X1_rowOfSteps l e2) (by decide) (Nat.le_of_ble_eq_true rfl) dX9_ofStep_53 ?_
    cases x3 with
    | none =>
      replace h := bzOpN h
      refine j_nul ?_
      refine j_astore_nN hF (lv1 := [(3, .null), (0, .ref (ga g o)), (1, .int a1), (2, .int a2)]) dX9_ofStep_56 (by decide) rfl ?_
      refine j_aload_nN hF 0 dX9_ofStep_57 rfl ?_
      refine j_ifnullN hF (tgt := 69) dX9_ofStep_58 (by decide) ?_
      refine j_aload_n hF 1 dX9_ofStep_69 rfl ?_
      refine j_ldc hF (v := (-1000000001)) kc_X9_70 dX9_ofStep_70 ?_
      obtain ⟨x6, σ7, e5, h⟩ := bzBpE h
      refine cs_X9_71 hF ho (fun l => mt_X9_fails l e5) (by decide) (Nat.le_of_ble_eq_true rfl) dX9_ofStep_72 ?_
      exact j_iret hF hG dX9_ofStep_75 (bzRet h).1 (bzRet h).2
    | some k4 =>
      obtain ⟨h_k4, h⟩ := bzGdE (bzOpS h)
      refine j_som ?_
      refine j_astore_n hF (lv1 := [(3, .ref (ga g k4)), (0, .ref (ga g o)), (1, .int a1), (2, .int a2)]) dX9_ofStep_56 (by decide) rfl ?_
      refine j_aload_n hF 0 dX9_ofStep_57 rfl ?_
      refine j_ifnull hF dX9_ofStep_58 ?_
      refine j_iload_n hF 2 dX9_ofStep_61 rfl ?_
      refine j_aload_n hF 0 dX9_ofStep_62 rfl ?_
      obtain ⟨x9, e8, h⟩ := bzBdE h
      refine cs_X9_62 hF (fun l => mt_X9_isPlace l e8) (by decide) (Nat.le_of_ble_eq_true rfl) dX9_ofStep_63 ?_
      refine j_if_ne hF (tgt := 76) dX9_ofStep_66 (by decide) (fun c10 => ?_) (fun c10 => ?_)
      · replace h := bzIfF h c10
        refine j_aload_n hF 0 dX9_ofStep_76 rfl ?_
        refine j_iload_n hF 2 dX9_ofStep_77 rfl ?_
        obtain ⟨g11, h⟩ := bzGdE h
        refine j_iald hF (c := a1.toNatClampNeg) h_k4 rfl g11 rfl dX9_ofStep_78 ?_
        exact j_iret hF hG dX9_ofStep_79 (bzRet h).1 (bzRet h).2
      · replace h := bzIfT h c10
        refine j_aload_n hF 1 dX9_ofStep_69 rfl ?_
        refine j_ldc hF (v := (-1000000001)) kc_X9_70 dX9_ofStep_70 ?_
        obtain ⟨x13, σ14, e12, h⟩ := bzBpE h
        refine cs_X9_71 hF ho (fun l => mt_X9_fails l e12) (by decide) (Nat.le_of_ble_eq_true rfl) dX9_ofStep_72 ?_
        exact j_iret hF hG dX9_ofStep_75 (bzRet h).1 (bzRet h).2
  refine j_iload_n hF 2 dX9_ofStep_0 rfl ?_
  refine j_iconst hF (v := 2) dX9_ofStep_1 (by decide) ?_
  refine j_icmp_ne hF (tgt := 45) dX9_ofStep_2 (by decide) (fun c1 => ?_) (fun c1 => ?_)
  · replace h := bzIfF h c1
    exact J45 σ h
  · replace h := bzIfT h c1
    refine j_iload_n hF 1 dX9_ofStep_5 rfl ?_
    refine j_iconst hF (v := 0) dX9_ofStep_6 (by decide) ?_
    refine j_bipush hF (v := 9) dX9_ofStep_7 (by decide) ?_
    obtain ⟨x16, e15, h⟩ := bzBdE h
    refine cs_X9_66 hF (fun l => mt_X9_within l e15) (by decide) (Nat.le_of_ble_eq_true rfl) dX9_ofStep_9 ?_
    refine j_if_eq hF (tgt := 45) dX9_ofStep_12 (by decide) (fun c17 => ?_) (fun c17 => ?_)
    · replace h := bzIfT h c17
      exact J45 σ h
    · replace h := bzIfF h c17
      refine j_aload_n hF 0 dX9_ofStep_15 rfl ?_
      refine gf_X9_12 hF ho dX9_ofStep_16 ?_
      refine gf_X9_95 hF (kl_9_0 ho) dX9_ofStep_19 ?_
      refine j_iload_n hF 1 dX9_ofStep_22 rfl ?_
      refine j_aload_n hF 0 dX9_ofStep_23 rfl ?_
      refine gf_X9_12 hF ho dX9_ofStep_24 ?_
      refine gf_X9_55 hF (kl_9_0 ho) dX9_ofStep_27 ?_
      obtain ⟨x19, e18, h⟩ := bzBdE h
      refine cs_X9_85 hF (kl_6_0 (kl_9_0 ho)) (fun l => mt_X0_weight l e18) (by decide) (Nat.le_of_ble_eq_true rfl) dX9_ofStep_30 ?_
      obtain ⟨x21, e20, h⟩ := bzBdE h
      refine cs_X9_104 hF (kl_6_1 (kl_9_0 ho)) (fun l => mt_X1_isGood l e20) (by decide) (Nat.le_of_ble_eq_true rfl) dX9_ofStep_33 ?_
      refine j_if_eq hF (tgt := 43) dX9_ofStep_36 (by decide) (fun c22 => ?_) (fun c22 => ?_)
      · replace h := bzIfT h c22
        refine j_iconst hF (v := 0) dX9_ofStep_43 (by decide) ?_
        exact j_iret hF hG dX9_ofStep_44  (bzRet h).1 (bzRet h).2
      · replace h := bzIfF h c22
        refine j_iconst hF (v := 1) dX9_ofStep_39 (by decide) ?_
        refine j_goto hF (tgt := 44) dX9_ofStep_40 (by decide) ?_
        exact j_iret hF hG dX9_ofStep_44  (bzRet h).1 (bzRet h).2
def f_X9_trees (o : Nat) (a1 : Int32) (a2 : Int32) (σ : bzS) : Option (Int32 × bzS) :=
  bzGd (kd o = 9) (bzBd (f_X9_isPlace a1 ((ly (ly (ly o 0) 1) 2))) (fun x2 => if x2 = 0 then (bzBp (f_X9_fails o ((-1000000001)) σ) (fun x5 σ6 => some (x5, σ6))) else (bzBd (f_X9_within a2 0 255) (fun x8 => if x8 = 0 then (bzBp (f_X9_fails o ((-1000000001)) σ) (fun x15 σ16 => some (x15, σ16))) else (bzGd (bzIn a1 8) (bzLet ((σ (ly (ly (ly o 0) 1) 2) a1.toNatClampNeg)) (fun x11 => bzGd (bzIn a1 8) (bzLet (bzSt σ (ly (ly (ly o 0) 1) 2) a1.toNatClampNeg a2) (fun σ13 => some (x11, σ13))))))))))
set_option maxHeartbeats 4000000 in
set_option maxRecDepth 20000 in
theorem mt_X9_trees {g : bzGeo} {o : Nat} {a1 : Int32} {a2 : Int32} {σ : bzS} {r0 : Int32} {σ0 : bzS} (l : Launch) (h : f_X9_trees  o a1 a2 σ = some (r0, σ0)) : Met l yX9_trees (Cond.code yX9_trees cX9_trees 5 (some .int) :: GW) (bzR (3)) (va_Pc [.ref (ga g o), .int a1, .int a2] (bzP g σ)) (va_Qi (fun (r : Int32) (u : bzS) => r = r0 ∧ u = σ0) (bzB g) (gA g)) 0 0 (gA g) := by
  unfold f_X9_trees at h
  obtain ⟨ho, h⟩ := bzGdE h
  refine j_start l (by decide +kernel) [.ref (ga g o), .int a1, .int a2] [(0, .ref (ga g o)), (1, .int a1), (2, .int a2)] (Nat.le_of_ble_eq_true rfl) rfl (fun x hF hG => ?_)
  refine j_aload_n hF 0 dX9_trees_0 rfl ?_
  refine gf_X9_12 hF ho dX9_trees_1 ?_
  refine gf_X9_95 hF (kl_9_0 ho) dX9_trees_4 ?_
  refine gf_X9_108 hF (kl_6_1 (kl_9_0 ho)) dX9_trees_7 ?_
  refine j_astore_n hF (lv1 := [(3, .ref (ga g (ly (ly (ly o 0) 1) 2))), (0, .ref (ga g o)), (1, .int a1), (2, .int a2)]) dX9_trees_10 (by decide) rfl ?_
  refine j_iload_n hF 2 dX9_trees_11 rfl ?_
  refine j_aload_n hF 0 dX9_trees_12 rfl ?_
  obtain ⟨x2, e1, h⟩ := bzBdE h
  refine cs_X9_62 hF (fun l => mt_X9_isPlace l e1) (by decide) (Nat.le_of_ble_eq_true rfl) dX9_trees_13 ?_
  refine j_if_eq hF (tgt := 30) dX9_trees_16 (by decide) (fun c3 => ?_) (fun c3 => ?_)
  · replace h := bzIfT h c3
    refine j_aload_n hF 1 dX9_trees_30 rfl ?_
    refine j_ldc hF (v := (-1000000001)) kc_X9_70 dX9_trees_31 ?_
    obtain ⟨x5, σ6, e4, h⟩ := bzBpE h
    refine cs_X9_71 hF ho (fun l => mt_X9_fails l e4) (by decide) (Nat.le_of_ble_eq_true rfl) dX9_trees_33 ?_
    exact j_iret hF hG dX9_trees_36  (bzRet h).1 (bzRet h).2
  · replace h := bzIfF h c3
    refine j_iload_n hF 3 dX9_trees_19 rfl ?_
    refine j_iconst hF (v := 0) dX9_trees_20 (by decide) ?_
    refine j_sipush hF (v := 255) dX9_trees_21 (by decide) ?_
    obtain ⟨x8, e7, h⟩ := bzBdE h
    refine cs_X9_66 hF (fun l => mt_X9_within l e7) (by decide) (Nat.le_of_ble_eq_true rfl) dX9_trees_24 ?_
    refine j_if_ne hF (tgt := 37) dX9_trees_27 (by decide) (fun c9 => ?_) (fun c9 => ?_)
    · replace h := bzIfF h c9
      refine j_aload_n hF 0 dX9_trees_37 rfl ?_
      refine j_iload_n hF 2 dX9_trees_38 rfl ?_
      obtain ⟨g10, h⟩ := bzGdE h
      refine j_iald hF (c := a1.toNatClampNeg) (kl_1_2 (kl_6_1 (kl_9_0 ho))) (nl_1_2 (kl_6_1 (kl_9_0 ho))) g10 rfl dX9_trees_39 ?_
      refine j_topi (fun x11 ex11 => ?_)
      replace h := bzLetE h ex11
      refine j_istore hF (lv1 := [(4, .int x11), (3, .ref (ga g (ly (ly (ly o 0) 1) 2))), (0, .ref (ga g o)), (1, .int a1), (2, .int a2)]) dX9_trees_40 (by decide) rfl ?_
      refine j_aload_n hF 1 dX9_trees_42 rfl ?_
      refine j_iload_n hF 3 dX9_trees_43 rfl ?_
      refine j_iload_n hF 4 dX9_trees_44 rfl ?_
      obtain ⟨g12, h⟩ := bzGdE h
      refine j_iast hF (c := a1.toNatClampNeg) (kl_1_2 (kl_6_1 (kl_9_0 ho))) (nl_1_2 (kl_6_1 (kl_9_0 ho))) g12 rfl dX9_trees_45 ?_
      refine j_s (fun σ13 eσ13 => ?_)
      replace h := bzLetE h eσ13
      refine j_iload hF 0 dX9_trees_46 rfl ?_
      exact j_iret hF hG dX9_trees_48  (bzRet h).1 (bzRet h).2
    · replace h := bzIfT h c9
      refine j_aload_n hF 1 dX9_trees_30 rfl ?_
      refine j_ldc hF (v := (-1000000001)) kc_X9_70 dX9_trees_31 ?_
      obtain ⟨x15, σ16, e14, h⟩ := bzBpE h
      refine cs_X9_71 hF ho (fun l => mt_X9_fails l e14) (by decide) (Nat.le_of_ble_eq_true rfl) dX9_trees_33 ?_
      exact j_iret hF hG dX9_trees_36  (bzRet h).1 (bzRet h).2
def f_X7_add (o : Nat) (a1 : Int32) (a2 : Int32) (a3 : Int32) (σ : bzS) : Option (Int32 × bzS) :=
  bzGd (kd o = 7) (if (σ o 4) < 8 then (bzGd (bzIn (σ o 4) 8) (bzLet (bzSt σ (ly o 0) (((σ o 4)).toNatClampNeg) (a1 / 10)) (fun σ3 => bzGd (bzIn (σ3 o 4) 8) (bzLet (bzSt σ3 (ly o 1) (((σ3 o 4)).toNatClampNeg) (a1 - a1 / 10 * 10)) (fun σ5 => bzGd (bzIn (σ5 o 4) 8) (bzLet (bzSt σ5 (ly o 2) (((σ5 o 4)).toNatClampNeg) a2) (fun σ7 => bzGd (bzIn (σ7 o 4) 8) (bzLet (bzSt σ7 (ly o 3) (((σ7 o 4)).toNatClampNeg) a3) (fun σ9 => bzLet (bzSt σ9 o 4 ((σ9 o 4) + 1)) (fun σ10 => some (((σ10 o 4) - 1), σ10))))))))))) else (some ((-1), σ)))
set_option maxHeartbeats 4000000 in
set_option maxRecDepth 20000 in
theorem mt_X7_add {g : bzGeo} {o : Nat} {a1 : Int32} {a2 : Int32} {a3 : Int32} {σ : bzS} {r0 : Int32} {σ0 : bzS} (l : Launch) (h : f_X7_add  o a1 a2 a3 σ = some (r0, σ0)) : Met l yX7_add (Cond.code yX7_add cX7_add 4 (some .int) :: GW) (bzR (1)) (va_Pc [.ref (ga g o), .int a1, .int a2, .int a3] (bzP g σ)) (va_Qi (fun (r : Int32) (u : bzS) => r = r0 ∧ u = σ0) (bzB g) (gA g)) 0 0 (gA g) := by
  unfold f_X7_add at h
  obtain ⟨ho, h⟩ := bzGdE h
  refine j_start l (by decide +kernel) [.ref (ga g o), .int a1, .int a2, .int a3] [(0, .ref (ga g o)), (1, .int a1), (2, .int a2), (3, .int a3)] (Nat.le_of_ble_eq_true rfl) rfl (fun x hF hG => ?_)
  refine j_aload_n hF 0 dX7_add_0 rfl ?_
  refine gf_X7_22 hF ho dX7_add_1 ?_
  refine j_bipush hF (v := 8) dX7_add_4 (by decide) ?_
  refine j_icmp_lt hF (tgt := 11) dX7_add_6 (by decide) (fun c1 => ?_) (fun c1 => ?_)
  · replace h := bzIfT h c1
    refine j_aload_n hF 0 dX7_add_11 rfl ?_
    refine gf_X7_9 hF ho dX7_add_12 ?_
    refine j_aload_n hF 0 dX7_add_15 rfl ?_
    refine gf_X7_22 hF ho dX7_add_16 ?_
    refine j_iload_n hF 1 dX7_add_19 rfl ?_
    refine j_bipush hF (v := 10) dX7_add_20 (by decide) ?_
    refine j_idiv hF dX7_add_22 (by decide) ?_
    obtain ⟨g2, h⟩ := bzGdE h
    refine j_iast hF (c := ((σ o 4)).toNatClampNeg) (kl_7_0 ho) (nl_7_0 ho) g2 rfl dX7_add_23 ?_
    refine j_s (fun σ3 eσ3 => ?_)
    replace h := bzLetE h eσ3
    refine j_aload_n hF 0 dX7_add_24 rfl ?_
    refine gf_X7_13 hF ho dX7_add_25 ?_
    refine j_aload_n hF 0 dX7_add_28 rfl ?_
    refine gf_X7_22 hF ho dX7_add_29 ?_
    refine j_iload_n hF 1 dX7_add_32 rfl ?_
    refine j_bipush hF (v := 10) dX7_add_33 (by decide) ?_
    refine j_irem hF dX7_add_35 (by decide) ?_
    obtain ⟨g4, h⟩ := bzGdE h
    refine j_iast hF (c := ((σ3 o 4)).toNatClampNeg) (kl_7_1 ho) (nl_7_1 ho) g4 rfl dX7_add_36 ?_
    refine j_s (fun σ5 eσ5 => ?_)
    replace h := bzLetE h eσ5
    refine j_aload_n hF 0 dX7_add_37 rfl ?_
    refine gf_X7_16 hF ho dX7_add_38 ?_
    refine j_aload_n hF 0 dX7_add_41 rfl ?_
    refine gf_X7_22 hF ho dX7_add_42 ?_
    refine j_iload_n hF 2 dX7_add_45 rfl ?_
    obtain ⟨g6, h⟩ := bzGdE h
    refine j_iast hF (c := ((σ5 o 4)).toNatClampNeg) (kl_7_2 ho) (nl_7_2 ho) g6 rfl dX7_add_46 ?_
    refine j_s (fun σ7 eσ7 => ?_)
    replace h := bzLetE h eσ7
    refine j_aload_n hF 0 dX7_add_47 rfl ?_
    refine gf_X7_19 hF ho dX7_add_48 ?_
    refine j_aload_n hF 0 dX7_add_51 rfl ?_
    refine gf_X7_22 hF ho dX7_add_52 ?_
    refine j_iload_n hF 3 dX7_add_55 rfl ?_
    obtain ⟨g8, h⟩ := bzGdE h
    refine j_iast hF (c := ((σ7 o 4)).toNatClampNeg) (kl_7_3 ho) (nl_7_3 ho) g8 rfl dX7_add_56 ?_
    refine j_s (fun σ9 eσ9 => ?_)
    replace h := bzLetE h eσ9
    refine j_aload_n hF 0 dX7_add_57 rfl ?_
    refine j_dup hF dX7_add_58 rfl ?_
    refine gf_X7_22 hF ho dX7_add_59 ?_
    refine j_iconst hF (v := 1) dX7_add_62 (by decide) ?_
    refine j_iadd hF dX7_add_63 ?_
    refine pf_X7_22 hF ho dX7_add_64 ?_
    refine j_s (fun σ10 eσ10 => ?_)
    replace h := bzLetE h eσ10
    refine j_aload_n hF 0 dX7_add_67 rfl ?_
    refine gf_X7_22 hF ho dX7_add_68 ?_
    refine j_iconst hF (v := 1) dX7_add_71 (by decide) ?_
    refine j_isub hF dX7_add_72 ?_
    exact j_iret hF hG dX7_add_73  (bzRet h).1 (bzRet h).2
  · replace h := bzIfF h c1
    refine j_iconst hF (v := (-1)) dX7_add_9 (by decide) ?_
    exact j_iret hF hG dX7_add_10  (bzRet h).1 (bzRet h).2
def f_X9_visitor (o : Nat) (a1 : Int32) (a2 : Int32) (a3 : Int32) (σ : bzS) : Option (Int32 × bzS) :=
  bzGd (kd o = 9) (bzBd (f_X9_within a1 0 69) (fun x2 => if x2 = 0 then (bzBp (f_X9_fails o ((-1000000001)) σ) (fun x5 σ6 => some (x5, σ6))) else (bzBd (f_X9_within a2 0 9) (fun x8 => if x8 = 0 then (bzBp (f_X9_fails o ((-1000000001)) σ) (fun x11 σ12 => some (x11, σ12))) else (bzBd (f_X9_within a3 1 12) (fun x14 => if x14 = 0 then (bzBp (f_X9_fails o ((-1000000001)) σ) (fun x24 σ25 => some (x24, σ25))) else (bzBp (f_X7_add ((ly (ly (ly o 0) 0) 2)) a1 a2 a3 σ) (fun x17 σ18 => if x17 < 0 then (bzBp (f_X9_fails o ((-1000000004)) σ18) (fun x21 σ22 => some (x21, σ22))) else (some (x17, σ18))))))))))
set_option maxHeartbeats 4000000 in
set_option maxRecDepth 20000 in
theorem mt_X9_visitor {g : bzGeo} {o : Nat} {a1 : Int32} {a2 : Int32} {a3 : Int32} {σ : bzS} {r0 : Int32} {σ0 : bzS} (l : Launch) (h : f_X9_visitor  o a1 a2 a3 σ = some (r0, σ0)) : Met l yX9_visitor (Cond.code yX9_visitor cX9_visitor 5 (some .int) :: GW) (bzR (3)) (va_Pc [.ref (ga g o), .int a1, .int a2, .int a3] (bzP g σ)) (va_Qi (fun (r : Int32) (u : bzS) => r = r0 ∧ u = σ0) (bzB g) (gA g)) 0 0 (gA g) := by
  unfold f_X9_visitor at h
  obtain ⟨ho, h⟩ := bzGdE h
  refine j_start l (by decide +kernel) [.ref (ga g o), .int a1, .int a2, .int a3] [(0, .ref (ga g o)), (1, .int a1), (2, .int a2), (3, .int a3)] (Nat.le_of_ble_eq_true rfl) rfl (fun x hF hG => ?_)
  refine j_iload_n hF 1 dX9_visitor_0 rfl ?_
  refine j_iconst hF (v := 0) dX9_visitor_1 (by decide) ?_
  refine j_bipush hF (v := 69) dX9_visitor_2 (by decide) ?_
  obtain ⟨x2, e1, h⟩ := bzBdE h
  refine cs_X9_66 hF (fun l => mt_X9_within l e1) (by decide) (Nat.le_of_ble_eq_true rfl) dX9_visitor_4 ?_
  refine j_if_eq hF (tgt := 30) dX9_visitor_7 (by decide) (fun c3 => ?_) (fun c3 => ?_)
  · replace h := bzIfT h c3
    refine j_aload_n hF 0 dX9_visitor_30 rfl ?_
    refine j_ldc hF (v := (-1000000001)) kc_X9_70 dX9_visitor_31 ?_
    obtain ⟨x5, σ6, e4, h⟩ := bzBpE h
    refine cs_X9_71 hF ho (fun l => mt_X9_fails l e4) (by decide) (Nat.le_of_ble_eq_true rfl) dX9_visitor_33 ?_
    exact j_iret hF hG dX9_visitor_36  (bzRet h).1 (bzRet h).2
  · replace h := bzIfF h c3
    refine j_iload_n hF 2 dX9_visitor_10 rfl ?_
    refine j_iconst hF (v := 0) dX9_visitor_11 (by decide) ?_
    refine j_bipush hF (v := 9) dX9_visitor_12 (by decide) ?_
    obtain ⟨x8, e7, h⟩ := bzBdE h
    refine cs_X9_66 hF (fun l => mt_X9_within l e7) (by decide) (Nat.le_of_ble_eq_true rfl) dX9_visitor_14 ?_
    refine j_if_eq hF (tgt := 30) dX9_visitor_17 (by decide) (fun c9 => ?_) (fun c9 => ?_)
    · replace h := bzIfT h c9
      refine j_aload_n hF 0 dX9_visitor_30 rfl ?_
      refine j_ldc hF (v := (-1000000001)) kc_X9_70 dX9_visitor_31 ?_
      obtain ⟨x11, σ12, e10, h⟩ := bzBpE h
      refine cs_X9_71 hF ho (fun l => mt_X9_fails l e10) (by decide) (Nat.le_of_ble_eq_true rfl) dX9_visitor_33 ?_
      exact j_iret hF hG dX9_visitor_36  (bzRet h).1 (bzRet h).2
    · replace h := bzIfF h c9
      refine j_iload_n hF 3 dX9_visitor_20 rfl ?_
      refine j_iconst hF (v := 1) dX9_visitor_21 (by decide) ?_
      refine j_bipush hF (v := 12) dX9_visitor_22 (by decide) ?_
      obtain ⟨x14, e13, h⟩ := bzBdE h
      refine cs_X9_66 hF (fun l => mt_X9_within l e13) (by decide) (Nat.le_of_ble_eq_true rfl) dX9_visitor_24 ?_
      refine j_if_ne hF (tgt := 37) dX9_visitor_27 (by decide) (fun c15 => ?_) (fun c15 => ?_)
      · replace h := bzIfF h c15
        refine j_aload_n hF 0 dX9_visitor_37 rfl ?_
        refine gf_X9_12 hF ho dX9_visitor_38 ?_
        refine gf_X9_55 hF (kl_9_0 ho) dX9_visitor_41 ?_
        refine gf_X9_111 hF (kl_6_0 (kl_9_0 ho)) dX9_visitor_44 ?_
        refine j_iload_n hF 1 dX9_visitor_47 rfl ?_
        refine j_iload_n hF 2 dX9_visitor_48 rfl ?_
        refine j_iload_n hF 3 dX9_visitor_49 rfl ?_
        obtain ⟨x17, σ18, e16, h⟩ := bzBpE h
        refine cs_X9_115 hF (kl_0_2 (kl_6_0 (kl_9_0 ho))) (fun l => mt_X7_add l e16) (by decide) (Nat.le_of_ble_eq_true rfl) dX9_visitor_50 ?_
        refine j_istore hF (lv1 := [(4, .int x17), (0, .ref (ga g o)), (1, .int a1), (2, .int a2), (3, .int a3)]) dX9_visitor_53 (by decide) rfl ?_
        refine j_iload hF 0 dX9_visitor_55 rfl ?_
        refine j_if_lt hF (tgt := 65) dX9_visitor_57 (by decide) (fun c19 => ?_) (fun c19 => ?_)
        · replace h := bzIfT h c19
          refine j_aload_n hF 1 dX9_visitor_65 rfl ?_
          refine j_ldc hF (v := (-1000000004)) kc_X9_121 dX9_visitor_66 ?_
          obtain ⟨x21, σ22, e20, h⟩ := bzBpE h
          refine cs_X9_71 hF ho (fun l => mt_X9_fails l e20) (by decide) (Nat.le_of_ble_eq_true rfl) dX9_visitor_68 ?_
          exact j_iret hF hG dX9_visitor_71  (bzRet h).1 (bzRet h).2
        · replace h := bzIfF h c19
          refine j_iload hF 0 dX9_visitor_60 rfl ?_
          refine j_goto hF (tgt := 71) dX9_visitor_62 (by decide) ?_
          exact j_iret hF hG dX9_visitor_71  (bzRet h).1 (bzRet h).2
      · replace h := bzIfT h c15
        refine j_aload_n hF 0 dX9_visitor_30 rfl ?_
        refine j_ldc hF (v := (-1000000001)) kc_X9_70 dX9_visitor_31 ?_
        obtain ⟨x24, σ25, e23, h⟩ := bzBpE h
        refine cs_X9_71 hF ho (fun l => mt_X9_fails l e23) (by decide) (Nat.le_of_ble_eq_true rfl) dX9_visitor_33 ?_
        exact j_iret hF hG dX9_visitor_36  (bzRet h).1 (bzRet h).2
def f_X7_has (o : Nat) (a1 : Int32) (σ : bzS) : Option Int32 :=
  bzGd (kd o = 7) (if a1 < 0 then (some 0) else (if (σ o 4) ≤ a1 then (some 0) else (if 8 < (σ o 4) then (some 0) else (some 1))))
set_option maxHeartbeats 4000000 in
set_option maxRecDepth 20000 in
theorem mt_X7_has {g : bzGeo} {o : Nat} {a1 : Int32} {σ : bzS} {r0 : Int32} (l : Launch) (h : f_X7_has  o a1 σ = some r0) : Met l yX7_has (Cond.code yX7_has cX7_has 2 (some .boolean) :: GW) (bzR (1)) (va_Pc [.ref (ga g o), .int a1] (bzP g σ)) (va_Qi (fun (r : Int32) (u : bzS) => r = r0 ∧ u = σ) (bzB g) (gA g)) 0 0 (gA g) := by
  unfold f_X7_has at h
  obtain ⟨ho, h⟩ := bzGdE h
  refine j_start l (by decide +kernel) [.ref (ga g o), .int a1] [(0, .ref (ga g o)), (1, .int a1)] (Nat.le_of_ble_eq_true rfl) rfl (fun x hF hG => ?_)
  refine j_iload_n hF 1 dX7_has_0 rfl ?_
  refine j_if_lt hF (tgt := 25) dX7_has_1 (by decide) (fun c1 => ?_) (fun c1 => ?_)
  · replace h := bzIfT h c1
    refine j_iconst hF (v := 0) dX7_has_25 (by decide) ?_
    exact j_zret hF hG dX7_has_26 (by decide)  (Option.some.inj h) rfl
  · replace h := bzIfF h c1
    refine j_iload_n hF 1 dX7_has_4 rfl ?_
    refine j_aload_n hF 0 dX7_has_5 rfl ?_
    refine gf_X7_22 hF ho dX7_has_6 ?_
    refine j_icmp_ge hF (tgt := 25) dX7_has_9 (by decide) (fun c2 => ?_) (fun c2 => ?_)
    · replace h := bzIfT h c2
      refine j_iconst hF (v := 0) dX7_has_25 (by decide) ?_
      exact j_zret hF hG dX7_has_26 (by decide)  (Option.some.inj h) rfl
    · replace h := bzIfF h c2
      refine j_aload_n hF 0 dX7_has_12 rfl ?_
      refine gf_X7_22 hF ho dX7_has_13 ?_
      refine j_bipush hF (v := 8) dX7_has_16 (by decide) ?_
      refine j_icmp_gt hF (tgt := 25) dX7_has_18 (by decide) (fun c3 => ?_) (fun c3 => ?_)
      · replace h := bzIfT h c3
        refine j_iconst hF (v := 0) dX7_has_25 (by decide) ?_
        exact j_zret hF hG dX7_has_26 (by decide)  (Option.some.inj h) rfl
      · replace h := bzIfF h c3
        refine j_iconst hF (v := 1) dX7_has_21 (by decide) ?_
        refine j_goto hF (tgt := 26) dX7_has_22 (by decide) ?_
        exact j_zret hF hG dX7_has_26 (by decide)  (Option.some.inj h) rfl
def f_X0_rainNow (o : Nat) (σ : bzS) : Option Int32 :=
  bzGd (kd o = 0) (bzBd (f_J_floorMod ((σ o 8)) 6) (fun x2 => bzGd (bzIn x2 6) (some ((σ (ly o 1) x2.toNatClampNeg)))))
set_option maxHeartbeats 4000000 in
set_option maxRecDepth 20000 in
theorem mt_X0_rainNow {g : bzGeo} {o : Nat} {σ : bzS} {r0 : Int32} (l : Launch) (h : f_X0_rainNow  o σ = some r0) : Met l yX0_rainNow (Cond.code yX0_rainNow cX0_rainNow 1 (some .int) :: GW) (bzR (2)) (va_Pc [.ref (ga g o)] (bzP g σ)) (va_Qi (fun (r : Int32) (u : bzS) => r = r0 ∧ u = σ) (bzB g) (gA g)) 0 0 (gA g) := by
  unfold f_X0_rainNow at h
  obtain ⟨ho, h⟩ := bzGdE h
  refine j_start l (by decide +kernel) [.ref (ga g o)] [(0, .ref (ga g o))] (Nat.le_of_ble_eq_true rfl) rfl (fun x hF hG => ?_)
  refine j_aload_n hF 0 dX0_rainNow_0 rfl ?_
  refine gf_X0_15 hF ho dX0_rainNow_1 ?_
  refine j_aload_n hF 0 dX0_rainNow_4 rfl ?_
  refine gf_X0_45 hF ho dX0_rainNow_5 ?_
  refine j_bipush hF (v := 6) dX0_rainNow_8 (by decide) ?_
  obtain ⟨x2, e1, h⟩ := bzBdE h
  refine cs_X0_48 hF (fun l => mt_J_floorMod l e1) (by decide) (Nat.le_of_ble_eq_true rfl) dX0_rainNow_10 ?_
  obtain ⟨g3, h⟩ := bzGdE h
  refine j_iald hF (c := x2.toNatClampNeg) (kl_0_1 ho) (nl_0_1 ho) g3 rfl dX0_rainNow_13 ?_
  exact j_iret hF hG dX0_rainNow_14  (Option.some.inj h) rfl
def fb_X7_comes_43 (o : Nat) (a1 : Int32) (a2 : Int32) (a3 : Int32) (σ : bzS) (s0 : Int32) : Option Int32 :=
  bzGd (bzIn a1 8) (if (σ (ly o 0) a1.toNatClampNeg) = 2 then (if 5 ≤ a3 then (some 0) else (some 1)) else if (σ (ly o 0) a1.toNatClampNeg) = 3 then (bzGd (s0 = 0 ∨ s0 = 1) (some s0)) else if (σ (ly o 0) a1.toNatClampNeg) = 4 then (if s0 = 0 then (some 0) else (if 6 < a3 then (some 0) else (some 1))) else if (σ (ly o 0) a1.toNatClampNeg) = 5 then (if 5 ≤ a3 then (some 0) else (if s0 = 0 then (some 0) else (some 1))) else if (σ (ly o 0) a1.toNatClampNeg) = 6 then (if s0 = 0 then (some 0) else (bzGd (bzIn a1 8) (if (a2 - a2 / 10 * 10) = (σ (ly o 1) a1.toNatClampNeg) then (some 0) else (some 1)))) else (bzGd (s0 = 0 ∨ s0 = 1) (some s0)))
def f_X7_comes (o : Nat) (a1 : Int32) (a2 : Int32) (a3 : Int32) (σ : bzS) : Option Int32 :=
  bzGd (kd o = 7) (bzBd (f_X7_has o a1 σ) (fun x2 => if x2 = 0 then (some 0) else (if a1 = (σ o 5) then (some 0) else (bzGd (bzIn a1 8) (if (σ (ly o 3) a1.toNatClampNeg) ≤ 0 then (fb_X7_comes_43 o a1 a2 a3 σ 0) else (bzGd (bzIn a1 8) (bzGd (¬ (σ (ly o 3) a1.toNatClampNeg) = 0) (if (a2 - a2 / (σ (ly o 3) a1.toNatClampNeg) * (σ (ly o 3) a1.toNatClampNeg)) = 0 then (fb_X7_comes_43 o a1 a2 a3 σ 1) else (fb_X7_comes_43 o a1 a2 a3 σ 0)))))))))
set_option maxHeartbeats 4000000 in
set_option maxRecDepth 20000 in
theorem mt_X7_comes {g : bzGeo} {o : Nat} {a1 : Int32} {a2 : Int32} {a3 : Int32} {σ : bzS} {r0 : Int32} (l : Launch) (h : f_X7_comes  o a1 a2 a3 σ = some r0) : Met l yX7_comes (Cond.code yX7_comes cX7_comes 5 (some .boolean) :: GW) (bzR (2)) (va_Pc [.ref (ga g o), .int a1, .int a2, .int a3] (bzP g σ)) (va_Qi (fun (r : Int32) (u : bzS) => r = r0 ∧ u = σ) (bzB g) (gA g)) 0 0 (gA g) := by
  unfold f_X7_comes at h
  obtain ⟨ho, h⟩ := bzGdE h
  refine j_start l (by decide +kernel) [.ref (ga g o), .int a1, .int a2, .int a3] [(0, .ref (ga g o)), (1, .int a1), (2, .int a2), (3, .int a3)] (Nat.le_of_ble_eq_true rfl) rfl (fun x hF hG => ?_)
  have J43 : ∀ (s0 : Int32), fb_X7_comes_43 o a1 a2 a3 σ s0 = some r0 → bzJ g 5 x σ 43 [(0, .ref (ga g o)), (1, .int a1), (2, .int a2), (3, .int a3)] [.int s0] := by
    intro s0 h
    unfold fb_X7_comes_43 at h
    refine j_istore hF (lv1 := [(4, .int s0), (0, .ref (ga g o)), (1, .int a1), (2, .int a2), (3, .int a3)]) dX7_comes_43 (by decide) rfl ?_
    refine j_aload_n hF 1 dX7_comes_45 rfl ?_
    refine gf_X7_9 hF ho dX7_comes_46 ?_
    refine j_iload_n hF 2 dX7_comes_49 rfl ?_
    obtain ⟨g7, h⟩ := bzGdE h
    refine j_iald hF (c := a1.toNatClampNeg) (kl_7_0 ho) (nl_7_0 ho) g7 rfl dX7_comes_50 ?_
    rcases Decidable.em ((σ (ly o 0) a1.toNatClampNeg) = 2) with c8 | c8
    · replace h := bzIfT h c8
      refine j_tableIn hF (tgt := 84) dX7_comes_51 (by rw [c8] <;> decide) (by rw [c8] <;> decide) (by rw [c8] <;> rfl) (by decide) ?_
      refine j_iload_n hF 4 dX7_comes_84 rfl ?_
      refine j_iconst hF (v := 5) dX7_comes_85 (by decide) ?_
      refine j_icmp_ge hF (tgt := 93) dX7_comes_86 (by decide) (fun c9 => ?_) (fun c9 => ?_)
      · replace h := bzIfT h c9
        refine j_iconst hF (v := 0) dX7_comes_93 (by decide) ?_
        exact j_zret hF hG dX7_comes_94 (by decide) (Option.some.inj h) rfl
      · replace h := bzIfF h c9
        refine j_iconst hF (v := 1) dX7_comes_89 (by decide) ?_
        refine j_goto hF (tgt := 94) dX7_comes_90 (by decide) ?_
        exact j_zret hF hG dX7_comes_94 (by decide) (Option.some.inj h) rfl
    · replace h := bzIfF h c8
      rcases Decidable.em ((σ (ly o 0) a1.toNatClampNeg) = 3) with c10 | c10
      · replace h := bzIfT h c10
        refine j_tableIn hF (tgt := 152) dX7_comes_51 (by rw [c10] <;> decide) (by rw [c10] <;> decide) (by rw [c10] <;> rfl) (by decide) ?_
        refine j_iload hF 0 dX7_comes_152 rfl ?_
        obtain ⟨g11, h⟩ := bzGdE h
        exact j_zret hF hG dX7_comes_154 (bz01 g11) (Option.some.inj h) rfl
      · replace h := bzIfF h c10
        rcases Decidable.em ((σ (ly o 0) a1.toNatClampNeg) = 4) with c12 | c12
        · replace h := bzIfT h c12
          refine j_tableIn hF (tgt := 95) dX7_comes_51 (by rw [c12] <;> decide) (by rw [c12] <;> decide) (by rw [c12] <;> rfl) (by decide) ?_
          refine j_iload hF 0 dX7_comes_95 rfl ?_
          refine j_if_eq hF (tgt := 110) dX7_comes_97 (by decide) (fun c13 => ?_) (fun c13 => ?_)
          · replace h := bzIfT h c13
            refine j_iconst hF (v := 0) dX7_comes_110 (by decide) ?_
            exact j_zret hF hG dX7_comes_111 (by decide) (Option.some.inj h) rfl
          · replace h := bzIfF h c13
            refine j_iload_n hF 4 dX7_comes_100 rfl ?_
            refine j_bipush hF (v := 6) dX7_comes_101 (by decide) ?_
            refine j_icmp_gt hF (tgt := 110) dX7_comes_103 (by decide) (fun c14 => ?_) (fun c14 => ?_)
            · replace h := bzIfT h c14
              refine j_iconst hF (v := 0) dX7_comes_110 (by decide) ?_
              exact j_zret hF hG dX7_comes_111 (by decide) (Option.some.inj h) rfl
            · replace h := bzIfF h c14
              refine j_iconst hF (v := 1) dX7_comes_106 (by decide) ?_
              refine j_goto hF (tgt := 111) dX7_comes_107 (by decide) ?_
              exact j_zret hF hG dX7_comes_111 (by decide) (Option.some.inj h) rfl
        · replace h := bzIfF h c12
          rcases Decidable.em ((σ (ly o 0) a1.toNatClampNeg) = 5) with c15 | c15
          · replace h := bzIfT h c15
            refine j_tableIn hF (tgt := 112) dX7_comes_51 (by rw [c15] <;> decide) (by rw [c15] <;> decide) (by rw [c15] <;> rfl) (by decide) ?_
            refine j_iload_n hF 4 dX7_comes_112 rfl ?_
            refine j_iconst hF (v := 5) dX7_comes_113 (by decide) ?_
            refine j_icmp_ge hF (tgt := 126) dX7_comes_114 (by decide) (fun c16 => ?_) (fun c16 => ?_)
            · replace h := bzIfT h c16
              refine j_iconst hF (v := 0) dX7_comes_126 (by decide) ?_
              exact j_zret hF hG dX7_comes_127 (by decide) (Option.some.inj h) rfl
            · replace h := bzIfF h c16
              refine j_iload hF 0 dX7_comes_117 rfl ?_
              refine j_if_eq hF (tgt := 126) dX7_comes_119 (by decide) (fun c17 => ?_) (fun c17 => ?_)
              · replace h := bzIfT h c17
                refine j_iconst hF (v := 0) dX7_comes_126 (by decide) ?_
                exact j_zret hF hG dX7_comes_127 (by decide) (Option.some.inj h) rfl
              · replace h := bzIfF h c17
                refine j_iconst hF (v := 1) dX7_comes_122 (by decide) ?_
                refine j_goto hF (tgt := 127) dX7_comes_123 (by decide) ?_
                exact j_zret hF hG dX7_comes_127 (by decide) (Option.some.inj h) rfl
          · replace h := bzIfF h c15
            rcases Decidable.em ((σ (ly o 0) a1.toNatClampNeg) = 6) with c18 | c18
            · replace h := bzIfT h c18
              refine j_tableIn hF (tgt := 128) dX7_comes_51 (by rw [c18] <;> decide) (by rw [c18] <;> decide) (by rw [c18] <;> rfl) (by decide) ?_
              refine j_iload hF 0 dX7_comes_128 rfl ?_
              refine j_if_eq hF (tgt := 150) dX7_comes_130 (by decide) (fun c19 => ?_) (fun c19 => ?_)
              · replace h := bzIfT h c19
                refine j_iconst hF (v := 0) dX7_comes_150 (by decide) ?_
                exact j_zret hF hG dX7_comes_151 (by decide) (Option.some.inj h) rfl
              · replace h := bzIfF h c19
                refine j_iload_n hF 3 dX7_comes_133 rfl ?_
                refine j_bipush hF (v := 10) dX7_comes_134 (by decide) ?_
                refine j_irem hF dX7_comes_136 (by decide) ?_
                refine j_aload_n hF 1 dX7_comes_137 rfl ?_
                refine gf_X7_13 hF ho dX7_comes_138 ?_
                refine j_iload_n hF 2 dX7_comes_141 rfl ?_
                obtain ⟨g20, h⟩ := bzGdE h
                refine j_iald hF (c := a1.toNatClampNeg) (kl_7_1 ho) (nl_7_1 ho) g20 rfl dX7_comes_142 ?_
                refine j_icmp_eq hF (tgt := 150) dX7_comes_143 (by decide) (fun c21 => ?_) (fun c21 => ?_)
                · replace h := bzIfT h c21
                  refine j_iconst hF (v := 0) dX7_comes_150 (by decide) ?_
                  exact j_zret hF hG dX7_comes_151 (by decide) (Option.some.inj h) rfl
                · replace h := bzIfF h c21
                  refine j_iconst hF (v := 1) dX7_comes_146 (by decide) ?_
                  refine j_goto hF (tgt := 151) dX7_comes_147 (by decide) ?_
                  exact j_zret hF hG dX7_comes_151 (by decide) (Option.some.inj h) rfl
            · replace h := bzIfF h c18
              refine j_tableOut hF (tgt := 152) dX7_comes_51 (by have q0 := lv_neT (a := 2) c8 (by decide); have q1 := lv_neT (a := 3) c10 (by decide); have q2 := lv_neT (a := 4) c12 (by decide); have q3 := lv_neT (a := 5) c15 (by decide); have q4 := lv_neT (a := 6) c18 (by decide); omega) (by decide) ?_
              refine j_iload hF 0 dX7_comes_152 rfl ?_
              obtain ⟨g22, h⟩ := bzGdE h
              exact j_zret hF hG dX7_comes_154 (bz01 g22) (Option.some.inj h) rfl
  refine j_aload_n hF 0 dX7_comes_0 rfl ?_
  refine j_iload_n hF 1 dX7_comes_1 rfl ?_
  obtain ⟨x2, e1, h⟩ := bzBdE h
  refine cs_X7_42 hF ho (fun l => mt_X7_has l e1) (by decide) (Nat.le_of_ble_eq_true rfl) dX7_comes_2 ?_
  refine j_if_eq hF (tgt := 16) dX7_comes_5 (by decide) (fun c3 => ?_) (fun c3 => ?_)
  · replace h := bzIfT h c3
    refine j_iconst hF (v := 0) dX7_comes_16 (by decide) ?_
    exact j_zret hF hG dX7_comes_17 (by decide)  (Option.some.inj h) rfl
  · replace h := bzIfF h c3
    refine j_iload_n hF 1 dX7_comes_8 rfl ?_
    refine j_aload_n hF 0 dX7_comes_9 rfl ?_
    refine gf_X7_26 hF ho dX7_comes_10 ?_
    refine j_icmp_ne hF (tgt := 18) dX7_comes_13 (by decide) (fun c4 => ?_) (fun c4 => ?_)
    · replace h := bzIfF h c4
      refine j_aload_n hF 0 dX7_comes_18 rfl ?_
      refine gf_X7_19 hF ho dX7_comes_19 ?_
      refine j_iload_n hF 1 dX7_comes_22 rfl ?_
      obtain ⟨g5, h⟩ := bzGdE h
      refine j_iald hF (c := a1.toNatClampNeg) (kl_7_3 ho) (nl_7_3 ho) g5 rfl dX7_comes_23 ?_
      refine j_if_le hF (tgt := 42) dX7_comes_24 (by decide) (fun c6 => ?_) (fun c6 => ?_)
      · replace h := bzIfT h c6
        refine j_iconst hF (v := 0) dX7_comes_42 (by decide) ?_
        exact J43 0 h
      · replace h := bzIfF h c6
        refine j_iload_n hF 2 dX7_comes_27 rfl ?_
        refine j_aload_n hF 0 dX7_comes_28 rfl ?_
        refine gf_X7_19 hF ho dX7_comes_29 ?_
        refine j_iload_n hF 1 dX7_comes_32 rfl ?_
        obtain ⟨g23, h⟩ := bzGdE h
        refine j_iald hF (c := a1.toNatClampNeg) (kl_7_3 ho) (nl_7_3 ho) g23 rfl dX7_comes_33 ?_
        obtain ⟨g24, h⟩ := bzGdE h
        refine j_irem hF dX7_comes_34 g24 ?_
        refine j_if_ne hF (tgt := 42) dX7_comes_35 (by decide) (fun c25 => ?_) (fun c25 => ?_)
        · replace h := bzIfF h c25
          refine j_iconst hF (v := 0) dX7_comes_42 (by decide) ?_
          exact J43 0 h
        · replace h := bzIfT h c25
          refine j_iconst hF (v := 1) dX7_comes_38 (by decide) ?_
          refine j_goto hF (tgt := 43) dX7_comes_39 (by decide) ?_
          exact J43 1 h
    · replace h := bzIfT h c4
      refine j_iconst hF (v := 0) dX7_comes_16 (by decide) ?_
      exact j_zret hF hG dX7_comes_17 (by decide)  (Option.some.inj h) rfl
def f_X7_keeps (o : Nat) (a1 : Int32) (a2 : Int32) (a3 : Int32) (σ : bzS) : Option Int32 :=
  bzGd (kd o = 7) (bzBd (f_X7_has o a1 σ) (fun x2 => if x2 = 0 then (some 0) else (bzGd (bzIn a1 8) (bzGd (bzIn a1 8) (bzLet ((((σ (ly o 2) a1.toNatClampNeg) / 2) + ((σ (ly o 1) a1.toNatClampNeg) / 3))) (fun x6 => bzGd (bzIn a1 8) (if (σ (ly o 0) a1.toNatClampNeg) = 1 then (bzGd (bzIn a1 8) (some ((σ (ly o 2) a1.toNatClampNeg)))) else if (σ (ly o 0) a1.toNatClampNeg) = 2 then (some 1) else if (σ (ly o 0) a1.toNatClampNeg) = 3 then (some x6) else if (σ (ly o 0) a1.toNatClampNeg) = 4 then (bzGd (bzIn a1 8) (if a3 ≤ 5 then (some (((σ (ly o 2) a1.toNatClampNeg) + 0))) else (some (((σ (ly o 2) a1.toNatClampNeg) + 2))))) else if (σ (ly o 0) a1.toNatClampNeg) = 5 then (some 2) else if (σ (ly o 0) a1.toNatClampNeg) = 6 then (if a2 ≤ 60 then (some ((2 * x6))) else (some 0)) else (bzGd (bzIn a1 8) (some (((σ (ly o 2) a1.toNatClampNeg) / 2)))))))))))
set_option maxHeartbeats 4000000 in
set_option maxRecDepth 20000 in
theorem mt_X7_keeps {g : bzGeo} {o : Nat} {a1 : Int32} {a2 : Int32} {a3 : Int32} {σ : bzS} {r0 : Int32} (l : Launch) (h : f_X7_keeps  o a1 a2 a3 σ = some r0) : Met l yX7_keeps (Cond.code yX7_keeps cX7_keeps 5 (some .int) :: GW) (bzR (2)) (va_Pc [.ref (ga g o), .int a1, .int a2, .int a3] (bzP g σ)) (va_Qi (fun (r : Int32) (u : bzS) => r = r0 ∧ u = σ) (bzB g) (gA g)) 0 0 (gA g) := by
  unfold f_X7_keeps at h
  obtain ⟨ho, h⟩ := bzGdE h
  refine j_start l (by decide +kernel) [.ref (ga g o), .int a1, .int a2, .int a3] [(0, .ref (ga g o)), (1, .int a1), (2, .int a2), (3, .int a3)] (Nat.le_of_ble_eq_true rfl) rfl (fun x hF hG => ?_)
  refine j_aload_n hF 0 dX7_keeps_0 rfl ?_
  refine j_iload_n hF 1 dX7_keeps_1 rfl ?_
  obtain ⟨x2, e1, h⟩ := bzBdE h
  refine cs_X7_42 hF ho (fun l => mt_X7_has l e1) (by decide) (Nat.le_of_ble_eq_true rfl) dX7_keeps_2 ?_
  refine j_if_ne hF (tgt := 10) dX7_keeps_5 (by decide) (fun c3 => ?_) (fun c3 => ?_)
  · replace h := bzIfF h c3
    refine j_aload_n hF 0 dX7_keeps_10 rfl ?_
    refine gf_X7_16 hF ho dX7_keeps_11 ?_
    refine j_iload_n hF 1 dX7_keeps_14 rfl ?_
    obtain ⟨g4, h⟩ := bzGdE h
    refine j_iald hF (c := a1.toNatClampNeg) (kl_7_2 ho) (nl_7_2 ho) g4 rfl dX7_keeps_15 ?_
    refine j_iconst hF (v := 2) dX7_keeps_16 (by decide) ?_
    refine j_idiv hF dX7_keeps_17 (by decide) ?_
    refine j_aload_n hF 0 dX7_keeps_18 rfl ?_
    refine gf_X7_13 hF ho dX7_keeps_19 ?_
    refine j_iload_n hF 1 dX7_keeps_22 rfl ?_
    obtain ⟨g5, h⟩ := bzGdE h
    refine j_iald hF (c := a1.toNatClampNeg) (kl_7_1 ho) (nl_7_1 ho) g5 rfl dX7_keeps_23 ?_
    refine j_iconst hF (v := 3) dX7_keeps_24 (by decide) ?_
    refine j_idiv hF dX7_keeps_25 (by decide) ?_
    refine j_iadd hF dX7_keeps_26 ?_
    refine j_topi (fun x6 ex6 => ?_)
    replace h := bzLetE h ex6
    refine j_istore hF (lv1 := [(4, .int x6), (0, .ref (ga g o)), (1, .int a1), (2, .int a2), (3, .int a3)]) dX7_keeps_27 (by decide) rfl ?_
    refine j_aload_n hF 1 dX7_keeps_29 rfl ?_
    refine gf_X7_9 hF ho dX7_keeps_30 ?_
    refine j_iload_n hF 2 dX7_keeps_33 rfl ?_
    obtain ⟨g7, h⟩ := bzGdE h
    refine j_iald hF (c := a1.toNatClampNeg) (kl_7_0 ho) (nl_7_0 ho) g7 rfl dX7_keeps_34 ?_
    rcases Decidable.em ((σ (ly o 0) a1.toNatClampNeg) = 1) with c8 | c8
    · replace h := bzIfT h c8
      refine j_tableIn hF (tgt := 72) dX7_keeps_35 (by rw [c8] <;> decide) (by rw [c8] <;> decide) (by rw [c8] <;> rfl) (by decide) ?_
      refine j_aload_n hF 1 dX7_keeps_72 rfl ?_
      refine gf_X7_16 hF ho dX7_keeps_73 ?_
      refine j_iload_n hF 2 dX7_keeps_76 rfl ?_
      obtain ⟨g9, h⟩ := bzGdE h
      refine j_iald hF (c := a1.toNatClampNeg) (kl_7_2 ho) (nl_7_2 ho) g9 rfl dX7_keeps_77 ?_
      exact j_iret hF hG dX7_keeps_78  (Option.some.inj h) rfl
    · replace h := bzIfF h c8
      rcases Decidable.em ((σ (ly o 0) a1.toNatClampNeg) = 2) with c10 | c10
      · replace h := bzIfT h c10
        refine j_tableIn hF (tgt := 79) dX7_keeps_35 (by rw [c10] <;> decide) (by rw [c10] <;> decide) (by rw [c10] <;> rfl) (by decide) ?_
        refine j_iconst hF (v := 1) dX7_keeps_79 (by decide) ?_
        exact j_iret hF hG dX7_keeps_80  (Option.some.inj h) rfl
      · replace h := bzIfF h c10
        rcases Decidable.em ((σ (ly o 0) a1.toNatClampNeg) = 3) with c11 | c11
        · replace h := bzIfT h c11
          refine j_tableIn hF (tgt := 81) dX7_keeps_35 (by rw [c11] <;> decide) (by rw [c11] <;> decide) (by rw [c11] <;> rfl) (by decide) ?_
          refine j_iload hF 0 dX7_keeps_81 rfl ?_
          exact j_iret hF hG dX7_keeps_83  (Option.some.inj h) rfl
        · replace h := bzIfF h c11
          rcases Decidable.em ((σ (ly o 0) a1.toNatClampNeg) = 4) with c12 | c12
          · replace h := bzIfT h c12
            refine j_tableIn hF (tgt := 84) dX7_keeps_35 (by rw [c12] <;> decide) (by rw [c12] <;> decide) (by rw [c12] <;> rfl) (by decide) ?_
            refine j_aload_n hF 1 dX7_keeps_84 rfl ?_
            refine gf_X7_16 hF ho dX7_keeps_85 ?_
            refine j_iload_n hF 2 dX7_keeps_88 rfl ?_
            obtain ⟨g13, h⟩ := bzGdE h
            refine j_iald hF (c := a1.toNatClampNeg) (kl_7_2 ho) (nl_7_2 ho) g13 rfl dX7_keeps_89 ?_
            refine j_iload_n hF 4 dX7_keeps_90 rfl ?_
            refine j_iconst hF (v := 5) dX7_keeps_91 (by decide) ?_
            refine j_icmp_le hF (tgt := 99) dX7_keeps_92 (by decide) (fun c14 => ?_) (fun c14 => ?_)
            · replace h := bzIfT h c14
              refine j_iconst hF (v := 0) dX7_keeps_99 (by decide) ?_
              refine j_iadd hF dX7_keeps_100 ?_
              exact j_iret hF hG dX7_keeps_101  (Option.some.inj h) rfl
            · replace h := bzIfF h c14
              refine j_iconst hF (v := 2) dX7_keeps_95 (by decide) ?_
              refine j_goto hF (tgt := 100) dX7_keeps_96 (by decide) ?_
              refine j_iadd hF dX7_keeps_100 ?_
              exact j_iret hF hG dX7_keeps_101  (Option.some.inj h) rfl
          · replace h := bzIfF h c12
            rcases Decidable.em ((σ (ly o 0) a1.toNatClampNeg) = 5) with c15 | c15
            · replace h := bzIfT h c15
              refine j_tableIn hF (tgt := 102) dX7_keeps_35 (by rw [c15] <;> decide) (by rw [c15] <;> decide) (by rw [c15] <;> rfl) (by decide) ?_
              refine j_iconst hF (v := 2) dX7_keeps_102 (by decide) ?_
              exact j_iret hF hG dX7_keeps_103  (Option.some.inj h) rfl
            · replace h := bzIfF h c15
              rcases Decidable.em ((σ (ly o 0) a1.toNatClampNeg) = 6) with c16 | c16
              · replace h := bzIfT h c16
                refine j_tableIn hF (tgt := 104) dX7_keeps_35 (by rw [c16] <;> decide) (by rw [c16] <;> decide) (by rw [c16] <;> rfl) (by decide) ?_
                refine j_iload_n hF 3 dX7_keeps_104 rfl ?_
                refine j_bipush hF (v := 60) dX7_keeps_105 (by decide) ?_
                refine j_icmp_le hF (tgt := 114) dX7_keeps_107 (by decide) (fun c17 => ?_) (fun c17 => ?_)
                · replace h := bzIfT h c17
                  refine j_iconst hF (v := 2) dX7_keeps_114 (by decide) ?_
                  refine j_iload hF 0 dX7_keeps_115 rfl ?_
                  refine j_imul hF dX7_keeps_117 ?_
                  exact j_iret hF hG dX7_keeps_118  (Option.some.inj h) rfl
                · replace h := bzIfF h c17
                  refine j_iconst hF (v := 0) dX7_keeps_110 (by decide) ?_
                  refine j_goto hF (tgt := 118) dX7_keeps_111 (by decide) ?_
                  exact j_iret hF hG dX7_keeps_118  (Option.some.inj h) rfl
              · replace h := bzIfF h c16
                refine j_tableOut hF (tgt := 119) dX7_keeps_35 (by have q0 := lv_neT (a := 1) c8 (by decide); have q1 := lv_neT (a := 2) c10 (by decide); have q2 := lv_neT (a := 3) c11 (by decide); have q3 := lv_neT (a := 4) c12 (by decide); have q4 := lv_neT (a := 5) c15 (by decide); have q5 := lv_neT (a := 6) c16 (by decide); omega) (by decide) ?_
                refine j_aload_n hF 1 dX7_keeps_119 rfl ?_
                refine gf_X7_16 hF ho dX7_keeps_120 ?_
                refine j_iload_n hF 2 dX7_keeps_123 rfl ?_
                obtain ⟨g18, h⟩ := bzGdE h
                refine j_iald hF (c := a1.toNatClampNeg) (kl_7_2 ho) (nl_7_2 ho) g18 rfl dX7_keeps_124 ?_
                refine j_iconst hF (v := 2) dX7_keeps_125 (by decide) ?_
                refine j_idiv hF dX7_keeps_126 (by decide) ?_
                exact j_iret hF hG dX7_keeps_127  (Option.some.inj h) rfl
  · replace h := bzIfT h c3
    refine j_iconst hF (v := 0) dX7_keeps_8 (by decide) ?_
    exact j_iret hF hG dX7_keeps_9  (Option.some.inj h) rfl
def f_X9_ofVisitor (o : Nat) (a1 : Int32) (a2 : Int32) (σ : bzS) : Option (Int32 × bzS) :=
  bzGd (kd o = 9) (bzBd (f_X7_has ((ly (ly (ly o 0) 0) 2)) a1 σ) (fun x2 => if x2 = 0 then (bzBp (f_X9_fails o ((-1000000001)) σ) (fun x5 σ6 => some (x5, σ6))) else (bzBd (f_X9_within a2 0 5) (fun x8 => if x8 = 0 then (bzBp (f_X9_fails o ((-1000000001)) σ) (fun x29 σ30 => some (x29, σ30))) else (if a2 = 0 then (bzGd (bzIn a1 8) (some ((σ (ly (ly (ly (ly o 0) 0) 2) 0) a1.toNatClampNeg), σ))) else if a2 = 1 then (bzGd (bzIn a1 8) (some ((σ (ly (ly (ly (ly o 0) 0) 2) 1) a1.toNatClampNeg), σ))) else if a2 = 2 then (bzGd (bzIn a1 8) (some ((σ (ly (ly (ly (ly o 0) 0) 2) 2) a1.toNatClampNeg), σ))) else if a2 = 3 then (bzGd (bzIn a1 8) (some ((σ (ly (ly (ly (ly o 0) 0) 2) 3) a1.toNatClampNeg), σ))) else if a2 = 4 then (bzBd (f_X0_rainNow ((ly (ly o 0) 0)) σ) (fun x20 => bzBd (f_X7_comes ((ly (ly (ly o 0) 0) 2)) a1 ((σ (ly (ly o 0) 0) 8)) x20 σ) (fun x22 => if x22 = 0 then (some (0, σ)) else (some (1, σ))))) else (bzBd (f_X0_heatNow ((ly (ly o 0) 0)) σ) (fun x25 => bzBd (f_X7_keeps ((ly (ly (ly o 0) 0) 2)) a1 ((σ (ly (ly o 0) 0) 5)) x25 σ) (fun x27 => some (x27, σ)))))))))
set_option maxHeartbeats 4000000 in
set_option maxRecDepth 20000 in
theorem mt_X9_ofVisitor {g : bzGeo} {o : Nat} {a1 : Int32} {a2 : Int32} {σ : bzS} {r0 : Int32} {σ0 : bzS} (l : Launch) (h : f_X9_ofVisitor  o a1 a2 σ = some (r0, σ0)) : Met l yX9_ofVisitor (Cond.code yX9_ofVisitor cX9_ofVisitor 4 (some .int) :: GW) (bzR (3)) (va_Pc [.ref (ga g o), .int a1, .int a2] (bzP g σ)) (va_Qi (fun (r : Int32) (u : bzS) => r = r0 ∧ u = σ0) (bzB g) (gA g)) 0 0 (gA g) := by
  unfold f_X9_ofVisitor at h
  obtain ⟨ho, h⟩ := bzGdE h
  refine j_start l (by decide +kernel) [.ref (ga g o), .int a1, .int a2] [(0, .ref (ga g o)), (1, .int a1), (2, .int a2)] (Nat.le_of_ble_eq_true rfl) rfl (fun x hF hG => ?_)
  refine j_aload_n hF 0 dX9_ofVisitor_0 rfl ?_
  refine gf_X9_12 hF ho dX9_ofVisitor_1 ?_
  refine gf_X9_55 hF (kl_9_0 ho) dX9_ofVisitor_4 ?_
  refine gf_X9_111 hF (kl_6_0 (kl_9_0 ho)) dX9_ofVisitor_7 ?_
  refine j_astore_n hF (lv1 := [(3, .ref (ga g (ly (ly (ly o 0) 0) 2))), (0, .ref (ga g o)), (1, .int a1), (2, .int a2)]) dX9_ofVisitor_10 (by decide) rfl ?_
  refine j_aload_n hF 0 dX9_ofVisitor_11 rfl ?_
  refine j_iload_n hF 2 dX9_ofVisitor_12 rfl ?_
  obtain ⟨x2, e1, h⟩ := bzBdE h
  refine cs_X9_122 hF (kl_0_2 (kl_6_0 (kl_9_0 ho))) (fun l => mt_X7_has l e1) (by decide) (Nat.le_of_ble_eq_true rfl) dX9_ofVisitor_13 ?_
  refine j_if_eq hF (tgt := 28) dX9_ofVisitor_16 (by decide) (fun c3 => ?_) (fun c3 => ?_)
  · replace h := bzIfT h c3
    refine j_aload_n hF 1 dX9_ofVisitor_28 rfl ?_
    refine j_ldc hF (v := (-1000000001)) kc_X9_70 dX9_ofVisitor_29 ?_
    obtain ⟨x5, σ6, e4, h⟩ := bzBpE h
    refine cs_X9_71 hF ho (fun l => mt_X9_fails l e4) (by decide) (Nat.le_of_ble_eq_true rfl) dX9_ofVisitor_31 ?_
    exact j_iret hF hG dX9_ofVisitor_34  (bzRet h).1 (bzRet h).2
  · replace h := bzIfF h c3
    refine j_iload_n hF 3 dX9_ofVisitor_19 rfl ?_
    refine j_iconst hF (v := 0) dX9_ofVisitor_20 (by decide) ?_
    refine j_iconst hF (v := 5) dX9_ofVisitor_21 (by decide) ?_
    obtain ⟨x8, e7, h⟩ := bzBdE h
    refine cs_X9_66 hF (fun l => mt_X9_within l e7) (by decide) (Nat.le_of_ble_eq_true rfl) dX9_ofVisitor_22 ?_
    refine j_if_ne hF (tgt := 35) dX9_ofVisitor_25 (by decide) (fun c9 => ?_) (fun c9 => ?_)
    · replace h := bzIfF h c9
      refine j_iload_n hF 3 dX9_ofVisitor_35 rfl ?_
      rcases Decidable.em (a2 = 0) with c10 | c10
      · replace h := bzIfT h c10
        refine j_tableIn hF (tgt := 72) dX9_ofVisitor_36 (by rw [c10] <;> decide) (by rw [c10] <;> decide) (by rw [c10] <;> rfl) (by decide) ?_
        refine j_aload_n hF 0 dX9_ofVisitor_72 rfl ?_
        refine gf_X9_126 hF (kl_0_2 (kl_6_0 (kl_9_0 ho))) dX9_ofVisitor_73 ?_
        refine j_iload_n hF 2 dX9_ofVisitor_76 rfl ?_
        obtain ⟨g11, h⟩ := bzGdE h
        refine j_iald hF (c := a1.toNatClampNeg) (kl_7_0 (kl_0_2 (kl_6_0 (kl_9_0 ho)))) (nl_7_0 (kl_0_2 (kl_6_0 (kl_9_0 ho)))) g11 rfl dX9_ofVisitor_77 ?_
        exact j_iret hF hG dX9_ofVisitor_78  (bzRet h).1 (bzRet h).2
      · replace h := bzIfF h c10
        rcases Decidable.em (a2 = 1) with c12 | c12
        · replace h := bzIfT h c12
          refine j_tableIn hF (tgt := 79) dX9_ofVisitor_36 (by rw [c12] <;> decide) (by rw [c12] <;> decide) (by rw [c12] <;> rfl) (by decide) ?_
          refine j_aload_n hF 0 dX9_ofVisitor_79 rfl ?_
          refine gf_X9_129 hF (kl_0_2 (kl_6_0 (kl_9_0 ho))) dX9_ofVisitor_80 ?_
          refine j_iload_n hF 2 dX9_ofVisitor_83 rfl ?_
          obtain ⟨g13, h⟩ := bzGdE h
          refine j_iald hF (c := a1.toNatClampNeg) (kl_7_1 (kl_0_2 (kl_6_0 (kl_9_0 ho)))) (nl_7_1 (kl_0_2 (kl_6_0 (kl_9_0 ho)))) g13 rfl dX9_ofVisitor_84 ?_
          exact j_iret hF hG dX9_ofVisitor_85  (bzRet h).1 (bzRet h).2
        · replace h := bzIfF h c12
          rcases Decidable.em (a2 = 2) with c14 | c14
          · replace h := bzIfT h c14
            refine j_tableIn hF (tgt := 86) dX9_ofVisitor_36 (by rw [c14] <;> decide) (by rw [c14] <;> decide) (by rw [c14] <;> rfl) (by decide) ?_
            refine j_aload_n hF 0 dX9_ofVisitor_86 rfl ?_
            refine gf_X9_132 hF (kl_0_2 (kl_6_0 (kl_9_0 ho))) dX9_ofVisitor_87 ?_
            refine j_iload_n hF 2 dX9_ofVisitor_90 rfl ?_
            obtain ⟨g15, h⟩ := bzGdE h
            refine j_iald hF (c := a1.toNatClampNeg) (kl_7_2 (kl_0_2 (kl_6_0 (kl_9_0 ho)))) (nl_7_2 (kl_0_2 (kl_6_0 (kl_9_0 ho)))) g15 rfl dX9_ofVisitor_91 ?_
            exact j_iret hF hG dX9_ofVisitor_92  (bzRet h).1 (bzRet h).2
          · replace h := bzIfF h c14
            rcases Decidable.em (a2 = 3) with c16 | c16
            · replace h := bzIfT h c16
              refine j_tableIn hF (tgt := 93) dX9_ofVisitor_36 (by rw [c16] <;> decide) (by rw [c16] <;> decide) (by rw [c16] <;> rfl) (by decide) ?_
              refine j_aload_n hF 0 dX9_ofVisitor_93 rfl ?_
              refine gf_X9_135 hF (kl_0_2 (kl_6_0 (kl_9_0 ho))) dX9_ofVisitor_94 ?_
              refine j_iload_n hF 2 dX9_ofVisitor_97 rfl ?_
              obtain ⟨g17, h⟩ := bzGdE h
              refine j_iald hF (c := a1.toNatClampNeg) (kl_7_3 (kl_0_2 (kl_6_0 (kl_9_0 ho)))) (nl_7_3 (kl_0_2 (kl_6_0 (kl_9_0 ho)))) g17 rfl dX9_ofVisitor_98 ?_
              exact j_iret hF hG dX9_ofVisitor_99  (bzRet h).1 (bzRet h).2
            · replace h := bzIfF h c16
              rcases Decidable.em (a2 = 4) with c18 | c18
              · replace h := bzIfT h c18
                refine j_tableIn hF (tgt := 100) dX9_ofVisitor_36 (by rw [c18] <;> decide) (by rw [c18] <;> decide) (by rw [c18] <;> rfl) (by decide) ?_
                refine j_aload_n hF 0 dX9_ofVisitor_100 rfl ?_
                refine j_iload_n hF 2 dX9_ofVisitor_101 rfl ?_
                refine j_aload_n hF 1 dX9_ofVisitor_102 rfl ?_
                refine gf_X9_12 hF ho dX9_ofVisitor_103 ?_
                refine gf_X9_55 hF (kl_9_0 ho) dX9_ofVisitor_106 ?_
                refine gf_X9_138 hF (kl_6_0 (kl_9_0 ho)) dX9_ofVisitor_109 ?_
                refine j_aload_n hF 1 dX9_ofVisitor_112 rfl ?_
                refine gf_X9_12 hF ho dX9_ofVisitor_113 ?_
                refine gf_X9_55 hF (kl_9_0 ho) dX9_ofVisitor_116 ?_
                obtain ⟨x20, e19, h⟩ := bzBdE h
                refine cs_X9_141 hF (kl_6_0 (kl_9_0 ho)) (fun l => mt_X0_rainNow l e19) (by decide) (Nat.le_of_ble_eq_true rfl) dX9_ofVisitor_119 ?_
                obtain ⟨x22, e21, h⟩ := bzBdE h
                refine cs_X9_144 hF (kl_0_2 (kl_6_0 (kl_9_0 ho))) (fun l => mt_X7_comes l e21) (by decide) (Nat.le_of_ble_eq_true rfl) dX9_ofVisitor_122 ?_
                refine j_if_eq hF (tgt := 132) dX9_ofVisitor_125 (by decide) (fun c23 => ?_) (fun c23 => ?_)
                · replace h := bzIfT h c23
                  refine j_iconst hF (v := 0) dX9_ofVisitor_132 (by decide) ?_
                  exact j_iret hF hG dX9_ofVisitor_133  (bzRet h).1 (bzRet h).2
                · replace h := bzIfF h c23
                  refine j_iconst hF (v := 1) dX9_ofVisitor_128 (by decide) ?_
                  refine j_goto hF (tgt := 133) dX9_ofVisitor_129 (by decide) ?_
                  exact j_iret hF hG dX9_ofVisitor_133  (bzRet h).1 (bzRet h).2
              · replace h := bzIfF h c18
                refine j_tableOut hF (tgt := 134) dX9_ofVisitor_36 (by have q0 := lv_neT (a := 0) c10 (by decide); have q1 := lv_neT (a := 1) c12 (by decide); have q2 := lv_neT (a := 2) c14 (by decide); have q3 := lv_neT (a := 3) c16 (by decide); have q4 := lv_neT (a := 4) c18 (by decide); omega) (by decide) ?_
                refine j_aload_n hF 0 dX9_ofVisitor_134 rfl ?_
                refine j_iload_n hF 2 dX9_ofVisitor_135 rfl ?_
                refine j_aload_n hF 1 dX9_ofVisitor_136 rfl ?_
                refine gf_X9_12 hF ho dX9_ofVisitor_137 ?_
                refine gf_X9_55 hF (kl_9_0 ho) dX9_ofVisitor_140 ?_
                refine gf_X9_147 hF (kl_6_0 (kl_9_0 ho)) dX9_ofVisitor_143 ?_
                refine j_aload_n hF 1 dX9_ofVisitor_146 rfl ?_
                refine gf_X9_12 hF ho dX9_ofVisitor_147 ?_
                refine gf_X9_55 hF (kl_9_0 ho) dX9_ofVisitor_150 ?_
                obtain ⟨x25, e24, h⟩ := bzBdE h
                refine cs_X9_150 hF (kl_6_0 (kl_9_0 ho)) (fun l => mt_X0_heatNow l e24) (by decide) (Nat.le_of_ble_eq_true rfl) dX9_ofVisitor_153 ?_
                obtain ⟨x27, e26, h⟩ := bzBdE h
                refine cs_X9_153 hF (kl_0_2 (kl_6_0 (kl_9_0 ho))) (fun l => mt_X7_keeps l e26) (by decide) (Nat.le_of_ble_eq_true rfl) dX9_ofVisitor_156 ?_
                exact j_iret hF hG dX9_ofVisitor_159  (bzRet h).1 (bzRet h).2
    · replace h := bzIfT h c9
      refine j_aload_n hF 1 dX9_ofVisitor_28 rfl ?_
      refine j_ldc hF (v := (-1000000001)) kc_X9_70 dX9_ofVisitor_29 ?_
      obtain ⟨x29, σ30, e28, h⟩ := bzBpE h
      refine cs_X9_71 hF ho (fun l => mt_X9_fails l e28) (by decide) (Nat.le_of_ble_eq_true rfl) dX9_ofVisitor_31 ?_
      exact j_iret hF hG dX9_ofVisitor_34  (bzRet h).1 (bzRet h).2
def fb_X9_change_46 (o : Nat) (a1 : Int32) (a2 : Int32) (a3 : Int32) (s0 : Int32) (σ1 : bzS) : Option (Int32 × bzS) :=
  bzBd (f_X7_has ((ly (ly (ly o 0) 0) 2)) a1 σ1) (fun x4 => if x4 = 0 then (bzBp (f_X9_fails o ((-1000000001)) σ1) (fun x7 σ8 => some (x7, σ8))) else (if s0 = 0 then (bzBp (f_X9_fails o ((-1000000001)) σ1) (fun x20 σ21 => some (x20, σ21))) else (if a2 = 0 then (bzGd (bzIn a1 8) (bzLet ((σ1 (ly (ly (ly (ly o 0) 0) 2) 2) a1.toNatClampNeg)) (fun x16 => bzGd (bzIn a1 8) (bzLet (bzSt σ1 (ly (ly (ly (ly o 0) 0) 2) 2) a1.toNatClampNeg a3) (fun σ18 => some (x16, σ18)))))) else (bzGd (bzIn a1 8) (bzLet ((σ1 (ly (ly (ly (ly o 0) 0) 2) 3) a1.toNatClampNeg)) (fun x12 => bzGd (bzIn a1 8) (bzLet (bzSt σ1 (ly (ly (ly (ly o 0) 0) 2) 3) a1.toNatClampNeg a3) (fun σ14 => some (x12, σ14)))))))))
def f_X9_change (o : Nat) (a1 : Int32) (a2 : Int32) (a3 : Int32) (σ : bzS) : Option (Int32 × bzS) :=
  bzGd (kd o = 9) (if a2 = 0 then (bzBd (f_X9_within a3 0 9) (fun x26 => if x26 = 0 then (if a2 = 1 then (bzBd (f_X9_within a3 1 12) (fun x30 => if x30 = 0 then (fb_X9_change_46 o a1 a2 a3 0 σ) else (fb_X9_change_46 o a1 a2 a3 1 σ))) else (fb_X9_change_46 o a1 a2 a3 0 σ)) else (fb_X9_change_46 o a1 a2 a3 1 σ))) else (if a2 = 1 then (bzBd (f_X9_within a3 1 12) (fun x23 => if x23 = 0 then (fb_X9_change_46 o a1 a2 a3 0 σ) else (fb_X9_change_46 o a1 a2 a3 1 σ))) else (fb_X9_change_46 o a1 a2 a3 0 σ)))
set_option maxHeartbeats 4000000 in
set_option maxRecDepth 20000 in
theorem mt_X9_change {g : bzGeo} {o : Nat} {a1 : Int32} {a2 : Int32} {a3 : Int32} {σ : bzS} {r0 : Int32} {σ0 : bzS} (l : Launch) (h : f_X9_change  o a1 a2 a3 σ = some (r0, σ0)) : Met l yX9_change (Cond.code yX9_change cX9_change 8 (some .int) :: GW) (bzR (3)) (va_Pc [.ref (ga g o), .int a1, .int a2, .int a3] (bzP g σ)) (va_Qi (fun (r : Int32) (u : bzS) => r = r0 ∧ u = σ0) (bzB g) (gA g)) 0 0 (gA g) := by
  unfold f_X9_change at h
  obtain ⟨ho, h⟩ := bzGdE h
  refine j_start l (by decide +kernel) [.ref (ga g o), .int a1, .int a2, .int a3] [(0, .ref (ga g o)), (1, .int a1), (2, .int a2), (3, .int a3)] (Nat.le_of_ble_eq_true rfl) rfl (fun x hF hG => ?_)
  have J46 : ∀ (s0 : Int32) (σ1 : bzS), fb_X9_change_46 o a1 a2 a3 s0 σ1 = some (r0, σ0) → bzJ g 8 x σ1 46 [(0, .ref (ga g o)), (1, .int a1), (2, .int a2), (3, .int a3), (4, .ref (ga g (ly (ly (ly o 0) 0) 2)))] [.int s0] := by
    intro s0 σ1 h
    unfold fb_X9_change_46 at h
    refine j_istore hF (lv1 := [(5, .int s0), (0, .ref (ga g o)), (1, .int a1), (2, .int a2), (3, .int a3), (4, .ref (ga g (ly (ly (ly o 0) 0) 2)))]) dX9_change_46 (by decide) rfl ?_
    refine j_aload hF 5 dX9_change_48 rfl ?_
    refine j_iload_n hF 2 dX9_change_50 rfl ?_
    obtain ⟨x4, e3, h⟩ := bzBdE h
    refine cs_X9_122 hF (kl_0_2 (kl_6_0 (kl_9_0 ho))) (fun l => mt_X7_has l e3) (by decide) (Nat.le_of_ble_eq_true rfl) dX9_change_51 ?_
    refine j_if_eq hF (tgt := 62) dX9_change_54 (by decide) (fun c5 => ?_) (fun c5 => ?_)
    · replace h := bzIfT h c5
      refine j_aload_n hF 1 dX9_change_62 rfl ?_
      refine j_ldc hF (v := (-1000000001)) kc_X9_70 dX9_change_63 ?_
      obtain ⟨x7, σ8, e6, h⟩ := bzBpE h
      refine cs_X9_71 hF ho (fun l => mt_X9_fails l e6) (by decide) (Nat.le_of_ble_eq_true rfl) dX9_change_65 ?_
      exact j_iret hF hG dX9_change_68 (bzRet h).1 (bzRet h).2
    · replace h := bzIfF h c5
      refine j_iload hF 0 dX9_change_57 rfl ?_
      refine j_if_ne hF (tgt := 69) dX9_change_59 (by decide) (fun c9 => ?_) (fun c9 => ?_)
      · replace h := bzIfF h c9
        refine j_iload_n hF 3 dX9_change_69 rfl ?_
        refine j_if_ne hF (tgt := 81) dX9_change_70 (by decide) (fun c10 => ?_) (fun c10 => ?_)
        · replace h := bzIfF h c10
          refine j_aload hF 5 dX9_change_81 rfl ?_
          refine gf_X9_135 hF (kl_0_2 (kl_6_0 (kl_9_0 ho))) dX9_change_83 ?_
          refine j_astore hF (lv1 := [(6, .ref (ga g (ly (ly (ly (ly o 0) 0) 2) 3))), (5, .int s0), (0, .ref (ga g o)), (1, .int a1), (2, .int a2), (3, .int a3), (4, .ref (ga g (ly (ly (ly o 0) 0) 2)))]) dX9_change_86 (by decide) rfl ?_
          refine j_aload hF 0 dX9_change_88 rfl ?_
          refine j_iload_n hF 3 dX9_change_90 rfl ?_
          obtain ⟨g11, h⟩ := bzGdE h
          refine j_iald hF (c := a1.toNatClampNeg) (kl_7_3 (kl_0_2 (kl_6_0 (kl_9_0 ho)))) (nl_7_3 (kl_0_2 (kl_6_0 (kl_9_0 ho)))) g11 rfl dX9_change_91 ?_
          refine j_topi (fun x12 ex12 => ?_)
          replace h := bzLetE h ex12
          refine j_istore hF (lv1 := [(7, .int x12), (6, .ref (ga g (ly (ly (ly (ly o 0) 0) 2) 3))), (5, .int s0), (0, .ref (ga g o)), (1, .int a1), (2, .int a2), (3, .int a3), (4, .ref (ga g (ly (ly (ly o 0) 0) 2)))]) dX9_change_92 (by decide) rfl ?_
          refine j_aload hF 1 dX9_change_94 rfl ?_
          refine j_iload_n hF 4 dX9_change_96 rfl ?_
          refine j_iload_n hF 6 dX9_change_97 rfl ?_
          obtain ⟨g13, h⟩ := bzGdE h
          refine j_iast hF (c := a1.toNatClampNeg) (kl_7_3 (kl_0_2 (kl_6_0 (kl_9_0 ho)))) (nl_7_3 (kl_0_2 (kl_6_0 (kl_9_0 ho)))) g13 rfl dX9_change_98 ?_
          refine j_s (fun σ14 eσ14 => ?_)
          replace h := bzLetE h eσ14
          refine j_iload hF 0 dX9_change_99 rfl ?_
          exact j_iret hF hG dX9_change_101 (bzRet h).1 (bzRet h).2
        · replace h := bzIfT h c10
          refine j_aload hF 5 dX9_change_73 rfl ?_
          refine gf_X9_132 hF (kl_0_2 (kl_6_0 (kl_9_0 ho))) dX9_change_75 ?_
          refine j_goto hF (tgt := 86) dX9_change_78 (by decide) ?_
          refine j_astore hF (lv1 := [(6, .ref (ga g (ly (ly (ly (ly o 0) 0) 2) 2))), (5, .int s0), (0, .ref (ga g o)), (1, .int a1), (2, .int a2), (3, .int a3), (4, .ref (ga g (ly (ly (ly o 0) 0) 2)))]) dX9_change_86 (by decide) rfl ?_
          refine j_aload hF 0 dX9_change_88 rfl ?_
          refine j_iload_n hF 3 dX9_change_90 rfl ?_
          obtain ⟨g15, h⟩ := bzGdE h
          refine j_iald hF (c := a1.toNatClampNeg) (kl_7_2 (kl_0_2 (kl_6_0 (kl_9_0 ho)))) (nl_7_2 (kl_0_2 (kl_6_0 (kl_9_0 ho)))) g15 rfl dX9_change_91 ?_
          refine j_topi (fun x16 ex16 => ?_)
          replace h := bzLetE h ex16
          refine j_istore hF (lv1 := [(7, .int x16), (6, .ref (ga g (ly (ly (ly (ly o 0) 0) 2) 2))), (5, .int s0), (0, .ref (ga g o)), (1, .int a1), (2, .int a2), (3, .int a3), (4, .ref (ga g (ly (ly (ly o 0) 0) 2)))]) dX9_change_92 (by decide) rfl ?_
          refine j_aload hF 1 dX9_change_94 rfl ?_
          refine j_iload_n hF 4 dX9_change_96 rfl ?_
          refine j_iload_n hF 6 dX9_change_97 rfl ?_
          obtain ⟨g17, h⟩ := bzGdE h
          refine j_iast hF (c := a1.toNatClampNeg) (kl_7_2 (kl_0_2 (kl_6_0 (kl_9_0 ho)))) (nl_7_2 (kl_0_2 (kl_6_0 (kl_9_0 ho)))) g17 rfl dX9_change_98 ?_
          refine j_s (fun σ18 eσ18 => ?_)
          replace h := bzLetE h eσ18
          refine j_iload hF 0 dX9_change_99 rfl ?_
          exact j_iret hF hG dX9_change_101 (bzRet h).1 (bzRet h).2
      · replace h := bzIfT h c9
        refine j_aload_n hF 1 dX9_change_62 rfl ?_
        refine j_ldc hF (v := (-1000000001)) kc_X9_70 dX9_change_63 ?_
        obtain ⟨x20, σ21, e19, h⟩ := bzBpE h
        refine cs_X9_71 hF ho (fun l => mt_X9_fails l e19) (by decide) (Nat.le_of_ble_eq_true rfl) dX9_change_65 ?_
        exact j_iret hF hG dX9_change_68 (bzRet h).1 (bzRet h).2
  refine j_aload_n hF 0 dX9_change_0 rfl ?_
  refine gf_X9_12 hF ho dX9_change_1 ?_
  refine gf_X9_55 hF (kl_9_0 ho) dX9_change_4 ?_
  refine gf_X9_111 hF (kl_6_0 (kl_9_0 ho)) dX9_change_7 ?_
  refine j_astore hF (lv1 := [(4, .ref (ga g (ly (ly (ly o 0) 0) 2))), (0, .ref (ga g o)), (1, .int a1), (2, .int a2), (3, .int a3)]) dX9_change_10 (by decide) rfl ?_
  refine j_iload_n hF 3 dX9_change_12 rfl ?_
  refine j_if_ne hF (tgt := 26) dX9_change_13 (by decide) (fun c1 => ?_) (fun c1 => ?_)
  · replace h := bzIfF h c1
    refine j_iload_n hF 3 dX9_change_26 rfl ?_
    refine j_iconst hF (v := 1) dX9_change_27 (by decide) ?_
    refine j_icmp_ne hF (tgt := 45) dX9_change_28 (by decide) (fun c2 => ?_) (fun c2 => ?_)
    · replace h := bzIfF h c2
      refine j_iconst hF (v := 0) dX9_change_45 (by decide) ?_
      refine j_sub [1, 2, 3, 4, 0] rfl ?_
      exact J46 0 σ h
    · replace h := bzIfT h c2
      refine j_iload_n hF 4 dX9_change_31 rfl ?_
      refine j_iconst hF (v := 1) dX9_change_32 (by decide) ?_
      refine j_bipush hF (v := 12) dX9_change_33 (by decide) ?_
      obtain ⟨x23, e22, h⟩ := bzBdE h
      refine cs_X9_66 hF (fun l => mt_X9_within l e22) (by decide) (Nat.le_of_ble_eq_true rfl) dX9_change_35 ?_
      refine j_if_eq hF (tgt := 45) dX9_change_38 (by decide) (fun c24 => ?_) (fun c24 => ?_)
      · replace h := bzIfT h c24
        refine j_iconst hF (v := 0) dX9_change_45 (by decide) ?_
        refine j_sub [1, 2, 3, 4, 0] rfl ?_
        exact J46 0 σ h
      · replace h := bzIfF h c24
        refine j_iconst hF (v := 1) dX9_change_41 (by decide) ?_
        refine j_goto hF (tgt := 46) dX9_change_42 (by decide) ?_
        refine j_sub [1, 2, 3, 4, 0] rfl ?_
        exact J46 1 σ h
  · replace h := bzIfT h c1
    refine j_iload_n hF 4 dX9_change_16 rfl ?_
    refine j_iconst hF (v := 0) dX9_change_17 (by decide) ?_
    refine j_bipush hF (v := 9) dX9_change_18 (by decide) ?_
    obtain ⟨x26, e25, h⟩ := bzBdE h
    refine cs_X9_66 hF (fun l => mt_X9_within l e25) (by decide) (Nat.le_of_ble_eq_true rfl) dX9_change_20 ?_
    refine j_if_ne hF (tgt := 41) dX9_change_23 (by decide) (fun c27 => ?_) (fun c27 => ?_)
    · replace h := bzIfF h c27
      refine j_iconst hF (v := 1) dX9_change_41 (by decide) ?_
      refine j_goto hF (tgt := 46) dX9_change_42 (by decide) ?_
      refine j_sub [1, 2, 3, 4, 0] rfl ?_
      exact J46 1 σ h
    · replace h := bzIfT h c27
      refine j_iload_n hF 3 dX9_change_26 rfl ?_
      refine j_iconst hF (v := 1) dX9_change_27 (by decide) ?_
      refine j_icmp_ne hF (tgt := 45) dX9_change_28 (by decide) (fun c28 => ?_) (fun c28 => ?_)
      · replace h := bzIfF h c28
        refine j_iconst hF (v := 0) dX9_change_45 (by decide) ?_
        refine j_sub [1, 2, 3, 4, 0] rfl ?_
        exact J46 0 σ h
      · replace h := bzIfT h c28
        refine j_iload_n hF 4 dX9_change_31 rfl ?_
        refine j_iconst hF (v := 1) dX9_change_32 (by decide) ?_
        refine j_bipush hF (v := 12) dX9_change_33 (by decide) ?_
        obtain ⟨x30, e29, h⟩ := bzBdE h
        refine cs_X9_66 hF (fun l => mt_X9_within l e29) (by decide) (Nat.le_of_ble_eq_true rfl) dX9_change_35 ?_
        refine j_if_eq hF (tgt := 45) dX9_change_38 (by decide) (fun c31 => ?_) (fun c31 => ?_)
        · replace h := bzIfT h c31
          refine j_iconst hF (v := 0) dX9_change_45 (by decide) ?_
          refine j_sub [1, 2, 3, 4, 0] rfl ?_
          exact J46 0 σ h
        · replace h := bzIfF h c31
          refine j_iconst hF (v := 1) dX9_change_41 (by decide) ?_
          refine j_goto hF (tgt := 46) dX9_change_42 (by decide) ?_
          refine j_sub [1, 2, 3, 4, 0] rfl ?_
          exact J46 1 σ h
