set_option linter.unusedVariables false
def f_X9_gait (o : Nat) (a1 : Int32) (σ : bzS) : Option (Int32 × bzS) :=
  bzGd (kd o = 9) (bzBd (f_X9_within a1 0 12) (fun x2 => if x2 = 0 then (bzBp (f_X9_fails o ((-1000000001)) σ) (fun x5 σ6 => some (x5, σ6))) else (bzBp (f_X1_gaits ((ly (ly o 0) 1)) a1 σ) (fun x8 σ9 => some (x8, σ9)))))
set_option maxHeartbeats 4000000 in
set_option maxRecDepth 20000 in
theorem mt_X9_gait {g : bzGeo} {o : Nat} {a1 : Int32} {σ : bzS} {r0 : Int32} {σ0 : bzS} (l : Launch) (h : f_X9_gait  o a1 σ = some (r0, σ0)) : Met l yX9_gait (Cond.code yX9_gait cX9_gait 2 (some .int) :: GW) (bzR (5)) (va_Pc [.ref (ga g o), .int a1] (bzP g σ)) (va_Qi (fun (r : Int32) (u : bzS) => r = r0 ∧ u = σ0) (bzB g) (gA g)) 0 0 (gA g) := by
  unfold f_X9_gait at h
  obtain ⟨ho, h⟩ := bzGdE h
  refine j_start l (by decide +kernel) [.ref (ga g o), .int a1] [(0, .ref (ga g o)), (1, .int a1)] (Nat.le_of_ble_eq_true rfl) rfl (fun x hF hG => ?_)
  refine j_iload_n hF 1 dX9_gait_0 rfl ?_
  refine j_iconst hF (v := 0) dX9_gait_1 (by decide) ?_
  refine j_bipush hF (v := 12) dX9_gait_2 (by decide) ?_
  obtain ⟨x2, e1, h⟩ := bzBdE h
  refine cs_X9_66 hF (fun l => mt_X9_within l e1) (by decide) (Nat.le_of_ble_eq_true rfl) dX9_gait_4 ?_
  refine j_if_eq hF (tgt := 24) dX9_gait_7 (by decide) (fun c3 => ?_) (fun c3 => ?_)
  · replace h := bzIfT h c3
    refine j_aload_n hF 0 dX9_gait_24 rfl ?_
    refine j_ldc hF (v := (-1000000001)) kc_X9_70 dX9_gait_25 ?_
    obtain ⟨x5, σ6, e4, h⟩ := bzBpE h
    refine cs_X9_71 hF ho (fun l => mt_X9_fails l e4) (by decide) (Nat.le_of_ble_eq_true rfl) dX9_gait_27 ?_
    exact j_iret hF hG dX9_gait_30  (bzRet h).1 (bzRet h).2
  · replace h := bzIfF h c3
    refine j_aload_n hF 0 dX9_gait_10 rfl ?_
    refine gf_X9_12 hF ho dX9_gait_11 ?_
    refine gf_X9_95 hF (kl_9_0 ho) dX9_gait_14 ?_
    refine j_iload_n hF 1 dX9_gait_17 rfl ?_
    obtain ⟨x8, σ9, e7, h⟩ := bzBpE h
    refine cs_X9_258 hF (kl_6_1 (kl_9_0 ho)) (fun l => mt_X1_gaits l e7) (by decide) (Nat.le_of_ble_eq_true rfl) dX9_gait_18 ?_
    refine j_goto hF (tgt := 30) dX9_gait_21 (by decide) ?_
    exact j_iret hF hG dX9_gait_30  (bzRet h).1 (bzRet h).2
def fb_X9_inLowestTerms_2 (K2 : Int32 → Option Int32) (a0 : Int32) (a1 : Int32) (a2 : Int32) (v3 : Int32) : Option Int32 :=
  if v3 ≤ 1 then (if a2 = 0 then (some a0) else (some a1)) else (bzGd (¬ v3 = 0) (if (a0 - a0 / v3 * v3) = 0 then (bzGd (¬ v3 = 0) (if (a1 - a1 / v3 * v3) = 0 then (if a2 = 0 then (bzGd (¬ v3 = 0) (some ((a0 / v3)))) else (bzGd (¬ v3 = 0) (some ((a1 / v3))))) else (bzLet (v3 + (-1)) (fun x8 => K2 x8)))) else (bzLet (v3 + (-1)) (fun x5 => K2 x5))))
def fl_X9_inLowestTerms_2 (a0 : Int32) (a1 : Int32) (a2 : Int32) : Nat → Int32 → Option Int32
  | 0, _ => none
  | n + 1, v3 => fb_X9_inLowestTerms_2   (fl_X9_inLowestTerms_2   a0 a1 a2 n) a0 a1 a2 v3
def f_X9_inLowestTerms (a0 : Int32) (a1 : Int32) (a2 : Int32) : Option Int32 :=
  fl_X9_inLowestTerms_2 a0 a1 a2 2000 a1
set_option maxHeartbeats 4000000 in
set_option maxRecDepth 20000 in
theorem mt_X9_inLowestTerms {g : bzGeo} {a0 : Int32} {a1 : Int32} {a2 : Int32} {σ : bzS} {r0 : Int32} (l : Launch) (h : f_X9_inLowestTerms  a0 a1 a2 = some r0) : Met l yX9_inLowestTerms (Cond.code yX9_inLowestTerms cX9_inLowestTerms 4 (some .int) :: GW) (bzR (1)) (va_Pc [.int a0, .int a1, .int a2] (bzP g σ)) (va_Qi (fun (r : Int32) (u : bzS) => r = r0 ∧ u = σ) (bzB g) (gA g)) 0 0 (gA g) := by
  unfold f_X9_inLowestTerms at h
  refine j_start l (by decide +kernel) [.int a0, .int a1, .int a2] [(0, .int a0), (1, .int a1), (2, .int a2)] (Nat.le_of_ble_eq_true rfl) rfl (fun x hF hG => ?_)
  have J2 : (K2 : Int32 → Option Int32) → (hK2 : ∀ (v3 : Int32), K2 v3 = some r0 → bzJ g 4 x σ 2 [(0, .int a0), (1, .int a1), (2, .int a2), (3, .int v3)] []) → ∀ (v3 : Int32), fb_X9_inLowestTerms_2 K2 a0 a1 a2 v3 = some r0 → bzJ g 4 x σ 2 [(0, .int a0), (1, .int a1), (2, .int a2), (3, .int v3)] [] := by
    intro K2 hK2 v3 h
    unfold fb_X9_inLowestTerms_2 at h
    refine j_iload_n hF 3 dX9_inLowestTerms_2 rfl ?_
    refine j_iconst hF (v := 1) dX9_inLowestTerms_3 (by decide) ?_
    refine j_icmp_le hF (tgt := 39) dX9_inLowestTerms_4 (by decide) (fun c1 => ?_) (fun c1 => ?_)
    · replace h := bzIfT h c1
      refine j_iload_n hF 2 dX9_inLowestTerms_39 rfl ?_
      refine j_if_ne hF (tgt := 47) dX9_inLowestTerms_40 (by decide) (fun c2 => ?_) (fun c2 => ?_)
      · replace h := bzIfF h c2
        refine j_iload_n hF 1 dX9_inLowestTerms_47 rfl ?_
        exact j_iret hF hG dX9_inLowestTerms_48 (Option.some.inj h) rfl
      · replace h := bzIfT h c2
        refine j_iload_n hF 0 dX9_inLowestTerms_43 rfl ?_
        refine j_goto hF (tgt := 48) dX9_inLowestTerms_44 (by decide) ?_
        exact j_iret hF hG dX9_inLowestTerms_48 (Option.some.inj h) rfl
    · replace h := bzIfF h c1
      refine j_iload_n hF 0 dX9_inLowestTerms_7 rfl ?_
      refine j_iload_n hF 3 dX9_inLowestTerms_8 rfl ?_
      obtain ⟨g3, h⟩ := bzGdE h
      refine j_irem hF dX9_inLowestTerms_9 g3 ?_
      refine j_if_ne hF (tgt := 33) dX9_inLowestTerms_10 (by decide) (fun c4 => ?_) (fun c4 => ?_)
      · replace h := bzIfF h c4
        obtain ⟨x5, ex5⟩ : ∃ y : Int32, y = v3 + (-1) := ⟨_, rfl⟩
        replace h := bzLetE h ex5
        refine j_iinc hF (v := x5) (lv1 := [(3, .int x5), (0, .int a0), (1, .int a1), (2, .int a2)]) 3 dX9_inLowestTerms_33 rfl (by rw [ex5]; rfl) (by decide) rfl ?_
        refine j_goto hF (tgt := 2) dX9_inLowestTerms_36 (by decide) ?_
        refine j_sub [1, 2, 3, 0] rfl ?_
        exact hK2 x5 h
      · replace h := bzIfT h c4
        refine j_iload_n hF 1 dX9_inLowestTerms_13 rfl ?_
        refine j_iload_n hF 3 dX9_inLowestTerms_14 rfl ?_
        obtain ⟨g6, h⟩ := bzGdE h
        refine j_irem hF dX9_inLowestTerms_15 g6 ?_
        refine j_if_ne hF (tgt := 33) dX9_inLowestTerms_16 (by decide) (fun c7 => ?_) (fun c7 => ?_)
        · replace h := bzIfF h c7
          obtain ⟨x8, ex8⟩ : ∃ y : Int32, y = v3 + (-1) := ⟨_, rfl⟩
          replace h := bzLetE h ex8
          refine j_iinc hF (v := x8) (lv1 := [(3, .int x8), (0, .int a0), (1, .int a1), (2, .int a2)]) 3 dX9_inLowestTerms_33 rfl (by rw [ex8]; rfl) (by decide) rfl ?_
          refine j_goto hF (tgt := 2) dX9_inLowestTerms_36 (by decide) ?_
          refine j_sub [1, 2, 3, 0] rfl ?_
          exact hK2 x8 h
        · replace h := bzIfT h c7
          refine j_iload_n hF 2 dX9_inLowestTerms_19 rfl ?_
          refine j_if_ne hF (tgt := 29) dX9_inLowestTerms_20 (by decide) (fun c9 => ?_) (fun c9 => ?_)
          · replace h := bzIfF h c9
            refine j_iload_n hF 1 dX9_inLowestTerms_29 rfl ?_
            refine j_iload_n hF 3 dX9_inLowestTerms_30 rfl ?_
            obtain ⟨g10, h⟩ := bzGdE h
            refine j_idiv hF dX9_inLowestTerms_31 g10 ?_
            exact j_iret hF hG dX9_inLowestTerms_32 (Option.some.inj h) rfl
          · replace h := bzIfT h c9
            refine j_iload_n hF 0 dX9_inLowestTerms_23 rfl ?_
            refine j_iload_n hF 3 dX9_inLowestTerms_24 rfl ?_
            obtain ⟨g11, h⟩ := bzGdE h
            refine j_idiv hF dX9_inLowestTerms_25 g11 ?_
            refine j_goto hF (tgt := 32) dX9_inLowestTerms_26 (by decide) ?_
            exact j_iret hF hG dX9_inLowestTerms_32 (Option.some.inj h) rfl
  have L2 : ∀ (n : Nat) (v3 : Int32) , fl_X9_inLowestTerms_2   a0 a1 a2 n v3 = some r0 → bzJ g 4 x σ 2 [(0, .int a0), (1, .int a1), (2, .int a2), (3, .int v3)] [] := by
    intro  n
    induction n with
    | zero =>
      intro v3   h
      cases h
    | succ n ih =>
      intro v3   h
      exact J2  (fl_X9_inLowestTerms_2   a0 a1 a2 n) ih v3   h
  refine j_iload_n hF 1 dX9_inLowestTerms_0 rfl ?_
  refine j_istore_n hF (lv1 := [(3, .int a1), (0, .int a0), (1, .int a1), (2, .int a2)]) dX9_inLowestTerms_1 (by decide) rfl ?_
  refine j_sub [1, 2, 3, 0] rfl ?_
  exact L2 2000 a1 h
def fb_X9_odds_42 (K42 : Int32 → Int32 → bzS → Option (Int32 × bzS)) (o : Nat) (a1 : Int32) (a2 : Int32) (a3 : Int32) (v4 : Int32) (v5 : Int32) (σ1 : bzS) : Option (Int32 × bzS) :=
  if 10 ≤ v5 then (bzBd (f_X9_inLowestTerms v4 10 a3) (fun x18 => some (x18, σ1))) else (bzBd (f_X9_thinkAfresh o σ1) (fun σ20 => bzLet (bzSt σ20 (ly o 3) 5 (10 * v5)) (fun σ21 => bzBp (f_X0_pass ((ly o 3)) a1 σ21) (fun x23 σ24 => if a2 < x23 then (bzLet (v5 + 1) (fun x26 => K42 v4 x26 σ24)) else (bzLet (v4 + 1) (fun x27 => bzLet (v5 + 1) (fun x28 => K42 x27 x28 σ24)))))))
def fl_X9_odds_42 (o : Nat) (a1 : Int32) (a2 : Int32) (a3 : Int32) : Nat → Int32 → Int32 → bzS → Option (Int32 × bzS)
  | 0, _, _, _ => none
  | n + 1, v4, v5, σ1 => fb_X9_odds_42   (fl_X9_odds_42   o a1 a2 a3 n) o a1 a2 a3 v4 v5 σ1
def f_X9_odds (o : Nat) (a1 : Int32) (a2 : Int32) (a3 : Int32) (σ : bzS) : Option (Int32 × bzS) :=
  bzGd (kd o = 9) (bzBd (f_X9_within a1 0 30) (fun x2 => if x2 = 0 then (bzBp (f_X9_fails o ((-1000000001)) σ) (fun x5 σ6 => some (x5, σ6))) else (bzBd (f_X9_within a2 0 99) (fun x8 => if x8 = 0 then (bzBp (f_X9_fails o ((-1000000001)) σ) (fun x11 σ12 => some (x11, σ12))) else (bzBd (f_X9_within a3 0 1) (fun x14 => if x14 = 0 then (bzBp (f_X9_fails o ((-1000000001)) σ) (fun x30 σ31 => some (x30, σ31))) else (fl_X9_odds_42 o a1 a2 a3 2000 0 0 σ)))))))
set_option maxHeartbeats 4000000 in
set_option maxRecDepth 20000 in
theorem mt_X9_odds {g : bzGeo} {o : Nat} {a1 : Int32} {a2 : Int32} {a3 : Int32} {σ : bzS} {r0 : Int32} {σ0 : bzS} (l : Launch) (h : f_X9_odds  o a1 a2 a3 σ = some (r0, σ0)) : Met l yX9_odds (Cond.code yX9_odds cX9_odds 6 (some .int) :: GW) (bzR (7)) (va_Pc [.ref (ga g o), .int a1, .int a2, .int a3] (bzP g σ)) (va_Qi (fun (r : Int32) (u : bzS) => r = r0 ∧ u = σ0) (bzB g) (gA g)) 0 0 (gA g) := by
  unfold f_X9_odds at h
  obtain ⟨ho, h⟩ := bzGdE h
  refine j_start l (by decide +kernel) [.ref (ga g o), .int a1, .int a2, .int a3] [(0, .ref (ga g o)), (1, .int a1), (2, .int a2), (3, .int a3)] (Nat.le_of_ble_eq_true rfl) rfl (fun x hF hG => ?_)
  have J42 : (K42 : Int32 → Int32 → bzS → Option (Int32 × bzS)) → (hK42 : ∀ (v4 : Int32) (v5 : Int32) (σ1 : bzS), K42 v4 v5 σ1 = some (r0, σ0) → bzJ g 6 x σ1 42 [(0, .ref (ga g o)), (1, .int a1), (2, .int a2), (3, .int a3), (4, .int v4), (5, .int v5)] []) → ∀ (v4 : Int32) (v5 : Int32) (σ1 : bzS), fb_X9_odds_42 K42 o a1 a2 a3 v4 v5 σ1 = some (r0, σ0) → bzJ g 6 x σ1 42 [(0, .ref (ga g o)), (1, .int a1), (2, .int a2), (3, .int a3), (4, .int v4), (5, .int v5)] [] := by
    intro K42 hK42 v4 v5 σ1 h
    unfold fb_X9_odds_42 at h
    refine j_iload hF 5 dX9_odds_42 rfl ?_
    refine j_bipush hF (v := 10) dX9_odds_44 (by decide) ?_
    refine j_icmp_ge hF (tgt := 86) dX9_odds_46 (by decide) (fun c16 => ?_) (fun c16 => ?_)
    · replace h := bzIfT h c16
      refine j_iload hF 4 dX9_odds_86 rfl ?_
      refine j_bipush hF (v := 10) dX9_odds_88 (by decide) ?_
      refine j_iload_n hF 3 dX9_odds_90 rfl ?_
      obtain ⟨x18, e17, h⟩ := bzBdE h
      refine cs_X9_261 hF (fun l => mt_X9_inLowestTerms l e17) (by decide) (Nat.le_of_ble_eq_true rfl) dX9_odds_91 ?_
      exact j_iret hF hG dX9_odds_94 (bzRet h).1 (bzRet h).2
    · replace h := bzIfF h c16
      refine j_aload_n hF 0 dX9_odds_49 rfl ?_
      obtain ⟨σ20, e19, h⟩ := bzBdE h
      refine cs_X9_208 hF ho (fun l => mt_X9_thinkAfresh l e19) (by decide) (Nat.le_of_ble_eq_true rfl) dX9_odds_50 ?_
      refine j_aload_n hF 0 dX9_odds_53 rfl ?_
      refine gf_X9_26 hF ho dX9_odds_54 ?_
      refine j_bipush hF (v := 10) dX9_odds_57 (by decide) ?_
      refine j_iload hF 5 dX9_odds_59 rfl ?_
      refine j_imul hF dX9_odds_61 ?_
      refine pf_X9_147 hF (kl_9_3 ho) dX9_odds_62 ?_
      refine j_s (fun σ21 eσ21 => ?_)
      replace h := bzLetE h eσ21
      refine j_aload_n hF 0 dX9_odds_65 rfl ?_
      refine gf_X9_26 hF ho dX9_odds_66 ?_
      refine j_iload_n hF 1 dX9_odds_69 rfl ?_
      obtain ⟨x23, σ24, e22, h⟩ := bzBpE h
      refine cs_X9_199 hF (kl_9_3 ho) (fun l => mt_X0_pass l e22) (by decide) (Nat.le_of_ble_eq_true rfl) dX9_odds_70 ?_
      refine j_iload_n hF 2 dX9_odds_73 rfl ?_
      refine j_icmp_gt hF (tgt := 80) dX9_odds_74 (by decide) (fun c25 => ?_) (fun c25 => ?_)
      · replace h := bzIfT h c25
        obtain ⟨x26, ex26⟩ : ∃ y : Int32, y = v5 + 1 := ⟨_, rfl⟩
        replace h := bzLetE h ex26
        refine j_iinc hF (v := x26) (lv1 := [(5, .int x26), (0, .ref (ga g o)), (1, .int a1), (2, .int a2), (3, .int a3), (4, .int v4)]) 5 dX9_odds_80 rfl (by rw [ex26]; rfl) (by decide) rfl ?_
        refine j_goto hF (tgt := 42) dX9_odds_83 (by decide) ?_
        refine j_sub [1, 2, 3, 4, 5, 0] rfl ?_
        exact hK42 v4 x26 σ24 h
      · replace h := bzIfF h c25
        obtain ⟨x27, ex27⟩ : ∃ y : Int32, y = v4 + 1 := ⟨_, rfl⟩
        replace h := bzLetE h ex27
        refine j_iinc hF (v := x27) (lv1 := [(4, .int x27), (0, .ref (ga g o)), (1, .int a1), (2, .int a2), (3, .int a3), (5, .int v5)]) 4 dX9_odds_77 rfl (by rw [ex27]; rfl) (by decide) rfl ?_
        obtain ⟨x28, ex28⟩ : ∃ y : Int32, y = v5 + 1 := ⟨_, rfl⟩
        replace h := bzLetE h ex28
        refine j_iinc hF (v := x28) (lv1 := [(5, .int x28), (4, .int x27), (0, .ref (ga g o)), (1, .int a1), (2, .int a2), (3, .int a3)]) 5 dX9_odds_80 rfl (by rw [ex28]; rfl) (by decide) rfl ?_
        refine j_goto hF (tgt := 42) dX9_odds_83 (by decide) ?_
        refine j_sub [2, 3, 4, 5, 1, 0] rfl ?_
        exact hK42 x27 x28 σ24 h
  have L42 : ∀ (n : Nat) (v4 : Int32) (v5 : Int32) (σ1 : bzS), fl_X9_odds_42   o a1 a2 a3 n v4 v5 σ1 = some (r0, σ0) → bzJ g 6 x σ1 42 [(0, .ref (ga g o)), (1, .int a1), (2, .int a2), (3, .int a3), (4, .int v4), (5, .int v5)] [] := by
    intro  n
    induction n with
    | zero =>
      intro v4 v5 σ1  h
      cases h
    | succ n ih =>
      intro v4 v5 σ1  h
      exact J42  (fl_X9_odds_42   o a1 a2 a3 n) ih v4 v5 σ1  h
  refine j_iload_n hF 1 dX9_odds_0 rfl ?_
  refine j_iconst hF (v := 0) dX9_odds_1 (by decide) ?_
  refine j_bipush hF (v := 30) dX9_odds_2 (by decide) ?_
  obtain ⟨x2, e1, h⟩ := bzBdE h
  refine cs_X9_66 hF (fun l => mt_X9_within l e1) (by decide) (Nat.le_of_ble_eq_true rfl) dX9_odds_4 ?_
  refine j_if_eq hF (tgt := 29) dX9_odds_7 (by decide) (fun c3 => ?_) (fun c3 => ?_)
  · replace h := bzIfT h c3
    refine j_aload_n hF 0 dX9_odds_29 rfl ?_
    refine j_ldc hF (v := (-1000000001)) kc_X9_70 dX9_odds_30 ?_
    obtain ⟨x5, σ6, e4, h⟩ := bzBpE h
    refine cs_X9_71 hF ho (fun l => mt_X9_fails l e4) (by decide) (Nat.le_of_ble_eq_true rfl) dX9_odds_32 ?_
    exact j_iret hF hG dX9_odds_35  (bzRet h).1 (bzRet h).2
  · replace h := bzIfF h c3
    refine j_iload_n hF 2 dX9_odds_10 rfl ?_
    refine j_iconst hF (v := 0) dX9_odds_11 (by decide) ?_
    refine j_bipush hF (v := 99) dX9_odds_12 (by decide) ?_
    obtain ⟨x8, e7, h⟩ := bzBdE h
    refine cs_X9_66 hF (fun l => mt_X9_within l e7) (by decide) (Nat.le_of_ble_eq_true rfl) dX9_odds_14 ?_
    refine j_if_eq hF (tgt := 29) dX9_odds_17 (by decide) (fun c9 => ?_) (fun c9 => ?_)
    · replace h := bzIfT h c9
      refine j_aload_n hF 0 dX9_odds_29 rfl ?_
      refine j_ldc hF (v := (-1000000001)) kc_X9_70 dX9_odds_30 ?_
      obtain ⟨x11, σ12, e10, h⟩ := bzBpE h
      refine cs_X9_71 hF ho (fun l => mt_X9_fails l e10) (by decide) (Nat.le_of_ble_eq_true rfl) dX9_odds_32 ?_
      exact j_iret hF hG dX9_odds_35  (bzRet h).1 (bzRet h).2
    · replace h := bzIfF h c9
      refine j_iload_n hF 3 dX9_odds_20 rfl ?_
      refine j_iconst hF (v := 0) dX9_odds_21 (by decide) ?_
      refine j_iconst hF (v := 1) dX9_odds_22 (by decide) ?_
      obtain ⟨x14, e13, h⟩ := bzBdE h
      refine cs_X9_66 hF (fun l => mt_X9_within l e13) (by decide) (Nat.le_of_ble_eq_true rfl) dX9_odds_23 ?_
      refine j_if_ne hF (tgt := 36) dX9_odds_26 (by decide) (fun c15 => ?_) (fun c15 => ?_)
      · replace h := bzIfF h c15
        refine j_iconst hF (v := 0) dX9_odds_36 (by decide) ?_
        refine j_istore hF (lv1 := [(4, .int 0), (0, .ref (ga g o)), (1, .int a1), (2, .int a2), (3, .int a3)]) dX9_odds_37 (by decide) rfl ?_
        refine j_iconst hF (v := 0) dX9_odds_39 (by decide) ?_
        refine j_istore hF (lv1 := [(5, .int 0), (4, .int 0), (0, .ref (ga g o)), (1, .int a1), (2, .int a2), (3, .int a3)]) dX9_odds_40 (by decide) rfl ?_
        refine j_sub [2, 3, 4, 5, 1, 0] rfl ?_
        exact L42 2000 0 0 σ h
      · replace h := bzIfT h c15
        refine j_aload_n hF 0 dX9_odds_29 rfl ?_
        refine j_ldc hF (v := (-1000000001)) kc_X9_70 dX9_odds_30 ?_
        obtain ⟨x30, σ31, e29, h⟩ := bzBpE h
        refine cs_X9_71 hF ho (fun l => mt_X9_fails l e29) (by decide) (Nat.le_of_ble_eq_true rfl) dX9_odds_32 ?_
        exact j_iret hF hG dX9_odds_35  (bzRet h).1 (bzRet h).2
def f_X9_seed (o : Nat) (a1 : Int32) (σ : bzS) : Option (Int32 × bzS) :=
  bzGd (kd o = 9) (bzLet ((σ (ly o 0) 4)) (fun x1 => bzLet (bzSt σ (ly o 0) 4 a1) (fun σ2 => some (x1, σ2))))
set_option maxHeartbeats 4000000 in
set_option maxRecDepth 20000 in
theorem mt_X9_seed {g : bzGeo} {o : Nat} {a1 : Int32} {σ : bzS} {r0 : Int32} {σ0 : bzS} (l : Launch) (h : f_X9_seed  o a1 σ = some (r0, σ0)) : Met l yX9_seed (Cond.code yX9_seed cX9_seed 3 (some .int) :: GW) (bzR (1)) (va_Pc [.ref (ga g o), .int a1] (bzP g σ)) (va_Qi (fun (r : Int32) (u : bzS) => r = r0 ∧ u = σ0) (bzB g) (gA g)) 0 0 (gA g) := by
  unfold f_X9_seed at h
  obtain ⟨ho, h⟩ := bzGdE h
  refine j_start l (by decide +kernel) [.ref (ga g o), .int a1] [(0, .ref (ga g o)), (1, .int a1)] (Nat.le_of_ble_eq_true rfl) rfl (fun x hF hG => ?_)
  refine j_aload_n hF 0 dX9_seed_0 rfl ?_
  refine gf_X9_12 hF ho dX9_seed_1 ?_
  refine gf_X9_264 hF (kl_9_0 ho) dX9_seed_4 ?_
  refine j_topi (fun x1 ex1 => ?_)
  replace h := bzLetE h ex1
  refine j_istore_n hF (lv1 := [(2, .int x1), (0, .ref (ga g o)), (1, .int a1)]) dX9_seed_7 (by decide) rfl ?_
  refine j_aload_n hF 1 dX9_seed_8 rfl ?_
  refine gf_X9_12 hF ho dX9_seed_9 ?_
  refine j_iload_n hF 2 dX9_seed_12 rfl ?_
  refine pf_X9_264 hF (kl_9_0 ho) dX9_seed_13 ?_
  refine j_s (fun σ2 eσ2 => ?_)
  replace h := bzLetE h eσ2
  refine j_iload_n hF 0 dX9_seed_16 rfl ?_
  exact j_iret hF hG dX9_seed_17  (bzRet h).1 (bzRet h).2
def f_X8_bodyOf (a0 : Int32) (a1 : Int32) (σ : bzS) : Option Int32 :=
  bzLet (((a1 * 4) + a0)) (fun x1 => bzBd (f_X9_isPlace x1 111) (fun x3 => if x3 = 0 then (some 0) else (bzGd (bzIn x1 28) (some ((tb 111 x1.toNatClampNeg))))))
set_option maxHeartbeats 4000000 in
set_option maxRecDepth 20000 in
theorem mt_X8_bodyOf {g : bzGeo} {a0 : Int32} {a1 : Int32} {σ : bzS} {r0 : Int32} (l : Launch) (h : f_X8_bodyOf  a0 a1 σ = some r0) : Met l yX8_bodyOf (Cond.code yX8_bodyOf cX8_bodyOf 3 (some .int) :: GW) (bzR (2)) (va_Pc [.int a0, .int a1] (bzP g σ)) (va_Qi (fun (r : Int32) (u : bzS) => r = r0 ∧ u = σ) (bzB g) (gA g)) 0 0 (gA g) := by
  unfold f_X8_bodyOf at h
  refine j_start l (by decide +kernel) [.int a0, .int a1] [(0, .int a0), (1, .int a1)] (Nat.le_of_ble_eq_true rfl) rfl (fun x hF hG => ?_)
  refine j_iload_n hF 1 dX8_bodyOf_0 rfl ?_
  refine j_iconst hF (v := 4) dX8_bodyOf_1 (by decide) ?_
  refine j_imul hF dX8_bodyOf_2 ?_
  refine j_iload_n hF 0 dX8_bodyOf_3 rfl ?_
  refine j_iadd hF dX8_bodyOf_4 ?_
  refine j_topi (fun x1 ex1 => ?_)
  replace h := bzLetE h ex1
  refine j_istore_n hF (lv1 := [(2, .int x1), (0, .int a0), (1, .int a1)]) dX8_bodyOf_5 (by decide) rfl ?_
  refine j_iload_n hF 0 dX8_bodyOf_6 rfl ?_
  refine gs_X8_59 hF dX8_bodyOf_7 ?_
  obtain ⟨x3, e2, h⟩ := bzBdE h
  refine cs_X8_63 hF (fun l => mt_X9_isPlace l e2) (by decide) (Nat.le_of_ble_eq_true rfl) dX8_bodyOf_10 ?_
  refine j_if_eq hF (tgt := 24) dX8_bodyOf_13 (by decide) (fun c4 => ?_) (fun c4 => ?_)
  · replace h := bzIfT h c4
    refine j_iconst hF (v := 0) dX8_bodyOf_24 (by decide) ?_
    exact j_iret hF hG dX8_bodyOf_25  (Option.some.inj h) rfl
  · replace h := bzIfF h c4
    refine gs_X8_59 hF dX8_bodyOf_16 ?_
    refine j_iload_n hF 0 dX8_bodyOf_19 rfl ?_
    obtain ⟨g5, h⟩ := bzGdE h
    refine j_tald hF (c := x1.toNatClampNeg) (by decide) rfl g5 rfl dX8_bodyOf_20 ?_
    refine j_goto hF (tgt := 25) dX8_bodyOf_21 (by decide) ?_
    exact j_iret hF hG dX8_bodyOf_25  (Option.some.inj h) rfl
def fb_X8_ownerOf_4 (K4 : Int32 → Int32 → Option Int32) (a0 : Int32) (a1 : Int32) (σ : bzS) (v2 : Int32) (v3 : Int32) : Option Int32 :=
  if 7 ≤ v3 then (some ((-1))) else (if v2 < 0 then (some ((-1))) else (bzBd (f_X8_bodyOf a0 v2 σ) (fun x4 => if x4 = 0 then (bzBd (f_X7_kindAbove v2 σ) (fun x7 => bzLet (v3 + 1) (fun x8 => K4 x7 x8))) else (some v2))))
def fl_X8_ownerOf_4 (a0 : Int32) (a1 : Int32) (σ : bzS) : Nat → Int32 → Int32 → Option Int32
  | 0, _, _ => none
  | n + 1, v2, v3 => fb_X8_ownerOf_4   (fl_X8_ownerOf_4   a0 a1 σ n) a0 a1 σ v2 v3
def f_X8_ownerOf (a0 : Int32) (a1 : Int32) (σ : bzS) : Option Int32 :=
  fl_X8_ownerOf_4 a0 a1 σ 2000 a1 0
set_option maxHeartbeats 4000000 in
set_option maxRecDepth 20000 in
theorem mt_X8_ownerOf {g : bzGeo} {a0 : Int32} {a1 : Int32} {σ : bzS} {r0 : Int32} (l : Launch) (h : f_X8_ownerOf  a0 a1 σ = some r0) : Met l yX8_ownerOf (Cond.code yX8_ownerOf cX8_ownerOf 4 (some .int) :: GW) (bzR (3)) (va_Pc [.int a0, .int a1] (bzP g σ)) (va_Qi (fun (r : Int32) (u : bzS) => r = r0 ∧ u = σ) (bzB g) (gA g)) 0 0 (gA g) := by
  unfold f_X8_ownerOf at h
  refine j_start l (by decide +kernel) [.int a0, .int a1] [(0, .int a0), (1, .int a1)] (Nat.le_of_ble_eq_true rfl) rfl (fun x hF hG => ?_)
  have J4 : (K4 : Int32 → Int32 → Option Int32) → (hK4 : ∀ (v2 : Int32) (v3 : Int32), K4 v2 v3 = some r0 → bzJ g 4 x σ 4 [(0, .int a0), (1, .int a1), (2, .int v2), (3, .int v3)] []) → ∀ (v2 : Int32) (v3 : Int32), fb_X8_ownerOf_4 K4 a0 a1 σ v2 v3 = some r0 → bzJ g 4 x σ 4 [(0, .int a0), (1, .int a1), (2, .int v2), (3, .int v3)] [] := by
    intro K4 hK4 v2 v3 h
    unfold fb_X8_ownerOf_4 at h
    refine j_iload_n hF 3 dX8_ownerOf_4 rfl ?_
    refine j_bipush hF (v := 7) dX8_ownerOf_5 (by decide) ?_
    refine j_icmp_ge hF (tgt := 35) dX8_ownerOf_7 (by decide) (fun c1 => ?_) (fun c1 => ?_)
    · replace h := bzIfT h c1
      refine j_iconst hF (v := (-1)) dX8_ownerOf_35 (by decide) ?_
      exact j_iret hF hG dX8_ownerOf_36 (Option.some.inj h) rfl
    · replace h := bzIfF h c1
      refine j_iload_n hF 2 dX8_ownerOf_10 rfl ?_
      refine j_if_lt hF (tgt := 35) dX8_ownerOf_11 (by decide) (fun c2 => ?_) (fun c2 => ?_)
      · replace h := bzIfT h c2
        refine j_iconst hF (v := (-1)) dX8_ownerOf_35 (by decide) ?_
        exact j_iret hF hG dX8_ownerOf_36 (Option.some.inj h) rfl
      · replace h := bzIfF h c2
        refine j_iload_n hF 0 dX8_ownerOf_14 rfl ?_
        refine j_iload_n hF 2 dX8_ownerOf_15 rfl ?_
        obtain ⟨x4, e3, h⟩ := bzBdE h
        refine cs_X8_39 hF (fun l => mt_X8_bodyOf l e3) (by decide) (Nat.le_of_ble_eq_true rfl) dX8_ownerOf_16 ?_
        refine j_if_eq hF (tgt := 24) dX8_ownerOf_19 (by decide) (fun c5 => ?_) (fun c5 => ?_)
        · replace h := bzIfT h c5
          refine j_iload_n hF 2 dX8_ownerOf_24 rfl ?_
          obtain ⟨x7, e6, h⟩ := bzBdE h
          refine cs_X8_46 hF (fun l => mt_X7_kindAbove l e6) (by decide) (Nat.le_of_ble_eq_true rfl) dX8_ownerOf_25 ?_
          refine j_istore_n hF (lv1 := [(2, .int x7), (0, .int a0), (1, .int a1), (3, .int v3)]) dX8_ownerOf_28 (by decide) rfl ?_
          obtain ⟨x8, ex8⟩ : ∃ y : Int32, y = v3 + 1 := ⟨_, rfl⟩
          replace h := bzLetE h ex8
          refine j_iinc hF (v := x8) (lv1 := [(3, .int x8), (2, .int x7), (0, .int a0), (1, .int a1)]) 3 dX8_ownerOf_29 rfl (by rw [ex8]; rfl) (by decide) rfl ?_
          refine j_goto hF (tgt := 4) dX8_ownerOf_32 (by decide) ?_
          refine j_sub [2, 3, 1, 0] rfl ?_
          exact hK4 x7 x8 h
        · replace h := bzIfF h c5
          refine j_iload_n hF 2 dX8_ownerOf_22 rfl ?_
          exact j_iret hF hG dX8_ownerOf_23 (Option.some.inj h) rfl
  have L4 : ∀ (n : Nat) (v2 : Int32) (v3 : Int32) , fl_X8_ownerOf_4   a0 a1 σ n v2 v3 = some r0 → bzJ g 4 x σ 4 [(0, .int a0), (1, .int a1), (2, .int v2), (3, .int v3)] [] := by
    intro  n
    induction n with
    | zero =>
      intro v2 v3   h
      cases h
    | succ n ih =>
      intro v2 v3   h
      exact J4  (fl_X8_ownerOf_4   a0 a1 σ n) ih v2 v3   h
  refine j_iload_n hF 1 dX8_ownerOf_0 rfl ?_
  refine j_istore_n hF (lv1 := [(2, .int a1), (0, .int a0), (1, .int a1)]) dX8_ownerOf_1 (by decide) rfl ?_
  refine j_iconst hF (v := 0) dX8_ownerOf_2 (by decide) ?_
  refine j_istore_n hF (lv1 := [(3, .int 0), (2, .int a1), (0, .int a0), (1, .int a1)]) dX8_ownerOf_3 (by decide) rfl ?_
  refine j_sub [2, 3, 1, 0] rfl ?_
  exact L4 2000 a1 0 h
def fm_X8_say (qX8_say : Nat → Int32 → Int32 → Int32 → Int32 → bzS → Option (Int32 × bzS)) (qX8_sayPlain : Nat → Int32 → Int32 → Int32 → bzS → Option (Int32 × bzS)) (qX8_saySpecial : Nat → Int32 → Int32 → Int32 → Int32 → bzS → Option (Int32 × bzS)) (o : Nat) (a1 : Int32) (a2 : Int32) (a3 : Int32) (a4 : Int32) (σ : bzS) : Option (Int32 × bzS) :=
  bzGd (kd o = 8) (bzBd (f_X8_ownerOf a1 a2 σ) (fun x2 => if x2 < 0 then (some (0, σ)) else (if a4 ≤ 40 then (bzBd (f_X8_bodyOf a1 x2 σ) (fun x6 => bzBp (f_X4_add ((ly o 0)) x6 σ) (fun x8 σ9 => bzBd (f_X7_kindAbove x2 σ9) (fun x11 => if 20 ≤ x6 then (bzBp (qX8_saySpecial o x6 x11 a3 ((a4 + 1)) σ9) (fun x14 σ15 => some (x14, σ15))) else (bzBp (qX8_sayPlain o x6 a3 ((a4 + 1)) σ9) (fun x17 σ18 => some (x17, σ18))))))) else (some (0, σ)))))
set_option maxHeartbeats 4000000 in
set_option maxRecDepth 20000 in
theorem mm_X8_say {d : Nat} (hd : 4 ≤ d) {qX8_say : Nat → Int32 → Int32 → Int32 → Int32 → bzS → Option (Int32 × bzS)} (hqX8_say : ∀ {g : bzGeo} {o : Nat} {a1 : Int32} {a2 : Int32} {a3 : Int32} {a4 : Int32} {σ : bzS} {r0 : Int32} {σ0 : bzS} , qX8_say o a1 a2 a3 a4 σ = some (r0, σ0) → ∀ l : Launch, Met l yX8_say (Cond.code yX8_say cX8_say 8 (some .int) :: GW) (bzR (d)) (va_Pc [.ref (ga g o), .int a1, .int a2, .int a3, .int a4] (bzP g σ)) (va_Qi (fun (r : Int32) (u : bzS) => r = r0 ∧ u = σ0) (bzB g) (gA g)) 0 0 (gA g)) {qX8_sayPlain : Nat → Int32 → Int32 → Int32 → bzS → Option (Int32 × bzS)} (hqX8_sayPlain : ∀ {g : bzGeo} {o : Nat} {a1 : Int32} {a2 : Int32} {a3 : Int32} {σ : bzS} {r0 : Int32} {σ0 : bzS} , qX8_sayPlain o a1 a2 a3 σ = some (r0, σ0) → ∀ l : Launch, Met l yX8_sayPlain (Cond.code yX8_sayPlain cX8_sayPlain 4 (some .int) :: GW) (bzR (d)) (va_Pc [.ref (ga g o), .int a1, .int a2, .int a3] (bzP g σ)) (va_Qi (fun (r : Int32) (u : bzS) => r = r0 ∧ u = σ0) (bzB g) (gA g)) 0 0 (gA g)) {qX8_saySpecial : Nat → Int32 → Int32 → Int32 → Int32 → bzS → Option (Int32 × bzS)} (hqX8_saySpecial : ∀ {g : bzGeo} {o : Nat} {a1 : Int32} {a2 : Int32} {a3 : Int32} {a4 : Int32} {σ : bzS} {r0 : Int32} {σ0 : bzS} , qX8_saySpecial o a1 a2 a3 a4 σ = some (r0, σ0) → ∀ l : Launch, Met l yX8_saySpecial (Cond.code yX8_saySpecial cX8_saySpecial 5 (some .int) :: GW) (bzR (d)) (va_Pc [.ref (ga g o), .int a1, .int a2, .int a3, .int a4] (bzP g σ)) (va_Qi (fun (r : Int32) (u : bzS) => r = r0 ∧ u = σ0) (bzB g) (gA g)) 0 0 (gA g)) {g : bzGeo} {o : Nat} {a1 : Int32} {a2 : Int32} {a3 : Int32} {a4 : Int32} {σ : bzS} {r0 : Int32} {σ0 : bzS} (l : Launch) (h : fm_X8_say qX8_say qX8_sayPlain qX8_saySpecial o a1 a2 a3 a4 σ = some (r0, σ0)) : Met l yX8_say (Cond.code yX8_say cX8_say 8 (some .int) :: GW) (bzR (d + 1)) (va_Pc [.ref (ga g o), .int a1, .int a2, .int a3, .int a4] (bzP g σ)) (va_Qi (fun (r : Int32) (u : bzS) => r = r0 ∧ u = σ0) (bzB g) (gA g)) 0 0 (gA g) := by
  unfold fm_X8_say at h
  obtain ⟨ho, h⟩ := bzGdE h
  refine j_start l (by decide +kernel) [.ref (ga g o), .int a1, .int a2, .int a3, .int a4] [(0, .ref (ga g o)), (1, .int a1), (2, .int a2), (3, .int a3), (4, .int a4)] (Nat.le_of_ble_eq_true rfl) rfl (fun x hF hG => ?_)
  refine j_iload_n hF 1 dX8_say_0 rfl ?_
  refine j_iload_n hF 2 dX8_say_1 rfl ?_
  obtain ⟨x2, e1, h⟩ := bzBdE h
  refine cs_X8_35 hF (fun l => mt_X8_ownerOf l e1) (by omega) (Nat.le_of_ble_eq_true rfl) dX8_say_2 ?_
  refine j_istore hF (lv1 := [(5, .int x2), (0, .ref (ga g o)), (1, .int a1), (2, .int a2), (3, .int a3), (4, .int a4)]) dX8_say_5 (by decide) rfl ?_
  refine j_iload hF 0 dX8_say_7 rfl ?_
  refine j_if_lt hF (tgt := 19) dX8_say_9 (by decide) (fun c3 => ?_) (fun c3 => ?_)
  · replace h := bzIfT h c3
    refine j_iconst hF (v := 0) dX8_say_19 (by decide) ?_
    exact j_iret hF hG dX8_say_20  (bzRet h).1 (bzRet h).2
  · replace h := bzIfF h c3
    refine j_iload hF 5 dX8_say_12 rfl ?_
    refine j_bipush hF (v := 40) dX8_say_14 (by decide) ?_
    refine j_icmp_le hF (tgt := 21) dX8_say_16 (by decide) (fun c4 => ?_) (fun c4 => ?_)
    · replace h := bzIfT h c4
      refine j_iload_n hF 2 dX8_say_21 rfl ?_
      refine j_iload hF 0 dX8_say_22 rfl ?_
      obtain ⟨x6, e5, h⟩ := bzBdE h
      refine cs_X8_39 hF (fun l => mt_X8_bodyOf l e5) (by omega) (Nat.le_of_ble_eq_true rfl) dX8_say_24 ?_
      refine j_istore hF (lv1 := [(6, .int x6), (5, .int x2), (0, .ref (ga g o)), (1, .int a1), (2, .int a2), (3, .int a3), (4, .int a4)]) dX8_say_27 (by decide) rfl ?_
      refine j_aload_n hF 2 dX8_say_29 rfl ?_
      refine gf_X8_14 hF ho dX8_say_30 ?_
      refine j_iload hF 0 dX8_say_33 rfl ?_
      obtain ⟨x8, σ9, e7, h⟩ := bzBpE h
      refine cs_X8_42 hF (kl_8_0 ho) (fun l => mt_X4_add l e7) (by omega) (Nat.le_of_ble_eq_true rfl) dX8_say_35 ?_
      refine j_pop hF dX8_say_38 rfl ?_
      refine j_iload hF 1 dX8_say_39 rfl ?_
      obtain ⟨x11, e10, h⟩ := bzBdE h
      refine cs_X8_46 hF (fun l => mt_X7_kindAbove l e10) (by omega) (Nat.le_of_ble_eq_true rfl) dX8_say_41 ?_
      refine j_istore hF (lv1 := [(7, .int x11), (6, .int x6), (5, .int x2), (0, .ref (ga g o)), (1, .int a1), (2, .int a2), (3, .int a3), (4, .int a4)]) dX8_say_44 (by decide) rfl ?_
      refine j_iload hF 1 dX8_say_46 rfl ?_
      refine j_bipush hF (v := 20) dX8_say_48 (by decide) ?_
      refine j_icmp_ge hF (tgt := 67) dX8_say_50 (by decide) (fun c12 => ?_) (fun c12 => ?_)
      · replace h := bzIfT h c12
        refine j_aload_n hF 3 dX8_say_67 rfl ?_
        refine j_iload hF 1 dX8_say_68 rfl ?_
        refine j_iload hF 0 dX8_say_70 rfl ?_
        refine j_iload_n hF 6 dX8_say_72 rfl ?_
        refine j_iload hF 7 dX8_say_73 rfl ?_
        refine j_iconst hF (v := 1) dX8_say_75 (by decide) ?_
        refine j_iadd hF dX8_say_76 ?_
        obtain ⟨x14, σ15, e13, h⟩ := bzBpE h
        refine cs_X8_56 hF ho (hqX8_saySpecial e13) (by omega) (Nat.le_of_ble_eq_true rfl) dX8_say_77 ?_
        exact j_iret hF hG dX8_say_80  (bzRet h).1 (bzRet h).2
      · replace h := bzIfF h c12
        refine j_aload_n hF 3 dX8_say_53 rfl ?_
        refine j_iload hF 1 dX8_say_54 rfl ?_
        refine j_iload_n hF 6 dX8_say_56 rfl ?_
        refine j_iload hF 7 dX8_say_57 rfl ?_
        refine j_iconst hF (v := 1) dX8_say_59 (by decide) ?_
        refine j_iadd hF dX8_say_60 ?_
        obtain ⟨x17, σ18, e16, h⟩ := bzBpE h
        refine cs_X8_52 hF ho (hqX8_sayPlain e16) (by omega) (Nat.le_of_ble_eq_true rfl) dX8_say_61 ?_
        refine j_goto hF (tgt := 80) dX8_say_64 (by decide) ?_
        exact j_iret hF hG dX8_say_80  (bzRet h).1 (bzRet h).2
    · replace h := bzIfF h c4
      refine j_iconst hF (v := 0) dX8_say_19 (by decide) ?_
      exact j_iret hF hG dX8_say_20  (bzRet h).1 (bzRet h).2
def fm_X8_sayPlain (qX8_say : Nat → Int32 → Int32 → Int32 → Int32 → bzS → Option (Int32 × bzS)) (qX8_sayPlain : Nat → Int32 → Int32 → Int32 → bzS → Option (Int32 × bzS)) (qX8_saySpecial : Nat → Int32 → Int32 → Int32 → Int32 → bzS → Option (Int32 × bzS)) (o : Nat) (a1 : Int32) (a2 : Int32) (a3 : Int32) (σ : bzS) : Option (Int32 × bzS) :=
  bzGd (kd o = 8) (if a1 = 10 then (some ((a2 + (σ o 1)), σ)) else if a1 = 11 then (bzBp (qX8_say o 0 ((σ o 2)) a2 a3 σ) (fun x4 σ5 => some ((x4 * 2), σ5))) else if a1 = 12 then (some ((a2 - (σ o 3)), σ)) else (bzBp (qX8_say o 1 ((σ o 2)) a2 a3 σ) (fun x8 σ9 => bzBp (qX8_say o 2 ((σ9 o 2)) a2 a3 σ9) (fun x11 σ12 => some ((x8 ^^^ x11), σ12)))))
set_option maxHeartbeats 4000000 in
set_option maxRecDepth 20000 in
theorem mm_X8_sayPlain {d : Nat} (hd : 4 ≤ d) {qX8_say : Nat → Int32 → Int32 → Int32 → Int32 → bzS → Option (Int32 × bzS)} (hqX8_say : ∀ {g : bzGeo} {o : Nat} {a1 : Int32} {a2 : Int32} {a3 : Int32} {a4 : Int32} {σ : bzS} {r0 : Int32} {σ0 : bzS} , qX8_say o a1 a2 a3 a4 σ = some (r0, σ0) → ∀ l : Launch, Met l yX8_say (Cond.code yX8_say cX8_say 8 (some .int) :: GW) (bzR (d)) (va_Pc [.ref (ga g o), .int a1, .int a2, .int a3, .int a4] (bzP g σ)) (va_Qi (fun (r : Int32) (u : bzS) => r = r0 ∧ u = σ0) (bzB g) (gA g)) 0 0 (gA g)) {qX8_sayPlain : Nat → Int32 → Int32 → Int32 → bzS → Option (Int32 × bzS)} (hqX8_sayPlain : ∀ {g : bzGeo} {o : Nat} {a1 : Int32} {a2 : Int32} {a3 : Int32} {σ : bzS} {r0 : Int32} {σ0 : bzS} , qX8_sayPlain o a1 a2 a3 σ = some (r0, σ0) → ∀ l : Launch, Met l yX8_sayPlain (Cond.code yX8_sayPlain cX8_sayPlain 4 (some .int) :: GW) (bzR (d)) (va_Pc [.ref (ga g o), .int a1, .int a2, .int a3] (bzP g σ)) (va_Qi (fun (r : Int32) (u : bzS) => r = r0 ∧ u = σ0) (bzB g) (gA g)) 0 0 (gA g)) {qX8_saySpecial : Nat → Int32 → Int32 → Int32 → Int32 → bzS → Option (Int32 × bzS)} (hqX8_saySpecial : ∀ {g : bzGeo} {o : Nat} {a1 : Int32} {a2 : Int32} {a3 : Int32} {a4 : Int32} {σ : bzS} {r0 : Int32} {σ0 : bzS} , qX8_saySpecial o a1 a2 a3 a4 σ = some (r0, σ0) → ∀ l : Launch, Met l yX8_saySpecial (Cond.code yX8_saySpecial cX8_saySpecial 5 (some .int) :: GW) (bzR (d)) (va_Pc [.ref (ga g o), .int a1, .int a2, .int a3, .int a4] (bzP g σ)) (va_Qi (fun (r : Int32) (u : bzS) => r = r0 ∧ u = σ0) (bzB g) (gA g)) 0 0 (gA g)) {g : bzGeo} {o : Nat} {a1 : Int32} {a2 : Int32} {a3 : Int32} {σ : bzS} {r0 : Int32} {σ0 : bzS} (l : Launch) (h : fm_X8_sayPlain qX8_say qX8_sayPlain qX8_saySpecial o a1 a2 a3 σ = some (r0, σ0)) : Met l yX8_sayPlain (Cond.code yX8_sayPlain cX8_sayPlain 4 (some .int) :: GW) (bzR (d + 1)) (va_Pc [.ref (ga g o), .int a1, .int a2, .int a3] (bzP g σ)) (va_Qi (fun (r : Int32) (u : bzS) => r = r0 ∧ u = σ0) (bzB g) (gA g)) 0 0 (gA g) := by
  unfold fm_X8_sayPlain at h
  obtain ⟨ho, h⟩ := bzGdE h
  refine j_start l (by decide +kernel) [.ref (ga g o), .int a1, .int a2, .int a3] [(0, .ref (ga g o)), (1, .int a1), (2, .int a2), (3, .int a3)] (Nat.le_of_ble_eq_true rfl) rfl (fun x hF hG => ?_)
  refine j_iload_n hF 1 dX8_sayPlain_0 rfl ?_
  rcases Decidable.em (a1 = 10) with c1 | c1
  · replace h := bzIfT h c1
    refine j_tableIn hF (tgt := 28) dX8_sayPlain_1 (by rw [c1] <;> decide) (by rw [c1] <;> decide) (by rw [c1] <;> rfl) (by decide) ?_
    refine j_iload_n hF 2 dX8_sayPlain_28 rfl ?_
    refine j_aload_n hF 0 dX8_sayPlain_29 rfl ?_
    refine gf_X8_18 hF ho dX8_sayPlain_30 ?_
    refine j_iadd hF dX8_sayPlain_33 ?_
    exact j_iret hF hG dX8_sayPlain_34  (bzRet h).1 (bzRet h).2
  · replace h := bzIfF h c1
    rcases Decidable.em (a1 = 11) with c2 | c2
    · replace h := bzIfT h c2
      refine j_tableIn hF (tgt := 35) dX8_sayPlain_1 (by rw [c2] <;> decide) (by rw [c2] <;> decide) (by rw [c2] <;> rfl) (by decide) ?_
      refine j_aload_n hF 0 dX8_sayPlain_35 rfl ?_
      refine j_iconst hF (v := 0) dX8_sayPlain_36 (by decide) ?_
      refine j_aload_n hF 0 dX8_sayPlain_37 rfl ?_
      refine gf_X8_22 hF ho dX8_sayPlain_38 ?_
      refine j_iload_n hF 2 dX8_sayPlain_41 rfl ?_
      refine j_iload_n hF 3 dX8_sayPlain_42 rfl ?_
      obtain ⟨x4, σ5, e3, h⟩ := bzBpE h
      refine cs_X8_31 hF ho (hqX8_say e3) (by omega) (Nat.le_of_ble_eq_true rfl) dX8_sayPlain_43 ?_
      refine j_iconst hF (v := 2) dX8_sayPlain_46 (by decide) ?_
      refine j_imul hF dX8_sayPlain_47 ?_
      exact j_iret hF hG dX8_sayPlain_48  (bzRet h).1 (bzRet h).2
    · replace h := bzIfF h c2
      rcases Decidable.em (a1 = 12) with c6 | c6
      · replace h := bzIfT h c6
        refine j_tableIn hF (tgt := 49) dX8_sayPlain_1 (by rw [c6] <;> decide) (by rw [c6] <;> decide) (by rw [c6] <;> rfl) (by decide) ?_
        refine j_iload_n hF 2 dX8_sayPlain_49 rfl ?_
        refine j_aload_n hF 0 dX8_sayPlain_50 rfl ?_
        refine gf_X8_25 hF ho dX8_sayPlain_51 ?_
        refine j_isub hF dX8_sayPlain_54 ?_
        exact j_iret hF hG dX8_sayPlain_55  (bzRet h).1 (bzRet h).2
      · replace h := bzIfF h c6
        refine j_tableOut hF (tgt := 56) dX8_sayPlain_1 (by have q0 := lv_neT (a := 10) c1 (by decide); have q1 := lv_neT (a := 11) c2 (by decide); have q2 := lv_neT (a := 12) c6 (by decide); omega) (by decide) ?_
        refine j_aload_n hF 0 dX8_sayPlain_56 rfl ?_
        refine j_iconst hF (v := 1) dX8_sayPlain_57 (by decide) ?_
        refine j_aload_n hF 0 dX8_sayPlain_58 rfl ?_
        refine gf_X8_22 hF ho dX8_sayPlain_59 ?_
        refine j_iload_n hF 2 dX8_sayPlain_62 rfl ?_
        refine j_iload_n hF 3 dX8_sayPlain_63 rfl ?_
        obtain ⟨x8, σ9, e7, h⟩ := bzBpE h
        refine cs_X8_31 hF ho (hqX8_say e7) (by omega) (Nat.le_of_ble_eq_true rfl) dX8_sayPlain_64 ?_
        refine j_aload_n hF 0 dX8_sayPlain_67 rfl ?_
        refine j_iconst hF (v := 2) dX8_sayPlain_68 (by decide) ?_
        refine j_aload_n hF 0 dX8_sayPlain_69 rfl ?_
        refine gf_X8_22 hF ho dX8_sayPlain_70 ?_
        refine j_iload_n hF 2 dX8_sayPlain_73 rfl ?_
        refine j_iload_n hF 3 dX8_sayPlain_74 rfl ?_
        obtain ⟨x11, σ12, e10, h⟩ := bzBpE h
        refine cs_X8_31 hF ho (hqX8_say e10) (by omega) (Nat.le_of_ble_eq_true rfl) dX8_sayPlain_75 ?_
        refine j_ixor hF dX8_sayPlain_78 ?_
        exact j_iret hF hG dX8_sayPlain_79  (bzRet h).1 (bzRet h).2
def fm_X8_saySpecial (qX8_say : Nat → Int32 → Int32 → Int32 → Int32 → bzS → Option (Int32 × bzS)) (qX8_sayPlain : Nat → Int32 → Int32 → Int32 → bzS → Option (Int32 × bzS)) (qX8_saySpecial : Nat → Int32 → Int32 → Int32 → Int32 → bzS → Option (Int32 × bzS)) (o : Nat) (a1 : Int32) (a2 : Int32) (a3 : Int32) (a4 : Int32) (σ : bzS) : Option (Int32 × bzS) :=
  bzGd (kd o = 8) (if a1 = 20 then (bzBp (qX8_say o 0 a2 a3 a4 σ) (fun x3 σ4 => some ((x3 * 3), σ4))) else if a1 = 30 then (bzBp (qX8_say o 1 a2 a3 a4 σ) (fun x7 σ8 => bzBp (qX8_say o 2 ((σ8 o 2)) 1 a4 σ8) (fun x10 σ11 => some ((x7 - x10), σ11)))) else if a1 = 40 then (bzBp (qX8_say o 2 a2 a3 a4 σ) (fun x14 σ15 => some ((-x14), σ15))) else if a1 = 50 then (bzBp (qX8_say o 3 a2 a3 a4 σ) (fun x18 σ19 => bzBp (qX8_say o 0 ((σ19 o 2)) 2 a4 σ19) (fun x21 σ22 => some ((x18 - x21), σ22)))) else if a1 = 60 then (bzBp (qX8_say o 1 a2 ((a3 + 1)) a4 σ) (fun x25 σ26 => some (x25, σ26))) else if a1 = 70 then (bzBp (qX8_say o 2 a2 a3 a4 σ) (fun x29 σ30 => some ((x29 ^^^ (σ30 o 1)), σ30))) else (bzBp (qX8_say o 1 ((σ o 2)) a3 a4 σ) (fun x32 σ33 => bzBp (qX8_say o 3 a2 a3 a4 σ33) (fun x35 σ36 => some ((x32 - x35), σ36)))))
set_option maxHeartbeats 4000000 in
set_option maxRecDepth 20000 in
theorem mm_X8_saySpecial {d : Nat} (hd : 4 ≤ d) {qX8_say : Nat → Int32 → Int32 → Int32 → Int32 → bzS → Option (Int32 × bzS)} (hqX8_say : ∀ {g : bzGeo} {o : Nat} {a1 : Int32} {a2 : Int32} {a3 : Int32} {a4 : Int32} {σ : bzS} {r0 : Int32} {σ0 : bzS} , qX8_say o a1 a2 a3 a4 σ = some (r0, σ0) → ∀ l : Launch, Met l yX8_say (Cond.code yX8_say cX8_say 8 (some .int) :: GW) (bzR (d)) (va_Pc [.ref (ga g o), .int a1, .int a2, .int a3, .int a4] (bzP g σ)) (va_Qi (fun (r : Int32) (u : bzS) => r = r0 ∧ u = σ0) (bzB g) (gA g)) 0 0 (gA g)) {qX8_sayPlain : Nat → Int32 → Int32 → Int32 → bzS → Option (Int32 × bzS)} (hqX8_sayPlain : ∀ {g : bzGeo} {o : Nat} {a1 : Int32} {a2 : Int32} {a3 : Int32} {σ : bzS} {r0 : Int32} {σ0 : bzS} , qX8_sayPlain o a1 a2 a3 σ = some (r0, σ0) → ∀ l : Launch, Met l yX8_sayPlain (Cond.code yX8_sayPlain cX8_sayPlain 4 (some .int) :: GW) (bzR (d)) (va_Pc [.ref (ga g o), .int a1, .int a2, .int a3] (bzP g σ)) (va_Qi (fun (r : Int32) (u : bzS) => r = r0 ∧ u = σ0) (bzB g) (gA g)) 0 0 (gA g)) {qX8_saySpecial : Nat → Int32 → Int32 → Int32 → Int32 → bzS → Option (Int32 × bzS)} (hqX8_saySpecial : ∀ {g : bzGeo} {o : Nat} {a1 : Int32} {a2 : Int32} {a3 : Int32} {a4 : Int32} {σ : bzS} {r0 : Int32} {σ0 : bzS} , qX8_saySpecial o a1 a2 a3 a4 σ = some (r0, σ0) → ∀ l : Launch, Met l yX8_saySpecial (Cond.code yX8_saySpecial cX8_saySpecial 5 (some .int) :: GW) (bzR (d)) (va_Pc [.ref (ga g o), .int a1, .int a2, .int a3, .int a4] (bzP g σ)) (va_Qi (fun (r : Int32) (u : bzS) => r = r0 ∧ u = σ0) (bzB g) (gA g)) 0 0 (gA g)) {g : bzGeo} {o : Nat} {a1 : Int32} {a2 : Int32} {a3 : Int32} {a4 : Int32} {σ : bzS} {r0 : Int32} {σ0 : bzS} (l : Launch) (h : fm_X8_saySpecial qX8_say qX8_sayPlain qX8_saySpecial o a1 a2 a3 a4 σ = some (r0, σ0)) : Met l yX8_saySpecial (Cond.code yX8_saySpecial cX8_saySpecial 5 (some .int) :: GW) (bzR (d + 1)) (va_Pc [.ref (ga g o), .int a1, .int a2, .int a3, .int a4] (bzP g σ)) (va_Qi (fun (r : Int32) (u : bzS) => r = r0 ∧ u = σ0) (bzB g) (gA g)) 0 0 (gA g) := by
  unfold fm_X8_saySpecial at h
  obtain ⟨ho, h⟩ := bzGdE h
  refine j_start l (by decide +kernel) [.ref (ga g o), .int a1, .int a2, .int a3, .int a4] [(0, .ref (ga g o)), (1, .int a1), (2, .int a2), (3, .int a3), (4, .int a4)] (Nat.le_of_ble_eq_true rfl) rfl (fun x hF hG => ?_)
  refine j_iload_n hF 1 dX8_saySpecial_0 rfl ?_
  rcases Decidable.em (a1 = 20) with c1 | c1
  · replace h := bzIfT h c1
    refine j_lookup hF (tgt := 60) dX8_saySpecial_1 (by decide) (by rw [c1] <;> rfl) (by decide) ?_
    refine j_aload_n hF 0 dX8_saySpecial_60 rfl ?_
    refine j_iconst hF (v := 0) dX8_saySpecial_61 (by decide) ?_
    refine j_iload_n hF 2 dX8_saySpecial_62 rfl ?_
    refine j_iload_n hF 3 dX8_saySpecial_63 rfl ?_
    refine j_iload hF 4 dX8_saySpecial_64 rfl ?_
    obtain ⟨x3, σ4, e2, h⟩ := bzBpE h
    refine cs_X8_31 hF ho (hqX8_say e2) (by omega) (Nat.le_of_ble_eq_true rfl) dX8_saySpecial_66 ?_
    refine j_iconst hF (v := 3) dX8_saySpecial_69 (by decide) ?_
    refine j_imul hF dX8_saySpecial_70 ?_
    exact j_iret hF hG dX8_saySpecial_71  (bzRet h).1 (bzRet h).2
  · replace h := bzIfF h c1
    rcases Decidable.em (a1 = 30) with c5 | c5
    · replace h := bzIfT h c5
      refine j_lookup hF (tgt := 72) dX8_saySpecial_1 (by decide) (by rw [c5] <;> rfl) (by decide) ?_
      refine j_aload_n hF 0 dX8_saySpecial_72 rfl ?_
      refine j_iconst hF (v := 1) dX8_saySpecial_73 (by decide) ?_
      refine j_iload_n hF 2 dX8_saySpecial_74 rfl ?_
      refine j_iload_n hF 3 dX8_saySpecial_75 rfl ?_
      refine j_iload hF 4 dX8_saySpecial_76 rfl ?_
      obtain ⟨x7, σ8, e6, h⟩ := bzBpE h
      refine cs_X8_31 hF ho (hqX8_say e6) (by omega) (Nat.le_of_ble_eq_true rfl) dX8_saySpecial_78 ?_
      refine j_aload_n hF 0 dX8_saySpecial_81 rfl ?_
      refine j_iconst hF (v := 2) dX8_saySpecial_82 (by decide) ?_
      refine j_aload_n hF 0 dX8_saySpecial_83 rfl ?_
      refine gf_X8_22 hF ho dX8_saySpecial_84 ?_
      refine j_iconst hF (v := 1) dX8_saySpecial_87 (by decide) ?_
      refine j_iload hF 4 dX8_saySpecial_88 rfl ?_
      obtain ⟨x10, σ11, e9, h⟩ := bzBpE h
      refine cs_X8_31 hF ho (hqX8_say e9) (by omega) (Nat.le_of_ble_eq_true rfl) dX8_saySpecial_90 ?_
      refine j_isub hF dX8_saySpecial_93 ?_
      exact j_iret hF hG dX8_saySpecial_94  (bzRet h).1 (bzRet h).2
    · replace h := bzIfF h c5
      rcases Decidable.em (a1 = 40) with c12 | c12
      · replace h := bzIfT h c12
        refine j_lookup hF (tgt := 95) dX8_saySpecial_1 (by decide) (by rw [c12] <;> rfl) (by decide) ?_
        refine j_aload_n hF 0 dX8_saySpecial_95 rfl ?_
        refine j_iconst hF (v := 2) dX8_saySpecial_96 (by decide) ?_
        refine j_iload_n hF 2 dX8_saySpecial_97 rfl ?_
        refine j_iload_n hF 3 dX8_saySpecial_98 rfl ?_
        refine j_iload hF 4 dX8_saySpecial_99 rfl ?_
        obtain ⟨x14, σ15, e13, h⟩ := bzBpE h
        refine cs_X8_31 hF ho (hqX8_say e13) (by omega) (Nat.le_of_ble_eq_true rfl) dX8_saySpecial_101 ?_
        refine j_ineg hF dX8_saySpecial_104 ?_
        exact j_iret hF hG dX8_saySpecial_105  (bzRet h).1 (bzRet h).2
      · replace h := bzIfF h c12
        rcases Decidable.em (a1 = 50) with c16 | c16
        · replace h := bzIfT h c16
          refine j_lookup hF (tgt := 106) dX8_saySpecial_1 (by decide) (by rw [c16] <;> rfl) (by decide) ?_
          refine j_aload_n hF 0 dX8_saySpecial_106 rfl ?_
          refine j_iconst hF (v := 3) dX8_saySpecial_107 (by decide) ?_
          refine j_iload_n hF 2 dX8_saySpecial_108 rfl ?_
          refine j_iload_n hF 3 dX8_saySpecial_109 rfl ?_
          refine j_iload hF 4 dX8_saySpecial_110 rfl ?_
          obtain ⟨x18, σ19, e17, h⟩ := bzBpE h
          refine cs_X8_31 hF ho (hqX8_say e17) (by omega) (Nat.le_of_ble_eq_true rfl) dX8_saySpecial_112 ?_
          refine j_aload_n hF 0 dX8_saySpecial_115 rfl ?_
          refine j_iconst hF (v := 0) dX8_saySpecial_116 (by decide) ?_
          refine j_aload_n hF 0 dX8_saySpecial_117 rfl ?_
          refine gf_X8_22 hF ho dX8_saySpecial_118 ?_
          refine j_iconst hF (v := 2) dX8_saySpecial_121 (by decide) ?_
          refine j_iload hF 4 dX8_saySpecial_122 rfl ?_
          obtain ⟨x21, σ22, e20, h⟩ := bzBpE h
          refine cs_X8_31 hF ho (hqX8_say e20) (by omega) (Nat.le_of_ble_eq_true rfl) dX8_saySpecial_124 ?_
          refine j_isub hF dX8_saySpecial_127 ?_
          exact j_iret hF hG dX8_saySpecial_128  (bzRet h).1 (bzRet h).2
        · replace h := bzIfF h c16
          rcases Decidable.em (a1 = 60) with c23 | c23
          · replace h := bzIfT h c23
            refine j_lookup hF (tgt := 129) dX8_saySpecial_1 (by decide) (by rw [c23] <;> rfl) (by decide) ?_
            refine j_aload_n hF 0 dX8_saySpecial_129 rfl ?_
            refine j_iconst hF (v := 1) dX8_saySpecial_130 (by decide) ?_
            refine j_iload_n hF 2 dX8_saySpecial_131 rfl ?_
            refine j_iload_n hF 3 dX8_saySpecial_132 rfl ?_
            refine j_iconst hF (v := 1) dX8_saySpecial_133 (by decide) ?_
            refine j_iadd hF dX8_saySpecial_134 ?_
            refine j_iload hF 4 dX8_saySpecial_135 rfl ?_
            obtain ⟨x25, σ26, e24, h⟩ := bzBpE h
            refine cs_X8_31 hF ho (hqX8_say e24) (by omega) (Nat.le_of_ble_eq_true rfl) dX8_saySpecial_137 ?_
            exact j_iret hF hG dX8_saySpecial_140  (bzRet h).1 (bzRet h).2
          · replace h := bzIfF h c23
            rcases Decidable.em (a1 = 70) with c27 | c27
            · replace h := bzIfT h c27
              refine j_lookup hF (tgt := 141) dX8_saySpecial_1 (by decide) (by rw [c27] <;> rfl) (by decide) ?_
              refine j_aload_n hF 0 dX8_saySpecial_141 rfl ?_
              refine j_iconst hF (v := 2) dX8_saySpecial_142 (by decide) ?_
              refine j_iload_n hF 2 dX8_saySpecial_143 rfl ?_
              refine j_iload_n hF 3 dX8_saySpecial_144 rfl ?_
              refine j_iload hF 4 dX8_saySpecial_145 rfl ?_
              obtain ⟨x29, σ30, e28, h⟩ := bzBpE h
              refine cs_X8_31 hF ho (hqX8_say e28) (by omega) (Nat.le_of_ble_eq_true rfl) dX8_saySpecial_147 ?_
              refine j_aload_n hF 0 dX8_saySpecial_150 rfl ?_
              refine gf_X8_18 hF ho dX8_saySpecial_151 ?_
              refine j_ixor hF dX8_saySpecial_154 ?_
              exact j_iret hF hG dX8_saySpecial_155  (bzRet h).1 (bzRet h).2
            · replace h := bzIfF h c27
              refine j_lookup hF (off := 155) (tgt := 156) dX8_saySpecial_1 (by decide) ((lv_osw c1 (by decide)).trans ((lv_osw c5 (by decide)).trans ((lv_osw c12 (by decide)).trans ((lv_osw c16 (by decide)).trans ((lv_osw c23 (by decide)).trans ((lv_osw c27 (by decide)).trans (rfl))))))) (by decide) ?_
              refine j_aload_n hF 0 dX8_saySpecial_156 rfl ?_
              refine j_iconst hF (v := 1) dX8_saySpecial_157 (by decide) ?_
              refine j_aload_n hF 0 dX8_saySpecial_158 rfl ?_
              refine gf_X8_22 hF ho dX8_saySpecial_159 ?_
              refine j_iload_n hF 3 dX8_saySpecial_162 rfl ?_
              refine j_iload hF 4 dX8_saySpecial_163 rfl ?_
              obtain ⟨x32, σ33, e31, h⟩ := bzBpE h
              refine cs_X8_31 hF ho (hqX8_say e31) (by omega) (Nat.le_of_ble_eq_true rfl) dX8_saySpecial_165 ?_
              refine j_aload_n hF 0 dX8_saySpecial_168 rfl ?_
              refine j_iconst hF (v := 3) dX8_saySpecial_169 (by decide) ?_
              refine j_iload_n hF 2 dX8_saySpecial_170 rfl ?_
              refine j_iload_n hF 3 dX8_saySpecial_171 rfl ?_
              refine j_iload hF 4 dX8_saySpecial_172 rfl ?_
              obtain ⟨x35, σ36, e34, h⟩ := bzBpE h
              refine cs_X8_31 hF ho (hqX8_say e34) (by omega) (Nat.le_of_ble_eq_true rfl) dX8_saySpecial_174 ?_
              refine j_isub hF dX8_saySpecial_177 ?_
              exact j_iret hF hG dX8_saySpecial_178  (bzRet h).1 (bzRet h).2
def fr_X8_say : Nat → (Nat → Int32 → Int32 → Int32 → Int32 → bzS → Option (Int32 × bzS)) × (Nat → Int32 → Int32 → Int32 → bzS → Option (Int32 × bzS)) × (Nat → Int32 → Int32 → Int32 → Int32 → bzS → Option (Int32 × bzS))
  | 0 => (fun _ _ _ _ _ _ => none, fun _ _ _ _ _ => none, fun _ _ _ _ _ _ => none)
  | n + 1 => (fm_X8_say (fr_X8_say n).1 (fr_X8_say n).2.1 (fr_X8_say n).2.2, fm_X8_sayPlain (fr_X8_say n).1 (fr_X8_say n).2.1 (fr_X8_say n).2.2, fm_X8_saySpecial (fr_X8_say n).1 (fr_X8_say n).2.1 (fr_X8_say n).2.2)
def f_X8_say : Nat → Int32 → Int32 → Int32 → Int32 → bzS → Option (Int32 × bzS) := (fr_X8_say 60).1
def f_X8_sayPlain : Nat → Int32 → Int32 → Int32 → bzS → Option (Int32 × bzS) := (fr_X8_say 60).2.1
def f_X8_saySpecial : Nat → Int32 → Int32 → Int32 → Int32 → bzS → Option (Int32 × bzS) := (fr_X8_say 60).2.2
set_option maxHeartbeats 4000000 in
theorem mr_X8_say : ∀ n : Nat, (∀ {g : bzGeo} {o : Nat} {a1 : Int32} {a2 : Int32} {a3 : Int32} {a4 : Int32} {σ : bzS} {r0 : Int32} {σ0 : bzS} , (fr_X8_say n).1 o a1 a2 a3 a4 σ = some (r0, σ0) → ∀ l : Launch, Met l yX8_say (Cond.code yX8_say cX8_say 8 (some .int) :: GW) (bzR (n + 4)) (va_Pc [.ref (ga g o), .int a1, .int a2, .int a3, .int a4] (bzP g σ)) (va_Qi (fun (r : Int32) (u : bzS) => r = r0 ∧ u = σ0) (bzB g) (gA g)) 0 0 (gA g)) ∧ (∀ {g : bzGeo} {o : Nat} {a1 : Int32} {a2 : Int32} {a3 : Int32} {σ : bzS} {r0 : Int32} {σ0 : bzS} , (fr_X8_say n).2.1 o a1 a2 a3 σ = some (r0, σ0) → ∀ l : Launch, Met l yX8_sayPlain (Cond.code yX8_sayPlain cX8_sayPlain 4 (some .int) :: GW) (bzR (n + 4)) (va_Pc [.ref (ga g o), .int a1, .int a2, .int a3] (bzP g σ)) (va_Qi (fun (r : Int32) (u : bzS) => r = r0 ∧ u = σ0) (bzB g) (gA g)) 0 0 (gA g)) ∧ (∀ {g : bzGeo} {o : Nat} {a1 : Int32} {a2 : Int32} {a3 : Int32} {a4 : Int32} {σ : bzS} {r0 : Int32} {σ0 : bzS} , (fr_X8_say n).2.2 o a1 a2 a3 a4 σ = some (r0, σ0) → ∀ l : Launch, Met l yX8_saySpecial (Cond.code yX8_saySpecial cX8_saySpecial 5 (some .int) :: GW) (bzR (n + 4)) (va_Pc [.ref (ga g o), .int a1, .int a2, .int a3, .int a4] (bzP g σ)) (va_Qi (fun (r : Int32) (u : bzS) => r = r0 ∧ u = σ0) (bzB g) (gA g)) 0 0 (gA g)) := by
  intro n
  induction n with
  | zero => exact ⟨by intros; contradiction, by intros; contradiction, by intros; contradiction⟩
  | succ n ih =>
    exact ⟨fun {g} {o} {a1} {a2} {a3} {a4} {σ} {r0} {σ0} h l => (by have q := mm_X8_say (g := g) (d := n + 4) (by omega) (fun {g} {o} {a1} {a2} {a3} {a4} {σ} {r0} {σ0} h l => ih.1 h l) (fun {g} {o} {a1} {a2} {a3} {σ} {r0} {σ0} h l => ih.2.1 h l) (fun {g} {o} {a1} {a2} {a3} {a4} {σ} {r0} {σ0} h l => ih.2.2 h l) l h; rw [show n + 1 + 4 = n + 4 + 1 by omega]; exact q), fun {g} {o} {a1} {a2} {a3} {σ} {r0} {σ0} h l => (by have q := mm_X8_sayPlain (g := g) (d := n + 4) (by omega) (fun {g} {o} {a1} {a2} {a3} {a4} {σ} {r0} {σ0} h l => ih.1 h l) (fun {g} {o} {a1} {a2} {a3} {σ} {r0} {σ0} h l => ih.2.1 h l) (fun {g} {o} {a1} {a2} {a3} {a4} {σ} {r0} {σ0} h l => ih.2.2 h l) l h; rw [show n + 1 + 4 = n + 4 + 1 by omega]; exact q), fun {g} {o} {a1} {a2} {a3} {a4} {σ} {r0} {σ0} h l => (by have q := mm_X8_saySpecial (g := g) (d := n + 4) (by omega) (fun {g} {o} {a1} {a2} {a3} {a4} {σ} {r0} {σ0} h l => ih.1 h l) (fun {g} {o} {a1} {a2} {a3} {σ} {r0} {σ0} h l => ih.2.1 h l) (fun {g} {o} {a1} {a2} {a3} {a4} {σ} {r0} {σ0} h l => ih.2.2 h l) l h; rw [show n + 1 + 4 = n + 4 + 1 by omega]; exact q)⟩
theorem mt_X8_say {g : bzGeo} {o : Nat} {a1 : Int32} {a2 : Int32} {a3 : Int32} {a4 : Int32} {σ : bzS} {r0 : Int32} {σ0 : bzS} (l : Launch) (h : f_X8_say o a1 a2 a3 a4 σ = some (r0, σ0)) : Met l yX8_say (Cond.code yX8_say cX8_say 8 (some .int) :: GW) (bzR (64)) (va_Pc [.ref (ga g o), .int a1, .int a2, .int a3, .int a4] (bzP g σ)) (va_Qi (fun (r : Int32) (u : bzS) => r = r0 ∧ u = σ0) (bzB g) (gA g)) 0 0 (gA g) := (mr_X8_say 60).1 h l
theorem mt_X8_sayPlain {g : bzGeo} {o : Nat} {a1 : Int32} {a2 : Int32} {a3 : Int32} {σ : bzS} {r0 : Int32} {σ0 : bzS} (l : Launch) (h : f_X8_sayPlain o a1 a2 a3 σ = some (r0, σ0)) : Met l yX8_sayPlain (Cond.code yX8_sayPlain cX8_sayPlain 4 (some .int) :: GW) (bzR (64)) (va_Pc [.ref (ga g o), .int a1, .int a2, .int a3] (bzP g σ)) (va_Qi (fun (r : Int32) (u : bzS) => r = r0 ∧ u = σ0) (bzB g) (gA g)) 0 0 (gA g) := (mr_X8_say 60).2.1 h l
theorem mt_X8_saySpecial {g : bzGeo} {o : Nat} {a1 : Int32} {a2 : Int32} {a3 : Int32} {a4 : Int32} {σ : bzS} {r0 : Int32} {σ0 : bzS} (l : Launch) (h : f_X8_saySpecial o a1 a2 a3 a4 σ = some (r0, σ0)) : Met l yX8_saySpecial (Cond.code yX8_saySpecial cX8_saySpecial 5 (some .int) :: GW) (bzR (64)) (va_Pc [.ref (ga g o), .int a1, .int a2, .int a3, .int a4] (bzP g σ)) (va_Qi (fun (r : Int32) (u : bzS) => r = r0 ∧ u = σ0) (bzB g) (gA g)) 0 0 (gA g) := (mr_X8_say 60).2.2 h l
def f_X8_raise (o : Nat) (a1 : Int32) (a2 : Int32) (a3 : Int32) (a4 : Int32) (a5 : Int32) (σ : bzS) : Option (Int32 × bzS) :=
  bzGd (kd o = 8) (bzLet (bzSt σ o 1 a1) (fun σ1 => bzLet (bzSt σ1 o 2 a2) (fun σ2 => bzLet (bzSt σ2 o 3 a3) (fun σ3 => bzBd (f_X4_clear ((ly o 0)) σ3) (fun σ5 => bzBp (f_X8_say o a4 ((σ5 o 2)) a5 0 σ5) (fun x7 σ8 => some (x7, σ8)))))))
set_option maxHeartbeats 4000000 in
set_option maxRecDepth 20000 in
theorem mt_X8_raise {g : bzGeo} {o : Nat} {a1 : Int32} {a2 : Int32} {a3 : Int32} {a4 : Int32} {a5 : Int32} {σ : bzS} {r0 : Int32} {σ0 : bzS} (l : Launch) (h : f_X8_raise  o a1 a2 a3 a4 a5 σ = some (r0, σ0)) : Met l yX8_raise (Cond.code yX8_raise cX8_raise 6 (some .int) :: GW) (bzR (65)) (va_Pc [.ref (ga g o), .int a1, .int a2, .int a3, .int a4, .int a5] (bzP g σ)) (va_Qi (fun (r : Int32) (u : bzS) => r = r0 ∧ u = σ0) (bzB g) (gA g)) 0 0 (gA g) := by
  unfold f_X8_raise at h
  obtain ⟨ho, h⟩ := bzGdE h
  refine j_start l (by decide +kernel) [.ref (ga g o), .int a1, .int a2, .int a3, .int a4, .int a5] [(0, .ref (ga g o)), (1, .int a1), (2, .int a2), (3, .int a3), (4, .int a4), (5, .int a5)] (Nat.le_of_ble_eq_true rfl) rfl (fun x hF hG => ?_)
  refine j_aload_n hF 0 dX8_raise_0 rfl ?_
  refine j_iload_n hF 1 dX8_raise_1 rfl ?_
  refine pf_X8_18 hF ho dX8_raise_2 ?_
  refine j_s (fun σ1 eσ1 => ?_)
  replace h := bzLetE h eσ1
  refine j_aload_n hF 0 dX8_raise_5 rfl ?_
  refine j_iload_n hF 2 dX8_raise_6 rfl ?_
  refine pf_X8_22 hF ho dX8_raise_7 ?_
  refine j_s (fun σ2 eσ2 => ?_)
  replace h := bzLetE h eσ2
  refine j_aload_n hF 0 dX8_raise_10 rfl ?_
  refine j_iload_n hF 3 dX8_raise_11 rfl ?_
  refine pf_X8_25 hF ho dX8_raise_12 ?_
  refine j_s (fun σ3 eσ3 => ?_)
  replace h := bzLetE h eσ3
  refine j_aload_n hF 0 dX8_raise_15 rfl ?_
  refine gf_X8_14 hF ho dX8_raise_16 ?_
  obtain ⟨σ5, e4, h⟩ := bzBdE h
  refine cs_X8_28 hF (kl_8_0 ho) (fun l => mt_X4_clear l e4) (by decide) (Nat.le_of_ble_eq_true rfl) dX8_raise_19 ?_
  refine j_aload_n hF 0 dX8_raise_22 rfl ?_
  refine j_iload hF 4 dX8_raise_23 rfl ?_
  refine j_aload_n hF 0 dX8_raise_25 rfl ?_
  refine gf_X8_22 hF ho dX8_raise_26 ?_
  refine j_iload hF 5 dX8_raise_29 rfl ?_
  refine j_iconst hF (v := 0) dX8_raise_31 (by decide) ?_
  obtain ⟨x7, σ8, e6, h⟩ := bzBpE h
  refine cs_X8_31 hF ho (fun l => mt_X8_say l e6) (by decide) (Nat.le_of_ble_eq_true rfl) dX8_raise_32 ?_
  exact j_iret hF hG dX8_raise_35  (bzRet h).1 (bzRet h).2
def f_X9_voice (o : Nat) (a1 : Int32) (a2 : Int32) (a3 : Int32) (σ : bzS) : Option (Int32 × bzS) :=
  bzGd (kd o = 9) (bzBd (f_X7_has ((ly (ly (ly o 0) 0) 2)) a1 σ) (fun x2 => if x2 = 0 then (bzBp (f_X9_fails o ((-1000000001)) σ) (fun x5 σ6 => some (x5, σ6))) else (bzBd (f_X9_within a2 0 3) (fun x8 => if x8 = 0 then (bzBp (f_X9_fails o ((-1000000001)) σ) (fun x16 σ17 => some (x16, σ17))) else (bzGd (bzIn a1 8) (bzGd (bzIn a1 8) (bzBp (f_X8_raise ((ly o 6)) a1 ((σ (ly (ly (ly (ly o 0) 0) 2) 0) a1.toNatClampNeg)) ((σ (ly (ly (ly (ly o 0) 0) 2) 1) a1.toNatClampNeg)) a2 a3 σ) (fun x13 σ14 => some (x13, σ14)))))))))
set_option maxHeartbeats 4000000 in
set_option maxRecDepth 20000 in
theorem mt_X9_voice {g : bzGeo} {o : Nat} {a1 : Int32} {a2 : Int32} {a3 : Int32} {σ : bzS} {r0 : Int32} {σ0 : bzS} (l : Launch) (h : f_X9_voice  o a1 a2 a3 σ = some (r0, σ0)) : Met l yX9_voice (Cond.code yX9_voice cX9_voice 5 (some .int) :: GW) (bzR (66)) (va_Pc [.ref (ga g o), .int a1, .int a2, .int a3] (bzP g σ)) (va_Qi (fun (r : Int32) (u : bzS) => r = r0 ∧ u = σ0) (bzB g) (gA g)) 0 0 (gA g) := by
  unfold f_X9_voice at h
  obtain ⟨ho, h⟩ := bzGdE h
  refine j_start l (by decide +kernel) [.ref (ga g o), .int a1, .int a2, .int a3] [(0, .ref (ga g o)), (1, .int a1), (2, .int a2), (3, .int a3)] (Nat.le_of_ble_eq_true rfl) rfl (fun x hF hG => ?_)
  refine j_aload_n hF 0 dX9_voice_0 rfl ?_
  refine gf_X9_12 hF ho dX9_voice_1 ?_
  refine gf_X9_55 hF (kl_9_0 ho) dX9_voice_4 ?_
  refine gf_X9_111 hF (kl_6_0 (kl_9_0 ho)) dX9_voice_7 ?_
  refine j_astore hF (lv1 := [(4, .ref (ga g (ly (ly (ly o 0) 0) 2))), (0, .ref (ga g o)), (1, .int a1), (2, .int a2), (3, .int a3)]) dX9_voice_10 (by decide) rfl ?_
  refine j_aload hF 0 dX9_voice_12 rfl ?_
  refine j_iload_n hF 2 dX9_voice_14 rfl ?_
  obtain ⟨x2, e1, h⟩ := bzBdE h
  refine cs_X9_122 hF (kl_0_2 (kl_6_0 (kl_9_0 ho))) (fun l => mt_X7_has l e1) (by decide) (Nat.le_of_ble_eq_true rfl) dX9_voice_15 ?_
  refine j_if_eq hF (tgt := 30) dX9_voice_18 (by decide) (fun c3 => ?_) (fun c3 => ?_)
  · replace h := bzIfT h c3
    refine j_aload_n hF 1 dX9_voice_30 rfl ?_
    refine j_ldc hF (v := (-1000000001)) kc_X9_70 dX9_voice_31 ?_
    obtain ⟨x5, σ6, e4, h⟩ := bzBpE h
    refine cs_X9_71 hF ho (fun l => mt_X9_fails l e4) (by decide) (Nat.le_of_ble_eq_true rfl) dX9_voice_33 ?_
    exact j_iret hF hG dX9_voice_36  (bzRet h).1 (bzRet h).2
  · replace h := bzIfF h c3
    refine j_iload_n hF 3 dX9_voice_21 rfl ?_
    refine j_iconst hF (v := 0) dX9_voice_22 (by decide) ?_
    refine j_iconst hF (v := 3) dX9_voice_23 (by decide) ?_
    obtain ⟨x8, e7, h⟩ := bzBdE h
    refine cs_X9_66 hF (fun l => mt_X9_within l e7) (by decide) (Nat.le_of_ble_eq_true rfl) dX9_voice_24 ?_
    refine j_if_ne hF (tgt := 37) dX9_voice_27 (by decide) (fun c9 => ?_) (fun c9 => ?_)
    · replace h := bzIfF h c9
      refine j_aload_n hF 1 dX9_voice_37 rfl ?_
      refine gf_X9_46 hF ho dX9_voice_38 ?_
      refine j_iload_n hF 2 dX9_voice_41 rfl ?_
      refine j_aload hF 0 dX9_voice_42 rfl ?_
      refine gf_X9_126 hF (kl_0_2 (kl_6_0 (kl_9_0 ho))) dX9_voice_44 ?_
      refine j_iload_n hF 2 dX9_voice_47 rfl ?_
      obtain ⟨g10, h⟩ := bzGdE h
      refine j_iald hF (c := a1.toNatClampNeg) (kl_7_0 (kl_0_2 (kl_6_0 (kl_9_0 ho)))) (nl_7_0 (kl_0_2 (kl_6_0 (kl_9_0 ho)))) g10 rfl dX9_voice_48 ?_
      refine j_aload hF 0 dX9_voice_49 rfl ?_
      refine gf_X9_129 hF (kl_0_2 (kl_6_0 (kl_9_0 ho))) dX9_voice_51 ?_
      refine j_iload_n hF 2 dX9_voice_54 rfl ?_
      obtain ⟨g11, h⟩ := bzGdE h
      refine j_iald hF (c := a1.toNatClampNeg) (kl_7_1 (kl_0_2 (kl_6_0 (kl_9_0 ho)))) (nl_7_1 (kl_0_2 (kl_6_0 (kl_9_0 ho)))) g11 rfl dX9_voice_55 ?_
      refine j_iload_n hF 3 dX9_voice_56 rfl ?_
      refine j_iload_n hF 4 dX9_voice_57 rfl ?_
      obtain ⟨x13, σ14, e12, h⟩ := bzBpE h
      refine cs_X9_267 hF (kl_9_6 ho) (fun l => mt_X8_raise l e12) (by decide) (Nat.le_of_ble_eq_true rfl) dX9_voice_58 ?_
      exact j_iret hF hG dX9_voice_61  (bzRet h).1 (bzRet h).2
    · replace h := bzIfT h c9
      refine j_aload_n hF 1 dX9_voice_30 rfl ?_
      refine j_ldc hF (v := (-1000000001)) kc_X9_70 dX9_voice_31 ?_
      obtain ⟨x16, σ17, e15, h⟩ := bzBpE h
      refine cs_X9_71 hF ho (fun l => mt_X9_fails l e15) (by decide) (Nat.le_of_ble_eq_true rfl) dX9_voice_33 ?_
      exact j_iret hF hG dX9_voice_36  (bzRet h).1 (bzRet h).2
def f_X9_trace (o : Nat) (a1 : Int32) (σ : bzS) : Option (Int32 × bzS) :=
  bzGd (kd o = 9) (bzBd (f_X4_has ((ly (ly o 6) 0)) a1 σ) (fun x2 => if x2 = 0 then (bzBp (f_X9_fails o ((-1000000002)) σ) (fun x5 σ6 => some (x5, σ6))) else (bzBd (f_X4_at ((ly (ly o 6) 0)) a1 σ) (fun x8 => some (x8, σ)))))
set_option maxHeartbeats 4000000 in
set_option maxRecDepth 20000 in
theorem mt_X9_trace {g : bzGeo} {o : Nat} {a1 : Int32} {σ : bzS} {r0 : Int32} {σ0 : bzS} (l : Launch) (h : f_X9_trace  o a1 σ = some (r0, σ0)) : Met l yX9_trace (Cond.code yX9_trace cX9_trace 2 (some .int) :: GW) (bzR (3)) (va_Pc [.ref (ga g o), .int a1] (bzP g σ)) (va_Qi (fun (r : Int32) (u : bzS) => r = r0 ∧ u = σ0) (bzB g) (gA g)) 0 0 (gA g) := by
  unfold f_X9_trace at h
  obtain ⟨ho, h⟩ := bzGdE h
  refine j_start l (by decide +kernel) [.ref (ga g o), .int a1] [(0, .ref (ga g o)), (1, .int a1)] (Nat.le_of_ble_eq_true rfl) rfl (fun x hF hG => ?_)
  refine j_aload_n hF 0 dX9_trace_0 rfl ?_
  refine gf_X9_46 hF ho dX9_trace_1 ?_
  refine gf_X9_271 hF (kl_9_6 ho) dX9_trace_4 ?_
  refine j_iload_n hF 1 dX9_trace_7 rfl ?_
  obtain ⟨x2, e1, h⟩ := bzBdE h
  refine cs_X9_274 hF (kl_8_0 (kl_9_6 ho)) (fun l => mt_X4_has l e1) (by decide) (Nat.le_of_ble_eq_true rfl) dX9_trace_8 ?_
  refine j_if_eq hF (tgt := 28) dX9_trace_11 (by decide) (fun c3 => ?_) (fun c3 => ?_)
  · replace h := bzIfT h c3
    refine j_aload_n hF 0 dX9_trace_28 rfl ?_
    refine j_ldc hF (v := (-1000000002)) kc_X9_214 dX9_trace_29 ?_
    obtain ⟨x5, σ6, e4, h⟩ := bzBpE h
    refine cs_X9_71 hF ho (fun l => mt_X9_fails l e4) (by decide) (Nat.le_of_ble_eq_true rfl) dX9_trace_31 ?_
    exact j_iret hF hG dX9_trace_34  (bzRet h).1 (bzRet h).2
  · replace h := bzIfF h c3
    refine j_aload_n hF 0 dX9_trace_14 rfl ?_
    refine gf_X9_46 hF ho dX9_trace_15 ?_
    refine gf_X9_271 hF (kl_9_6 ho) dX9_trace_18 ?_
    refine j_iload_n hF 1 dX9_trace_21 rfl ?_
    obtain ⟨x8, e7, h⟩ := bzBdE h
    refine cs_X9_275 hF (kl_8_0 (kl_9_6 ho)) (fun l => mt_X4_at l e7) (by decide) (Nat.le_of_ble_eq_true rfl) dX9_trace_22 ?_
    refine j_goto hF (tgt := 34) dX9_trace_25 (by decide) ?_
    exact j_iret hF hG dX9_trace_34  (bzRet h).1 (bzRet h).2
def f_X5_areBits (a0 : Int32) : Option Int32 :=
  if a0 = 0 then (some 1) else (if a0 = 8 then (some 1) else (if a0 = 16 then (some 1) else (if a0 = 32 then (some 1) else (some 0))))
set_option maxHeartbeats 4000000 in
set_option maxRecDepth 20000 in
theorem mt_X5_areBits {g : bzGeo} {a0 : Int32} {σ : bzS} {r0 : Int32} (l : Launch) (h : f_X5_areBits  a0 = some r0) : Met l yX5_areBits (Cond.code yX5_areBits cX5_areBits 1 (some .boolean) :: GW) (bzR (1)) (va_Pc [.int a0] (bzP g σ)) (va_Qi (fun (r : Int32) (u : bzS) => r = r0 ∧ u = σ) (bzB g) (gA g)) 0 0 (gA g) := by
  unfold f_X5_areBits at h
  refine j_start l (by decide +kernel) [.int a0] [(0, .int a0)] (Nat.le_of_ble_eq_true rfl) rfl (fun x hF hG => ?_)
  refine j_iload_n hF 0 dX5_areBits_0 rfl ?_
  refine j_if_eq hF (tgt := 22) dX5_areBits_1 (by decide) (fun c1 => ?_) (fun c1 => ?_)
  · replace h := bzIfT h c1
    refine j_iconst hF (v := 1) dX5_areBits_22 (by decide) ?_
    refine j_goto hF (tgt := 27) dX5_areBits_23 (by decide) ?_
    exact j_zret hF hG dX5_areBits_27 (by decide)  (Option.some.inj h) rfl
  · replace h := bzIfF h c1
    refine j_iload_n hF 0 dX5_areBits_4 rfl ?_
    refine j_bipush hF (v := 8) dX5_areBits_5 (by decide) ?_
    refine j_icmp_eq hF (tgt := 22) dX5_areBits_7 (by decide) (fun c2 => ?_) (fun c2 => ?_)
    · replace h := bzIfT h c2
      refine j_iconst hF (v := 1) dX5_areBits_22 (by decide) ?_
      refine j_goto hF (tgt := 27) dX5_areBits_23 (by decide) ?_
      exact j_zret hF hG dX5_areBits_27 (by decide)  (Option.some.inj h) rfl
    · replace h := bzIfF h c2
      refine j_iload_n hF 0 dX5_areBits_10 rfl ?_
      refine j_bipush hF (v := 16) dX5_areBits_11 (by decide) ?_
      refine j_icmp_eq hF (tgt := 22) dX5_areBits_13 (by decide) (fun c3 => ?_) (fun c3 => ?_)
      · replace h := bzIfT h c3
        refine j_iconst hF (v := 1) dX5_areBits_22 (by decide) ?_
        refine j_goto hF (tgt := 27) dX5_areBits_23 (by decide) ?_
        exact j_zret hF hG dX5_areBits_27 (by decide)  (Option.some.inj h) rfl
      · replace h := bzIfF h c3
        refine j_iload_n hF 0 dX5_areBits_16 rfl ?_
        refine j_bipush hF (v := 32) dX5_areBits_17 (by decide) ?_
        refine j_icmp_ne hF (tgt := 26) dX5_areBits_19 (by decide) (fun c4 => ?_) (fun c4 => ?_)
        · replace h := bzIfF h c4
          refine j_iconst hF (v := 0) dX5_areBits_26 (by decide) ?_
          exact j_zret hF hG dX5_areBits_27 (by decide)  (Option.some.inj h) rfl
        · replace h := bzIfT h c4
          refine j_iconst hF (v := 1) dX5_areBits_22 (by decide) ?_
          refine j_goto hF (tgt := 27) dX5_areBits_23 (by decide) ?_
          exact j_zret hF hG dX5_areBits_27 (by decide)  (Option.some.inj h) rfl
def fb_X4_fillWithZeros_19 (K19 : Int32 → bzS → Option bzS) (o : Nat) (a1 : Int32) (v2 : Int32) (σ1 : bzS) : Option bzS :=
  if (σ1 o 1) ≤ v2 then (some σ1) else (bzGd (bzIn v2 (ln (ly o 0))) (bzLet (bzSt σ1 (ly o 0) v2.toNatClampNeg 0) (fun σ8 => bzLet (v2 + 1) (fun x9 => K19 x9 σ8))))
def fl_X4_fillWithZeros_19 (o : Nat) (a1 : Int32) : Nat → Int32 → bzS → Option bzS
  | 0, _, _ => none
  | n + 1, v2, σ1 => fb_X4_fillWithZeros_19   (fl_X4_fillWithZeros_19   o a1 n) o a1 v2 σ1
def f_X4_fillWithZeros (o : Nat) (a1 : Int32) (σ : bzS) : Option bzS :=
  bzGd (kd o = 4) (bzBd (f_J_min a1 ((Int32.ofNat ((ln (ly o 0)))))) (fun x2 => bzBd (f_J_max 0 x2) (fun x4 => bzLet (bzSt σ o 1 x4) (fun σ5 => fl_X4_fillWithZeros_19 o a1 2000 0 σ5))))
set_option maxHeartbeats 4000000 in
set_option maxRecDepth 20000 in
theorem mt_X4_fillWithZeros {g : bzGeo} {o : Nat} {a1 : Int32} {σ : bzS} {σ0 : bzS} (l : Launch) (h : f_X4_fillWithZeros  o a1 σ = some σ0) : Met l yX4_fillWithZeros (Cond.code yX4_fillWithZeros cX4_fillWithZeros 3 none :: GW) (bzR (2)) (va_Pc [.ref (ga g o), .int a1] (bzP g σ)) (va_Qv (fun (u : bzS) => u = σ0) (bzB g) (gA g)) 0 0 (gA g) := by
  unfold f_X4_fillWithZeros at h
  obtain ⟨ho, h⟩ := bzGdE h
  refine j_start l (by decide +kernel) [.ref (ga g o), .int a1] [(0, .ref (ga g o)), (1, .int a1)] (Nat.le_of_ble_eq_true rfl) rfl (fun x hF hG => ?_)
  have J19 : (K19 : Int32 → bzS → Option bzS) → (hK19 : ∀ (v2 : Int32) (σ1 : bzS), K19 v2 σ1 = some σ0 → bzJ g 3 x σ1 19 [(0, .ref (ga g o)), (1, .int a1), (2, .int v2)] []) → ∀ (v2 : Int32) (σ1 : bzS), fb_X4_fillWithZeros_19 K19 o a1 v2 σ1 = some σ0 → bzJ g 3 x σ1 19 [(0, .ref (ga g o)), (1, .int a1), (2, .int v2)] [] := by
    intro K19 hK19 v2 σ1 h
    unfold fb_X4_fillWithZeros_19 at h
    refine j_iload_n hF 2 dX4_fillWithZeros_19 rfl ?_
    refine j_aload_n hF 0 dX4_fillWithZeros_20 rfl ?_
    refine gf_X4_7 hF ho dX4_fillWithZeros_21 ?_
    refine j_icmp_ge hF (tgt := 40) dX4_fillWithZeros_24 (by decide) (fun c6 => ?_) (fun c6 => ?_)
    · replace h := bzIfT h c6
      exact j_vret hF hG dX4_fillWithZeros_40 (Option.some.inj h)
    · replace h := bzIfF h c6
      refine j_aload_n hF 0 dX4_fillWithZeros_27 rfl ?_
      refine gf_X4_19 hF ho dX4_fillWithZeros_28 ?_
      refine j_iload_n hF 2 dX4_fillWithZeros_31 rfl ?_
      refine j_iconst hF (v := 0) dX4_fillWithZeros_32 (by decide) ?_
      obtain ⟨g7, h⟩ := bzGdE h
      refine j_iast hF (c := v2.toNatClampNeg) (kl_4_0 ho) rfl g7 rfl dX4_fillWithZeros_33 ?_
      refine j_s (fun σ8 eσ8 => ?_)
      replace h := bzLetE h eσ8
      obtain ⟨x9, ex9⟩ : ∃ y : Int32, y = v2 + 1 := ⟨_, rfl⟩
      replace h := bzLetE h ex9
      refine j_iinc hF (v := x9) (lv1 := [(2, .int x9), (0, .ref (ga g o)), (1, .int a1)]) 2 dX4_fillWithZeros_34 rfl (by rw [ex9]; rfl) (by decide) rfl ?_
      refine j_goto hF (tgt := 19) dX4_fillWithZeros_37 (by decide) ?_
      refine j_sub [1, 2, 0] rfl ?_
      exact hK19 x9 σ8 h
  have L19 : ∀ (n : Nat) (v2 : Int32) (σ1 : bzS), fl_X4_fillWithZeros_19   o a1 n v2 σ1 = some σ0 → bzJ g 3 x σ1 19 [(0, .ref (ga g o)), (1, .int a1), (2, .int v2)] [] := by
    intro  n
    induction n with
    | zero =>
      intro v2 σ1  h
      cases h
    | succ n ih =>
      intro v2 σ1  h
      exact J19  (fl_X4_fillWithZeros_19   o a1 n) ih v2 σ1  h
  refine j_aload_n hF 0 dX4_fillWithZeros_0 rfl ?_
  refine j_iconst hF (v := 0) dX4_fillWithZeros_1 (by decide) ?_
  refine j_iload_n hF 1 dX4_fillWithZeros_2 rfl ?_
  refine j_aload_n hF 0 dX4_fillWithZeros_3 rfl ?_
  refine gf_X4_19 hF ho dX4_fillWithZeros_4 ?_
  refine j_alen hF (Or.inl (kl_4_0 ho)) rfl (v := (Int32.ofNat ((ln (ly o 0))))) rfl dX4_fillWithZeros_7 ?_
  obtain ⟨x2, e1, h⟩ := bzBdE h
  refine cs_X4_27 hF (fun l => mt_J_min l e1) (by decide) (Nat.le_of_ble_eq_true rfl) dX4_fillWithZeros_8 ?_
  obtain ⟨x4, e3, h⟩ := bzBdE h
  refine cs_X4_13 hF (fun l => mt_J_max l e3) (by decide) (Nat.le_of_ble_eq_true rfl) dX4_fillWithZeros_11 ?_
  refine pf_X4_7 hF ho dX4_fillWithZeros_14 ?_
  refine j_s (fun σ5 eσ5 => ?_)
  replace h := bzLetE h eσ5
  refine j_iconst hF (v := 0) dX4_fillWithZeros_17 (by decide) ?_
  refine j_istore_n hF (lv1 := [(2, .int 0), (0, .ref (ga g o)), (1, .int a1)]) dX4_fillWithZeros_18 (by decide) rfl ?_
  refine j_sub [1, 2, 0] rfl ?_
  exact L19 2000 0 σ5 h
def f_X5_make (o : Nat) (a1 : Int32) (a2 : Int32) (σ : bzS) : Option bzS :=
  bzGd (kd o = 5) (bzLet (bzSt σ o 1 a1) (fun σ1 => bzBd (f_X4_fillWithZeros ((ly o 0)) a2 σ1) (fun σ3 => some σ3)))
set_option maxHeartbeats 4000000 in
set_option maxRecDepth 20000 in
theorem mt_X5_make {g : bzGeo} {o : Nat} {a1 : Int32} {a2 : Int32} {σ : bzS} {σ0 : bzS} (l : Launch) (h : f_X5_make  o a1 a2 σ = some σ0) : Met l yX5_make (Cond.code yX5_make cX5_make 3 none :: GW) (bzR (3)) (va_Pc [.ref (ga g o), .int a1, .int a2] (bzP g σ)) (va_Qv (fun (u : bzS) => u = σ0) (bzB g) (gA g)) 0 0 (gA g) := by
  unfold f_X5_make at h
  obtain ⟨ho, h⟩ := bzGdE h
  refine j_start l (by decide +kernel) [.ref (ga g o), .int a1, .int a2] [(0, .ref (ga g o)), (1, .int a1), (2, .int a2)] (Nat.le_of_ble_eq_true rfl) rfl (fun x hF hG => ?_)
  refine j_aload_n hF 0 dX5_make_0 rfl ?_
  refine j_iload_n hF 1 dX5_make_1 rfl ?_
  refine pf_X5_20 hF ho dX5_make_2 ?_
  refine j_s (fun σ1 eσ1 => ?_)
  replace h := bzLetE h eσ1
  refine j_aload_n hF 0 dX5_make_5 rfl ?_
  refine gf_X5_14 hF ho dX5_make_6 ?_
  refine j_iload_n hF 2 dX5_make_9 rfl ?_
  obtain ⟨σ3, e2, h⟩ := bzBdE h
  refine cs_X5_24 hF (kl_5_0 ho) (fun l => mt_X4_fillWithZeros l e2) (by decide) (Nat.le_of_ble_eq_true rfl) dX5_make_10 ?_
  exact j_vret hF hG dX5_make_13 (Option.some.inj h)
def fb_X9_sheet_41 (o : Nat) (a1 : Int32) (a2 : Int32) (a3 : Int32) (v4 : Nat) (σ1 : bzS) : Option (Int32 × bzS) :=
  if a2 = 0 then (if a2 = 0 then (bzBd (f_X5_make v4 a2 0 σ1) (fun σ16 => some (1, σ16))) else (bzBd (f_X5_make v4 a2 a3 σ1) (fun σ14 => some (1, σ14)))) else (if a3 ≤ 40 then (if a2 = 0 then (bzBd (f_X5_make v4 a2 0 σ1) (fun σ22 => some (1, σ22))) else (bzBd (f_X5_make v4 a2 a3 σ1) (fun σ20 => some (1, σ20)))) else (bzBp (f_X9_fails o ((-1000000001)) σ1) (fun x24 σ25 => some (x24, σ25))))
def f_X9_sheet (o : Nat) (a1 : Int32) (a2 : Int32) (a3 : Int32) (σ : bzS) : Option (Int32 × bzS) :=
  bzGd (kd o = 9) (bzBd (f_X9_sheetOf o a1 σ) (fun x2 => bzOp x2 (bzBp (f_X9_fails o ((-1000000001)) σ) (fun x5 σ6 => some (x5, σ6))) (fun k3 => bzGd (kd k3 = 5) (bzBd (f_X5_areBits a2) (fun x8 => if x8 = 0 then (bzBp (f_X9_fails o ((-1000000001)) σ) (fun x31 σ32 => some (x31, σ32))) else (if a2 = 0 then (fb_X9_sheet_41 o a1 a2 a3 k3 σ) else (if 0 ≤ a3 then (fb_X9_sheet_41 o a1 a2 a3 k3 σ) else (bzBp (f_X9_fails o ((-1000000003)) σ) (fun x28 σ29 => some (x28, σ29))))))))))
set_option maxHeartbeats 4000000 in
set_option maxRecDepth 20000 in
theorem mt_X9_sheet {g : bzGeo} {o : Nat} {a1 : Int32} {a2 : Int32} {a3 : Int32} {σ : bzS} {r0 : Int32} {σ0 : bzS} (l : Launch) (h : f_X9_sheet  o a1 a2 a3 σ = some (r0, σ0)) : Met l yX9_sheet (Cond.code yX9_sheet cX9_sheet 5 (some .int) :: GW) (bzR (4)) (va_Pc [.ref (ga g o), .int a1, .int a2, .int a3] (bzP g σ)) (va_Qi (fun (r : Int32) (u : bzS) => r = r0 ∧ u = σ0) (bzB g) (gA g)) 0 0 (gA g) := by
  unfold f_X9_sheet at h
  obtain ⟨ho, h⟩ := bzGdE h
  refine j_start l (by decide +kernel) [.ref (ga g o), .int a1, .int a2, .int a3] [(0, .ref (ga g o)), (1, .int a1), (2, .int a2), (3, .int a3)] (Nat.le_of_ble_eq_true rfl) rfl (fun x hF hG => ?_)
  have J41 : ∀ (v4 : Nat) (σ1 : bzS), (h_v4 : kd v4 = 5) → fb_X9_sheet_41 o a1 a2 a3 v4 σ1 = some (r0, σ0) → bzJ g 5 x σ1 41 [(0, .ref (ga g o)), (1, .int a1), (2, .int a2), (3, .int a3), (4, .ref (ga g v4))] [] := by
    intro v4 σ1 h_v4 h
    unfold fb_X9_sheet_41 at h
    refine j_iload_n hF 2 dX9_sheet_41 rfl ?_
    refine j_if_eq hF (tgt := 58) dX9_sheet_42 (by decide) (fun c11 => ?_) (fun c11 => ?_)
    · replace h := bzIfT h c11
      refine j_aload hF 4 dX9_sheet_58 rfl ?_
      refine j_iload_n hF 2 dX9_sheet_60 rfl ?_
      refine j_iload_n hF 2 dX9_sheet_61 rfl ?_
      refine j_if_ne hF (tgt := 69) dX9_sheet_62 (by decide) (fun c12 => ?_) (fun c12 => ?_)
      · replace h := bzIfF h c12
        refine j_iload_n hF 3 dX9_sheet_69 rfl ?_
        obtain ⟨σ14, e13, h⟩ := bzBdE h
        refine cs_X9_281 hF h_v4 (fun l => mt_X5_make l e13) (by decide) (Nat.le_of_ble_eq_true rfl) dX9_sheet_70 ?_
        refine j_iconst hF (v := 1) dX9_sheet_73 (by decide) ?_
        exact j_iret hF hG dX9_sheet_74 (bzRet h).1 (bzRet h).2
      · replace h := bzIfT h c12
        refine j_iconst hF (v := 0) dX9_sheet_65 (by decide) ?_
        refine j_goto hF (tgt := 70) dX9_sheet_66 (by decide) ?_
        obtain ⟨σ16, e15, h⟩ := bzBdE h
        refine cs_X9_281 hF h_v4 (fun l => mt_X5_make l e15) (by decide) (Nat.le_of_ble_eq_true rfl) dX9_sheet_70 ?_
        refine j_iconst hF (v := 1) dX9_sheet_73 (by decide) ?_
        exact j_iret hF hG dX9_sheet_74 (bzRet h).1 (bzRet h).2
    · replace h := bzIfF h c11
      refine j_iload_n hF 3 dX9_sheet_45 rfl ?_
      refine j_bipush hF (v := 40) dX9_sheet_46 (by decide) ?_
      refine j_icmp_le hF (tgt := 58) dX9_sheet_48 (by decide) (fun c17 => ?_) (fun c17 => ?_)
      · replace h := bzIfT h c17
        refine j_aload hF 4 dX9_sheet_58 rfl ?_
        refine j_iload_n hF 2 dX9_sheet_60 rfl ?_
        refine j_iload_n hF 2 dX9_sheet_61 rfl ?_
        refine j_if_ne hF (tgt := 69) dX9_sheet_62 (by decide) (fun c18 => ?_) (fun c18 => ?_)
        · replace h := bzIfF h c18
          refine j_iload_n hF 3 dX9_sheet_69 rfl ?_
          obtain ⟨σ20, e19, h⟩ := bzBdE h
          refine cs_X9_281 hF h_v4 (fun l => mt_X5_make l e19) (by decide) (Nat.le_of_ble_eq_true rfl) dX9_sheet_70 ?_
          refine j_iconst hF (v := 1) dX9_sheet_73 (by decide) ?_
          exact j_iret hF hG dX9_sheet_74 (bzRet h).1 (bzRet h).2
        · replace h := bzIfT h c18
          refine j_iconst hF (v := 0) dX9_sheet_65 (by decide) ?_
          refine j_goto hF (tgt := 70) dX9_sheet_66 (by decide) ?_
          obtain ⟨σ22, e21, h⟩ := bzBdE h
          refine cs_X9_281 hF h_v4 (fun l => mt_X5_make l e21) (by decide) (Nat.le_of_ble_eq_true rfl) dX9_sheet_70 ?_
          refine j_iconst hF (v := 1) dX9_sheet_73 (by decide) ?_
          exact j_iret hF hG dX9_sheet_74 (bzRet h).1 (bzRet h).2
      · replace h := bzIfF h c17
        refine j_aload_n hF 0 dX9_sheet_51 rfl ?_
        refine j_ldc hF (v := (-1000000001)) kc_X9_70 dX9_sheet_52 ?_
        obtain ⟨x24, σ25, e23, h⟩ := bzBpE h
        refine cs_X9_71 hF ho (fun l => mt_X9_fails l e23) (by decide) (Nat.le_of_ble_eq_true rfl) dX9_sheet_54 ?_
        exact j_iret hF hG dX9_sheet_57 (bzRet h).1 (bzRet h).2
  refine j_aload_n hF 0 dX9_sheet_0 rfl ?_
  refine j_iload_n hF 1 dX9_sheet_1 rfl ?_
  obtain ⟨x2, e1, h⟩ := bzBdE h
  refine cs_X9_219 hF ho (fun l => mt_X9_sheetOf l e1) (by decide) (Nat.le_of_ble_eq_true rfl) dX9_sheet_2 ?_
  cases x2 with
  | none =>
    replace h := bzOpN h
    refine j_nul ?_
    refine j_astoreN hF (lv1 := [(4, .null), (0, .ref (ga g o)), (1, .int a1), (2, .int a2), (3, .int a3)]) dX9_sheet_5 (by decide) rfl ?_
    refine j_aloadN hF 0 dX9_sheet_7 rfl ?_
    refine j_ifnullN hF (tgt := 19) dX9_sheet_9 (by decide) ?_
    refine j_aload_n hF 1 dX9_sheet_19 rfl ?_
    refine j_ldc hF (v := (-1000000001)) kc_X9_70 dX9_sheet_20 ?_
    obtain ⟨x5, σ6, e4, h⟩ := bzBpE h
    refine cs_X9_71 hF ho (fun l => mt_X9_fails l e4) (by decide) (Nat.le_of_ble_eq_true rfl) dX9_sheet_22 ?_
    exact j_iret hF hG dX9_sheet_25  (bzRet h).1 (bzRet h).2
  | some k3 =>
    obtain ⟨h_k3, h⟩ := bzGdE (bzOpS h)
    refine j_som ?_
    refine j_astore hF (lv1 := [(4, .ref (ga g k3)), (0, .ref (ga g o)), (1, .int a1), (2, .int a2), (3, .int a3)]) dX9_sheet_5 (by decide) rfl ?_
    refine j_aload hF 0 dX9_sheet_7 rfl ?_
    refine j_ifnull hF dX9_sheet_9 ?_
    refine j_iload_n hF 3 dX9_sheet_12 rfl ?_
    obtain ⟨x8, e7, h⟩ := bzBdE h
    refine cs_X9_278 hF (fun l => mt_X5_areBits l e7) (by decide) (Nat.le_of_ble_eq_true rfl) dX9_sheet_13 ?_
    refine j_if_ne hF (tgt := 26) dX9_sheet_16 (by decide) (fun c9 => ?_) (fun c9 => ?_)
    · replace h := bzIfF h c9
      refine j_iload_n hF 3 dX9_sheet_26 rfl ?_
      refine j_if_eq hF (tgt := 41) dX9_sheet_27 (by decide) (fun c10 => ?_) (fun c10 => ?_)
      · replace h := bzIfT h c10
        refine j_sub [1, 2, 3, 4, 0] rfl ?_
        exact J41 k3 σ h_k3 h
      · replace h := bzIfF h c10
        refine j_iload_n hF 4 dX9_sheet_30 rfl ?_
        refine j_if_ge hF (tgt := 41) dX9_sheet_31 (by decide) (fun c26 => ?_) (fun c26 => ?_)
        · replace h := bzIfT h c26
          refine j_sub [1, 2, 3, 4, 0] rfl ?_
          exact J41 k3 σ h_k3 h
        · replace h := bzIfF h c26
          refine j_aload_n hF 1 dX9_sheet_34 rfl ?_
          refine j_ldc hF (v := (-1000000003)) kc_X9_198 dX9_sheet_35 ?_
          obtain ⟨x28, σ29, e27, h⟩ := bzBpE h
          refine cs_X9_71 hF ho (fun l => mt_X9_fails l e27) (by decide) (Nat.le_of_ble_eq_true rfl) dX9_sheet_37 ?_
          exact j_iret hF hG dX9_sheet_40  (bzRet h).1 (bzRet h).2
    · replace h := bzIfT h c9
      refine j_aload_n hF 1 dX9_sheet_19 rfl ?_
      refine j_ldc hF (v := (-1000000001)) kc_X9_70 dX9_sheet_20 ?_
      obtain ⟨x31, σ32, e30, h⟩ := bzBpE h
      refine cs_X9_71 hF ho (fun l => mt_X9_fails l e30) (by decide) (Nat.le_of_ble_eq_true rfl) dX9_sheet_22 ?_
      exact j_iret hF hG dX9_sheet_25  (bzRet h).1 (bzRet h).2
def f_X4_write (o : Nat) (a1 : Int32) (a2 : Int32) (σ : bzS) : Option bzS :=
  bzGd (kd o = 4) (bzBd (f_X4_has o a1 σ) (fun x2 => if x2 = 0 then (some σ) else (bzGd (bzIn a1 (ln (ly o 0))) (bzLet (bzSt σ (ly o 0) a1.toNatClampNeg a2) (fun σ5 => some σ5)))))
set_option maxHeartbeats 4000000 in
set_option maxRecDepth 20000 in
theorem mt_X4_write {g : bzGeo} {o : Nat} {a1 : Int32} {a2 : Int32} {σ : bzS} {σ0 : bzS} (l : Launch) (h : f_X4_write  o a1 a2 σ = some σ0) : Met l yX4_write (Cond.code yX4_write cX4_write 3 none :: GW) (bzR (2)) (va_Pc [.ref (ga g o), .int a1, .int a2] (bzP g σ)) (va_Qv (fun (u : bzS) => u = σ0) (bzB g) (gA g)) 0 0 (gA g) := by
  unfold f_X4_write at h
  obtain ⟨ho, h⟩ := bzGdE h
  refine j_start l (by decide +kernel) [.ref (ga g o), .int a1, .int a2] [(0, .ref (ga g o)), (1, .int a1), (2, .int a2)] (Nat.le_of_ble_eq_true rfl) rfl (fun x hF hG => ?_)
  refine j_aload_n hF 0 dX4_write_0 rfl ?_
  refine j_iload_n hF 1 dX4_write_1 rfl ?_
  obtain ⟨x2, e1, h⟩ := bzBdE h
  refine cs_X4_23 hF ho (fun l => mt_X4_has l e1) (by decide) (Nat.le_of_ble_eq_true rfl) dX4_write_2 ?_
  refine j_if_eq hF (tgt := 15) dX4_write_5 (by decide) (fun c3 => ?_) (fun c3 => ?_)
  · replace h := bzIfT h c3
    exact j_vret hF hG dX4_write_15 (Option.some.inj h)
  · replace h := bzIfF h c3
    refine j_aload_n hF 0 dX4_write_8 rfl ?_
    refine gf_X4_19 hF ho dX4_write_9 ?_
    refine j_iload_n hF 1 dX4_write_12 rfl ?_
    refine j_iload_n hF 2 dX4_write_13 rfl ?_
    obtain ⟨g4, h⟩ := bzGdE h
    refine j_iast hF (c := a1.toNatClampNeg) (kl_4_0 ho) rfl g4 rfl dX4_write_14 ?_
    refine j_s (fun σ5 eσ5 => ?_)
    replace h := bzLetE h eσ5
    exact j_vret hF hG dX4_write_15 (Option.some.inj h)
def f_X5_write (o : Nat) (a1 : Int32) (a2 : Int32) (σ : bzS) : Option bzS :=
  bzGd (kd o = 5) (if (σ o 1) = 8 then (bzBd (f_X4_write ((ly o 0)) a1 a2.toInt8.toInt32 σ) (fun σ8 => some σ8)) else (if (σ o 1) = 16 then (bzBd (f_X4_write ((ly o 0)) a1 a2.toInt16.toInt32 σ) (fun σ6 => some σ6)) else (bzBd (f_X4_write ((ly o 0)) a1 a2 σ) (fun σ4 => some σ4))))
set_option maxHeartbeats 4000000 in
set_option maxRecDepth 20000 in
theorem mt_X5_write {g : bzGeo} {o : Nat} {a1 : Int32} {a2 : Int32} {σ : bzS} {σ0 : bzS} (l : Launch) (h : f_X5_write  o a1 a2 σ = some σ0) : Met l yX5_write (Cond.code yX5_write cX5_write 3 none :: GW) (bzR (3)) (va_Pc [.ref (ga g o), .int a1, .int a2] (bzP g σ)) (va_Qv (fun (u : bzS) => u = σ0) (bzB g) (gA g)) 0 0 (gA g) := by
  unfold f_X5_write at h
  obtain ⟨ho, h⟩ := bzGdE h
  refine j_start l (by decide +kernel) [.ref (ga g o), .int a1, .int a2] [(0, .ref (ga g o)), (1, .int a1), (2, .int a2)] (Nat.le_of_ble_eq_true rfl) rfl (fun x hF hG => ?_)
  refine j_aload_n hF 0 dX5_write_0 rfl ?_
  refine gf_X5_14 hF ho dX5_write_1 ?_
  refine j_iload_n hF 1 dX5_write_4 rfl ?_
  refine j_aload_n hF 0 dX5_write_5 rfl ?_
  refine gf_X5_20 hF ho dX5_write_6 ?_
  refine j_bipush hF (v := 8) dX5_write_9 (by decide) ?_
  refine j_icmp_ne hF (tgt := 19) dX5_write_11 (by decide) (fun c1 => ?_) (fun c1 => ?_)
  · replace h := bzIfF h c1
    refine j_aload_n hF 0 dX5_write_19 rfl ?_
    refine gf_X5_20 hF ho dX5_write_20 ?_
    refine j_bipush hF (v := 16) dX5_write_23 (by decide) ?_
    refine j_icmp_ne hF (tgt := 33) dX5_write_25 (by decide) (fun c2 => ?_) (fun c2 => ?_)
    · replace h := bzIfF h c2
      refine j_iload_n hF 2 dX5_write_33 rfl ?_
      obtain ⟨σ4, e3, h⟩ := bzBdE h
      refine cs_X5_27 hF (kl_5_0 ho) (fun l => mt_X4_write l e3) (by decide) (Nat.le_of_ble_eq_true rfl) dX5_write_34 ?_
      exact j_vret hF hG dX5_write_37 (Option.some.inj h)
    · replace h := bzIfT h c2
      refine j_iload_n hF 2 dX5_write_28 rfl ?_
      refine j_i2s hF dX5_write_29 ?_
      refine j_goto hF (tgt := 34) dX5_write_30 (by decide) ?_
      obtain ⟨σ6, e5, h⟩ := bzBdE h
      refine cs_X5_27 hF (kl_5_0 ho) (fun l => mt_X4_write l e5) (by decide) (Nat.le_of_ble_eq_true rfl) dX5_write_34 ?_
      exact j_vret hF hG dX5_write_37 (Option.some.inj h)
  · replace h := bzIfT h c1
    refine j_iload_n hF 2 dX5_write_14 rfl ?_
    refine j_i2b hF dX5_write_15 ?_
    refine j_goto hF (tgt := 34) dX5_write_16 (by decide) ?_
    obtain ⟨σ8, e7, h⟩ := bzBdE h
    refine cs_X5_27 hF (kl_5_0 ho) (fun l => mt_X4_write l e7) (by decide) (Nat.le_of_ble_eq_true rfl) dX5_write_34 ?_
    exact j_vret hF hG dX5_write_37 (Option.some.inj h)
def f_X9_put (o : Nat) (a1 : Int32) (a2 : Int32) (a3 : Int32) (σ : bzS) : Option (Int32 × bzS) :=
  bzGd (kd o = 9) (bzBd (f_X9_sheetOf o a1 σ) (fun x2 => bzOp x2 (bzBp (f_X9_fails o ((-1000000001)) σ) (fun x5 σ6 => some (x5, σ6))) (fun k3 => bzGd (kd k3 = 5) (bzBd (f_X5_isMissing k3 σ) (fun x8 => if x8 = 0 then (bzBd (f_X4_has ((ly k3 0)) a2 σ) (fun x11 => if x11 = 0 then (bzBp (f_X9_fails o ((-1000000001)) σ) (fun x16 σ17 => some (x16, σ17))) else (bzBd (f_X5_write k3 a2 a3 σ) (fun σ14 => some (1, σ14))))) else (bzBp (f_X9_fails o ((-1000000002)) σ) (fun x19 σ20 => some (x19, σ20))))))))
set_option maxHeartbeats 4000000 in
set_option maxRecDepth 20000 in
theorem mt_X9_put {g : bzGeo} {o : Nat} {a1 : Int32} {a2 : Int32} {a3 : Int32} {σ : bzS} {r0 : Int32} {σ0 : bzS} (l : Launch) (h : f_X9_put  o a1 a2 a3 σ = some (r0, σ0)) : Met l yX9_put (Cond.code yX9_put cX9_put 5 (some .int) :: GW) (bzR (4)) (va_Pc [.ref (ga g o), .int a1, .int a2, .int a3] (bzP g σ)) (va_Qi (fun (r : Int32) (u : bzS) => r = r0 ∧ u = σ0) (bzB g) (gA g)) 0 0 (gA g) := by
  unfold f_X9_put at h
  obtain ⟨ho, h⟩ := bzGdE h
  refine j_start l (by decide +kernel) [.ref (ga g o), .int a1, .int a2, .int a3] [(0, .ref (ga g o)), (1, .int a1), (2, .int a2), (3, .int a3)] (Nat.le_of_ble_eq_true rfl) rfl (fun x hF hG => ?_)
  refine j_aload_n hF 0 dX9_put_0 rfl ?_
  refine j_iload_n hF 1 dX9_put_1 rfl ?_
  obtain ⟨x2, e1, h⟩ := bzBdE h
  refine cs_X9_219 hF ho (fun l => mt_X9_sheetOf l e1) (by decide) (Nat.le_of_ble_eq_true rfl) dX9_put_2 ?_
  cases x2 with
  | none =>
    replace h := bzOpN h
    refine j_nul ?_
    refine j_astoreN hF (lv1 := [(4, .null), (0, .ref (ga g o)), (1, .int a1), (2, .int a2), (3, .int a3)]) dX9_put_5 (by decide) rfl ?_
    refine j_aloadN hF 0 dX9_put_7 rfl ?_
    refine j_ifnonnullN hF dX9_put_9 ?_
    refine j_aload_n hF 1 dX9_put_12 rfl ?_
    refine j_ldc hF (v := (-1000000001)) kc_X9_70 dX9_put_13 ?_
    obtain ⟨x5, σ6, e4, h⟩ := bzBpE h
    refine cs_X9_71 hF ho (fun l => mt_X9_fails l e4) (by decide) (Nat.le_of_ble_eq_true rfl) dX9_put_15 ?_
    exact j_iret hF hG dX9_put_18  (bzRet h).1 (bzRet h).2
  | some k3 =>
    obtain ⟨h_k3, h⟩ := bzGdE (bzOpS h)
    refine j_som ?_
    refine j_astore hF (lv1 := [(4, .ref (ga g k3)), (0, .ref (ga g o)), (1, .int a1), (2, .int a2), (3, .int a3)]) dX9_put_5 (by decide) rfl ?_
    refine j_aload hF 0 dX9_put_7 rfl ?_
    refine j_ifnonnull hF (tgt := 19) dX9_put_9 (by decide) ?_
    refine j_aload hF 0 dX9_put_19 rfl ?_
    obtain ⟨x8, e7, h⟩ := bzBdE h
    refine cs_X9_223 hF h_k3 (fun l => mt_X5_isMissing l e7) (by decide) (Nat.le_of_ble_eq_true rfl) dX9_put_21 ?_
    refine j_if_eq hF (tgt := 34) dX9_put_24 (by decide) (fun c9 => ?_) (fun c9 => ?_)
    · replace h := bzIfT h c9
      refine j_aload hF 0 dX9_put_34 rfl ?_
      refine gf_X9_227 hF h_k3 dX9_put_36 ?_
      refine j_iload_n hF 3 dX9_put_39 rfl ?_
      obtain ⟨x11, e10, h⟩ := bzBdE h
      refine cs_X9_274 hF (kl_5_0 h_k3) (fun l => mt_X4_has l e10) (by decide) (Nat.le_of_ble_eq_true rfl) dX9_put_40 ?_
      refine j_if_ne hF (tgt := 53) dX9_put_43 (by decide) (fun c12 => ?_) (fun c12 => ?_)
      · replace h := bzIfF h c12
        refine j_aload hF 0 dX9_put_53 rfl ?_
        refine j_iload_n hF 3 dX9_put_55 rfl ?_
        refine j_iload_n hF 4 dX9_put_56 rfl ?_
        obtain ⟨σ14, e13, h⟩ := bzBdE h
        refine cs_X9_284 hF h_k3 (fun l => mt_X5_write l e13) (by decide) (Nat.le_of_ble_eq_true rfl) dX9_put_57 ?_
        refine j_iconst hF (v := 1) dX9_put_60 (by decide) ?_
        exact j_iret hF hG dX9_put_61  (bzRet h).1 (bzRet h).2
      · replace h := bzIfT h c12
        refine j_aload_n hF 1 dX9_put_46 rfl ?_
        refine j_ldc hF (v := (-1000000001)) kc_X9_70 dX9_put_47 ?_
        obtain ⟨x16, σ17, e15, h⟩ := bzBpE h
        refine cs_X9_71 hF ho (fun l => mt_X9_fails l e15) (by decide) (Nat.le_of_ble_eq_true rfl) dX9_put_49 ?_
        exact j_iret hF hG dX9_put_52  (bzRet h).1 (bzRet h).2
    · replace h := bzIfF h c9
      refine j_aload_n hF 1 dX9_put_27 rfl ?_
      refine j_ldc hF (v := (-1000000002)) kc_X9_214 dX9_put_28 ?_
      obtain ⟨x19, σ20, e18, h⟩ := bzBpE h
      refine cs_X9_71 hF ho (fun l => mt_X9_fails l e18) (by decide) (Nat.le_of_ble_eq_true rfl) dX9_put_30 ?_
      exact j_iret hF hG dX9_put_33  (bzRet h).1 (bzRet h).2
def f_X9_move (o : Nat) (a1 : Int32) (a2 : Int32) (a3 : Int32) (a4 : Int32) (a5 : Int32) (σ : bzS) : Option (Int32 × bzS) :=
  bzGd (kd o = 9) (bzBd (f_X9_sheetOf o a1 σ) (fun x2 => bzOp x2 (bzBd (f_X9_sheetOf o a3 σ) (fun x5 => bzOp x5 (bzBp (f_X9_fails o ((-1000000001)) σ) (fun x8 σ9 => some (x8, σ9))) (fun k6 => bzGd (kd k6 = 5) (bzBp (f_X9_fails o ((-1000000001)) σ) (fun x11 σ12 => some (x11, σ12)))))) (fun k3 => bzGd (kd k3 = 5) (bzBd (f_X9_sheetOf o a3 σ) (fun x14 => bzOp x14 (bzBp (f_X9_fails o ((-1000000001)) σ) (fun x17 σ18 => some (x17, σ18))) (fun k15 => bzGd (kd k15 = 5) (bzBd (f_X5_isMissing k3 σ) (fun x20 => if x20 = 0 then (bzBd (f_X5_isMissing k15 σ) (fun x26 => if x26 = 0 then (if (σ k3 1) = (σ k15 1) then (bzBd (f_X4_hasRun ((ly k3 0)) a2 a5 σ) (fun x30 => if x30 = 0 then (bzBp (f_X9_fails o ((-1000000001)) σ) (fun x33 σ34 => some (x33, σ34))) else (bzBd (f_X4_hasRun ((ly k15 0)) a4 a5 σ) (fun x36 => if x36 = 0 then (bzBp (f_X9_fails o ((-1000000001)) σ) (fun x41 σ42 => some (x41, σ42))) else (bzBd (f_X4_takeRun ((ly k15 0)) ((ly k3 0)) a2 a4 a5 σ) (fun σ39 => some (a5, σ39))))))) else (bzBp (f_X9_fails o ((-1000000005)) σ) (fun x44 σ45 => some (x44, σ45)))) else (bzBp (f_X9_fails o ((-1000000002)) σ) (fun x47 σ48 => some (x47, σ48))))) else (bzBp (f_X9_fails o ((-1000000002)) σ) (fun x23 σ24 => some (x23, σ24)))))))))))
set_option maxHeartbeats 4000000 in
set_option maxRecDepth 20000 in
theorem mt_X9_move {g : bzGeo} {o : Nat} {a1 : Int32} {a2 : Int32} {a3 : Int32} {a4 : Int32} {a5 : Int32} {σ : bzS} {r0 : Int32} {σ0 : bzS} (l : Launch) (h : f_X9_move  o a1 a2 a3 a4 a5 σ = some (r0, σ0)) : Met l yX9_move (Cond.code yX9_move cX9_move 8 (some .int) :: GW) (bzR (3)) (va_Pc [.ref (ga g o), .int a1, .int a2, .int a3, .int a4, .int a5] (bzP g σ)) (va_Qi (fun (r : Int32) (u : bzS) => r = r0 ∧ u = σ0) (bzB g) (gA g)) 0 0 (gA g) := by
  unfold f_X9_move at h
  obtain ⟨ho, h⟩ := bzGdE h
  refine j_start l (by decide +kernel) [.ref (ga g o), .int a1, .int a2, .int a3, .int a4, .int a5] [(0, .ref (ga g o)), (1, .int a1), (2, .int a2), (3, .int a3), (4, .int a4), (5, .int a5)] (Nat.le_of_ble_eq_true rfl) rfl (fun x hF hG => ?_)
  refine j_aload_n hF 0 dX9_move_0 rfl ?_
  refine j_iload_n hF 1 dX9_move_1 rfl ?_
  obtain ⟨x2, e1, h⟩ := bzBdE h
  refine cs_X9_219 hF ho (fun l => mt_X9_sheetOf l e1) (by decide) (Nat.le_of_ble_eq_true rfl) dX9_move_2 ?_
  cases x2 with
  | none =>
    replace h := bzOpN h
    refine j_nul ?_
    refine j_astoreN hF (lv1 := [(6, .null), (0, .ref (ga g o)), (1, .int a1), (2, .int a2), (3, .int a3), (4, .int a4), (5, .int a5)]) dX9_move_5 (by decide) rfl ?_
    refine j_aload_n hF 1 dX9_move_7 rfl ?_
    refine j_iload_n hF 4 dX9_move_8 rfl ?_
    obtain ⟨x5, e4, h⟩ := bzBdE h
    refine cs_X9_219 hF ho (fun l => mt_X9_sheetOf l e4) (by decide) (Nat.le_of_ble_eq_true rfl) dX9_move_9 ?_
    cases x5 with
    | none =>
      replace h := bzOpN h
      refine j_nul ?_
      refine j_astoreN hF (lv1 := [(7, .null), (6, .null), (0, .ref (ga g o)), (1, .int a1), (2, .int a2), (3, .int a3), (4, .int a4), (5, .int a5)]) dX9_move_12 (by decide) rfl ?_
      refine j_aloadN hF 1 dX9_move_14 rfl ?_
      refine j_ifnullN hF (tgt := 24) dX9_move_16 (by decide) ?_
      refine j_aload_n hF 2 dX9_move_24 rfl ?_
      refine j_ldc hF (v := (-1000000001)) kc_X9_70 dX9_move_25 ?_
      obtain ⟨x8, σ9, e7, h⟩ := bzBpE h
      refine cs_X9_71 hF ho (fun l => mt_X9_fails l e7) (by decide) (Nat.le_of_ble_eq_true rfl) dX9_move_27 ?_
      exact j_iret hF hG dX9_move_30  (bzRet h).1 (bzRet h).2
    | some k6 =>
      obtain ⟨h_k6, h⟩ := bzGdE (bzOpS h)
      refine j_som ?_
      refine j_astore hF (lv1 := [(7, .ref (ga g k6)), (6, .null), (0, .ref (ga g o)), (1, .int a1), (2, .int a2), (3, .int a3), (4, .int a4), (5, .int a5)]) dX9_move_12 (by decide) rfl ?_
      refine j_aloadN hF 1 dX9_move_14 rfl ?_
      refine j_ifnullN hF (tgt := 24) dX9_move_16 (by decide) ?_
      refine j_aload_n hF 2 dX9_move_24 rfl ?_
      refine j_ldc hF (v := (-1000000001)) kc_X9_70 dX9_move_25 ?_
      obtain ⟨x11, σ12, e10, h⟩ := bzBpE h
      refine cs_X9_71 hF ho (fun l => mt_X9_fails l e10) (by decide) (Nat.le_of_ble_eq_true rfl) dX9_move_27 ?_
      exact j_iret hF hG dX9_move_30  (bzRet h).1 (bzRet h).2
  | some k3 =>
    obtain ⟨h_k3, h⟩ := bzGdE (bzOpS h)
    refine j_som ?_
    refine j_astore hF (lv1 := [(6, .ref (ga g k3)), (0, .ref (ga g o)), (1, .int a1), (2, .int a2), (3, .int a3), (4, .int a4), (5, .int a5)]) dX9_move_5 (by decide) rfl ?_
    refine j_aload_n hF 1 dX9_move_7 rfl ?_
    refine j_iload_n hF 4 dX9_move_8 rfl ?_
    obtain ⟨x14, e13, h⟩ := bzBdE h
    refine cs_X9_219 hF ho (fun l => mt_X9_sheetOf l e13) (by decide) (Nat.le_of_ble_eq_true rfl) dX9_move_9 ?_
    cases x14 with
    | none =>
      replace h := bzOpN h
      refine j_nul ?_
      refine j_astoreN hF (lv1 := [(7, .null), (6, .ref (ga g k3)), (0, .ref (ga g o)), (1, .int a1), (2, .int a2), (3, .int a3), (4, .int a4), (5, .int a5)]) dX9_move_12 (by decide) rfl ?_
      refine j_aload hF 1 dX9_move_14 rfl ?_
      refine j_ifnull hF dX9_move_16 ?_
      refine j_aloadN hF 0 dX9_move_19 rfl ?_
      refine j_ifnonnullN hF dX9_move_21 ?_
      refine j_aload_n hF 2 dX9_move_24 rfl ?_
      refine j_ldc hF (v := (-1000000001)) kc_X9_70 dX9_move_25 ?_
      obtain ⟨x17, σ18, e16, h⟩ := bzBpE h
      refine cs_X9_71 hF ho (fun l => mt_X9_fails l e16) (by decide) (Nat.le_of_ble_eq_true rfl) dX9_move_27 ?_
      exact j_iret hF hG dX9_move_30  (bzRet h).1 (bzRet h).2
    | some k15 =>
      obtain ⟨h_k15, h⟩ := bzGdE (bzOpS h)
      refine j_som ?_
      refine j_astore hF (lv1 := [(7, .ref (ga g k15)), (6, .ref (ga g k3)), (0, .ref (ga g o)), (1, .int a1), (2, .int a2), (3, .int a3), (4, .int a4), (5, .int a5)]) dX9_move_12 (by decide) rfl ?_
      refine j_aload hF 1 dX9_move_14 rfl ?_
      refine j_ifnull hF dX9_move_16 ?_
      refine j_aload hF 0 dX9_move_19 rfl ?_
      refine j_ifnonnull hF (tgt := 31) dX9_move_21 (by decide) ?_
      refine j_aload hF 1 dX9_move_31 rfl ?_
      obtain ⟨x20, e19, h⟩ := bzBdE h
      refine cs_X9_223 hF h_k3 (fun l => mt_X5_isMissing l e19) (by decide) (Nat.le_of_ble_eq_true rfl) dX9_move_33 ?_
      refine j_if_ne hF (tgt := 47) dX9_move_36 (by decide) (fun c21 => ?_) (fun c21 => ?_)
      · replace h := bzIfF h c21
        refine j_aload_n hF 2 dX9_move_47 rfl ?_
        refine j_ldc hF (v := (-1000000002)) kc_X9_214 dX9_move_48 ?_
        obtain ⟨x23, σ24, e22, h⟩ := bzBpE h
        refine cs_X9_71 hF ho (fun l => mt_X9_fails l e22) (by decide) (Nat.le_of_ble_eq_true rfl) dX9_move_50 ?_
        exact j_iret hF hG dX9_move_53  (bzRet h).1 (bzRet h).2
      · replace h := bzIfT h c21
        refine j_aload hF 0 dX9_move_39 rfl ?_
        obtain ⟨x26, e25, h⟩ := bzBdE h
        refine cs_X9_223 hF h_k15 (fun l => mt_X5_isMissing l e25) (by decide) (Nat.le_of_ble_eq_true rfl) dX9_move_41 ?_
        refine j_if_eq hF (tgt := 54) dX9_move_44 (by decide) (fun c27 => ?_) (fun c27 => ?_)
        · replace h := bzIfT h c27
          refine j_aload hF 1 dX9_move_54 rfl ?_
          refine gf_X9_287 hF h_k3 dX9_move_56 ?_
          refine j_aload hF 0 dX9_move_59 rfl ?_
          refine gf_X9_287 hF h_k15 dX9_move_61 ?_
          refine j_icmp_eq hF (tgt := 74) dX9_move_64 (by decide) (fun c28 => ?_) (fun c28 => ?_)
          · replace h := bzIfT h c28
            refine j_aload hF 1 dX9_move_74 rfl ?_
            refine gf_X9_227 hF h_k3 dX9_move_76 ?_
            refine j_iload_n hF 4 dX9_move_79 rfl ?_
            refine j_iload hF 7 dX9_move_80 rfl ?_
            obtain ⟨x30, e29, h⟩ := bzBdE h
            refine cs_X9_290 hF (kl_5_0 h_k3) (fun l => mt_X4_hasRun l e29) (by decide) (Nat.le_of_ble_eq_true rfl) dX9_move_82 ?_
            refine j_if_eq hF (tgt := 103) dX9_move_85 (by decide) (fun c31 => ?_) (fun c31 => ?_)
            · replace h := bzIfT h c31
              refine j_aload_n hF 2 dX9_move_103 rfl ?_
              refine j_ldc hF (v := (-1000000001)) kc_X9_70 dX9_move_104 ?_
              obtain ⟨x33, σ34, e32, h⟩ := bzBpE h
              refine cs_X9_71 hF ho (fun l => mt_X9_fails l e32) (by decide) (Nat.le_of_ble_eq_true rfl) dX9_move_106 ?_
              exact j_iret hF hG dX9_move_109  (bzRet h).1 (bzRet h).2
            · replace h := bzIfF h c31
              refine j_aload hF 0 dX9_move_88 rfl ?_
              refine gf_X9_227 hF h_k15 dX9_move_90 ?_
              refine j_iload hF 6 dX9_move_93 rfl ?_
              refine j_iload hF 7 dX9_move_95 rfl ?_
              obtain ⟨x36, e35, h⟩ := bzBdE h
              refine cs_X9_290 hF (kl_5_0 h_k15) (fun l => mt_X4_hasRun l e35) (by decide) (Nat.le_of_ble_eq_true rfl) dX9_move_97 ?_
              refine j_if_ne hF (tgt := 110) dX9_move_100 (by decide) (fun c37 => ?_) (fun c37 => ?_)
              · replace h := bzIfF h c37
                refine j_aload hF 0 dX9_move_110 rfl ?_
                refine gf_X9_227 hF h_k15 dX9_move_112 ?_
                refine j_aload hF 1 dX9_move_115 rfl ?_
                refine gf_X9_227 hF h_k3 dX9_move_117 ?_
                refine j_iload_n hF 4 dX9_move_120 rfl ?_
                refine j_iload hF 6 dX9_move_121 rfl ?_
                refine j_iload hF 7 dX9_move_123 rfl ?_
                obtain ⟨σ39, e38, h⟩ := bzBdE h
                refine cs_X9_293 hF (kl_5_0 h_k15) (fun l => mt_X4_takeRun l e38) (by decide) (Nat.le_of_ble_eq_true rfl) dX9_move_125 ?_
                refine j_iload hF 7 dX9_move_128 rfl ?_
                exact j_iret hF hG dX9_move_130  (bzRet h).1 (bzRet h).2
              · replace h := bzIfT h c37
                refine j_aload_n hF 2 dX9_move_103 rfl ?_
                refine j_ldc hF (v := (-1000000001)) kc_X9_70 dX9_move_104 ?_
                obtain ⟨x41, σ42, e40, h⟩ := bzBpE h
                refine cs_X9_71 hF ho (fun l => mt_X9_fails l e40) (by decide) (Nat.le_of_ble_eq_true rfl) dX9_move_106 ?_
                exact j_iret hF hG dX9_move_109  (bzRet h).1 (bzRet h).2
          · replace h := bzIfF h c28
            refine j_aload_n hF 2 dX9_move_67 rfl ?_
            refine j_ldc hF (v := (-1000000005)) kc_X9_159 dX9_move_68 ?_
            obtain ⟨x44, σ45, e43, h⟩ := bzBpE h
            refine cs_X9_71 hF ho (fun l => mt_X9_fails l e43) (by decide) (Nat.le_of_ble_eq_true rfl) dX9_move_70 ?_
            exact j_iret hF hG dX9_move_73  (bzRet h).1 (bzRet h).2
        · replace h := bzIfF h c27
          refine j_aload_n hF 2 dX9_move_47 rfl ?_
          refine j_ldc hF (v := (-1000000002)) kc_X9_214 dX9_move_48 ?_
          obtain ⟨x47, σ48, e46, h⟩ := bzBpE h
          refine cs_X9_71 hF ho (fun l => mt_X9_fails l e46) (by decide) (Nat.le_of_ble_eq_true rfl) dX9_move_50 ?_
          exact j_iret hF hG dX9_move_53  (bzRet h).1 (bzRet h).2
def fb_X1_takeTalls_12 (K12 : Int32 → Int32 → bzS → Option (Int32 × bzS)) (o : Nat) (a1 : Nat) (v2 : Int32) (v3 : Int32) (σ1 : bzS) : Option (Int32 × bzS) :=
  if v2 ≤ v3 then (some (v2, σ1)) else (bzBd (f_X4_at a1 v3 σ1) (fun x5 => bzBd (f_X9_within x5 0 9) (fun x7 => if x7 = 0 then (some (v3, σ1)) else (bzBd (f_X4_at a1 v3 σ1) (fun x10 => bzGd (bzIn v3 10) (bzLet (bzSt σ1 (ly o 0) v3.toNatClampNeg x10) (fun σ12 => bzLet (v3 + 1) (fun x13 => K12 v2 x13 σ12))))))))
def fl_X1_takeTalls_12 (o : Nat) (a1 : Nat) : Nat → Int32 → Int32 → bzS → Option (Int32 × bzS)
  | 0, _, _, _ => none
  | n + 1, v2, v3, σ1 => fb_X1_takeTalls_12   (fl_X1_takeTalls_12   o a1 n) o a1 v2 v3 σ1
def f_X1_takeTalls (o : Nat) (a1 : Nat) (σ : bzS) : Option (Int32 × bzS) :=
  bzGd (kd o = 1) (bzGd (kd a1 = 4) (bzBd (f_J_min ((σ a1 1)) 10) (fun x2 => fl_X1_takeTalls_12 o a1 2000 x2 0 σ)))
set_option maxHeartbeats 4000000 in
set_option maxRecDepth 20000 in
theorem mt_X1_takeTalls {g : bzGeo} {o : Nat} {a1 : Nat} {σ : bzS} {r0 : Int32} {σ0 : bzS} (l : Launch) (h : f_X1_takeTalls  o a1 σ = some (r0, σ0)) : Met l yX1_takeTalls (Cond.code yX1_takeTalls cX1_takeTalls 4 (some .int) :: GW) (bzR (2)) (va_Pc [.ref (ga g o), .ref (ga g a1)] (bzP g σ)) (va_Qi (fun (r : Int32) (u : bzS) => r = r0 ∧ u = σ0) (bzB g) (gA g)) 0 0 (gA g) := by
  unfold f_X1_takeTalls at h
  obtain ⟨ho, h⟩ := bzGdE h
  obtain ⟨h1, h⟩ := bzGdE h
  refine j_start l (by decide +kernel) [.ref (ga g o), .ref (ga g a1)] [(0, .ref (ga g o)), (1, .ref (ga g a1))] (Nat.le_of_ble_eq_true rfl) rfl (fun x hF hG => ?_)
  have J12 : (K12 : Int32 → Int32 → bzS → Option (Int32 × bzS)) → (hK12 : ∀ (v2 : Int32) (v3 : Int32) (σ1 : bzS), K12 v2 v3 σ1 = some (r0, σ0) → bzJ g 4 x σ1 12 [(0, .ref (ga g o)), (1, .ref (ga g a1)), (2, .int v2), (3, .int v3)] []) → ∀ (v2 : Int32) (v3 : Int32) (σ1 : bzS), fb_X1_takeTalls_12 K12 o a1 v2 v3 σ1 = some (r0, σ0) → bzJ g 4 x σ1 12 [(0, .ref (ga g o)), (1, .ref (ga g a1)), (2, .int v2), (3, .int v3)] [] := by
    intro K12 hK12 v2 v3 σ1 h
    unfold fb_X1_takeTalls_12 at h
    refine j_iload_n hF 3 dX1_takeTalls_12 rfl ?_
    refine j_iload_n hF 2 dX1_takeTalls_13 rfl ?_
    refine j_icmp_ge hF (tgt := 50) dX1_takeTalls_14 (by decide) (fun c3 => ?_) (fun c3 => ?_)
    · replace h := bzIfT h c3
      refine j_iload_n hF 2 dX1_takeTalls_50 rfl ?_
      exact j_iret hF hG dX1_takeTalls_51 (bzRet h).1 (bzRet h).2
    · replace h := bzIfF h c3
      refine j_aload_n hF 1 dX1_takeTalls_17 rfl ?_
      refine j_iload_n hF 3 dX1_takeTalls_18 rfl ?_
      obtain ⟨x5, e4, h⟩ := bzBdE h
      refine cs_X1_65 hF h1 (fun l => mt_X4_at l e4) (by decide) (Nat.le_of_ble_eq_true rfl) dX1_takeTalls_19 ?_
      refine j_iconst hF (v := 0) dX1_takeTalls_22 (by decide) ?_
      refine j_bipush hF (v := 9) dX1_takeTalls_23 (by decide) ?_
      obtain ⟨x7, e6, h⟩ := bzBdE h
      refine cs_X1_68 hF (fun l => mt_X9_within l e6) (by decide) (Nat.le_of_ble_eq_true rfl) dX1_takeTalls_25 ?_
      refine j_if_ne hF (tgt := 33) dX1_takeTalls_28 (by decide) (fun c8 => ?_) (fun c8 => ?_)
      · replace h := bzIfF h c8
        refine j_aload_n hF 0 dX1_takeTalls_33 rfl ?_
        refine gf_X1_7 hF ho dX1_takeTalls_34 ?_
        refine j_iload_n hF 3 dX1_takeTalls_37 rfl ?_
        refine j_aload_n hF 1 dX1_takeTalls_38 rfl ?_
        refine j_iload_n hF 3 dX1_takeTalls_39 rfl ?_
        obtain ⟨x10, e9, h⟩ := bzBdE h
        refine cs_X1_65 hF h1 (fun l => mt_X4_at l e9) (by decide) (Nat.le_of_ble_eq_true rfl) dX1_takeTalls_40 ?_
        obtain ⟨g11, h⟩ := bzGdE h
        refine j_iast hF (c := v3.toNatClampNeg) (kl_1_0 ho) (nl_1_0 ho) g11 rfl dX1_takeTalls_43 ?_
        refine j_s (fun σ12 eσ12 => ?_)
        replace h := bzLetE h eσ12
        obtain ⟨x13, ex13⟩ : ∃ y : Int32, y = v3 + 1 := ⟨_, rfl⟩
        replace h := bzLetE h ex13
        refine j_iinc hF (v := x13) (lv1 := [(3, .int x13), (0, .ref (ga g o)), (1, .ref (ga g a1)), (2, .int v2)]) 3 dX1_takeTalls_44 rfl (by rw [ex13]; rfl) (by decide) rfl ?_
        refine j_goto hF (tgt := 12) dX1_takeTalls_47 (by decide) ?_
        refine j_sub [1, 2, 3, 0] rfl ?_
        exact hK12 v2 x13 σ12 h
      · replace h := bzIfT h c8
        refine j_iload_n hF 3 dX1_takeTalls_31 rfl ?_
        exact j_iret hF hG dX1_takeTalls_32 (bzRet h).1 (bzRet h).2
  have L12 : ∀ (n : Nat) (v2 : Int32) (v3 : Int32) (σ1 : bzS), fl_X1_takeTalls_12   o a1 n v2 v3 σ1 = some (r0, σ0) → bzJ g 4 x σ1 12 [(0, .ref (ga g o)), (1, .ref (ga g a1)), (2, .int v2), (3, .int v3)] [] := by
    intro  n
    induction n with
    | zero =>
      intro v2 v3 σ1  h
      cases h
    | succ n ih =>
      intro v2 v3 σ1  h
      exact J12  (fl_X1_takeTalls_12   o a1 n) ih v2 v3 σ1  h
  refine j_aload_n hF 1 dX1_takeTalls_0 rfl ?_
  refine gf_X1_54 hF h1 dX1_takeTalls_1 ?_
  refine j_bipush hF (v := 10) dX1_takeTalls_4 (by decide) ?_
  obtain ⟨x2, e1, h⟩ := bzBdE h
  refine cs_X1_59 hF (fun l => mt_J_min l e1) (by decide) (Nat.le_of_ble_eq_true rfl) dX1_takeTalls_6 ?_
  refine j_istore_n hF (lv1 := [(2, .int x2), (0, .ref (ga g o)), (1, .ref (ga g a1))]) dX1_takeTalls_9 (by decide) rfl ?_
  refine j_iconst hF (v := 0) dX1_takeTalls_10 (by decide) ?_
  refine j_istore_n hF (lv1 := [(3, .int 0), (2, .int x2), (0, .ref (ga g o)), (1, .ref (ga g a1))]) dX1_takeTalls_11 (by decide) rfl ?_
  refine j_sub [2, 3, 1, 0] rfl ?_
  exact L12 2000 x2 0 σ h
def f_X9_talls (o : Nat) (a1 : Int32) (σ : bzS) : Option (Int32 × bzS) :=
  bzGd (kd o = 9) (bzBd (f_X9_sheetOf o a1 σ) (fun x2 => bzOp x2 (bzBp (f_X9_fails o ((-1000000001)) σ) (fun x5 σ6 => some (x5, σ6))) (fun k3 => bzGd (kd k3 = 5) (bzBd (f_X5_isMissing k3 σ) (fun x8 => if x8 = 0 then (bzBp (f_X1_takeTalls ((ly (ly o 0) 1)) ((ly k3 0)) σ) (fun x11 σ12 => some (x11, σ12))) else (bzBp (f_X9_fails o ((-1000000002)) σ) (fun x14 σ15 => some (x14, σ15))))))))
set_option maxHeartbeats 4000000 in
set_option maxRecDepth 20000 in
theorem mt_X9_talls {g : bzGeo} {o : Nat} {a1 : Int32} {σ : bzS} {r0 : Int32} {σ0 : bzS} (l : Launch) (h : f_X9_talls  o a1 σ = some (r0, σ0)) : Met l yX9_talls (Cond.code yX9_talls cX9_talls 3 (some .int) :: GW) (bzR (3)) (va_Pc [.ref (ga g o), .int a1] (bzP g σ)) (va_Qi (fun (r : Int32) (u : bzS) => r = r0 ∧ u = σ0) (bzB g) (gA g)) 0 0 (gA g) := by
  unfold f_X9_talls at h
  obtain ⟨ho, h⟩ := bzGdE h
  refine j_start l (by decide +kernel) [.ref (ga g o), .int a1] [(0, .ref (ga g o)), (1, .int a1)] (Nat.le_of_ble_eq_true rfl) rfl (fun x hF hG => ?_)
  refine j_aload_n hF 0 dX9_talls_0 rfl ?_
  refine j_iload_n hF 1 dX9_talls_1 rfl ?_
  obtain ⟨x2, e1, h⟩ := bzBdE h
  refine cs_X9_219 hF ho (fun l => mt_X9_sheetOf l e1) (by decide) (Nat.le_of_ble_eq_true rfl) dX9_talls_2 ?_
  cases x2 with
  | none =>
    replace h := bzOpN h
    refine j_nul ?_
    refine j_astore_nN hF (lv1 := [(2, .null), (0, .ref (ga g o)), (1, .int a1)]) dX9_talls_5 (by decide) rfl ?_
    refine j_aload_nN hF 0 dX9_talls_6 rfl ?_
    refine j_ifnonnullN hF dX9_talls_7 ?_
    refine j_aload_n hF 1 dX9_talls_10 rfl ?_
    refine j_ldc hF (v := (-1000000001)) kc_X9_70 dX9_talls_11 ?_
    obtain ⟨x5, σ6, e4, h⟩ := bzBpE h
    refine cs_X9_71 hF ho (fun l => mt_X9_fails l e4) (by decide) (Nat.le_of_ble_eq_true rfl) dX9_talls_13 ?_
    exact j_iret hF hG dX9_talls_16  (bzRet h).1 (bzRet h).2
  | some k3 =>
    obtain ⟨h_k3, h⟩ := bzGdE (bzOpS h)
    refine j_som ?_
    refine j_astore_n hF (lv1 := [(2, .ref (ga g k3)), (0, .ref (ga g o)), (1, .int a1)]) dX9_talls_5 (by decide) rfl ?_
    refine j_aload_n hF 0 dX9_talls_6 rfl ?_
    refine j_ifnonnull hF (tgt := 17) dX9_talls_7 (by decide) ?_
    refine j_aload_n hF 0 dX9_talls_17 rfl ?_
    obtain ⟨x8, e7, h⟩ := bzBdE h
    refine cs_X9_223 hF h_k3 (fun l => mt_X5_isMissing l e7) (by decide) (Nat.le_of_ble_eq_true rfl) dX9_talls_18 ?_
    refine j_if_eq hF (tgt := 33) dX9_talls_21 (by decide) (fun c9 => ?_) (fun c9 => ?_)
    · replace h := bzIfT h c9
      refine j_aload_n hF 1 dX9_talls_33 rfl ?_
      refine gf_X9_12 hF ho dX9_talls_34 ?_
      refine gf_X9_95 hF (kl_9_0 ho) dX9_talls_37 ?_
      refine j_aload_n hF 0 dX9_talls_40 rfl ?_
      refine gf_X9_227 hF h_k3 dX9_talls_41 ?_
      obtain ⟨x11, σ12, e10, h⟩ := bzBpE h
      refine cs_X9_297 hF (kl_6_1 (kl_9_0 ho)) (fun l => mt_X1_takeTalls l e10) (by decide) (Nat.le_of_ble_eq_true rfl) dX9_talls_44 ?_
      exact j_iret hF hG dX9_talls_47  (bzRet h).1 (bzRet h).2
    · replace h := bzIfF h c9
      refine j_aload_n hF 1 dX9_talls_24 rfl ?_
      refine j_ldc hF (v := (-1000000002)) kc_X9_214 dX9_talls_25 ?_
      obtain ⟨x14, σ15, e13, h⟩ := bzBpE h
      refine cs_X9_71 hF ho (fun l => mt_X9_fails l e13) (by decide) (Nat.le_of_ble_eq_true rfl) dX9_talls_27 ?_
      refine j_goto hF (tgt := 47) dX9_talls_30 (by decide) ?_
      exact j_iret hF hG dX9_talls_47  (bzRet h).1 (bzRet h).2
def fb_X7_firstNotSoLoud_14 (K14 : Int32 → Int32 → Option Int32) (o : Nat) (a1 : Nat) (σ : bzS) (v2 : Int32) (v3 : Int32) : Option Int32 :=
  if v2 ≤ v3 then (some ((-1))) else (bzBd (f_X7_has o v3 σ) (fun x5 => if x5 = 0 then (some v3) else (bzBd (f_X4_has a1 v3 σ) (fun x8 => if x8 = 0 then (some v3) else (bzGd (bzIn v3 8) (bzBd (f_X4_at a1 v3 σ) (fun x12 => if (σ (ly o 2) v3.toNatClampNeg) = x12 then (bzLet (v3 + 1) (fun x14 => K14 v2 x14)) else (some v3))))))))
def fl_X7_firstNotSoLoud_14 (o : Nat) (a1 : Nat) (σ : bzS) : Nat → Int32 → Int32 → Option Int32
  | 0, _, _ => none
  | n + 1, v2, v3 => fb_X7_firstNotSoLoud_14   (fl_X7_firstNotSoLoud_14   o a1 σ n) o a1 σ v2 v3
def f_X7_firstNotSoLoud (o : Nat) (a1 : Nat) (σ : bzS) : Option Int32 :=
  bzGd (kd o = 7) (bzGd (kd a1 = 4) (bzBd (f_J_max ((σ o 4)) ((σ a1 1))) (fun x2 => fl_X7_firstNotSoLoud_14 o a1 σ 2000 x2 0)))
set_option maxHeartbeats 4000000 in
set_option maxRecDepth 20000 in
theorem mt_X7_firstNotSoLoud {g : bzGeo} {o : Nat} {a1 : Nat} {σ : bzS} {r0 : Int32} (l : Launch) (h : f_X7_firstNotSoLoud  o a1 σ = some r0) : Met l yX7_firstNotSoLoud (Cond.code yX7_firstNotSoLoud cX7_firstNotSoLoud 4 (some .int) :: GW) (bzR (2)) (va_Pc [.ref (ga g o), .ref (ga g a1)] (bzP g σ)) (va_Qi (fun (r : Int32) (u : bzS) => r = r0 ∧ u = σ) (bzB g) (gA g)) 0 0 (gA g) := by
  unfold f_X7_firstNotSoLoud at h
  obtain ⟨ho, h⟩ := bzGdE h
  obtain ⟨h1, h⟩ := bzGdE h
  refine j_start l (by decide +kernel) [.ref (ga g o), .ref (ga g a1)] [(0, .ref (ga g o)), (1, .ref (ga g a1))] (Nat.le_of_ble_eq_true rfl) rfl (fun x hF hG => ?_)
  have J14 : (K14 : Int32 → Int32 → Option Int32) → (hK14 : ∀ (v2 : Int32) (v3 : Int32), K14 v2 v3 = some r0 → bzJ g 4 x σ 14 [(0, .ref (ga g o)), (1, .ref (ga g a1)), (2, .int v2), (3, .int v3)] []) → ∀ (v2 : Int32) (v3 : Int32), fb_X7_firstNotSoLoud_14 K14 o a1 σ v2 v3 = some r0 → bzJ g 4 x σ 14 [(0, .ref (ga g o)), (1, .ref (ga g a1)), (2, .int v2), (3, .int v3)] [] := by
    intro K14 hK14 v2 v3 h
    unfold fb_X7_firstNotSoLoud_14 at h
    refine j_iload_n hF 3 dX7_firstNotSoLoud_14 rfl ?_
    refine j_iload_n hF 2 dX7_firstNotSoLoud_15 rfl ?_
    refine j_icmp_ge hF (tgt := 57) dX7_firstNotSoLoud_16 (by decide) (fun c3 => ?_) (fun c3 => ?_)
    · replace h := bzIfT h c3
      refine j_iconst hF (v := (-1)) dX7_firstNotSoLoud_57 (by decide) ?_
      exact j_iret hF hG dX7_firstNotSoLoud_58 (Option.some.inj h) rfl
    · replace h := bzIfF h c3
      refine j_aload_n hF 0 dX7_firstNotSoLoud_19 rfl ?_
      refine j_iload_n hF 3 dX7_firstNotSoLoud_20 rfl ?_
      obtain ⟨x5, e4, h⟩ := bzBdE h
      refine cs_X7_42 hF ho (fun l => mt_X7_has l e4) (by decide) (Nat.le_of_ble_eq_true rfl) dX7_firstNotSoLoud_21 ?_
      refine j_if_eq hF (tgt := 49) dX7_firstNotSoLoud_24 (by decide) (fun c6 => ?_) (fun c6 => ?_)
      · replace h := bzIfT h c6
        refine j_iload_n hF 3 dX7_firstNotSoLoud_49 rfl ?_
        exact j_iret hF hG dX7_firstNotSoLoud_50 (Option.some.inj h) rfl
      · replace h := bzIfF h c6
        refine j_aload_n hF 1 dX7_firstNotSoLoud_27 rfl ?_
        refine j_iload_n hF 3 dX7_firstNotSoLoud_28 rfl ?_
        obtain ⟨x8, e7, h⟩ := bzBdE h
        refine cs_X7_73 hF h1 (fun l => mt_X4_has l e7) (by decide) (Nat.le_of_ble_eq_true rfl) dX7_firstNotSoLoud_29 ?_
        refine j_if_eq hF (tgt := 49) dX7_firstNotSoLoud_32 (by decide) (fun c9 => ?_) (fun c9 => ?_)
        · replace h := bzIfT h c9
          refine j_iload_n hF 3 dX7_firstNotSoLoud_49 rfl ?_
          exact j_iret hF hG dX7_firstNotSoLoud_50 (Option.some.inj h) rfl
        · replace h := bzIfF h c9
          refine j_aload_n hF 0 dX7_firstNotSoLoud_35 rfl ?_
          refine gf_X7_16 hF ho dX7_firstNotSoLoud_36 ?_
          refine j_iload_n hF 3 dX7_firstNotSoLoud_39 rfl ?_
          obtain ⟨g10, h⟩ := bzGdE h
          refine j_iald hF (c := v3.toNatClampNeg) (kl_7_2 ho) (nl_7_2 ho) g10 rfl dX7_firstNotSoLoud_40 ?_
          refine j_aload_n hF 1 dX7_firstNotSoLoud_41 rfl ?_
          refine j_iload_n hF 3 dX7_firstNotSoLoud_42 rfl ?_
          obtain ⟨x12, e11, h⟩ := bzBdE h
          refine cs_X7_74 hF h1 (fun l => mt_X4_at l e11) (by decide) (Nat.le_of_ble_eq_true rfl) dX7_firstNotSoLoud_43 ?_
          refine j_icmp_eq hF (tgt := 51) dX7_firstNotSoLoud_46 (by decide) (fun c13 => ?_) (fun c13 => ?_)
          · replace h := bzIfT h c13
            obtain ⟨x14, ex14⟩ : ∃ y : Int32, y = v3 + 1 := ⟨_, rfl⟩
            replace h := bzLetE h ex14
            refine j_iinc hF (v := x14) (lv1 := [(3, .int x14), (0, .ref (ga g o)), (1, .ref (ga g a1)), (2, .int v2)]) 3 dX7_firstNotSoLoud_51 rfl (by rw [ex14]; rfl) (by decide) rfl ?_
            refine j_goto hF (tgt := 14) dX7_firstNotSoLoud_54 (by decide) ?_
            refine j_sub [1, 2, 3, 0] rfl ?_
            exact hK14 v2 x14 h
          · replace h := bzIfF h c13
            refine j_iload_n hF 3 dX7_firstNotSoLoud_49 rfl ?_
            exact j_iret hF hG dX7_firstNotSoLoud_50 (Option.some.inj h) rfl
  have L14 : ∀ (n : Nat) (v2 : Int32) (v3 : Int32) , fl_X7_firstNotSoLoud_14   o a1 σ n v2 v3 = some r0 → bzJ g 4 x σ 14 [(0, .ref (ga g o)), (1, .ref (ga g a1)), (2, .int v2), (3, .int v3)] [] := by
    intro  n
    induction n with
    | zero =>
      intro v2 v3   h
      cases h
    | succ n ih =>
      intro v2 v3   h
      exact J14  (fl_X7_firstNotSoLoud_14   o a1 σ n) ih v2 v3   h
  refine j_aload_n hF 0 dX7_firstNotSoLoud_0 rfl ?_
  refine gf_X7_22 hF ho dX7_firstNotSoLoud_1 ?_
  refine j_aload_n hF 1 dX7_firstNotSoLoud_4 rfl ?_
  refine gf_X7_64 hF h1 dX7_firstNotSoLoud_5 ?_
  obtain ⟨x2, e1, h⟩ := bzBdE h
  refine cs_X7_67 hF (fun l => mt_J_max l e1) (by decide) (Nat.le_of_ble_eq_true rfl) dX7_firstNotSoLoud_8 ?_
  refine j_istore_n hF (lv1 := [(2, .int x2), (0, .ref (ga g o)), (1, .ref (ga g a1))]) dX7_firstNotSoLoud_11 (by decide) rfl ?_
  refine j_iconst hF (v := 0) dX7_firstNotSoLoud_12 (by decide) ?_
  refine j_istore_n hF (lv1 := [(3, .int 0), (2, .int x2), (0, .ref (ga g o)), (1, .ref (ga g a1))]) dX7_firstNotSoLoud_13 (by decide) rfl ?_
  refine j_sub [2, 3, 1, 0] rfl ?_
  exact L14 2000 x2 0 h
def f_X9_judge (o : Nat) (a1 : Int32) (σ : bzS) : Option (Int32 × bzS) :=
  bzGd (kd o = 9) (bzBd (f_X9_sheetOf o a1 σ) (fun x2 => bzOp x2 (bzBp (f_X9_fails o ((-1000000001)) σ) (fun x5 σ6 => some (x5, σ6))) (fun k3 => bzGd (kd k3 = 5) (bzBd (f_X5_isMissing k3 σ) (fun x8 => if x8 = 0 then (bzBd (f_X7_firstNotSoLoud ((ly (ly (ly o 0) 0) 2)) ((ly k3 0)) σ) (fun x11 => some (x11, σ))) else (bzBp (f_X9_fails o ((-1000000002)) σ) (fun x13 σ14 => some (x13, σ14))))))))
set_option maxHeartbeats 4000000 in
set_option maxRecDepth 20000 in
theorem mt_X9_judge {g : bzGeo} {o : Nat} {a1 : Int32} {σ : bzS} {r0 : Int32} {σ0 : bzS} (l : Launch) (h : f_X9_judge  o a1 σ = some (r0, σ0)) : Met l yX9_judge (Cond.code yX9_judge cX9_judge 3 (some .int) :: GW) (bzR (3)) (va_Pc [.ref (ga g o), .int a1] (bzP g σ)) (va_Qi (fun (r : Int32) (u : bzS) => r = r0 ∧ u = σ0) (bzB g) (gA g)) 0 0 (gA g) := by
  unfold f_X9_judge at h
  obtain ⟨ho, h⟩ := bzGdE h
  refine j_start l (by decide +kernel) [.ref (ga g o), .int a1] [(0, .ref (ga g o)), (1, .int a1)] (Nat.le_of_ble_eq_true rfl) rfl (fun x hF hG => ?_)
  refine j_aload_n hF 0 dX9_judge_0 rfl ?_
  refine j_iload_n hF 1 dX9_judge_1 rfl ?_
  obtain ⟨x2, e1, h⟩ := bzBdE h
  refine cs_X9_219 hF ho (fun l => mt_X9_sheetOf l e1) (by decide) (Nat.le_of_ble_eq_true rfl) dX9_judge_2 ?_
  cases x2 with
  | none =>
    replace h := bzOpN h
    refine j_nul ?_
    refine j_astore_nN hF (lv1 := [(2, .null), (0, .ref (ga g o)), (1, .int a1)]) dX9_judge_5 (by decide) rfl ?_
    refine j_aload_nN hF 0 dX9_judge_6 rfl ?_
    refine j_ifnonnullN hF dX9_judge_7 ?_
    refine j_aload_n hF 1 dX9_judge_10 rfl ?_
    refine j_ldc hF (v := (-1000000001)) kc_X9_70 dX9_judge_11 ?_
    obtain ⟨x5, σ6, e4, h⟩ := bzBpE h
    refine cs_X9_71 hF ho (fun l => mt_X9_fails l e4) (by decide) (Nat.le_of_ble_eq_true rfl) dX9_judge_13 ?_
    exact j_iret hF hG dX9_judge_16  (bzRet h).1 (bzRet h).2
  | some k3 =>
    obtain ⟨h_k3, h⟩ := bzGdE (bzOpS h)
    refine j_som ?_
    refine j_astore_n hF (lv1 := [(2, .ref (ga g k3)), (0, .ref (ga g o)), (1, .int a1)]) dX9_judge_5 (by decide) rfl ?_
    refine j_aload_n hF 0 dX9_judge_6 rfl ?_
    refine j_ifnonnull hF (tgt := 17) dX9_judge_7 (by decide) ?_
    refine j_aload_n hF 0 dX9_judge_17 rfl ?_
    obtain ⟨x8, e7, h⟩ := bzBdE h
    refine cs_X9_223 hF h_k3 (fun l => mt_X5_isMissing l e7) (by decide) (Nat.le_of_ble_eq_true rfl) dX9_judge_18 ?_
    refine j_if_eq hF (tgt := 33) dX9_judge_21 (by decide) (fun c9 => ?_) (fun c9 => ?_)
    · replace h := bzIfT h c9
      refine j_aload_n hF 1 dX9_judge_33 rfl ?_
      refine gf_X9_12 hF ho dX9_judge_34 ?_
      refine gf_X9_55 hF (kl_9_0 ho) dX9_judge_37 ?_
      refine gf_X9_111 hF (kl_6_0 (kl_9_0 ho)) dX9_judge_40 ?_
      refine j_aload_n hF 0 dX9_judge_43 rfl ?_
      refine gf_X9_227 hF h_k3 dX9_judge_44 ?_
      obtain ⟨x11, e10, h⟩ := bzBdE h
      refine cs_X9_300 hF (kl_0_2 (kl_6_0 (kl_9_0 ho))) (fun l => mt_X7_firstNotSoLoud l e10) (by decide) (Nat.le_of_ble_eq_true rfl) dX9_judge_47 ?_
      exact j_iret hF hG dX9_judge_50  (bzRet h).1 (bzRet h).2
    · replace h := bzIfF h c9
      refine j_aload_n hF 1 dX9_judge_24 rfl ?_
      refine j_ldc hF (v := (-1000000002)) kc_X9_214 dX9_judge_25 ?_
      obtain ⟨x13, σ14, e12, h⟩ := bzBpE h
      refine cs_X9_71 hF ho (fun l => mt_X9_fails l e12) (by decide) (Nat.le_of_ble_eq_true rfl) dX9_judge_27 ?_
      refine j_goto hF (tgt := 50) dX9_judge_30 (by decide) ?_
      exact j_iret hF hG dX9_judge_50  (bzRet h).1 (bzRet h).2
def f_X1_copyFrom (o : Nat) (a1 : Nat) (σ : bzS) : Option bzS :=
  bzGd (kd o = 1) (bzGd (kd a1 = 1) (bzLet (bzSa σ (ly o 0) (va_cpy (σ (ly a1 0)) (σ (ly o 0)) 0 0 10)) (fun σ1 => bzLet (bzSa σ1 (ly o 1) (va_cpy (σ1 (ly a1 1)) (σ1 (ly o 1)) 0 0 10)) (fun σ2 => bzLet (bzSa σ2 (ly o 2) (va_cpy (σ2 (ly a1 2)) (σ2 (ly o 2)) 0 0 8)) (fun σ3 => bzLet (bzSt σ3 o 5 (σ3 a1 5)) (fun σ4 => bzLet (bzSt σ4 o 6 (σ4 a1 6)) (fun σ5 => some σ5)))))))
set_option maxHeartbeats 4000000 in
set_option maxRecDepth 20000 in
theorem mt_X1_copyFrom {g : bzGeo} {o : Nat} {a1 : Nat} {σ : bzS} {σ0 : bzS} (l : Launch) (h : f_X1_copyFrom  o a1 σ = some σ0) : Met l yX1_copyFrom (Cond.code yX1_copyFrom cX1_copyFrom 2 none :: GW) (bzR (2)) (va_Pc [.ref (ga g o), .ref (ga g a1)] (bzP g σ)) (va_Qv (fun (u : bzS) => u = σ0) (bzB g) (gA g)) 0 0 (gA g) := by
  unfold f_X1_copyFrom at h
  obtain ⟨ho, h⟩ := bzGdE h
  obtain ⟨h1, h⟩ := bzGdE h
  refine j_start l (by decide +kernel) [.ref (ga g o), .ref (ga g a1)] [(0, .ref (ga g o)), (1, .ref (ga g a1))] (Nat.le_of_ble_eq_true rfl) rfl (fun x hF hG => ?_)
  refine j_aload_n hF 1 dX1_copyFrom_0 rfl ?_
  refine gf_X1_7 hF h1 dX1_copyFrom_1 ?_
  refine j_iconst hF (v := 0) dX1_copyFrom_4 (by decide) ?_
  refine j_aload_n hF 0 dX1_copyFrom_5 rfl ?_
  refine gf_X1_7 hF ho dX1_copyFrom_6 ?_
  refine j_iconst hF (v := 0) dX1_copyFrom_9 (by decide) ?_
  refine j_bipush hF (v := 10) dX1_copyFrom_10 (by decide) ?_
  refine j_copy hF (c1 := 0) (c2 := 0) (c3 := 10) km_X1_91 (kl_1_0 h1) (kl_1_0 ho) (nl_1_0 h1) (nl_1_0 ho) (by decide) (by decide) (by decide) (by decide) (by decide) (Nat.le_of_ble_eq_true rfl) dX1_copyFrom_12 ?_
  refine j_s (fun σ1 eσ1 => ?_)
  replace h := bzLetE h eσ1
  refine j_aload_n hF 1 dX1_copyFrom_15 rfl ?_
  refine gf_X1_13 hF h1 dX1_copyFrom_16 ?_
  refine j_iconst hF (v := 0) dX1_copyFrom_19 (by decide) ?_
  refine j_aload_n hF 0 dX1_copyFrom_20 rfl ?_
  refine gf_X1_13 hF ho dX1_copyFrom_21 ?_
  refine j_iconst hF (v := 0) dX1_copyFrom_24 (by decide) ?_
  refine j_bipush hF (v := 10) dX1_copyFrom_25 (by decide) ?_
  refine j_copy hF (c1 := 0) (c2 := 0) (c3 := 10) km_X1_91 (kl_1_1 h1) (kl_1_1 ho) (nl_1_1 h1) (nl_1_1 ho) (by decide) (by decide) (by decide) (by decide) (by decide) (Nat.le_of_ble_eq_true rfl) dX1_copyFrom_27 ?_
  refine j_s (fun σ2 eσ2 => ?_)
  replace h := bzLetE h eσ2
  refine j_aload_n hF 1 dX1_copyFrom_30 rfl ?_
  refine gf_X1_16 hF h1 dX1_copyFrom_31 ?_
  refine j_iconst hF (v := 0) dX1_copyFrom_34 (by decide) ?_
  refine j_aload_n hF 0 dX1_copyFrom_35 rfl ?_
  refine gf_X1_16 hF ho dX1_copyFrom_36 ?_
  refine j_iconst hF (v := 0) dX1_copyFrom_39 (by decide) ?_
  refine j_bipush hF (v := 8) dX1_copyFrom_40 (by decide) ?_
  refine j_copy hF (c1 := 0) (c2 := 0) (c3 := 8) km_X1_91 (kl_1_2 h1) (kl_1_2 ho) (nl_1_2 h1) (nl_1_2 ho) (by decide) (by decide) (by decide) (by decide) (by decide) (Nat.le_of_ble_eq_true rfl) dX1_copyFrom_42 ?_
  refine j_s (fun σ3 eσ3 => ?_)
  replace h := bzLetE h eσ3
  refine j_aload_n hF 0 dX1_copyFrom_45 rfl ?_
  refine j_aload_n hF 1 dX1_copyFrom_46 rfl ?_
  refine gf_X1_25 hF h1 dX1_copyFrom_47 ?_
  refine pf_X1_25 hF ho dX1_copyFrom_50 ?_
  refine j_s (fun σ4 eσ4 => ?_)
  replace h := bzLetE h eσ4
  refine j_aload_n hF 0 dX1_copyFrom_53 rfl ?_
  refine j_aload_n hF 1 dX1_copyFrom_54 rfl ?_
  refine gf_X1_29 hF h1 dX1_copyFrom_55 ?_
  refine pf_X1_29 hF ho dX1_copyFrom_58 ?_
  refine j_s (fun σ5 eσ5 => ?_)
  replace h := bzLetE h eσ5
  exact j_vret hF hG dX1_copyFrom_61 (Option.some.inj h)
def f_X6_copyFrom (o : Nat) (a1 : Nat) (σ : bzS) : Option bzS :=
  bzGd (kd o = 6) (bzGd (kd a1 = 6) (bzBd (f_X0_copyFrom ((ly o 0)) ((ly a1 0)) σ) (fun σ2 => bzBd (f_X1_copyFrom ((ly o 1)) ((ly a1 1)) σ2) (fun σ4 => bzBd (f_X4_copyFrom ((ly o 2)) ((ly a1 2)) σ4) (fun σ6 => bzBd (f_X4_copyFrom ((ly o 3)) ((ly a1 3)) σ6) (fun σ8 => bzLet (bzSt σ8 o 4 (σ8 a1 4)) (fun σ9 => some σ9)))))))
set_option maxHeartbeats 4000000 in
set_option maxRecDepth 20000 in
theorem mt_X6_copyFrom {g : bzGeo} {o : Nat} {a1 : Nat} {σ : bzS} {σ0 : bzS} (l : Launch) (h : f_X6_copyFrom  o a1 σ = some σ0) : Met l yX6_copyFrom (Cond.code yX6_copyFrom cX6_copyFrom 2 none :: GW) (bzR (6)) (va_Pc [.ref (ga g o), .ref (ga g a1)] (bzP g σ)) (va_Qv (fun (u : bzS) => u = σ0) (bzB g) (gA g)) 0 0 (gA g) := by
  unfold f_X6_copyFrom at h
  obtain ⟨ho, h⟩ := bzGdE h
  obtain ⟨h1, h⟩ := bzGdE h
  refine j_start l (by decide +kernel) [.ref (ga g o), .ref (ga g a1)] [(0, .ref (ga g o)), (1, .ref (ga g a1))] (Nat.le_of_ble_eq_true rfl) rfl (fun x hF hG => ?_)
  refine j_aload_n hF 0 dX6_copyFrom_0 rfl ?_
  refine gf_X6_12 hF ho dX6_copyFrom_1 ?_
  refine j_aload_n hF 1 dX6_copyFrom_4 rfl ?_
  refine gf_X6_12 hF h1 dX6_copyFrom_5 ?_
  obtain ⟨σ2, e1, h⟩ := bzBdE h
  refine cs_X6_69 hF (kl_6_0 ho) (fun l => mt_X0_copyFrom l e1) (by decide) (Nat.le_of_ble_eq_true rfl) dX6_copyFrom_8 ?_
  refine j_aload_n hF 0 dX6_copyFrom_11 rfl ?_
  refine gf_X6_21 hF ho dX6_copyFrom_12 ?_
  refine j_aload_n hF 1 dX6_copyFrom_15 rfl ?_
  refine gf_X6_21 hF h1 dX6_copyFrom_16 ?_
  obtain ⟨σ4, e3, h⟩ := bzBdE h
  refine cs_X6_73 hF (kl_6_1 ho) (fun l => mt_X1_copyFrom l e3) (by decide) (Nat.le_of_ble_eq_true rfl) dX6_copyFrom_19 ?_
  refine j_aload_n hF 0 dX6_copyFrom_22 rfl ?_
  refine gf_X6_30 hF ho dX6_copyFrom_23 ?_
  refine j_aload_n hF 1 dX6_copyFrom_26 rfl ?_
  refine gf_X6_30 hF h1 dX6_copyFrom_27 ?_
  obtain ⟨σ6, e5, h⟩ := bzBdE h
  refine cs_X6_76 hF (kl_6_2 ho) (fun l => mt_X4_copyFrom l e5) (by decide) (Nat.le_of_ble_eq_true rfl) dX6_copyFrom_30 ?_
  refine j_aload_n hF 0 dX6_copyFrom_33 rfl ?_
  refine gf_X6_34 hF ho dX6_copyFrom_34 ?_
  refine j_aload_n hF 1 dX6_copyFrom_37 rfl ?_
  refine gf_X6_34 hF h1 dX6_copyFrom_38 ?_
  obtain ⟨σ8, e7, h⟩ := bzBdE h
  refine cs_X6_76 hF (kl_6_3 ho) (fun l => mt_X4_copyFrom l e7) (by decide) (Nat.le_of_ble_eq_true rfl) dX6_copyFrom_41 ?_
  refine j_aload_n hF 0 dX6_copyFrom_44 rfl ?_
  refine j_aload_n hF 1 dX6_copyFrom_45 rfl ?_
  refine gf_X6_37 hF h1 dX6_copyFrom_46 ?_
  refine pf_X6_37 hF ho dX6_copyFrom_49 ?_
  refine j_s (fun σ9 eσ9 => ?_)
  replace h := bzLetE h eσ9
  exact j_vret hF hG dX6_copyFrom_52 (Option.some.inj h)
def f_X9_image (o : Nat) (σ : bzS) : Option (Int32 × bzS) :=
  bzGd (kd o = 9) (bzBd (f_X6_copyFrom ((ly o 1)) ((ly o 0)) σ) (fun σ2 => bzLet (bzSt σ2 o 2 ((σ2 o 2) + 1)) (fun σ3 => some ((σ3 o 2), σ3))))
set_option maxHeartbeats 4000000 in
set_option maxRecDepth 20000 in
theorem mt_X9_image {g : bzGeo} {o : Nat} {σ : bzS} {r0 : Int32} {σ0 : bzS} (l : Launch) (h : f_X9_image  o σ = some (r0, σ0)) : Met l yX9_image (Cond.code yX9_image cX9_image 1 (some .int) :: GW) (bzR (7)) (va_Pc [.ref (ga g o)] (bzP g σ)) (va_Qi (fun (r : Int32) (u : bzS) => r = r0 ∧ u = σ0) (bzB g) (gA g)) 0 0 (gA g) := by
  unfold f_X9_image at h
  obtain ⟨ho, h⟩ := bzGdE h
  refine j_start l (by decide +kernel) [.ref (ga g o)] [(0, .ref (ga g o))] (Nat.le_of_ble_eq_true rfl) rfl (fun x hF hG => ?_)
  refine j_aload_n hF 0 dX9_image_0 rfl ?_
  refine gf_X9_16 hF ho dX9_image_1 ?_
  refine j_aload_n hF 0 dX9_image_4 rfl ?_
  refine gf_X9_12 hF ho dX9_image_5 ?_
  obtain ⟨σ2, e1, h⟩ := bzBdE h
  refine cs_X9_303 hF (kl_9_1 ho) (fun l => mt_X6_copyFrom l e1) (by decide) (Nat.le_of_ble_eq_true rfl) dX9_image_8 ?_
  refine j_aload_n hF 0 dX9_image_11 rfl ?_
  refine j_dup hF dX9_image_12 rfl ?_
  refine gf_X9_19 hF ho dX9_image_13 ?_
  refine j_iconst hF (v := 1) dX9_image_16 (by decide) ?_
  refine j_iadd hF dX9_image_17 ?_
  refine pf_X9_19 hF ho dX9_image_18 ?_
  refine j_s (fun σ3 eσ3 => ?_)
  replace h := bzLetE h eσ3
  refine j_aload_n hF 0 dX9_image_21 rfl ?_
  refine gf_X9_19 hF ho dX9_image_22 ?_
  exact j_iret hF hG dX9_image_25  (bzRet h).1 (bzRet h).2
def f_X9_restore (o : Nat) (σ : bzS) : Option (Int32 × bzS) :=
  bzGd (kd o = 9) (if (σ o 2) = 0 then (bzBp (f_X9_fails o ((-1000000002)) σ) (fun x5 σ6 => some (x5, σ6))) else (bzBd (f_X6_copyFrom ((ly o 0)) ((ly o 1)) σ) (fun σ3 => some ((σ3 (ly (ly o 0) 0) 8), σ3))))
set_option maxHeartbeats 4000000 in
set_option maxRecDepth 20000 in
theorem mt_X9_restore {g : bzGeo} {o : Nat} {σ : bzS} {r0 : Int32} {σ0 : bzS} (l : Launch) (h : f_X9_restore  o σ = some (r0, σ0)) : Met l yX9_restore (Cond.code yX9_restore cX9_restore 1 (some .int) :: GW) (bzR (7)) (va_Pc [.ref (ga g o)] (bzP g σ)) (va_Qi (fun (r : Int32) (u : bzS) => r = r0 ∧ u = σ0) (bzB g) (gA g)) 0 0 (gA g) := by
  unfold f_X9_restore at h
  obtain ⟨ho, h⟩ := bzGdE h
  refine j_start l (by decide +kernel) [.ref (ga g o)] [(0, .ref (ga g o))] (Nat.le_of_ble_eq_true rfl) rfl (fun x hF hG => ?_)
  refine j_aload_n hF 0 dX9_restore_0 rfl ?_
  refine gf_X9_19 hF ho dX9_restore_1 ?_
  refine j_if_ne hF (tgt := 14) dX9_restore_4 (by decide) (fun c1 => ?_) (fun c1 => ?_)
  · replace h := bzIfF h c1
    refine j_aload_n hF 0 dX9_restore_14 rfl ?_
    refine gf_X9_12 hF ho dX9_restore_15 ?_
    refine j_aload_n hF 0 dX9_restore_18 rfl ?_
    refine gf_X9_16 hF ho dX9_restore_19 ?_
    obtain ⟨σ3, e2, h⟩ := bzBdE h
    refine cs_X9_303 hF (kl_9_0 ho) (fun l => mt_X6_copyFrom l e2) (by decide) (Nat.le_of_ble_eq_true rfl) dX9_restore_22 ?_
    refine j_aload_n hF 0 dX9_restore_25 rfl ?_
    refine gf_X9_12 hF ho dX9_restore_26 ?_
    refine gf_X9_55 hF (kl_9_0 ho) dX9_restore_29 ?_
    refine gf_X9_138 hF (kl_6_0 (kl_9_0 ho)) dX9_restore_32 ?_
    exact j_iret hF hG dX9_restore_35  (bzRet h).1 (bzRet h).2
  · replace h := bzIfT h c1
    refine j_aload_n hF 0 dX9_restore_7 rfl ?_
    refine j_ldc hF (v := (-1000000002)) kc_X9_214 dX9_restore_8 ?_
    obtain ⟨x5, σ6, e4, h⟩ := bzBpE h
    refine cs_X9_71 hF ho (fun l => mt_X9_fails l e4) (by decide) (Nat.le_of_ble_eq_true rfl) dX9_restore_10 ?_
    exact j_iret hF hG dX9_restore_13  (bzRet h).1 (bzRet h).2
def f_X9_tell (o : Nat) (a1 : Int32) (σ : bzS) : Option (Int32 × bzS) :=
  bzGd (kd o = 9) (bzBp (f_X4_add ((ly (ly o 0) 3)) a1 σ) (fun x2 σ3 => if x2 = 0 then (bzBp (f_X9_fails o ((-1000000004)) σ3) (fun x6 σ7 => some (x6, σ7))) else (some ((σ3 (ly (ly o 0) 3) 1), σ3))))
set_option maxHeartbeats 4000000 in
set_option maxRecDepth 20000 in
theorem mt_X9_tell {g : bzGeo} {o : Nat} {a1 : Int32} {σ : bzS} {r0 : Int32} {σ0 : bzS} (l : Launch) (h : f_X9_tell  o a1 σ = some (r0, σ0)) : Met l yX9_tell (Cond.code yX9_tell cX9_tell 2 (some .int) :: GW) (bzR (3)) (va_Pc [.ref (ga g o), .int a1] (bzP g σ)) (va_Qi (fun (r : Int32) (u : bzS) => r = r0 ∧ u = σ0) (bzB g) (gA g)) 0 0 (gA g) := by
  unfold f_X9_tell at h
  obtain ⟨ho, h⟩ := bzGdE h
  refine j_start l (by decide +kernel) [.ref (ga g o), .int a1] [(0, .ref (ga g o)), (1, .int a1)] (Nat.le_of_ble_eq_true rfl) rfl (fun x hF hG => ?_)
  refine j_aload_n hF 0 dX9_tell_0 rfl ?_
  refine gf_X9_12 hF ho dX9_tell_1 ?_
  refine gf_X9_306 hF (kl_9_0 ho) dX9_tell_4 ?_
  refine j_iload_n hF 1 dX9_tell_7 rfl ?_
  obtain ⟨x2, σ3, e1, h⟩ := bzBpE h
  refine cs_X9_171 hF (kl_6_3 (kl_9_0 ho)) (fun l => mt_X4_add l e1) (by decide) (Nat.le_of_ble_eq_true rfl) dX9_tell_8 ?_
  refine j_if_eq hF (tgt := 27) dX9_tell_11 (by decide) (fun c4 => ?_) (fun c4 => ?_)
  · replace h := bzIfT h c4
    refine j_aload_n hF 0 dX9_tell_27 rfl ?_
    refine j_ldc hF (v := (-1000000004)) kc_X9_121 dX9_tell_28 ?_
    obtain ⟨x6, σ7, e5, h⟩ := bzBpE h
    refine cs_X9_71 hF ho (fun l => mt_X9_fails l e5) (by decide) (Nat.le_of_ble_eq_true rfl) dX9_tell_30 ?_
    exact j_iret hF hG dX9_tell_33  (bzRet h).1 (bzRet h).2
  · replace h := bzIfF h c4
    refine j_aload_n hF 0 dX9_tell_14 rfl ?_
    refine gf_X9_12 hF ho dX9_tell_15 ?_
    refine gf_X9_306 hF (kl_9_0 ho) dX9_tell_18 ?_
    refine gf_X9_164 hF (kl_6_3 (kl_9_0 ho)) dX9_tell_21 ?_
    refine j_goto hF (tgt := 33) dX9_tell_24 (by decide) ?_
    exact j_iret hF hG dX9_tell_33  (bzRet h).1 (bzRet h).2
def f_X9_check (o : Nat) (σ : bzS) : Option (Int32 × bzS) :=
  bzGd (kd o = 9) (bzBd (f_X9_thinkAfresh o σ) (fun σ2 => bzBp (f_X9_firstUnlike o ((ly (ly o 0) 3)) σ2) (fun x4 σ5 => bzBd (f_X4_clear ((ly (ly o 0) 3)) σ5) (fun σ7 => some ((x4 + 1), σ7)))))
set_option maxHeartbeats 4000000 in
set_option maxRecDepth 20000 in
theorem mt_X9_check {g : bzGeo} {o : Nat} {σ : bzS} {r0 : Int32} {σ0 : bzS} (l : Launch) (h : f_X9_check  o σ = some (r0, σ0)) : Met l yX9_check (Cond.code yX9_check cX9_check 2 (some .int) :: GW) (bzR (8)) (va_Pc [.ref (ga g o)] (bzP g σ)) (va_Qi (fun (r : Int32) (u : bzS) => r = r0 ∧ u = σ0) (bzB g) (gA g)) 0 0 (gA g) := by
  unfold f_X9_check at h
  obtain ⟨ho, h⟩ := bzGdE h
  refine j_start l (by decide +kernel) [.ref (ga g o)] [(0, .ref (ga g o))] (Nat.le_of_ble_eq_true rfl) rfl (fun x hF hG => ?_)
  refine j_aload_n hF 0 dX9_check_0 rfl ?_
  obtain ⟨σ2, e1, h⟩ := bzBdE h
  refine cs_X9_208 hF ho (fun l => mt_X9_thinkAfresh l e1) (by decide) (Nat.le_of_ble_eq_true rfl) dX9_check_1 ?_
  refine j_aload_n hF 0 dX9_check_4 rfl ?_
  refine j_aload_n hF 0 dX9_check_5 rfl ?_
  refine gf_X9_12 hF ho dX9_check_6 ?_
  refine gf_X9_306 hF (kl_9_0 ho) dX9_check_9 ?_
  obtain ⟨x4, σ5, e3, h⟩ := bzBpE h
  refine cs_X9_230 hF ho (fun l => mt_X9_firstUnlike l e3) (by decide) (Nat.le_of_ble_eq_true rfl) dX9_check_12 ?_
  refine j_istore_n hF (lv1 := [(1, .int x4), (0, .ref (ga g o))]) dX9_check_15 (by decide) rfl ?_
  refine j_aload_n hF 1 dX9_check_16 rfl ?_
  refine gf_X9_12 hF ho dX9_check_17 ?_
  refine gf_X9_306 hF (kl_9_0 ho) dX9_check_20 ?_
  obtain ⟨σ7, e6, h⟩ := bzBdE h
  refine cs_X9_177 hF (kl_6_3 (kl_9_0 ho)) (fun l => mt_X4_clear l e6) (by decide) (Nat.le_of_ble_eq_true rfl) dX9_check_23 ?_
  refine j_iload_n hF 0 dX9_check_26 rfl ?_
  refine j_iconst hF (v := 1) dX9_check_27 (by decide) ?_
  refine j_iadd hF dX9_check_28 ?_
  exact j_iret hF hG dX9_check_29  (bzRet h).1 (bzRet h).2
def fb_X1_treesOfAll_4 (K4 : Int32 → Int32 → Option Int32) (o : Nat) (σ : bzS) (v1 : Int32) (v2 : Int32) : Option Int32 :=
  if 8 ≤ v2 then (some v1) else (bzBd (f_X1_treesOfRow o v2 σ) (fun x3 => bzLet ((v1 + x3)) (fun x4 => bzLet (v2 + 1) (fun x5 => K4 x4 x5))))
def fl_X1_treesOfAll_4 (o : Nat) (σ : bzS) : Nat → Int32 → Int32 → Option Int32
  | 0, _, _ => none
  | n + 1, v1, v2 => fb_X1_treesOfAll_4   (fl_X1_treesOfAll_4   o σ n) o σ v1 v2
def f_X1_treesOfAll (o : Nat) (σ : bzS) : Option Int32 :=
  bzGd (kd o = 1) (fl_X1_treesOfAll_4 o σ 2000 0 0)
set_option maxHeartbeats 4000000 in
set_option maxRecDepth 20000 in
theorem mt_X1_treesOfAll {g : bzGeo} {o : Nat} {σ : bzS} {r0 : Int32} (l : Launch) (h : f_X1_treesOfAll  o σ = some r0) : Met l yX1_treesOfAll (Cond.code yX1_treesOfAll cX1_treesOfAll 3 (some .int) :: GW) (bzR (3)) (va_Pc [.ref (ga g o)] (bzP g σ)) (va_Qi (fun (r : Int32) (u : bzS) => r = r0 ∧ u = σ) (bzB g) (gA g)) 0 0 (gA g) := by
  unfold f_X1_treesOfAll at h
  obtain ⟨ho, h⟩ := bzGdE h
  refine j_start l (by decide +kernel) [.ref (ga g o)] [(0, .ref (ga g o))] (Nat.le_of_ble_eq_true rfl) rfl (fun x hF hG => ?_)
  have J4 : (K4 : Int32 → Int32 → Option Int32) → (hK4 : ∀ (v1 : Int32) (v2 : Int32), K4 v1 v2 = some r0 → bzJ g 3 x σ 4 [(0, .ref (ga g o)), (1, .int v1), (2, .int v2)] []) → ∀ (v1 : Int32) (v2 : Int32), fb_X1_treesOfAll_4 K4 o σ v1 v2 = some r0 → bzJ g 3 x σ 4 [(0, .ref (ga g o)), (1, .int v1), (2, .int v2)] [] := by
    intro K4 hK4 v1 v2 h
    unfold fb_X1_treesOfAll_4 at h
    refine j_iload_n hF 2 dX1_treesOfAll_4 rfl ?_
    refine j_bipush hF (v := 8) dX1_treesOfAll_5 (by decide) ?_
    refine j_icmp_ge hF (tgt := 24) dX1_treesOfAll_7 (by decide) (fun c1 => ?_) (fun c1 => ?_)
    · replace h := bzIfT h c1
      refine j_iload_n hF 1 dX1_treesOfAll_24 rfl ?_
      exact j_iret hF hG dX1_treesOfAll_25 (Option.some.inj h) rfl
    · replace h := bzIfF h c1
      refine j_iload_n hF 1 dX1_treesOfAll_10 rfl ?_
      refine j_aload_n hF 0 dX1_treesOfAll_11 rfl ?_
      refine j_iload_n hF 2 dX1_treesOfAll_12 rfl ?_
      obtain ⟨x3, e2, h⟩ := bzBdE h
      refine cs_X1_72 hF ho (fun l => mt_X1_treesOfRow l e2) (by decide) (Nat.le_of_ble_eq_true rfl) dX1_treesOfAll_13 ?_
      refine j_iadd hF dX1_treesOfAll_16 ?_
      refine j_topi (fun x4 ex4 => ?_)
      replace h := bzLetE h ex4
      refine j_istore_n hF (lv1 := [(1, .int x4), (0, .ref (ga g o)), (2, .int v2)]) dX1_treesOfAll_17 (by decide) rfl ?_
      obtain ⟨x5, ex5⟩ : ∃ y : Int32, y = v2 + 1 := ⟨_, rfl⟩
      replace h := bzLetE h ex5
      refine j_iinc hF (v := x5) (lv1 := [(2, .int x5), (1, .int x4), (0, .ref (ga g o))]) 2 dX1_treesOfAll_18 rfl (by rw [ex5]; rfl) (by decide) rfl ?_
      refine j_goto hF (tgt := 4) dX1_treesOfAll_21 (by decide) ?_
      refine j_sub [2, 1, 0] rfl ?_
      exact hK4 x4 x5 h
  have L4 : ∀ (n : Nat) (v1 : Int32) (v2 : Int32) , fl_X1_treesOfAll_4   o σ n v1 v2 = some r0 → bzJ g 3 x σ 4 [(0, .ref (ga g o)), (1, .int v1), (2, .int v2)] [] := by
    intro  n
    induction n with
    | zero =>
      intro v1 v2   h
      cases h
    | succ n ih =>
      intro v1 v2   h
      exact J4  (fl_X1_treesOfAll_4   o σ n) ih v1 v2   h
  refine j_iconst hF (v := 0) dX1_treesOfAll_0 (by decide) ?_
  refine j_istore_n hF (lv1 := [(1, .int 0), (0, .ref (ga g o))]) dX1_treesOfAll_1 (by decide) rfl ?_
  refine j_iconst hF (v := 0) dX1_treesOfAll_2 (by decide) ?_
  refine j_istore_n hF (lv1 := [(2, .int 0), (1, .int 0), (0, .ref (ga g o))]) dX1_treesOfAll_3 (by decide) rfl ?_
  refine j_sub [2, 1, 0] rfl ?_
  exact L4 2000 0 0 h
def f_X9_count (o : Nat) (a1 : Int32) (σ : bzS) : Option (Int32 × bzS) :=
  bzGd (kd o = 9) (if a1 = 0 then (some ((σ (ly (ly (ly o 0) 0) 2) 4), σ)) else if a1 = 1 then (some ((σ (ly (ly o 0) 0) 8), σ)) else if a1 = 2 then (some ((σ (ly (ly o 0) 0) 5), σ)) else if a1 = 3 then (some ((σ (ly (ly o 0) 0) 6), σ)) else if a1 = 4 then (some ((σ (ly (ly o 0) 0) 7), σ)) else if a1 = 5 then (bzBd (f_X7_loudOfAll ((ly (ly (ly o 0) 0) 2)) σ) (fun x8 => some (x8, σ))) else if a1 = 6 then (bzBd (f_X1_treesOfAll ((ly (ly o 0) 1)) σ) (fun x11 => some (x11, σ))) else if a1 = 7 then (some ((σ (ly (ly o 0) 2) 1), σ)) else if a1 = 8 then (some ((σ (ly (ly o 0) 3) 1), σ)) else if a1 = 9 then (some ((σ (ly (ly o 6) 0) 1), σ)) else if a1 = 10 then (some ((σ (ly o 0) 4), σ)) else (bzBp (f_X9_fails o ((-1000000001)) σ) (fun x17 σ18 => some (x17, σ18))))
set_option maxHeartbeats 4000000 in
set_option maxRecDepth 20000 in
theorem mt_X9_count {g : bzGeo} {o : Nat} {a1 : Int32} {σ : bzS} {r0 : Int32} {σ0 : bzS} (l : Launch) (h : f_X9_count  o a1 σ = some (r0, σ0)) : Met l yX9_count (Cond.code yX9_count cX9_count 2 (some .int) :: GW) (bzR (4)) (va_Pc [.ref (ga g o), .int a1] (bzP g σ)) (va_Qi (fun (r : Int32) (u : bzS) => r = r0 ∧ u = σ0) (bzB g) (gA g)) 0 0 (gA g) := by
  unfold f_X9_count at h
  obtain ⟨ho, h⟩ := bzGdE h
  refine j_start l (by decide +kernel) [.ref (ga g o), .int a1] [(0, .ref (ga g o)), (1, .int a1)] (Nat.le_of_ble_eq_true rfl) rfl (fun x hF hG => ?_)
  refine j_iload_n hF 1 dX9_count_0 rfl ?_
  rcases Decidable.em (a1 = 0) with c1 | c1
  · replace h := bzIfT h c1
    refine j_tableIn hF (tgt := 60) dX9_count_1 (by rw [c1] <;> decide) (by rw [c1] <;> decide) (by rw [c1] <;> rfl) (by decide) ?_
    refine j_aload_n hF 0 dX9_count_60 rfl ?_
    refine gf_X9_12 hF ho dX9_count_61 ?_
    refine gf_X9_55 hF (kl_9_0 ho) dX9_count_64 ?_
    refine gf_X9_111 hF (kl_6_0 (kl_9_0 ho)) dX9_count_67 ?_
    refine gf_X9_215 hF (kl_0_2 (kl_6_0 (kl_9_0 ho))) dX9_count_70 ?_
    exact j_iret hF hG dX9_count_73  (bzRet h).1 (bzRet h).2
  · replace h := bzIfF h c1
    rcases Decidable.em (a1 = 1) with c2 | c2
    · replace h := bzIfT h c2
      refine j_tableIn hF (tgt := 74) dX9_count_1 (by rw [c2] <;> decide) (by rw [c2] <;> decide) (by rw [c2] <;> rfl) (by decide) ?_
      refine j_aload_n hF 0 dX9_count_74 rfl ?_
      refine gf_X9_12 hF ho dX9_count_75 ?_
      refine gf_X9_55 hF (kl_9_0 ho) dX9_count_78 ?_
      refine gf_X9_138 hF (kl_6_0 (kl_9_0 ho)) dX9_count_81 ?_
      exact j_iret hF hG dX9_count_84  (bzRet h).1 (bzRet h).2
    · replace h := bzIfF h c2
      rcases Decidable.em (a1 = 2) with c3 | c3
      · replace h := bzIfT h c3
        refine j_tableIn hF (tgt := 85) dX9_count_1 (by rw [c3] <;> decide) (by rw [c3] <;> decide) (by rw [c3] <;> rfl) (by decide) ?_
        refine j_aload_n hF 0 dX9_count_85 rfl ?_
        refine gf_X9_12 hF ho dX9_count_86 ?_
        refine gf_X9_55 hF (kl_9_0 ho) dX9_count_89 ?_
        refine gf_X9_147 hF (kl_6_0 (kl_9_0 ho)) dX9_count_92 ?_
        exact j_iret hF hG dX9_count_95  (bzRet h).1 (bzRet h).2
      · replace h := bzIfF h c3
        rcases Decidable.em (a1 = 3) with c4 | c4
        · replace h := bzIfT h c4
          refine j_tableIn hF (tgt := 96) dX9_count_1 (by rw [c4] <;> decide) (by rw [c4] <;> decide) (by rw [c4] <;> rfl) (by decide) ?_
          refine j_aload_n hF 0 dX9_count_96 rfl ?_
          refine gf_X9_12 hF ho dX9_count_97 ?_
          refine gf_X9_55 hF (kl_9_0 ho) dX9_count_100 ?_
          refine gf_X9_205 hF (kl_6_0 (kl_9_0 ho)) dX9_count_103 ?_
          exact j_iret hF hG dX9_count_106  (bzRet h).1 (bzRet h).2
        · replace h := bzIfF h c4
          rcases Decidable.em (a1 = 4) with c5 | c5
          · replace h := bzIfT h c5
            refine j_tableIn hF (tgt := 107) dX9_count_1 (by rw [c5] <;> decide) (by rw [c5] <;> decide) (by rw [c5] <;> rfl) (by decide) ?_
            refine j_aload_n hF 0 dX9_count_107 rfl ?_
            refine gf_X9_12 hF ho dX9_count_108 ?_
            refine gf_X9_55 hF (kl_9_0 ho) dX9_count_111 ?_
            refine gf_X9_211 hF (kl_6_0 (kl_9_0 ho)) dX9_count_114 ?_
            exact j_iret hF hG dX9_count_117  (bzRet h).1 (bzRet h).2
          · replace h := bzIfF h c5
            rcases Decidable.em (a1 = 5) with c6 | c6
            · replace h := bzIfT h c6
              refine j_tableIn hF (tgt := 118) dX9_count_1 (by rw [c6] <;> decide) (by rw [c6] <;> decide) (by rw [c6] <;> rfl) (by decide) ?_
              refine j_aload_n hF 0 dX9_count_118 rfl ?_
              refine gf_X9_12 hF ho dX9_count_119 ?_
              refine gf_X9_55 hF (kl_9_0 ho) dX9_count_122 ?_
              refine gf_X9_111 hF (kl_6_0 (kl_9_0 ho)) dX9_count_125 ?_
              obtain ⟨x8, e7, h⟩ := bzBdE h
              refine cs_X9_309 hF (kl_0_2 (kl_6_0 (kl_9_0 ho))) (fun l => mt_X7_loudOfAll l e7) (by decide) (Nat.le_of_ble_eq_true rfl) dX9_count_128 ?_
              exact j_iret hF hG dX9_count_131  (bzRet h).1 (bzRet h).2
            · replace h := bzIfF h c6
              rcases Decidable.em (a1 = 6) with c9 | c9
              · replace h := bzIfT h c9
                refine j_tableIn hF (tgt := 132) dX9_count_1 (by rw [c9] <;> decide) (by rw [c9] <;> decide) (by rw [c9] <;> rfl) (by decide) ?_
                refine j_aload_n hF 0 dX9_count_132 rfl ?_
                refine gf_X9_12 hF ho dX9_count_133 ?_
                refine gf_X9_95 hF (kl_9_0 ho) dX9_count_136 ?_
                obtain ⟨x11, e10, h⟩ := bzBdE h
                refine cs_X9_312 hF (kl_6_1 (kl_9_0 ho)) (fun l => mt_X1_treesOfAll l e10) (by decide) (Nat.le_of_ble_eq_true rfl) dX9_count_139 ?_
                exact j_iret hF hG dX9_count_142  (bzRet h).1 (bzRet h).2
              · replace h := bzIfF h c9
                rcases Decidable.em (a1 = 7) with c12 | c12
                · replace h := bzIfT h c12
                  refine j_tableIn hF (tgt := 143) dX9_count_1 (by rw [c12] <;> decide) (by rw [c12] <;> decide) (by rw [c12] <;> rfl) (by decide) ?_
                  refine j_aload_n hF 0 dX9_count_143 rfl ?_
                  refine gf_X9_12 hF ho dX9_count_144 ?_
                  refine gf_X9_160 hF (kl_9_0 ho) dX9_count_147 ?_
                  refine gf_X9_164 hF (kl_6_2 (kl_9_0 ho)) dX9_count_150 ?_
                  exact j_iret hF hG dX9_count_153  (bzRet h).1 (bzRet h).2
                · replace h := bzIfF h c12
                  rcases Decidable.em (a1 = 8) with c13 | c13
                  · replace h := bzIfT h c13
                    refine j_tableIn hF (tgt := 154) dX9_count_1 (by rw [c13] <;> decide) (by rw [c13] <;> decide) (by rw [c13] <;> rfl) (by decide) ?_
                    refine j_aload_n hF 0 dX9_count_154 rfl ?_
                    refine gf_X9_12 hF ho dX9_count_155 ?_
                    refine gf_X9_306 hF (kl_9_0 ho) dX9_count_158 ?_
                    refine gf_X9_164 hF (kl_6_3 (kl_9_0 ho)) dX9_count_161 ?_
                    exact j_iret hF hG dX9_count_164  (bzRet h).1 (bzRet h).2
                  · replace h := bzIfF h c13
                    rcases Decidable.em (a1 = 9) with c14 | c14
                    · replace h := bzIfT h c14
                      refine j_tableIn hF (tgt := 165) dX9_count_1 (by rw [c14] <;> decide) (by rw [c14] <;> decide) (by rw [c14] <;> rfl) (by decide) ?_
                      refine j_aload_n hF 0 dX9_count_165 rfl ?_
                      refine gf_X9_46 hF ho dX9_count_166 ?_
                      refine gf_X9_271 hF (kl_9_6 ho) dX9_count_169 ?_
                      refine gf_X9_164 hF (kl_8_0 (kl_9_6 ho)) dX9_count_172 ?_
                      exact j_iret hF hG dX9_count_175  (bzRet h).1 (bzRet h).2
                    · replace h := bzIfF h c14
                      rcases Decidable.em (a1 = 10) with c15 | c15
                      · replace h := bzIfT h c15
                        refine j_tableIn hF (tgt := 176) dX9_count_1 (by rw [c15] <;> decide) (by rw [c15] <;> decide) (by rw [c15] <;> rfl) (by decide) ?_
                        refine j_aload_n hF 0 dX9_count_176 rfl ?_
                        refine gf_X9_12 hF ho dX9_count_177 ?_
                        refine gf_X9_264 hF (kl_9_0 ho) dX9_count_180 ?_
                        exact j_iret hF hG dX9_count_183  (bzRet h).1 (bzRet h).2
                      · replace h := bzIfF h c15
                        refine j_tableOut hF (tgt := 184) dX9_count_1 (by have q0 := lv_neT (a := 0) c1 (by decide); have q1 := lv_neT (a := 1) c2 (by decide); have q2 := lv_neT (a := 2) c3 (by decide); have q3 := lv_neT (a := 3) c4 (by decide); have q4 := lv_neT (a := 4) c5 (by decide); have q5 := lv_neT (a := 5) c6 (by decide); have q6 := lv_neT (a := 6) c9 (by decide); have q7 := lv_neT (a := 7) c12 (by decide); have q8 := lv_neT (a := 8) c13 (by decide); have q9 := lv_neT (a := 9) c14 (by decide); have q10 := lv_neT (a := 10) c15 (by decide); omega) (by decide) ?_
                        refine j_aload_n hF 0 dX9_count_184 rfl ?_
                        refine j_ldc hF (v := (-1000000001)) kc_X9_70 dX9_count_185 ?_
                        obtain ⟨x17, σ18, e16, h⟩ := bzBpE h
                        refine cs_X9_71 hF ho (fun l => mt_X9_fails l e16) (by decide) (Nat.le_of_ble_eq_true rfl) dX9_count_187 ?_
                        exact j_iret hF hG dX9_count_190  (bzRet h).1 (bzRet h).2
def f_X9_told (o : Nat) (a1 : Int32) (σ : bzS) : Option (Int32 × bzS) :=
  bzGd (kd o = 9) (bzBd (f_X9_within a1 1 5) (fun x2 => if x2 = 0 then (bzBp (f_X9_fails o ((-1000000001)) σ) (fun x5 σ6 => some (x5, σ6))) else (bzGd (bzIn a1 6) (some ((σ (ly o 7) a1.toNatClampNeg), σ)))))
set_option maxHeartbeats 4000000 in
set_option maxRecDepth 20000 in
theorem mt_X9_told {g : bzGeo} {o : Nat} {a1 : Int32} {σ : bzS} {r0 : Int32} {σ0 : bzS} (l : Launch) (h : f_X9_told  o a1 σ = some (r0, σ0)) : Met l yX9_told (Cond.code yX9_told cX9_told 2 (some .int) :: GW) (bzR (3)) (va_Pc [.ref (ga g o), .int a1] (bzP g σ)) (va_Qi (fun (r : Int32) (u : bzS) => r = r0 ∧ u = σ0) (bzB g) (gA g)) 0 0 (gA g) := by
  unfold f_X9_told at h
  obtain ⟨ho, h⟩ := bzGdE h
  refine j_start l (by decide +kernel) [.ref (ga g o), .int a1] [(0, .ref (ga g o)), (1, .int a1)] (Nat.le_of_ble_eq_true rfl) rfl (fun x hF hG => ?_)
  refine j_iload_n hF 1 dX9_told_0 rfl ?_
  refine j_iconst hF (v := 1) dX9_told_1 (by decide) ?_
  refine j_iconst hF (v := 5) dX9_told_2 (by decide) ?_
  obtain ⟨x2, e1, h⟩ := bzBdE h
  refine cs_X9_66 hF (fun l => mt_X9_within l e1) (by decide) (Nat.le_of_ble_eq_true rfl) dX9_told_3 ?_
  refine j_if_eq hF (tgt := 18) dX9_told_6 (by decide) (fun c3 => ?_) (fun c3 => ?_)
  · replace h := bzIfT h c3
    refine j_aload_n hF 0 dX9_told_18 rfl ?_
    refine j_ldc hF (v := (-1000000001)) kc_X9_70 dX9_told_19 ?_
    obtain ⟨x5, σ6, e4, h⟩ := bzBpE h
    refine cs_X9_71 hF ho (fun l => mt_X9_fails l e4) (by decide) (Nat.le_of_ble_eq_true rfl) dX9_told_21 ?_
    exact j_iret hF hG dX9_told_24  (bzRet h).1 (bzRet h).2
  · replace h := bzIfF h c3
    refine j_aload_n hF 0 dX9_told_9 rfl ?_
    refine gf_X9_50 hF ho dX9_told_10 ?_
    refine j_iload_n hF 1 dX9_told_13 rfl ?_
    obtain ⟨g7, h⟩ := bzGdE h
    refine j_iald hF (c := a1.toNatClampNeg) (kl_9_7 ho) (nl_9_7 ho) g7 rfl dX9_told_14 ?_
    refine j_goto hF (tgt := 24) dX9_told_15 (by decide) ?_
    exact j_iret hF hG dX9_told_24  (bzRet h).1 (bzRet h).2
