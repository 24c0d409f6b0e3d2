set_option linter.unusedVariables false
def f_X10_in (a0 : Int32) (a1 : Int32) (a2 : Int32) : Option Int32 :=
  if a0 < a1 then (some 0) else (if a2 < a0 then (some 0) else (some 1))
set_option maxHeartbeats 4000000 in
set_option maxRecDepth 20000 in
theorem mt_X10_in {g : bzGeo} {a0 : Int32} {a1 : Int32} {a2 : Int32} {σ : bzS} {r0 : Int32} (l : Launch) (h : f_X10_in  a0 a1 a2 = some r0) : Met l yX10_in (Cond.code yX10_in cX10_in 3 (some .boolean) :: GW) (bzR (1)) (va_Pc [.int a0, .int a1, .int a2] (bzP g σ)) (va_Qi (fun (r : Int32) (u : bzS) => r = r0 ∧ u = σ) (bzB g) (gA g)) 0 0 (gA g) := by
  unfold f_X10_in at h
  refine j_start l (by decide +kernel) [.int a0, .int a1, .int a2] [(0, .int a0), (1, .int a1), (2, .int a2)] (Nat.le_of_ble_eq_true rfl) rfl (fun x hF hG => ?_)
  refine j_iload_n hF 0 dX10_in_0 rfl ?_
  refine j_iload_n hF 1 dX10_in_1 rfl ?_
  refine j_icmp_lt hF (tgt := 14) dX10_in_2 (by decide) (fun c1 => ?_) (fun c1 => ?_)
  · replace h := bzIfT h c1
    refine j_iconst hF (v := 0) dX10_in_14 (by decide) ?_
    exact j_zret hF hG dX10_in_15 (by decide)  (Option.some.inj h) rfl
  · replace h := bzIfF h c1
    refine j_iload_n hF 0 dX10_in_5 rfl ?_
    refine j_iload_n hF 2 dX10_in_6 rfl ?_
    refine j_icmp_gt hF (tgt := 14) dX10_in_7 (by decide) (fun c2 => ?_) (fun c2 => ?_)
    · replace h := bzIfT h c2
      refine j_iconst hF (v := 0) dX10_in_14 (by decide) ?_
      exact j_zret hF hG dX10_in_15 (by decide)  (Option.some.inj h) rfl
    · replace h := bzIfF h c2
      refine j_iconst hF (v := 1) dX10_in_10 (by decide) ?_
      refine j_goto hF (tgt := 15) dX10_in_11 (by decide) ?_
      exact j_zret hF hG dX10_in_15 (by decide)  (Option.some.inj h) rfl
def f_X10_errs (o : Nat) (a1 : Int32) (σ : bzS) : Option (Int32 × bzS) :=
  bzGd (kd o = 10) (bzGd (bzIn ((-1000000000) - a1) 6) (bzGd (bzIn ((-1000000000) - a1) 6) (bzLet (bzSt σ (ly o 6) ((((-1000000000) - a1)).toNatClampNeg) ((σ (ly o 6) ((((-1000000000) - a1)).toNatClampNeg)) + 1)) (fun σ3 => some (a1, σ3)))))
set_option maxHeartbeats 4000000 in
set_option maxRecDepth 20000 in
theorem mt_X10_errs {g : bzGeo} {o : Nat} {a1 : Int32} {σ : bzS} {r0 : Int32} {σ0 : bzS} (l : Launch) (h : f_X10_errs  o a1 σ = some (r0, σ0)) : Met l yX10_errs (Cond.code yX10_errs cX10_errs 2 (some .int) :: GW) (bzR (1)) (va_Pc [.ref (ga g o), .int a1] (bzP g σ)) (va_Qi (fun (r : Int32) (u : bzS) => r = r0 ∧ u = σ0) (bzB g) (gA g)) 0 0 (gA g) := by
  unfold f_X10_errs at h
  obtain ⟨ho, h⟩ := bzGdE h
  refine j_start l (by decide +kernel) [.ref (ga g o), .int a1] [(0, .ref (ga g o)), (1, .int a1)] (Nat.le_of_ble_eq_true rfl) rfl (fun x hF hG => ?_)
  refine j_aload_n hF 0 dX10_errs_0 rfl ?_
  refine gf_X10_22 hF ho dX10_errs_1 ?_
  refine j_ldc hF (v := (-1000000000)) kc_X10_50 dX10_errs_4 ?_
  refine j_iload_n hF 1 dX10_errs_6 rfl ?_
  refine j_isub hF dX10_errs_7 ?_
  refine j_dup2 hF dX10_errs_8 rfl rfl ?_
  obtain ⟨g1, h⟩ := bzGdE h
  refine j_iald hF (c := (((-1000000000) - a1)).toNatClampNeg) (kl_10_6 ho) (nl_10_6 ho) g1 rfl dX10_errs_9 ?_
  refine j_iconst hF (v := 1) dX10_errs_10 (by decide) ?_
  refine j_iadd hF dX10_errs_11 ?_
  obtain ⟨g2, h⟩ := bzGdE h
  refine j_iast hF (c := (((-1000000000) - a1)).toNatClampNeg) (kl_10_6 ho) (nl_10_6 ho) g2 rfl dX10_errs_12 ?_
  refine j_s (fun σ3 eσ3 => ?_)
  replace h := bzLetE h eσ3
  refine j_iload_n hF 1 dX10_errs_13 rfl ?_
  exact j_iret hF hG dX10_errs_14  (bzRet h).1 (bzRet h).2
def f_X10_held (a0 : Int32) (a1 : Int32) (a2 : Int32) : Option Int32 :=
  if a1 ≤ a0 then (if a0 ≤ a2 then (some a0) else (some a2)) else (some a1)
set_option maxHeartbeats 4000000 in
set_option maxRecDepth 20000 in
theorem mt_X10_held {g : bzGeo} {a0 : Int32} {a1 : Int32} {a2 : Int32} {σ : bzS} {r0 : Int32} (l : Launch) (h : f_X10_held  a0 a1 a2 = some r0) : Met l yX10_held (Cond.code yX10_held cX10_held 3 (some .int) :: GW) (bzR (1)) (va_Pc [.int a0, .int a1, .int a2] (bzP g σ)) (va_Qi (fun (r : Int32) (u : bzS) => r = r0 ∧ u = σ) (bzB g) (gA g)) 0 0 (gA g) := by
  unfold f_X10_held at h
  refine j_start l (by decide +kernel) [.int a0, .int a1, .int a2] [(0, .int a0), (1, .int a1), (2, .int a2)] (Nat.le_of_ble_eq_true rfl) rfl (fun x hF hG => ?_)
  refine j_iload_n hF 0 dX10_held_0 rfl ?_
  refine j_iload_n hF 1 dX10_held_1 rfl ?_
  refine j_icmp_ge hF (tgt := 9) dX10_held_2 (by decide) (fun c1 => ?_) (fun c1 => ?_)
  · replace h := bzIfT h c1
    refine j_iload_n hF 0 dX10_held_9 rfl ?_
    refine j_iload_n hF 2 dX10_held_10 rfl ?_
    refine j_icmp_le hF (tgt := 18) dX10_held_11 (by decide) (fun c2 => ?_) (fun c2 => ?_)
    · replace h := bzIfT h c2
      refine j_iload_n hF 0 dX10_held_18 rfl ?_
      exact j_iret hF hG dX10_held_19  (Option.some.inj h) rfl
    · replace h := bzIfF h c2
      refine j_iload_n hF 2 dX10_held_14 rfl ?_
      refine j_goto hF (tgt := 19) dX10_held_15 (by decide) ?_
      exact j_iret hF hG dX10_held_19  (Option.some.inj h) rfl
  · replace h := bzIfF h c1
    refine j_iload_n hF 1 dX10_held_5 rfl ?_
    refine j_goto hF (tgt := 19) dX10_held_6 (by decide) ?_
    exact j_iret hF hG dX10_held_19  (Option.some.inj h) rfl
def fb_X10_moveAll_2 (K2 : Int32 → bzS → Option bzS) (o : Nat) (a1 : Nat) (a2 : Nat) (v3 : Int32) (σ1 : bzS) : Option bzS :=
  if 254 ≤ v3 then (some σ1) else (bzGd (bzIn v3 (ln a1)) (bzGd (bzIn v3 (ln a2)) (bzLet (bzSt σ1 a2 v3.toNatClampNeg (σ1 a1 v3.toNatClampNeg)) (fun σ4 => bzLet (v3 + 1) (fun x5 => K2 x5 σ4)))))
def fl_X10_moveAll_2 (o : Nat) (a1 : Nat) (a2 : Nat) : Nat → Int32 → bzS → Option bzS
  | 0, _, _ => none
  | n + 1, v3, σ1 => fb_X10_moveAll_2   (fl_X10_moveAll_2   o a1 a2 n) o a1 a2 v3 σ1
def f_X10_moveAll (o : Nat) (a1 : Nat) (a2 : Nat) (σ : bzS) : Option bzS :=
  bzGd (kd o = 10) (bzGd (kd a1 = 11) (bzGd (kd a2 = 11) (fl_X10_moveAll_2 o a1 a2 2000 0 σ)))
set_option maxHeartbeats 4000000 in
set_option maxRecDepth 20000 in
theorem mt_X10_moveAll {g : bzGeo} {o : Nat} {a1 : Nat} {a2 : Nat} {σ : bzS} {σ0 : bzS} (l : Launch) (h : f_X10_moveAll  o a1 a2 σ = some σ0) : Met l yX10_moveAll (Cond.code yX10_moveAll cX10_moveAll 4 none :: GW) (bzR (1)) (va_Pc [.ref (ga g o), .ref (ga g a1), .ref (ga g a2)] (bzP g σ)) (va_Qv (fun (u : bzS) => u = σ0) (bzB g) (gA g)) 0 0 (gA g) := by
  unfold f_X10_moveAll at h
  obtain ⟨ho, h⟩ := bzGdE h
  obtain ⟨h1, h⟩ := bzGdE h
  obtain ⟨h2, h⟩ := bzGdE h
  refine j_start l (by decide +kernel) [.ref (ga g o), .ref (ga g a1), .ref (ga g a2)] [(0, .ref (ga g o)), (1, .ref (ga g a1)), (2, .ref (ga g a2))] (Nat.le_of_ble_eq_true rfl) rfl (fun x hF hG => ?_)
  have J2 : (K2 : Int32 → bzS → Option bzS) → (hK2 : ∀ (v3 : Int32) (σ1 : bzS), K2 v3 σ1 = some σ0 → bzJ g 4 x σ1 2 [(0, .ref (ga g o)), (1, .ref (ga g a1)), (2, .ref (ga g a2)), (3, .int v3)] []) → ∀ (v3 : Int32) (σ1 : bzS), fb_X10_moveAll_2 K2 o a1 a2 v3 σ1 = some σ0 → bzJ g 4 x σ1 2 [(0, .ref (ga g o)), (1, .ref (ga g a1)), (2, .ref (ga g a2)), (3, .int v3)] [] := by
    intro K2 hK2 v3 σ1 h
    unfold fb_X10_moveAll_2 at h
    refine j_iload_n hF 3 dX10_moveAll_2 rfl ?_
    refine j_sipush hF (v := 254) dX10_moveAll_3 (by decide) ?_
    refine j_icmp_ge hF (tgt := 21) dX10_moveAll_6 (by decide) (fun c1 => ?_) (fun c1 => ?_)
    · replace h := bzIfT h c1
      exact j_vret hF hG dX10_moveAll_21 (Option.some.inj h)
    · replace h := bzIfF h c1
      refine j_aload_n hF 2 dX10_moveAll_9 rfl ?_
      refine j_iload_n hF 3 dX10_moveAll_10 rfl ?_
      refine j_aload_n hF 1 dX10_moveAll_11 rfl ?_
      refine j_iload_n hF 3 dX10_moveAll_12 rfl ?_
      obtain ⟨g2, h⟩ := bzGdE h
      refine j_iald hF (c := v3.toNatClampNeg) h1 rfl g2 rfl dX10_moveAll_13 ?_
      obtain ⟨g3, h⟩ := bzGdE h
      refine j_iast hF (c := v3.toNatClampNeg) h2 rfl g3 rfl dX10_moveAll_14 ?_
      refine j_s (fun σ4 eσ4 => ?_)
      replace h := bzLetE h eσ4
      obtain ⟨x5, ex5⟩ : ∃ y : Int32, y = v3 + 1 := ⟨_, rfl⟩
      replace h := bzLetE h ex5
      refine j_iinc hF (v := x5) (lv1 := [(3, .int x5), (0, .ref (ga g o)), (1, .ref (ga g a1)), (2, .ref (ga g a2))]) 3 dX10_moveAll_15 rfl (by rw [ex5]; rfl) (by decide) rfl ?_
      refine j_goto hF (tgt := 2) dX10_moveAll_18 (by decide) ?_
      refine j_sub [1, 2, 3, 0] rfl ?_
      exact hK2 x5 σ4 h
  have L2 : ∀ (n : Nat) (v3 : Int32) (σ1 : bzS), fl_X10_moveAll_2   o a1 a2 n v3 σ1 = some σ0 → bzJ g 4 x σ1 2 [(0, .ref (ga g o)), (1, .ref (ga g a1)), (2, .ref (ga g a2)), (3, .int v3)] [] := by
    intro  n
    induction n with
    | zero =>
      intro v3 σ1  h
      cases h
    | succ n ih =>
      intro v3 σ1  h
      exact J2  (fl_X10_moveAll_2   o a1 a2 n) ih v3 σ1  h
  refine j_iconst hF (v := 0) dX10_moveAll_0 (by decide) ?_
  refine j_istore_n hF (lv1 := [(3, .int 0), (0, .ref (ga g o)), (1, .ref (ga g a1)), (2, .ref (ga g a2))]) dX10_moveAll_1 (by decide) rfl ?_
  refine j_sub [1, 2, 3, 0] rfl ?_
  exact L2 2000 0 σ h
def fb_X10_ones_4 (K4 : Int32 → Int32 → Option Int32) (a0 : Int32) (v1 : Int32) (v2 : Int32) : Option Int32 :=
  if v2 = 0 then (some v1) else (bzLet (v1 + 1) (fun x2 => bzLet ((v2 &&& (v2 - 1))) (fun x3 => K4 x2 x3)))
def fl_X10_ones_4 (a0 : Int32) : Nat → Int32 → Int32 → Option Int32
  | 0, _, _ => none
  | n + 1, v1, v2 => fb_X10_ones_4   (fl_X10_ones_4   a0 n) a0 v1 v2
def f_X10_ones (a0 : Int32) : Option Int32 :=
  fl_X10_ones_4 a0 2000 0 a0
set_option maxHeartbeats 4000000 in
set_option maxRecDepth 20000 in
theorem mt_X10_ones {g : bzGeo} {a0 : Int32} {σ : bzS} {r0 : Int32} (l : Launch) (h : f_X10_ones  a0 = some r0) : Met l yX10_ones (Cond.code yX10_ones cX10_ones 3 (some .int) :: GW) (bzR (1)) (va_Pc [.int a0] (bzP g σ)) (va_Qi (fun (r : Int32) (u : bzS) => r = r0 ∧ u = σ) (bzB g) (gA g)) 0 0 (gA g) := by
  unfold f_X10_ones at h
  refine j_start l (by decide +kernel) [.int a0] [(0, .int a0)] (Nat.le_of_ble_eq_true rfl) rfl (fun x hF hG => ?_)
  have J4 : (K4 : Int32 → Int32 → Option Int32) → (hK4 : ∀ (v1 : Int32) (v2 : Int32), K4 v1 v2 = some r0 → bzJ g 3 x σ 4 [(0, .int a0), (1, .int v1), (2, .int v2)] []) → ∀ (v1 : Int32) (v2 : Int32), fb_X10_ones_4 K4 a0 v1 v2 = some r0 → bzJ g 3 x σ 4 [(0, .int a0), (1, .int v1), (2, .int v2)] [] := by
    intro K4 hK4 v1 v2 h
    unfold fb_X10_ones_4 at h
    refine j_iload_n hF 2 dX10_ones_4 rfl ?_
    refine j_if_eq hF (tgt := 20) dX10_ones_5 (by decide) (fun c1 => ?_) (fun c1 => ?_)
    · replace h := bzIfT h c1
      refine j_iload_n hF 1 dX10_ones_20 rfl ?_
      exact j_iret hF hG dX10_ones_21 (Option.some.inj h) rfl
    · replace h := bzIfF h c1
      obtain ⟨x2, ex2⟩ : ∃ y : Int32, y = v1 + 1 := ⟨_, rfl⟩
      replace h := bzLetE h ex2
      refine j_iinc hF (v := x2) (lv1 := [(1, .int x2), (0, .int a0), (2, .int v2)]) 1 dX10_ones_8 rfl (by rw [ex2]; rfl) (by decide) rfl ?_
      refine j_iload_n hF 2 dX10_ones_11 rfl ?_
      refine j_iload_n hF 2 dX10_ones_12 rfl ?_
      refine j_iconst hF (v := 1) dX10_ones_13 (by decide) ?_
      refine j_isub hF dX10_ones_14 ?_
      refine j_iand hF dX10_ones_15 ?_
      refine j_topi (fun x3 ex3 => ?_)
      replace h := bzLetE h ex3
      refine j_istore_n hF (lv1 := [(2, .int x3), (1, .int x2), (0, .int a0)]) dX10_ones_16 (by decide) rfl ?_
      refine j_goto hF (tgt := 4) dX10_ones_17 (by decide) ?_
      refine j_sub [2, 1, 0] rfl ?_
      exact hK4 x2 x3 h
  have L4 : ∀ (n : Nat) (v1 : Int32) (v2 : Int32) , fl_X10_ones_4   a0 n v1 v2 = some r0 → bzJ g 3 x σ 4 [(0, .int a0), (1, .int v1), (2, .int v2)] [] := by
    intro  n
    induction n with
    | zero =>
      intro v1 v2   h
      cases h
    | succ n ih =>
      intro v1 v2   h
      exact J4  (fl_X10_ones_4   a0 n) ih v1 v2   h
  refine j_iconst hF (v := 0) dX10_ones_0 (by decide) ?_
  refine j_istore_n hF (lv1 := [(1, .int 0), (0, .int a0)]) dX10_ones_1 (by decide) rfl ?_
  refine j_iload_n hF 1 dX10_ones_2 rfl ?_
  refine j_istore_n hF (lv1 := [(2, .int a0), (1, .int 0), (0, .int a0)]) dX10_ones_3 (by decide) rfl ?_
  refine j_sub [2, 1, 0] rfl ?_
  exact L4 2000 0 a0 h
def f_X10_its (o : Nat) (a1 : Int32) (a2 : Int32) (σ : bzS) : Option Int32 :=
  bzGd (kd o = 10) (bzGd (bzIn ((52 + (4 * a1)) + a2) 254) (some ((σ (ly o 0) ((((52 + (4 * a1)) + a2)).toNatClampNeg)))))
set_option maxHeartbeats 4000000 in
set_option maxRecDepth 20000 in
theorem mt_X10_its {g : bzGeo} {o : Nat} {a1 : Int32} {a2 : Int32} {σ : bzS} {r0 : Int32} (l : Launch) (h : f_X10_its  o a1 a2 σ = some r0) : Met l yX10_its (Cond.code yX10_its cX10_its 3 (some .int) :: GW) (bzR (1)) (va_Pc [.ref (ga g o), .int a1, .int a2] (bzP g σ)) (va_Qi (fun (r : Int32) (u : bzS) => r = r0 ∧ u = σ) (bzB g) (gA g)) 0 0 (gA g) := by
  unfold f_X10_its at h
  obtain ⟨ho, h⟩ := bzGdE h
  refine j_start l (by decide +kernel) [.ref (ga g o), .int a1, .int a2] [(0, .ref (ga g o)), (1, .int a1), (2, .int a2)] (Nat.le_of_ble_eq_true rfl) rfl (fun x hF hG => ?_)
  refine j_aload_n hF 0 dX10_its_0 rfl ?_
  refine gf_X10_7 hF ho dX10_its_1 ?_
  refine j_bipush hF (v := 52) dX10_its_4 (by decide) ?_
  refine j_iconst hF (v := 4) dX10_its_6 (by decide) ?_
  refine j_iload_n hF 1 dX10_its_7 rfl ?_
  refine j_imul hF dX10_its_8 ?_
  refine j_iadd hF dX10_its_9 ?_
  refine j_iload_n hF 2 dX10_its_10 rfl ?_
  refine j_iadd hF dX10_its_11 ?_
  obtain ⟨g1, h⟩ := bzGdE h
  refine j_iald hF (c := (((52 + (4 * a1)) + a2)).toNatClampNeg) (kl_10_0 ho) (nl_10_0 ho) g1 rfl dX10_its_12 ?_
  exact j_iret hF hG dX10_its_13  (Option.some.inj h) rfl
def f_X10_puts (o : Nat) (a1 : Int32) (a2 : Int32) (a3 : Int32) (σ : bzS) : Option bzS :=
  bzGd (kd o = 10) (bzGd (bzIn ((52 + (4 * a1)) + a2) 254) (bzLet (bzSt σ (ly o 0) ((((52 + (4 * a1)) + a2)).toNatClampNeg) a3) (fun σ2 => some σ2)))
set_option maxHeartbeats 4000000 in
set_option maxRecDepth 20000 in
theorem mt_X10_puts {g : bzGeo} {o : Nat} {a1 : Int32} {a2 : Int32} {a3 : Int32} {σ : bzS} {σ0 : bzS} (l : Launch) (h : f_X10_puts  o a1 a2 a3 σ = some σ0) : Met l yX10_puts (Cond.code yX10_puts cX10_puts 4 none :: GW) (bzR (1)) (va_Pc [.ref (ga g o), .int a1, .int a2, .int a3] (bzP g σ)) (va_Qv (fun (u : bzS) => u = σ0) (bzB g) (gA g)) 0 0 (gA g) := by
  unfold f_X10_puts at h
  obtain ⟨ho, h⟩ := bzGdE h
  refine j_start l (by decide +kernel) [.ref (ga g o), .int a1, .int a2, .int a3] [(0, .ref (ga g o)), (1, .int a1), (2, .int a2), (3, .int a3)] (Nat.le_of_ble_eq_true rfl) rfl (fun x hF hG => ?_)
  refine j_aload_n hF 0 dX10_puts_0 rfl ?_
  refine gf_X10_7 hF ho dX10_puts_1 ?_
  refine j_bipush hF (v := 52) dX10_puts_4 (by decide) ?_
  refine j_iconst hF (v := 4) dX10_puts_6 (by decide) ?_
  refine j_iload_n hF 1 dX10_puts_7 rfl ?_
  refine j_imul hF dX10_puts_8 ?_
  refine j_iadd hF dX10_puts_9 ?_
  refine j_iload_n hF 2 dX10_puts_10 rfl ?_
  refine j_iadd hF dX10_puts_11 ?_
  refine j_iload_n hF 3 dX10_puts_12 rfl ?_
  obtain ⟨g1, h⟩ := bzGdE h
  refine j_iast hF (c := (((52 + (4 * a1)) + a2)).toNatClampNeg) (kl_10_0 ho) (nl_10_0 ho) g1 rfl dX10_puts_13 ?_
  refine j_s (fun σ2 eσ2 => ?_)
  replace h := bzLetE h eσ2
  exact j_vret hF hG dX10_puts_14 (Option.some.inj h)
def f_X10_isVisitor (o : Nat) (a1 : Int32) (σ : bzS) : Option Int32 :=
  bzGd (kd o = 10) (bzBd (f_X10_in a1 0 (((σ (ly o 0) 2) - 1))) (fun x2 => bzGd (x2 = 0 ∨ x2 = 1) (some x2)))
set_option maxHeartbeats 4000000 in
set_option maxRecDepth 20000 in
theorem mt_X10_isVisitor {g : bzGeo} {o : Nat} {a1 : Int32} {σ : bzS} {r0 : Int32} (l : Launch) (h : f_X10_isVisitor  o a1 σ = some r0) : Met l yX10_isVisitor (Cond.code yX10_isVisitor cX10_isVisitor 2 (some .boolean) :: GW) (bzR (2)) (va_Pc [.ref (ga g o), .int a1] (bzP g σ)) (va_Qi (fun (r : Int32) (u : bzS) => r = r0 ∧ u = σ) (bzB g) (gA g)) 0 0 (gA g) := by
  unfold f_X10_isVisitor at h
  obtain ⟨ho, h⟩ := bzGdE h
  refine j_start l (by decide +kernel) [.ref (ga g o), .int a1] [(0, .ref (ga g o)), (1, .int a1)] (Nat.le_of_ble_eq_true rfl) rfl (fun x hF hG => ?_)
  refine j_iload_n hF 1 dX10_isVisitor_0 rfl ?_
  refine j_iconst hF (v := 0) dX10_isVisitor_1 (by decide) ?_
  refine j_aload_n hF 0 dX10_isVisitor_2 rfl ?_
  refine gf_X10_7 hF ho dX10_isVisitor_3 ?_
  refine j_iconst hF (v := 2) dX10_isVisitor_6 (by decide) ?_
  refine j_iald hF (c := 2) (kl_10_0 ho) (nl_10_0 ho) (by decide) (by decide) dX10_isVisitor_7 ?_
  refine j_iconst hF (v := 1) dX10_isVisitor_8 (by decide) ?_
  refine j_isub hF dX10_isVisitor_9 ?_
  obtain ⟨x2, e1, h⟩ := bzBdE h
  refine cs_X10_51 hF (fun l => mt_X10_in l e1) (by decide) (Nat.le_of_ble_eq_true rfl) dX10_isVisitor_10 ?_
  obtain ⟨g3, h⟩ := bzGdE h
  exact j_zret hF hG dX10_isVisitor_13 (bz01 g3)  (Option.some.inj h) rfl
def f_X10_becomes (o : Nat) (a1 : Int32) (a2 : Int32) (σ : bzS) : Option (Int32 × bzS) :=
  bzGd (kd o = 10) (bzGd (bzIn a1 254) (bzLet ((σ (ly o 0) a1.toNatClampNeg)) (fun x2 => bzGd (bzIn a1 254) (bzLet (bzSt σ (ly o 0) a1.toNatClampNeg a2) (fun σ4 => some (x2, σ4))))))
set_option maxHeartbeats 4000000 in
set_option maxRecDepth 20000 in
theorem mt_X10_becomes {g : bzGeo} {o : Nat} {a1 : Int32} {a2 : Int32} {σ : bzS} {r0 : Int32} {σ0 : bzS} (l : Launch) (h : f_X10_becomes  o a1 a2 σ = some (r0, σ0)) : Met l yX10_becomes (Cond.code yX10_becomes cX10_becomes 4 (some .int) :: GW) (bzR (1)) (va_Pc [.ref (ga g o), .int a1, .int a2] (bzP g σ)) (va_Qi (fun (r : Int32) (u : bzS) => r = r0 ∧ u = σ0) (bzB g) (gA g)) 0 0 (gA g) := by
  unfold f_X10_becomes at h
  obtain ⟨ho, h⟩ := bzGdE h
  refine j_start l (by decide +kernel) [.ref (ga g o), .int a1, .int a2] [(0, .ref (ga g o)), (1, .int a1), (2, .int a2)] (Nat.le_of_ble_eq_true rfl) rfl (fun x hF hG => ?_)
  refine j_aload_n hF 0 dX10_becomes_0 rfl ?_
  refine gf_X10_7 hF ho dX10_becomes_1 ?_
  refine j_iload_n hF 1 dX10_becomes_4 rfl ?_
  obtain ⟨g1, h⟩ := bzGdE h
  refine j_iald hF (c := a1.toNatClampNeg) (kl_10_0 ho) (nl_10_0 ho) g1 rfl dX10_becomes_5 ?_
  refine j_topi (fun x2 ex2 => ?_)
  replace h := bzLetE h ex2
  refine j_istore_n hF (lv1 := [(3, .int x2), (0, .ref (ga g o)), (1, .int a1), (2, .int a2)]) dX10_becomes_6 (by decide) rfl ?_
  refine j_aload_n hF 1 dX10_becomes_7 rfl ?_
  refine gf_X10_7 hF ho dX10_becomes_8 ?_
  refine j_iload_n hF 2 dX10_becomes_11 rfl ?_
  refine j_iload_n hF 3 dX10_becomes_12 rfl ?_
  obtain ⟨g3, h⟩ := bzGdE h
  refine j_iast hF (c := a1.toNatClampNeg) (kl_10_0 ho) (nl_10_0 ho) g3 rfl dX10_becomes_13 ?_
  refine j_s (fun σ4 eσ4 => ?_)
  replace h := bzLetE h eσ4
  refine j_iload_n hF 0 dX10_becomes_14 rfl ?_
  exact j_iret hF hG dX10_becomes_15  (bzRet h).1 (bzRet h).2
def f_X10_season (o : Nat) (a1 : Int32) (a2 : Int32) (a3 : Int32) (σ : bzS) : Option (Int32 × bzS) :=
  bzGd (kd o = 10) (bzBd (f_X10_in a1 0 5) (fun x2 => if x2 = 0 then (bzBp (f_X10_errs o ((-1000000001)) σ) (fun x5 σ6 => some (x5, σ6))) else (bzBd (f_X10_in a2 0 1) (fun x8 => if x8 = 0 then (bzBp (f_X10_errs o ((-1000000001)) σ) (fun x11 σ12 => some (x11, σ12))) else (bzBd (f_X10_in a3 0 9) (fun x14 => if x14 = 0 then (bzBp (f_X10_errs o ((-1000000001)) σ) (fun x17 σ18 => some (x17, σ18))) else (bzBp (f_X10_becomes o (((12 + (2 * a1)) + a2)) a3 σ) (fun x20 σ21 => some (x20, σ21)))))))))
set_option maxHeartbeats 4000000 in
set_option maxRecDepth 20000 in
theorem mt_X10_season {g : bzGeo} {o : Nat} {a1 : Int32} {a2 : Int32} {a3 : Int32} {σ : bzS} {r0 : Int32} {σ0 : bzS} (l : Launch) (h : f_X10_season  o a1 a2 a3 σ = some (r0, σ0)) : Met l yX10_season (Cond.code yX10_season cX10_season 4 (some .int) :: GW) (bzR (2)) (va_Pc [.ref (ga g o), .int a1, .int a2, .int a3] (bzP g σ)) (va_Qi (fun (r : Int32) (u : bzS) => r = r0 ∧ u = σ0) (bzB g) (gA g)) 0 0 (gA g) := by
  unfold f_X10_season at h
  obtain ⟨ho, h⟩ := bzGdE h
  refine j_start l (by decide +kernel) [.ref (ga g o), .int a1, .int a2, .int a3] [(0, .ref (ga g o)), (1, .int a1), (2, .int a2), (3, .int a3)] (Nat.le_of_ble_eq_true rfl) rfl (fun x hF hG => ?_)
  refine j_iload_n hF 1 dX10_season_0 rfl ?_
  refine j_iconst hF (v := 0) dX10_season_1 (by decide) ?_
  refine j_iconst hF (v := 5) dX10_season_2 (by decide) ?_
  obtain ⟨x2, e1, h⟩ := bzBdE h
  refine cs_X10_51 hF (fun l => mt_X10_in l e1) (by decide) (Nat.le_of_ble_eq_true rfl) dX10_season_3 ?_
  refine j_if_eq hF (tgt := 44) dX10_season_6 (by decide) (fun c3 => ?_) (fun c3 => ?_)
  · replace h := bzIfT h c3
    refine j_aload_n hF 0 dX10_season_44 rfl ?_
    refine j_ldc hF (v := (-1000000001)) kc_X10_59 dX10_season_45 ?_
    obtain ⟨x5, σ6, e4, h⟩ := bzBpE h
    refine cs_X10_60 hF ho (fun l => mt_X10_errs l e4) (by decide) (Nat.le_of_ble_eq_true rfl) dX10_season_47 ?_
    exact j_iret hF hG dX10_season_50  (bzRet h).1 (bzRet h).2
  · replace h := bzIfF h c3
    refine j_iload_n hF 2 dX10_season_9 rfl ?_
    refine j_iconst hF (v := 0) dX10_season_10 (by decide) ?_
    refine j_iconst hF (v := 1) dX10_season_11 (by decide) ?_
    obtain ⟨x8, e7, h⟩ := bzBdE h
    refine cs_X10_51 hF (fun l => mt_X10_in l e7) (by decide) (Nat.le_of_ble_eq_true rfl) dX10_season_12 ?_
    refine j_if_eq hF (tgt := 44) dX10_season_15 (by decide) (fun c9 => ?_) (fun c9 => ?_)
    · replace h := bzIfT h c9
      refine j_aload_n hF 0 dX10_season_44 rfl ?_
      refine j_ldc hF (v := (-1000000001)) kc_X10_59 dX10_season_45 ?_
      obtain ⟨x11, σ12, e10, h⟩ := bzBpE h
      refine cs_X10_60 hF ho (fun l => mt_X10_errs l e10) (by decide) (Nat.le_of_ble_eq_true rfl) dX10_season_47 ?_
      exact j_iret hF hG dX10_season_50  (bzRet h).1 (bzRet h).2
    · replace h := bzIfF h c9
      refine j_iload_n hF 3 dX10_season_18 rfl ?_
      refine j_iconst hF (v := 0) dX10_season_19 (by decide) ?_
      refine j_bipush hF (v := 9) dX10_season_20 (by decide) ?_
      obtain ⟨x14, e13, h⟩ := bzBdE h
      refine cs_X10_51 hF (fun l => mt_X10_in l e13) (by decide) (Nat.le_of_ble_eq_true rfl) dX10_season_22 ?_
      refine j_if_eq hF (tgt := 44) dX10_season_25 (by decide) (fun c15 => ?_) (fun c15 => ?_)
      · replace h := bzIfT h c15
        refine j_aload_n hF 0 dX10_season_44 rfl ?_
        refine j_ldc hF (v := (-1000000001)) kc_X10_59 dX10_season_45 ?_
        obtain ⟨x17, σ18, e16, h⟩ := bzBpE h
        refine cs_X10_60 hF ho (fun l => mt_X10_errs l e16) (by decide) (Nat.le_of_ble_eq_true rfl) dX10_season_47 ?_
        exact j_iret hF hG dX10_season_50  (bzRet h).1 (bzRet h).2
      · replace h := bzIfF h c15
        refine j_aload_n hF 0 dX10_season_28 rfl ?_
        refine j_bipush hF (v := 12) dX10_season_29 (by decide) ?_
        refine j_iconst hF (v := 2) dX10_season_31 (by decide) ?_
        refine j_iload_n hF 1 dX10_season_32 rfl ?_
        refine j_imul hF dX10_season_33 ?_
        refine j_iadd hF dX10_season_34 ?_
        refine j_iload_n hF 2 dX10_season_35 rfl ?_
        refine j_iadd hF dX10_season_36 ?_
        refine j_iload_n hF 3 dX10_season_37 rfl ?_
        obtain ⟨x20, σ21, e19, h⟩ := bzBpE h
        refine cs_X10_55 hF ho (fun l => mt_X10_becomes l e19) (by decide) (Nat.le_of_ble_eq_true rfl) dX10_season_38 ?_
        refine j_goto hF (tgt := 50) dX10_season_41 (by decide) ?_
        exact j_iret hF hG dX10_season_50  (bzRet h).1 (bzRet h).2
def f_X10_ofSeason (o : Nat) (a1 : Int32) (a2 : Int32) (σ : bzS) : Option (Int32 × bzS) :=
  bzGd (kd o = 10) (bzBd (f_X10_in a1 0 5) (fun x2 => if x2 = 0 then (bzBp (f_X10_errs o ((-1000000001)) σ) (fun x5 σ6 => some (x5, σ6))) else (bzBd (f_X10_in a2 0 1) (fun x8 => if x8 = 0 then (bzBp (f_X10_errs o ((-1000000001)) σ) (fun x11 σ12 => some (x11, σ12))) else (bzGd (bzIn ((12 + (2 * a1)) + a2) 254) (some ((σ (ly o 0) ((((12 + (2 * a1)) + a2)).toNatClampNeg)), σ)))))))
set_option maxHeartbeats 4000000 in
set_option maxRecDepth 20000 in
theorem mt_X10_ofSeason {g : bzGeo} {o : Nat} {a1 : Int32} {a2 : Int32} {σ : bzS} {r0 : Int32} {σ0 : bzS} (l : Launch) (h : f_X10_ofSeason  o a1 a2 σ = some (r0, σ0)) : Met l yX10_ofSeason (Cond.code yX10_ofSeason cX10_ofSeason 3 (some .int) :: GW) (bzR (2)) (va_Pc [.ref (ga g o), .int a1, .int a2] (bzP g σ)) (va_Qi (fun (r : Int32) (u : bzS) => r = r0 ∧ u = σ0) (bzB g) (gA g)) 0 0 (gA g) := by
  unfold f_X10_ofSeason at h
  obtain ⟨ho, h⟩ := bzGdE h
  refine j_start l (by decide +kernel) [.ref (ga g o), .int a1, .int a2] [(0, .ref (ga g o)), (1, .int a1), (2, .int a2)] (Nat.le_of_ble_eq_true rfl) rfl (fun x hF hG => ?_)
  refine j_iload_n hF 1 dX10_ofSeason_0 rfl ?_
  refine j_iconst hF (v := 0) dX10_ofSeason_1 (by decide) ?_
  refine j_iconst hF (v := 5) dX10_ofSeason_2 (by decide) ?_
  obtain ⟨x2, e1, h⟩ := bzBdE h
  refine cs_X10_51 hF (fun l => mt_X10_in l e1) (by decide) (Nat.le_of_ble_eq_true rfl) dX10_ofSeason_3 ?_
  refine j_if_eq hF (tgt := 34) dX10_ofSeason_6 (by decide) (fun c3 => ?_) (fun c3 => ?_)
  · replace h := bzIfT h c3
    refine j_aload_n hF 0 dX10_ofSeason_34 rfl ?_
    refine j_ldc hF (v := (-1000000001)) kc_X10_59 dX10_ofSeason_35 ?_
    obtain ⟨x5, σ6, e4, h⟩ := bzBpE h
    refine cs_X10_60 hF ho (fun l => mt_X10_errs l e4) (by decide) (Nat.le_of_ble_eq_true rfl) dX10_ofSeason_37 ?_
    exact j_iret hF hG dX10_ofSeason_40  (bzRet h).1 (bzRet h).2
  · replace h := bzIfF h c3
    refine j_iload_n hF 2 dX10_ofSeason_9 rfl ?_
    refine j_iconst hF (v := 0) dX10_ofSeason_10 (by decide) ?_
    refine j_iconst hF (v := 1) dX10_ofSeason_11 (by decide) ?_
    obtain ⟨x8, e7, h⟩ := bzBdE h
    refine cs_X10_51 hF (fun l => mt_X10_in l e7) (by decide) (Nat.le_of_ble_eq_true rfl) dX10_ofSeason_12 ?_
    refine j_if_eq hF (tgt := 34) dX10_ofSeason_15 (by decide) (fun c9 => ?_) (fun c9 => ?_)
    · replace h := bzIfT h c9
      refine j_aload_n hF 0 dX10_ofSeason_34 rfl ?_
      refine j_ldc hF (v := (-1000000001)) kc_X10_59 dX10_ofSeason_35 ?_
      obtain ⟨x11, σ12, e10, h⟩ := bzBpE h
      refine cs_X10_60 hF ho (fun l => mt_X10_errs l e10) (by decide) (Nat.le_of_ble_eq_true rfl) dX10_ofSeason_37 ?_
      exact j_iret hF hG dX10_ofSeason_40  (bzRet h).1 (bzRet h).2
    · replace h := bzIfF h c9
      refine j_aload_n hF 0 dX10_ofSeason_18 rfl ?_
      refine gf_X10_7 hF ho dX10_ofSeason_19 ?_
      refine j_bipush hF (v := 12) dX10_ofSeason_22 (by decide) ?_
      refine j_iconst hF (v := 2) dX10_ofSeason_24 (by decide) ?_
      refine j_iload_n hF 1 dX10_ofSeason_25 rfl ?_
      refine j_imul hF dX10_ofSeason_26 ?_
      refine j_iadd hF dX10_ofSeason_27 ?_
      refine j_iload_n hF 2 dX10_ofSeason_28 rfl ?_
      refine j_iadd hF dX10_ofSeason_29 ?_
      obtain ⟨g13, h⟩ := bzGdE h
      refine j_iald hF (c := (((12 + (2 * a1)) + a2)).toNatClampNeg) (kl_10_0 ho) (nl_10_0 ho) g13 rfl dX10_ofSeason_30 ?_
      refine j_goto hF (tgt := 40) dX10_ofSeason_31 (by decide) ?_
      exact j_iret hF hG dX10_ofSeason_40  (bzRet h).1 (bzRet h).2
def f_X10_mostOf (a0 : Int32) : Option Int32 :=
  if a0 = 3 then (some 60) else (if a0 = 4 then (some 15) else (some 99))
set_option maxHeartbeats 4000000 in
set_option maxRecDepth 20000 in
theorem mt_X10_mostOf {g : bzGeo} {a0 : Int32} {σ : bzS} {r0 : Int32} (l : Launch) (h : f_X10_mostOf  a0 = some r0) : Met l yX10_mostOf (Cond.code yX10_mostOf cX10_mostOf 1 (some .int) :: GW) (bzR (1)) (va_Pc [.int a0] (bzP g σ)) (va_Qi (fun (r : Int32) (u : bzS) => r = r0 ∧ u = σ) (bzB g) (gA g)) 0 0 (gA g) := by
  unfold f_X10_mostOf at h
  refine j_start l (by decide +kernel) [.int a0] [(0, .int a0)] (Nat.le_of_ble_eq_true rfl) rfl (fun x hF hG => ?_)
  refine j_iload_n hF 0 dX10_mostOf_0 rfl ?_
  refine j_iconst hF (v := 3) dX10_mostOf_1 (by decide) ?_
  refine j_icmp_ne hF (tgt := 10) dX10_mostOf_2 (by decide) (fun c1 => ?_) (fun c1 => ?_)
  · replace h := bzIfF h c1
    refine j_iload_n hF 0 dX10_mostOf_10 rfl ?_
    refine j_iconst hF (v := 4) dX10_mostOf_11 (by decide) ?_
    refine j_icmp_ne hF (tgt := 20) dX10_mostOf_12 (by decide) (fun c2 => ?_) (fun c2 => ?_)
    · replace h := bzIfF h c2
      refine j_bipush hF (v := 99) dX10_mostOf_20 (by decide) ?_
      exact j_iret hF hG dX10_mostOf_22  (Option.some.inj h) rfl
    · replace h := bzIfT h c2
      refine j_bipush hF (v := 15) dX10_mostOf_15 (by decide) ?_
      refine j_goto hF (tgt := 22) dX10_mostOf_17 (by decide) ?_
      exact j_iret hF hG dX10_mostOf_22  (Option.some.inj h) rfl
  · replace h := bzIfT h c1
    refine j_bipush hF (v := 60) dX10_mostOf_5 (by decide) ?_
    refine j_goto hF (tgt := 22) dX10_mostOf_7 (by decide) ?_
    exact j_iret hF hG dX10_mostOf_22  (Option.some.inj h) rfl
def f_X10_figure (o : Nat) (a1 : Int32) (a2 : Int32) (σ : bzS) : Option (Int32 × bzS) :=
  bzGd (kd o = 10) (bzBd (f_X10_in a1 0 4) (fun x2 => if x2 = 0 then (bzBp (f_X10_errs o ((-1000000001)) σ) (fun x5 σ6 => some (x5, σ6))) else (bzBd (f_X10_mostOf a1) (fun x8 => bzBd (f_X10_in a2 0 x8) (fun x10 => if x10 = 0 then (bzBp (f_X10_errs o ((-1000000001)) σ) (fun x13 σ14 => some (x13, σ14))) else (bzBp (f_X10_becomes o ((3 + a1)) a2 σ) (fun x16 σ17 => some (x16, σ17))))))))
set_option maxHeartbeats 4000000 in
set_option maxRecDepth 20000 in
theorem mt_X10_figure {g : bzGeo} {o : Nat} {a1 : Int32} {a2 : Int32} {σ : bzS} {r0 : Int32} {σ0 : bzS} (l : Launch) (h : f_X10_figure  o a1 a2 σ = some (r0, σ0)) : Met l yX10_figure (Cond.code yX10_figure cX10_figure 3 (some .int) :: GW) (bzR (2)) (va_Pc [.ref (ga g o), .int a1, .int a2] (bzP g σ)) (va_Qi (fun (r : Int32) (u : bzS) => r = r0 ∧ u = σ0) (bzB g) (gA g)) 0 0 (gA g) := by
  unfold f_X10_figure at h
  obtain ⟨ho, h⟩ := bzGdE h
  refine j_start l (by decide +kernel) [.ref (ga g o), .int a1, .int a2] [(0, .ref (ga g o)), (1, .int a1), (2, .int a2)] (Nat.le_of_ble_eq_true rfl) rfl (fun x hF hG => ?_)
  refine j_iload_n hF 1 dX10_figure_0 rfl ?_
  refine j_iconst hF (v := 0) dX10_figure_1 (by decide) ?_
  refine j_iconst hF (v := 4) dX10_figure_2 (by decide) ?_
  obtain ⟨x2, e1, h⟩ := bzBdE h
  refine cs_X10_51 hF (fun l => mt_X10_in l e1) (by decide) (Nat.le_of_ble_eq_true rfl) dX10_figure_3 ?_
  refine j_if_eq hF (tgt := 32) dX10_figure_6 (by decide) (fun c3 => ?_) (fun c3 => ?_)
  · replace h := bzIfT h c3
    refine j_aload_n hF 0 dX10_figure_32 rfl ?_
    refine j_ldc hF (v := (-1000000001)) kc_X10_59 dX10_figure_33 ?_
    obtain ⟨x5, σ6, e4, h⟩ := bzBpE h
    refine cs_X10_60 hF ho (fun l => mt_X10_errs l e4) (by decide) (Nat.le_of_ble_eq_true rfl) dX10_figure_35 ?_
    exact j_iret hF hG dX10_figure_38  (bzRet h).1 (bzRet h).2
  · replace h := bzIfF h c3
    refine j_iload_n hF 2 dX10_figure_9 rfl ?_
    refine j_iconst hF (v := 0) dX10_figure_10 (by decide) ?_
    refine j_iload_n hF 1 dX10_figure_11 rfl ?_
    obtain ⟨x8, e7, h⟩ := bzBdE h
    refine cs_X10_64 hF (fun l => mt_X10_mostOf l e7) (by decide) (Nat.le_of_ble_eq_true rfl) dX10_figure_12 ?_
    obtain ⟨x10, e9, h⟩ := bzBdE h
    refine cs_X10_51 hF (fun l => mt_X10_in l e9) (by decide) (Nat.le_of_ble_eq_true rfl) dX10_figure_15 ?_
    refine j_if_eq hF (tgt := 32) dX10_figure_18 (by decide) (fun c11 => ?_) (fun c11 => ?_)
    · replace h := bzIfT h c11
      refine j_aload_n hF 0 dX10_figure_32 rfl ?_
      refine j_ldc hF (v := (-1000000001)) kc_X10_59 dX10_figure_33 ?_
      obtain ⟨x13, σ14, e12, h⟩ := bzBpE h
      refine cs_X10_60 hF ho (fun l => mt_X10_errs l e12) (by decide) (Nat.le_of_ble_eq_true rfl) dX10_figure_35 ?_
      exact j_iret hF hG dX10_figure_38  (bzRet h).1 (bzRet h).2
    · replace h := bzIfF h c11
      refine j_aload_n hF 0 dX10_figure_21 rfl ?_
      refine j_iconst hF (v := 3) dX10_figure_22 (by decide) ?_
      refine j_iload_n hF 1 dX10_figure_23 rfl ?_
      refine j_iadd hF dX10_figure_24 ?_
      refine j_iload_n hF 2 dX10_figure_25 rfl ?_
      obtain ⟨x16, σ17, e15, h⟩ := bzBpE h
      refine cs_X10_55 hF ho (fun l => mt_X10_becomes l e15) (by decide) (Nat.le_of_ble_eq_true rfl) dX10_figure_26 ?_
      refine j_goto hF (tgt := 38) dX10_figure_29 (by decide) ?_
      exact j_iret hF hG dX10_figure_38  (bzRet h).1 (bzRet h).2
def f_X10_weight (o : Nat) (σ : bzS) : Option Int32 :=
  bzGd (kd o = 10) (some ((40 + ((σ (ly o 0) 5) / 4))))
set_option maxHeartbeats 4000000 in
set_option maxRecDepth 20000 in
theorem mt_X10_weight {g : bzGeo} {o : Nat} {σ : bzS} {r0 : Int32} (l : Launch) (h : f_X10_weight  o σ = some r0) : Met l yX10_weight (Cond.code yX10_weight cX10_weight 1 (some .int) :: GW) (bzR (1)) (va_Pc [.ref (ga g o)] (bzP g σ)) (va_Qi (fun (r : Int32) (u : bzS) => r = r0 ∧ u = σ) (bzB g) (gA g)) 0 0 (gA g) := by
  unfold f_X10_weight at h
  obtain ⟨ho, h⟩ := bzGdE h
  refine j_start l (by decide +kernel) [.ref (ga g o)] [(0, .ref (ga g o))] (Nat.le_of_ble_eq_true rfl) rfl (fun x hF hG => ?_)
  refine j_bipush hF (v := 40) dX10_weight_0 (by decide) ?_
  refine j_aload_n hF 0 dX10_weight_2 rfl ?_
  refine gf_X10_7 hF ho dX10_weight_3 ?_
  refine j_iconst hF (v := 5) dX10_weight_6 (by decide) ?_
  refine j_iald hF (c := 5) (kl_10_0 ho) (nl_10_0 ho) (by decide) (by decide) dX10_weight_7 ?_
  refine j_iconst hF (v := 4) dX10_weight_8 (by decide) ?_
  refine j_idiv hF dX10_weight_9 (by decide) ?_
  refine j_iadd hF dX10_weight_10 ?_
  exact j_iret hF hG dX10_weight_11  (Option.some.inj h) rfl
def f_X10_isGood (o : Nat) (a1 : Int32) (σ : bzS) : Option Int32 :=
  bzGd (kd o = 10) (bzGd (bzIn ((24 + (2 * a1)) + 1) 254) (bzBd (f_X10_weight o σ) (fun x3 => if (σ (ly o 0) ((((24 + (2 * a1)) + 1)).toNatClampNeg)) < x3 then (some 0) else (some 1))))
set_option maxHeartbeats 4000000 in
set_option maxRecDepth 20000 in
theorem mt_X10_isGood {g : bzGeo} {o : Nat} {a1 : Int32} {σ : bzS} {r0 : Int32} (l : Launch) (h : f_X10_isGood  o a1 σ = some r0) : Met l yX10_isGood (Cond.code yX10_isGood cX10_isGood 2 (some .boolean) :: GW) (bzR (2)) (va_Pc [.ref (ga g o), .int a1] (bzP g σ)) (va_Qi (fun (r : Int32) (u : bzS) => r = r0 ∧ u = σ) (bzB g) (gA g)) 0 0 (gA g) := by
  unfold f_X10_isGood at h
  obtain ⟨ho, h⟩ := bzGdE h
  refine j_start l (by decide +kernel) [.ref (ga g o), .int a1] [(0, .ref (ga g o)), (1, .int a1)] (Nat.le_of_ble_eq_true rfl) rfl (fun x hF hG => ?_)
  refine j_aload_n hF 0 dX10_isGood_0 rfl ?_
  refine gf_X10_7 hF ho dX10_isGood_1 ?_
  refine j_bipush hF (v := 24) dX10_isGood_4 (by decide) ?_
  refine j_iconst hF (v := 2) dX10_isGood_6 (by decide) ?_
  refine j_iload_n hF 1 dX10_isGood_7 rfl ?_
  refine j_imul hF dX10_isGood_8 ?_
  refine j_iadd hF dX10_isGood_9 ?_
  refine j_iconst hF (v := 1) dX10_isGood_10 (by decide) ?_
  refine j_iadd hF dX10_isGood_11 ?_
  obtain ⟨g1, h⟩ := bzGdE h
  refine j_iald hF (c := (((24 + (2 * a1)) + 1)).toNatClampNeg) (kl_10_0 ho) (nl_10_0 ho) g1 rfl dX10_isGood_12 ?_
  refine j_aload_n hF 0 dX10_isGood_13 rfl ?_
  obtain ⟨x3, e2, h⟩ := bzBdE h
  refine cs_X10_67 hF ho (fun l => mt_X10_weight l e2) (by decide) (Nat.le_of_ble_eq_true rfl) dX10_isGood_14 ?_
  refine j_icmp_lt hF (tgt := 24) dX10_isGood_17 (by decide) (fun c4 => ?_) (fun c4 => ?_)
  · replace h := bzIfT h c4
    refine j_iconst hF (v := 0) dX10_isGood_24 (by decide) ?_
    exact j_zret hF hG dX10_isGood_25 (by decide)  (Option.some.inj h) rfl
  · replace h := bzIfF h c4
    refine j_iconst hF (v := 1) dX10_isGood_20 (by decide) ?_
    refine j_goto hF (tgt := 25) dX10_isGood_21 (by decide) ?_
    exact j_zret hF hG dX10_isGood_25 (by decide)  (Option.some.inj h) rfl
def fb_X10_step_32 (o : Nat) (a1 : Int32) (a2 : Int32) (a3 : Int32) (s0 : Int32) (s1 : Int32) (s2 : Int32) (σ1 : bzS) : Option (Int32 × bzS) :=
  bzBd (f_X10_in s2 s1 s0) (fun x15 => if x15 = 0 then (bzBp (f_X10_errs o ((-1000000001)) σ1) (fun x18 σ19 => some (x18, σ19))) else (bzBp (f_X10_becomes o (((24 + (2 * a1)) + a2)) a3 σ1) (fun x21 σ22 => some (x21, σ22))))
def f_X10_step (o : Nat) (a1 : Int32) (a2 : Int32) (a3 : Int32) (σ : bzS) : Option (Int32 × bzS) :=
  bzGd (kd o = 10) (bzBd (f_X10_in a1 0 9) (fun x2 => if x2 = 0 then (bzBp (f_X10_errs o ((-1000000001)) σ) (fun x5 σ6 => some (x5, σ6))) else (bzBd (f_X10_in a2 0 1) (fun x8 => if x8 = 0 then (bzBp (f_X10_errs o ((-1000000001)) σ) (fun x11 σ12 => some (x11, σ12))) else (if a2 = 0 then (fb_X10_step_32 o a1 a2 a3 9 0 a3 σ) else (fb_X10_step_32 o a1 a2 a3 99 0 a3 σ))))))
set_option maxHeartbeats 4000000 in
set_option maxRecDepth 20000 in
theorem mt_X10_step {g : bzGeo} {o : Nat} {a1 : Int32} {a2 : Int32} {a3 : Int32} {σ : bzS} {r0 : Int32} {σ0 : bzS} (l : Launch) (h : f_X10_step  o a1 a2 a3 σ = some (r0, σ0)) : Met l yX10_step (Cond.code yX10_step cX10_step 4 (some .int) :: GW) (bzR (2)) (va_Pc [.ref (ga g o), .int a1, .int a2, .int a3] (bzP g σ)) (va_Qi (fun (r : Int32) (u : bzS) => r = r0 ∧ u = σ0) (bzB g) (gA g)) 0 0 (gA g) := by
  unfold f_X10_step at h
  obtain ⟨ho, h⟩ := bzGdE h
  refine j_start l (by decide +kernel) [.ref (ga g o), .int a1, .int a2, .int a3] [(0, .ref (ga g o)), (1, .int a1), (2, .int a2), (3, .int a3)] (Nat.le_of_ble_eq_true rfl) rfl (fun x hF hG => ?_)
  have J32 : ∀ (s0 : Int32) (s1 : Int32) (s2 : Int32) (σ1 : bzS), fb_X10_step_32 o a1 a2 a3 s0 s1 s2 σ1 = some (r0, σ0) → bzJ g 4 x σ1 32 [(0, .ref (ga g o)), (1, .int a1), (2, .int a2), (3, .int a3)] [.int s0, .int s1, .int s2] := by
    intro s0 s1 s2 σ1 h
    unfold fb_X10_step_32 at h
    obtain ⟨x15, e14, h⟩ := bzBdE h
    refine cs_X10_51 hF (fun l => mt_X10_in l e14) (by decide) (Nat.le_of_ble_eq_true rfl) dX10_step_32 ?_
    refine j_if_eq hF (tgt := 54) dX10_step_35 (by decide) (fun c16 => ?_) (fun c16 => ?_)
    · replace h := bzIfT h c16
      refine j_aload_n hF 0 dX10_step_54 rfl ?_
      refine j_ldc hF (v := (-1000000001)) kc_X10_59 dX10_step_55 ?_
      obtain ⟨x18, σ19, e17, h⟩ := bzBpE h
      refine cs_X10_60 hF ho (fun l => mt_X10_errs l e17) (by decide) (Nat.le_of_ble_eq_true rfl) dX10_step_57 ?_
      exact j_iret hF hG dX10_step_60 (bzRet h).1 (bzRet h).2
    · replace h := bzIfF h c16
      refine j_aload_n hF 0 dX10_step_38 rfl ?_
      refine j_bipush hF (v := 24) dX10_step_39 (by decide) ?_
      refine j_iconst hF (v := 2) dX10_step_41 (by decide) ?_
      refine j_iload_n hF 1 dX10_step_42 rfl ?_
      refine j_imul hF dX10_step_43 ?_
      refine j_iadd hF dX10_step_44 ?_
      refine j_iload_n hF 2 dX10_step_45 rfl ?_
      refine j_iadd hF dX10_step_46 ?_
      refine j_iload_n hF 3 dX10_step_47 rfl ?_
      obtain ⟨x21, σ22, e20, h⟩ := bzBpE h
      refine cs_X10_55 hF ho (fun l => mt_X10_becomes l e20) (by decide) (Nat.le_of_ble_eq_true rfl) dX10_step_48 ?_
      refine j_goto hF (tgt := 60) dX10_step_51 (by decide) ?_
      exact j_iret hF hG dX10_step_60 (bzRet h).1 (bzRet h).2
  refine j_iload_n hF 1 dX10_step_0 rfl ?_
  refine j_iconst hF (v := 0) dX10_step_1 (by decide) ?_
  refine j_bipush hF (v := 9) dX10_step_2 (by decide) ?_
  obtain ⟨x2, e1, h⟩ := bzBdE h
  refine cs_X10_51 hF (fun l => mt_X10_in l e1) (by decide) (Nat.le_of_ble_eq_true rfl) dX10_step_4 ?_
  refine j_if_eq hF (tgt := 54) dX10_step_7 (by decide) (fun c3 => ?_) (fun c3 => ?_)
  · replace h := bzIfT h c3
    refine j_aload_n hF 0 dX10_step_54 rfl ?_
    refine j_ldc hF (v := (-1000000001)) kc_X10_59 dX10_step_55 ?_
    obtain ⟨x5, σ6, e4, h⟩ := bzBpE h
    refine cs_X10_60 hF ho (fun l => mt_X10_errs l e4) (by decide) (Nat.le_of_ble_eq_true rfl) dX10_step_57 ?_
    exact j_iret hF hG dX10_step_60  (bzRet h).1 (bzRet h).2
  · replace h := bzIfF h c3
    refine j_iload_n hF 2 dX10_step_10 rfl ?_
    refine j_iconst hF (v := 0) dX10_step_11 (by decide) ?_
    refine j_iconst hF (v := 1) dX10_step_12 (by decide) ?_
    obtain ⟨x8, e7, h⟩ := bzBdE h
    refine cs_X10_51 hF (fun l => mt_X10_in l e7) (by decide) (Nat.le_of_ble_eq_true rfl) dX10_step_13 ?_
    refine j_if_eq hF (tgt := 54) dX10_step_16 (by decide) (fun c9 => ?_) (fun c9 => ?_)
    · replace h := bzIfT h c9
      refine j_aload_n hF 0 dX10_step_54 rfl ?_
      refine j_ldc hF (v := (-1000000001)) kc_X10_59 dX10_step_55 ?_
      obtain ⟨x11, σ12, e10, h⟩ := bzBpE h
      refine cs_X10_60 hF ho (fun l => mt_X10_errs l e10) (by decide) (Nat.le_of_ble_eq_true rfl) dX10_step_57 ?_
      exact j_iret hF hG dX10_step_60  (bzRet h).1 (bzRet h).2
    · replace h := bzIfF h c9
      refine j_iload_n hF 3 dX10_step_19 rfl ?_
      refine j_iconst hF (v := 0) dX10_step_20 (by decide) ?_
      refine j_iload_n hF 2 dX10_step_21 rfl ?_
      refine j_if_ne hF (tgt := 30) dX10_step_22 (by decide) (fun c13 => ?_) (fun c13 => ?_)
      · replace h := bzIfF h c13
        refine j_bipush hF (v := 99) dX10_step_30 (by decide) ?_
        exact J32 99 0 a3 σ h
      · replace h := bzIfT h c13
        refine j_bipush hF (v := 9) dX10_step_25 (by decide) ?_
        refine j_goto hF (tgt := 32) dX10_step_27 (by decide) ?_
        exact J32 9 0 a3 σ h
def f_X10_ofStep (o : Nat) (a1 : Int32) (a2 : Int32) (σ : bzS) : Option (Int32 × bzS) :=
  bzGd (kd o = 10) (bzBd (f_X10_in a1 0 9) (fun x2 => if x2 = 0 then (bzBp (f_X10_errs o ((-1000000001)) σ) (fun x5 σ6 => some (x5, σ6))) else (bzBd (f_X10_in a2 0 2) (fun x8 => if x8 = 0 then (bzBp (f_X10_errs o ((-1000000001)) σ) (fun x16 σ17 => some (x16, σ17))) else (if 2 ≤ a2 then (bzBd (f_X10_isGood o a1 σ) (fun x12 => if x12 = 0 then (some (0, σ)) else (some (1, σ)))) else (bzGd (bzIn ((24 + (2 * a1)) + a2) 254) (some ((σ (ly o 0) ((((24 + (2 * a1)) + a2)).toNatClampNeg)), σ))))))))
set_option maxHeartbeats 4000000 in
set_option maxRecDepth 20000 in
theorem mt_X10_ofStep {g : bzGeo} {o : Nat} {a1 : Int32} {a2 : Int32} {σ : bzS} {r0 : Int32} {σ0 : bzS} (l : Launch) (h : f_X10_ofStep  o a1 a2 σ = some (r0, σ0)) : Met l yX10_ofStep (Cond.code yX10_ofStep cX10_ofStep 3 (some .int) :: GW) (bzR (3)) (va_Pc [.ref (ga g o), .int a1, .int a2] (bzP g σ)) (va_Qi (fun (r : Int32) (u : bzS) => r = r0 ∧ u = σ0) (bzB g) (gA g)) 0 0 (gA g) := by
  unfold f_X10_ofStep at h
  obtain ⟨ho, h⟩ := bzGdE h
  refine j_start l (by decide +kernel) [.ref (ga g o), .int a1, .int a2] [(0, .ref (ga g o)), (1, .int a1), (2, .int a2)] (Nat.le_of_ble_eq_true rfl) rfl (fun x hF hG => ?_)
  refine j_iload_n hF 1 dX10_ofStep_0 rfl ?_
  refine j_iconst hF (v := 0) dX10_ofStep_1 (by decide) ?_
  refine j_bipush hF (v := 9) dX10_ofStep_2 (by decide) ?_
  obtain ⟨x2, e1, h⟩ := bzBdE h
  refine cs_X10_51 hF (fun l => mt_X10_in l e1) (by decide) (Nat.le_of_ble_eq_true rfl) dX10_ofStep_4 ?_
  refine j_if_eq hF (tgt := 19) dX10_ofStep_7 (by decide) (fun c3 => ?_) (fun c3 => ?_)
  · replace h := bzIfT h c3
    refine j_aload_n hF 0 dX10_ofStep_19 rfl ?_
    refine j_ldc hF (v := (-1000000001)) kc_X10_59 dX10_ofStep_20 ?_
    obtain ⟨x5, σ6, e4, h⟩ := bzBpE h
    refine cs_X10_60 hF ho (fun l => mt_X10_errs l e4) (by decide) (Nat.le_of_ble_eq_true rfl) dX10_ofStep_22 ?_
    exact j_iret hF hG dX10_ofStep_25  (bzRet h).1 (bzRet h).2
  · replace h := bzIfF h c3
    refine j_iload_n hF 2 dX10_ofStep_10 rfl ?_
    refine j_iconst hF (v := 0) dX10_ofStep_11 (by decide) ?_
    refine j_iconst hF (v := 2) dX10_ofStep_12 (by decide) ?_
    obtain ⟨x8, e7, h⟩ := bzBdE h
    refine cs_X10_51 hF (fun l => mt_X10_in l e7) (by decide) (Nat.le_of_ble_eq_true rfl) dX10_ofStep_13 ?_
    refine j_if_ne hF (tgt := 26) dX10_ofStep_16 (by decide) (fun c9 => ?_) (fun c9 => ?_)
    · replace h := bzIfF h c9
      refine j_iload_n hF 2 dX10_ofStep_26 rfl ?_
      refine j_iconst hF (v := 2) dX10_ofStep_27 (by decide) ?_
      refine j_icmp_ge hF (tgt := 47) dX10_ofStep_28 (by decide) (fun c10 => ?_) (fun c10 => ?_)
      · replace h := bzIfT h c10
        refine j_aload_n hF 0 dX10_ofStep_47 rfl ?_
        refine j_iload_n hF 1 dX10_ofStep_48 rfl ?_
        obtain ⟨x12, e11, h⟩ := bzBdE h
        refine cs_X10_71 hF ho (fun l => mt_X10_isGood l e11) (by decide) (Nat.le_of_ble_eq_true rfl) dX10_ofStep_49 ?_
        refine j_if_eq hF (tgt := 59) dX10_ofStep_52 (by decide) (fun c13 => ?_) (fun c13 => ?_)
        · replace h := bzIfT h c13
          refine j_iconst hF (v := 0) dX10_ofStep_59 (by decide) ?_
          exact j_iret hF hG dX10_ofStep_60  (bzRet h).1 (bzRet h).2
        · replace h := bzIfF h c13
          refine j_iconst hF (v := 1) dX10_ofStep_55 (by decide) ?_
          refine j_goto hF (tgt := 60) dX10_ofStep_56 (by decide) ?_
          exact j_iret hF hG dX10_ofStep_60  (bzRet h).1 (bzRet h).2
      · replace h := bzIfF h c10
        refine j_aload_n hF 0 dX10_ofStep_31 rfl ?_
        refine gf_X10_7 hF ho dX10_ofStep_32 ?_
        refine j_bipush hF (v := 24) dX10_ofStep_35 (by decide) ?_
        refine j_iconst hF (v := 2) dX10_ofStep_37 (by decide) ?_
        refine j_iload_n hF 1 dX10_ofStep_38 rfl ?_
        refine j_imul hF dX10_ofStep_39 ?_
        refine j_iadd hF dX10_ofStep_40 ?_
        refine j_iload_n hF 2 dX10_ofStep_41 rfl ?_
        refine j_iadd hF dX10_ofStep_42 ?_
        obtain ⟨g14, h⟩ := bzGdE h
        refine j_iald hF (c := (((24 + (2 * a1)) + a2)).toNatClampNeg) (kl_10_0 ho) (nl_10_0 ho) g14 rfl dX10_ofStep_43 ?_
        refine j_goto hF (tgt := 60) dX10_ofStep_44 (by decide) ?_
        exact j_iret hF hG dX10_ofStep_60  (bzRet h).1 (bzRet h).2
    · replace h := bzIfT h c9
      refine j_aload_n hF 0 dX10_ofStep_19 rfl ?_
      refine j_ldc hF (v := (-1000000001)) kc_X10_59 dX10_ofStep_20 ?_
      obtain ⟨x16, σ17, e15, h⟩ := bzBpE h
      refine cs_X10_60 hF ho (fun l => mt_X10_errs l e15) (by decide) (Nat.le_of_ble_eq_true rfl) dX10_ofStep_22 ?_
      exact j_iret hF hG dX10_ofStep_25  (bzRet h).1 (bzRet h).2
def f_X10_trees (o : Nat) (a1 : Int32) (a2 : Int32) (σ : bzS) : Option (Int32 × bzS) :=
  bzGd (kd o = 10) (bzBd (f_X10_in a1 0 7) (fun x2 => if x2 = 0 then (bzBp (f_X10_errs o ((-1000000001)) σ) (fun x5 σ6 => some (x5, σ6))) else (bzBd (f_X10_in a2 0 255) (fun x8 => if x8 = 0 then (bzBp (f_X10_errs o ((-1000000001)) σ) (fun x11 σ12 => some (x11, σ12))) else (bzBp (f_X10_becomes o ((44 + a1)) a2 σ) (fun x14 σ15 => some (x14, σ15)))))))
set_option maxHeartbeats 4000000 in
set_option maxRecDepth 20000 in
theorem mt_X10_trees {g : bzGeo} {o : Nat} {a1 : Int32} {a2 : Int32} {σ : bzS} {r0 : Int32} {σ0 : bzS} (l : Launch) (h : f_X10_trees  o a1 a2 σ = some (r0, σ0)) : Met l yX10_trees (Cond.code yX10_trees cX10_trees 3 (some .int) :: GW) (bzR (2)) (va_Pc [.ref (ga g o), .int a1, .int a2] (bzP g σ)) (va_Qi (fun (r : Int32) (u : bzS) => r = r0 ∧ u = σ0) (bzB g) (gA g)) 0 0 (gA g) := by
  unfold f_X10_trees at h
  obtain ⟨ho, h⟩ := bzGdE h
  refine j_start l (by decide +kernel) [.ref (ga g o), .int a1, .int a2] [(0, .ref (ga g o)), (1, .int a1), (2, .int a2)] (Nat.le_of_ble_eq_true rfl) rfl (fun x hF hG => ?_)
  refine j_iload_n hF 1 dX10_trees_0 rfl ?_
  refine j_iconst hF (v := 0) dX10_trees_1 (by decide) ?_
  refine j_bipush hF (v := 7) dX10_trees_2 (by decide) ?_
  obtain ⟨x2, e1, h⟩ := bzBdE h
  refine cs_X10_51 hF (fun l => mt_X10_in l e1) (by decide) (Nat.le_of_ble_eq_true rfl) dX10_trees_4 ?_
  refine j_if_eq hF (tgt := 33) dX10_trees_7 (by decide) (fun c3 => ?_) (fun c3 => ?_)
  · replace h := bzIfT h c3
    refine j_aload_n hF 0 dX10_trees_33 rfl ?_
    refine j_ldc hF (v := (-1000000001)) kc_X10_59 dX10_trees_34 ?_
    obtain ⟨x5, σ6, e4, h⟩ := bzBpE h
    refine cs_X10_60 hF ho (fun l => mt_X10_errs l e4) (by decide) (Nat.le_of_ble_eq_true rfl) dX10_trees_36 ?_
    exact j_iret hF hG dX10_trees_39  (bzRet h).1 (bzRet h).2
  · replace h := bzIfF h c3
    refine j_iload_n hF 2 dX10_trees_10 rfl ?_
    refine j_iconst hF (v := 0) dX10_trees_11 (by decide) ?_
    refine j_sipush hF (v := 255) dX10_trees_12 (by decide) ?_
    obtain ⟨x8, e7, h⟩ := bzBdE h
    refine cs_X10_51 hF (fun l => mt_X10_in l e7) (by decide) (Nat.le_of_ble_eq_true rfl) dX10_trees_15 ?_
    refine j_if_eq hF (tgt := 33) dX10_trees_18 (by decide) (fun c9 => ?_) (fun c9 => ?_)
    · replace h := bzIfT h c9
      refine j_aload_n hF 0 dX10_trees_33 rfl ?_
      refine j_ldc hF (v := (-1000000001)) kc_X10_59 dX10_trees_34 ?_
      obtain ⟨x11, σ12, e10, h⟩ := bzBpE h
      refine cs_X10_60 hF ho (fun l => mt_X10_errs l e10) (by decide) (Nat.le_of_ble_eq_true rfl) dX10_trees_36 ?_
      exact j_iret hF hG dX10_trees_39  (bzRet h).1 (bzRet h).2
    · replace h := bzIfF h c9
      refine j_aload_n hF 0 dX10_trees_21 rfl ?_
      refine j_bipush hF (v := 44) dX10_trees_22 (by decide) ?_
      refine j_iload_n hF 1 dX10_trees_24 rfl ?_
      refine j_iadd hF dX10_trees_25 ?_
      refine j_iload_n hF 2 dX10_trees_26 rfl ?_
      obtain ⟨x14, σ15, e13, h⟩ := bzBpE h
      refine cs_X10_55 hF ho (fun l => mt_X10_becomes l e13) (by decide) (Nat.le_of_ble_eq_true rfl) dX10_trees_27 ?_
      refine j_goto hF (tgt := 39) dX10_trees_30 (by decide) ?_
      exact j_iret hF hG dX10_trees_39  (bzRet h).1 (bzRet h).2
def f_X10_visitor (o : Nat) (a1 : Int32) (a2 : Int32) (a3 : Int32) (σ : bzS) : Option (Int32 × bzS) :=
  bzGd (kd o = 10) (bzBd (f_X10_in a1 0 69) (fun x2 => if x2 = 0 then (bzBp (f_X10_errs o ((-1000000001)) σ) (fun x5 σ6 => some (x5, σ6))) else (bzBd (f_X10_in a2 0 9) (fun x8 => if x8 = 0 then (bzBp (f_X10_errs o ((-1000000001)) σ) (fun x11 σ12 => some (x11, σ12))) else (bzBd (f_X10_in a3 1 12) (fun x14 => if x14 = 0 then (bzBp (f_X10_errs o ((-1000000001)) σ) (fun x31 σ32 => some (x31, σ32))) else (if (σ (ly o 0) 2) = 8 then (bzBp (f_X10_errs o ((-1000000004)) σ) (fun x28 σ29 => some (x28, σ29))) else (bzLet ((σ (ly o 0) 2)) (fun x17 => bzBd (f_X10_puts o x17 0 ((a1 / 10)) σ) (fun σ19 => bzBd (f_X10_puts o x17 1 ((a1 - a1 / 10 * 10)) σ19) (fun σ21 => bzBd (f_X10_puts o x17 2 a2 σ21) (fun σ23 => bzBd (f_X10_puts o x17 3 a3 σ23) (fun σ25 => bzLet (bzSt σ25 (ly o 0) 2 ((σ25 (ly o 0) 2) + 1)) (fun σ26 => some (x17, σ26)))))))))))))))
set_option maxHeartbeats 4000000 in
set_option maxRecDepth 20000 in
theorem mt_X10_visitor {g : bzGeo} {o : Nat} {a1 : Int32} {a2 : Int32} {a3 : Int32} {σ : bzS} {r0 : Int32} {σ0 : bzS} (l : Launch) (h : f_X10_visitor  o a1 a2 a3 σ = some (r0, σ0)) : Met l yX10_visitor (Cond.code yX10_visitor cX10_visitor 5 (some .int) :: GW) (bzR (2)) (va_Pc [.ref (ga g o), .int a1, .int a2, .int a3] (bzP g σ)) (va_Qi (fun (r : Int32) (u : bzS) => r = r0 ∧ u = σ0) (bzB g) (gA g)) 0 0 (gA g) := by
  unfold f_X10_visitor at h
  obtain ⟨ho, h⟩ := bzGdE h
  refine j_start l (by decide +kernel) [.ref (ga g o), .int a1, .int a2, .int a3] [(0, .ref (ga g o)), (1, .int a1), (2, .int a2), (3, .int a3)] (Nat.le_of_ble_eq_true rfl) rfl (fun x hF hG => ?_)
  refine j_iload_n hF 1 dX10_visitor_0 rfl ?_
  refine j_iconst hF (v := 0) dX10_visitor_1 (by decide) ?_
  refine j_bipush hF (v := 69) dX10_visitor_2 (by decide) ?_
  obtain ⟨x2, e1, h⟩ := bzBdE h
  refine cs_X10_51 hF (fun l => mt_X10_in l e1) (by decide) (Nat.le_of_ble_eq_true rfl) dX10_visitor_4 ?_
  refine j_if_eq hF (tgt := 30) dX10_visitor_7 (by decide) (fun c3 => ?_) (fun c3 => ?_)
  · replace h := bzIfT h c3
    refine j_aload_n hF 0 dX10_visitor_30 rfl ?_
    refine j_ldc hF (v := (-1000000001)) kc_X10_59 dX10_visitor_31 ?_
    obtain ⟨x5, σ6, e4, h⟩ := bzBpE h
    refine cs_X10_60 hF ho (fun l => mt_X10_errs l e4) (by decide) (Nat.le_of_ble_eq_true rfl) dX10_visitor_33 ?_
    exact j_iret hF hG dX10_visitor_36  (bzRet h).1 (bzRet h).2
  · replace h := bzIfF h c3
    refine j_iload_n hF 2 dX10_visitor_10 rfl ?_
    refine j_iconst hF (v := 0) dX10_visitor_11 (by decide) ?_
    refine j_bipush hF (v := 9) dX10_visitor_12 (by decide) ?_
    obtain ⟨x8, e7, h⟩ := bzBdE h
    refine cs_X10_51 hF (fun l => mt_X10_in l e7) (by decide) (Nat.le_of_ble_eq_true rfl) dX10_visitor_14 ?_
    refine j_if_eq hF (tgt := 30) dX10_visitor_17 (by decide) (fun c9 => ?_) (fun c9 => ?_)
    · replace h := bzIfT h c9
      refine j_aload_n hF 0 dX10_visitor_30 rfl ?_
      refine j_ldc hF (v := (-1000000001)) kc_X10_59 dX10_visitor_31 ?_
      obtain ⟨x11, σ12, e10, h⟩ := bzBpE h
      refine cs_X10_60 hF ho (fun l => mt_X10_errs l e10) (by decide) (Nat.le_of_ble_eq_true rfl) dX10_visitor_33 ?_
      exact j_iret hF hG dX10_visitor_36  (bzRet h).1 (bzRet h).2
    · replace h := bzIfF h c9
      refine j_iload_n hF 3 dX10_visitor_20 rfl ?_
      refine j_iconst hF (v := 1) dX10_visitor_21 (by decide) ?_
      refine j_bipush hF (v := 12) dX10_visitor_22 (by decide) ?_
      obtain ⟨x14, e13, h⟩ := bzBdE h
      refine cs_X10_51 hF (fun l => mt_X10_in l e13) (by decide) (Nat.le_of_ble_eq_true rfl) dX10_visitor_24 ?_
      refine j_if_ne hF (tgt := 37) dX10_visitor_27 (by decide) (fun c15 => ?_) (fun c15 => ?_)
      · replace h := bzIfF h c15
        refine j_aload_n hF 0 dX10_visitor_37 rfl ?_
        refine gf_X10_7 hF ho dX10_visitor_38 ?_
        refine j_iconst hF (v := 2) dX10_visitor_41 (by decide) ?_
        refine j_iald hF (c := 2) (kl_10_0 ho) (nl_10_0 ho) (by decide) (by decide) dX10_visitor_42 ?_
        refine j_bipush hF (v := 8) dX10_visitor_43 (by decide) ?_
        refine j_icmp_ne hF (tgt := 55) dX10_visitor_45 (by decide) (fun c16 => ?_) (fun c16 => ?_)
        · replace h := bzIfF h c16
          refine j_aload_n hF 0 dX10_visitor_55 rfl ?_
          refine gf_X10_7 hF ho dX10_visitor_56 ?_
          refine j_iconst hF (v := 2) dX10_visitor_59 (by decide) ?_
          refine j_iald hF (c := 2) (kl_10_0 ho) (nl_10_0 ho) (by decide) (by decide) dX10_visitor_60 ?_
          refine j_topi (fun x17 ex17 => ?_)
          replace h := bzLetE h ex17
          refine j_istore hF (lv1 := [(4, .int x17), (0, .ref (ga g o)), (1, .int a1), (2, .int a2), (3, .int a3)]) dX10_visitor_61 (by decide) rfl ?_
          refine j_aload_n hF 1 dX10_visitor_63 rfl ?_
          refine j_iload hF 0 dX10_visitor_64 rfl ?_
          refine j_iconst hF (v := 0) dX10_visitor_66 (by decide) ?_
          refine j_iload_n hF 2 dX10_visitor_67 rfl ?_
          refine j_bipush hF (v := 10) dX10_visitor_68 (by decide) ?_
          refine j_idiv hF dX10_visitor_70 (by decide) ?_
          obtain ⟨σ19, e18, h⟩ := bzBdE h
          refine cs_X10_76 hF ho (fun l => mt_X10_puts l e18) (by decide) (Nat.le_of_ble_eq_true rfl) dX10_visitor_71 ?_
          refine j_aload_n hF 1 dX10_visitor_74 rfl ?_
          refine j_iload hF 0 dX10_visitor_75 rfl ?_
          refine j_iconst hF (v := 1) dX10_visitor_77 (by decide) ?_
          refine j_iload_n hF 2 dX10_visitor_78 rfl ?_
          refine j_bipush hF (v := 10) dX10_visitor_79 (by decide) ?_
          refine j_irem hF dX10_visitor_81 (by decide) ?_
          obtain ⟨σ21, e20, h⟩ := bzBdE h
          refine cs_X10_76 hF ho (fun l => mt_X10_puts l e20) (by decide) (Nat.le_of_ble_eq_true rfl) dX10_visitor_82 ?_
          refine j_aload_n hF 1 dX10_visitor_85 rfl ?_
          refine j_iload hF 0 dX10_visitor_86 rfl ?_
          refine j_iconst hF (v := 2) dX10_visitor_88 (by decide) ?_
          refine j_iload_n hF 3 dX10_visitor_89 rfl ?_
          obtain ⟨σ23, e22, h⟩ := bzBdE h
          refine cs_X10_76 hF ho (fun l => mt_X10_puts l e22) (by decide) (Nat.le_of_ble_eq_true rfl) dX10_visitor_90 ?_
          refine j_aload_n hF 1 dX10_visitor_93 rfl ?_
          refine j_iload hF 0 dX10_visitor_94 rfl ?_
          refine j_iconst hF (v := 3) dX10_visitor_96 (by decide) ?_
          refine j_iload_n hF 4 dX10_visitor_97 rfl ?_
          obtain ⟨σ25, e24, h⟩ := bzBdE h
          refine cs_X10_76 hF ho (fun l => mt_X10_puts l e24) (by decide) (Nat.le_of_ble_eq_true rfl) dX10_visitor_98 ?_
          refine j_aload_n hF 1 dX10_visitor_101 rfl ?_
          refine gf_X10_7 hF ho dX10_visitor_102 ?_
          refine j_iconst hF (v := 2) dX10_visitor_105 (by decide) ?_
          refine j_dup2 hF dX10_visitor_106 rfl rfl ?_
          refine j_iald hF (c := 2) (kl_10_0 ho) (nl_10_0 ho) (by decide) (by decide) dX10_visitor_107 ?_
          refine j_iconst hF (v := 1) dX10_visitor_108 (by decide) ?_
          refine j_iadd hF dX10_visitor_109 ?_
          refine j_iast hF (c := 2) (kl_10_0 ho) (nl_10_0 ho) (by decide) (by decide) dX10_visitor_110 ?_
          refine j_s (fun σ26 eσ26 => ?_)
          replace h := bzLetE h eσ26
          refine j_iload hF 0 dX10_visitor_111 rfl ?_
          exact j_iret hF hG dX10_visitor_113  (bzRet h).1 (bzRet h).2
        · replace h := bzIfT h c16
          refine j_aload_n hF 0 dX10_visitor_48 rfl ?_
          refine j_ldc hF (v := (-1000000004)) kc_X10_75 dX10_visitor_49 ?_
          obtain ⟨x28, σ29, e27, h⟩ := bzBpE h
          refine cs_X10_60 hF ho (fun l => mt_X10_errs l e27) (by decide) (Nat.le_of_ble_eq_true rfl) dX10_visitor_51 ?_
          exact j_iret hF hG dX10_visitor_54  (bzRet h).1 (bzRet h).2
      · replace h := bzIfT h c15
        refine j_aload_n hF 0 dX10_visitor_30 rfl ?_
        refine j_ldc hF (v := (-1000000001)) kc_X10_59 dX10_visitor_31 ?_
        obtain ⟨x31, σ32, e30, h⟩ := bzBpE h
        refine cs_X10_60 hF ho (fun l => mt_X10_errs l e30) (by decide) (Nat.le_of_ble_eq_true rfl) dX10_visitor_33 ?_
        exact j_iret hF hG dX10_visitor_36  (bzRet h).1 (bzRet h).2
def f_X10_heat (o : Nat) (σ : bzS) : Option Int32 :=
  bzGd (kd o = 10) (bzGd (bzIn (12 + (2 * ((σ (ly o 0) 0) - (σ (ly o 0) 0) / 6 * 6))) 254) (some ((σ (ly o 0) (((12 + (2 * ((σ (ly o 0) 0) - (σ (ly o 0) 0) / 6 * 6)))).toNatClampNeg)))))
set_option maxHeartbeats 4000000 in
set_option maxRecDepth 20000 in
theorem mt_X10_heat {g : bzGeo} {o : Nat} {σ : bzS} {r0 : Int32} (l : Launch) (h : f_X10_heat  o σ = some r0) : Met l yX10_heat (Cond.code yX10_heat cX10_heat 1 (some .int) :: GW) (bzR (1)) (va_Pc [.ref (ga g o)] (bzP g σ)) (va_Qi (fun (r : Int32) (u : bzS) => r = r0 ∧ u = σ) (bzB g) (gA g)) 0 0 (gA g) := by
  unfold f_X10_heat at h
  obtain ⟨ho, h⟩ := bzGdE h
  refine j_start l (by decide +kernel) [.ref (ga g o)] [(0, .ref (ga g o))] (Nat.le_of_ble_eq_true rfl) rfl (fun x hF hG => ?_)
  refine j_aload_n hF 0 dX10_heat_0 rfl ?_
  refine gf_X10_7 hF ho dX10_heat_1 ?_
  refine j_bipush hF (v := 12) dX10_heat_4 (by decide) ?_
  refine j_iconst hF (v := 2) dX10_heat_6 (by decide) ?_
  refine j_aload_n hF 0 dX10_heat_7 rfl ?_
  refine gf_X10_7 hF ho dX10_heat_8 ?_
  refine j_iconst hF (v := 0) dX10_heat_11 (by decide) ?_
  refine j_iald hF (c := 0) (kl_10_0 ho) (nl_10_0 ho) (by decide) (by decide) dX10_heat_12 ?_
  refine j_bipush hF (v := 6) dX10_heat_13 (by decide) ?_
  refine j_irem hF dX10_heat_15 (by decide) ?_
  refine j_imul hF dX10_heat_16 ?_
  refine j_iadd hF dX10_heat_17 ?_
  obtain ⟨g1, h⟩ := bzGdE h
  refine j_iald hF (c := ((12 + (2 * ((σ (ly o 0) 0) - (σ (ly o 0) 0) / 6 * 6)))).toNatClampNeg) (kl_10_0 ho) (nl_10_0 ho) g1 rfl dX10_heat_18 ?_
  exact j_iret hF hG dX10_heat_19  (Option.some.inj h) rfl
def f_X10_keeps (o : Nat) (a1 : Int32) (σ : bzS) : Option Int32 :=
  bzGd (kd o = 10) (bzBd (f_X10_its o a1 2 σ) (fun x2 => bzBd (f_X10_its o a1 1 σ) (fun x4 => bzLet (((x2 / 2) + (x4 / 3))) (fun x5 => bzBd (f_X10_its o a1 0 σ) (fun x7 => if x7 = 1 then (some x2) else if x7 = 2 then (some 1) else if x7 = 3 then (some x5) else if x7 = 4 then (bzBd (f_X10_heat o σ) (fun x13 => if x13 ≤ 5 then (some x2) else (some ((x2 + 2))))) else if x7 = 5 then (some 2) else if x7 = 6 then (if (σ (ly o 0) 3) ≤ 60 then (some ((2 * x5))) else (some 0)) else (some ((x2 / 2))))))))
set_option maxHeartbeats 4000000 in
set_option maxRecDepth 20000 in
theorem mt_X10_keeps {g : bzGeo} {o : Nat} {a1 : Int32} {σ : bzS} {r0 : Int32} (l : Launch) (h : f_X10_keeps  o a1 σ = some r0) : Met l yX10_keeps (Cond.code yX10_keeps cX10_keeps 4 (some .int) :: GW) (bzR (2)) (va_Pc [.ref (ga g o), .int a1] (bzP g σ)) (va_Qi (fun (r : Int32) (u : bzS) => r = r0 ∧ u = σ) (bzB g) (gA g)) 0 0 (gA g) := by
  unfold f_X10_keeps at h
  obtain ⟨ho, h⟩ := bzGdE h
  refine j_start l (by decide +kernel) [.ref (ga g o), .int a1] [(0, .ref (ga g o)), (1, .int a1)] (Nat.le_of_ble_eq_true rfl) rfl (fun x hF hG => ?_)
  refine j_aload_n hF 0 dX10_keeps_0 rfl ?_
  refine j_iload_n hF 1 dX10_keeps_1 rfl ?_
  refine j_iconst hF (v := 2) dX10_keeps_2 (by decide) ?_
  obtain ⟨x2, e1, h⟩ := bzBdE h
  refine cs_X10_83 hF ho (fun l => mt_X10_its l e1) (by decide) (Nat.le_of_ble_eq_true rfl) dX10_keeps_3 ?_
  refine j_istore_n hF (lv1 := [(2, .int x2), (0, .ref (ga g o)), (1, .int a1)]) dX10_keeps_6 (by decide) rfl ?_
  refine j_iload_n hF 0 dX10_keeps_7 rfl ?_
  refine j_iconst hF (v := 2) dX10_keeps_8 (by decide) ?_
  refine j_idiv hF dX10_keeps_9 (by decide) ?_
  refine j_aload_n hF 1 dX10_keeps_10 rfl ?_
  refine j_iload_n hF 2 dX10_keeps_11 rfl ?_
  refine j_iconst hF (v := 1) dX10_keeps_12 (by decide) ?_
  obtain ⟨x4, e3, h⟩ := bzBdE h
  refine cs_X10_83 hF ho (fun l => mt_X10_its l e3) (by decide) (Nat.le_of_ble_eq_true rfl) dX10_keeps_13 ?_
  refine j_iconst hF (v := 3) dX10_keeps_16 (by decide) ?_
  refine j_idiv hF dX10_keeps_17 (by decide) ?_
  refine j_iadd hF dX10_keeps_18 ?_
  refine j_topi (fun x5 ex5 => ?_)
  replace h := bzLetE h ex5
  refine j_istore_n hF (lv1 := [(3, .int x5), (2, .int x2), (0, .ref (ga g o)), (1, .int a1)]) dX10_keeps_19 (by decide) rfl ?_
  refine j_aload_n hF 2 dX10_keeps_20 rfl ?_
  refine j_iload_n hF 3 dX10_keeps_21 rfl ?_
  refine j_iconst hF (v := 0) dX10_keeps_22 (by decide) ?_
  obtain ⟨x7, e6, h⟩ := bzBdE h
  refine cs_X10_83 hF ho (fun l => mt_X10_its l e6) (by decide) (Nat.le_of_ble_eq_true rfl) dX10_keeps_23 ?_
  rcases Decidable.em (x7 = 1) with c8 | c8
  · replace h := bzIfT h c8
    refine j_tableIn hF (tgt := 64) dX10_keeps_26 (by rw [c8] <;> decide) (by rw [c8] <;> decide) (by rw [c8] <;> rfl) (by decide) ?_
    refine j_iload_n hF 1 dX10_keeps_64 rfl ?_
    exact j_iret hF hG dX10_keeps_65  (Option.some.inj h) rfl
  · replace h := bzIfF h c8
    rcases Decidable.em (x7 = 2) with c9 | c9
    · replace h := bzIfT h c9
      refine j_tableIn hF (tgt := 82) dX10_keeps_26 (by rw [c9] <;> decide) (by rw [c9] <;> decide) (by rw [c9] <;> rfl) (by decide) ?_
      refine j_iconst hF (v := 1) dX10_keeps_82 (by decide) ?_
      exact j_iret hF hG dX10_keeps_83  (Option.some.inj h) rfl
    · replace h := bzIfF h c9
      rcases Decidable.em (x7 = 3) with c10 | c10
      · replace h := bzIfT h c10
        refine j_tableIn hF (tgt := 86) dX10_keeps_26 (by rw [c10] <;> decide) (by rw [c10] <;> decide) (by rw [c10] <;> rfl) (by decide) ?_
        refine j_iload_n hF 0 dX10_keeps_86 rfl ?_
        exact j_iret hF hG dX10_keeps_87  (Option.some.inj h) rfl
      · replace h := bzIfF h c10
        rcases Decidable.em (x7 = 4) with c11 | c11
        · replace h := bzIfT h c11
          refine j_tableIn hF (tgt := 66) dX10_keeps_26 (by rw [c11] <;> decide) (by rw [c11] <;> decide) (by rw [c11] <;> rfl) (by decide) ?_
          refine j_aload_n hF 2 dX10_keeps_66 rfl ?_
          obtain ⟨x13, e12, h⟩ := bzBdE h
          refine cs_X10_174 hF ho (fun l => mt_X10_heat l e12) (by decide) (Nat.le_of_ble_eq_true rfl) dX10_keeps_67 ?_
          refine j_iconst hF (v := 5) dX10_keeps_70 (by decide) ?_
          refine j_icmp_le hF (tgt := 80) dX10_keeps_71 (by decide) (fun c14 => ?_) (fun c14 => ?_)
          · replace h := bzIfT h c14
            refine j_iload_n hF 1 dX10_keeps_80 rfl ?_
            exact j_iret hF hG dX10_keeps_81  (Option.some.inj h) rfl
          · replace h := bzIfF h c14
            refine j_iload_n hF 1 dX10_keeps_74 rfl ?_
            refine j_iconst hF (v := 2) dX10_keeps_75 (by decide) ?_
            refine j_iadd hF dX10_keeps_76 ?_
            refine j_goto hF (tgt := 81) dX10_keeps_77 (by decide) ?_
            exact j_iret hF hG dX10_keeps_81  (Option.some.inj h) rfl
        · replace h := bzIfF h c11
          rcases Decidable.em (x7 = 5) with c15 | c15
          · replace h := bzIfT h c15
            refine j_tableIn hF (tgt := 84) dX10_keeps_26 (by rw [c15] <;> decide) (by rw [c15] <;> decide) (by rw [c15] <;> rfl) (by decide) ?_
            refine j_iconst hF (v := 2) dX10_keeps_84 (by decide) ?_
            exact j_iret hF hG dX10_keeps_85  (Option.some.inj h) rfl
          · replace h := bzIfF h c15
            rcases Decidable.em (x7 = 6) with c16 | c16
            · replace h := bzIfT h c16
              refine j_tableIn hF (tgt := 88) dX10_keeps_26 (by rw [c16] <;> decide) (by rw [c16] <;> decide) (by rw [c16] <;> rfl) (by decide) ?_
              refine j_aload_n hF 2 dX10_keeps_88 rfl ?_
              refine gf_X10_7 hF ho dX10_keeps_89 ?_
              refine j_iconst hF (v := 3) dX10_keeps_92 (by decide) ?_
              refine j_iald hF (c := 3) (kl_10_0 ho) (nl_10_0 ho) (by decide) (by decide) dX10_keeps_93 ?_
              refine j_bipush hF (v := 60) dX10_keeps_94 (by decide) ?_
              refine j_icmp_le hF (tgt := 103) dX10_keeps_96 (by decide) (fun c17 => ?_) (fun c17 => ?_)
              · replace h := bzIfT h c17
                refine j_iconst hF (v := 2) dX10_keeps_103 (by decide) ?_
                refine j_iload_n hF 0 dX10_keeps_104 rfl ?_
                refine j_imul hF dX10_keeps_105 ?_
                exact j_iret hF hG dX10_keeps_106  (Option.some.inj h) rfl
              · replace h := bzIfF h c17
                refine j_iconst hF (v := 0) dX10_keeps_99 (by decide) ?_
                refine j_goto hF (tgt := 106) dX10_keeps_100 (by decide) ?_
                exact j_iret hF hG dX10_keeps_106  (Option.some.inj h) rfl
            · replace h := bzIfF h c16
              refine j_tableOut hF (tgt := 107) dX10_keeps_26 (by have q0 := lv_neT (a := 1) c8 (by decide); have q1 := lv_neT (a := 2) c9 (by decide); have q2 := lv_neT (a := 3) c10 (by decide); have q3 := lv_neT (a := 4) c11 (by decide); have q4 := lv_neT (a := 5) c15 (by decide); have q5 := lv_neT (a := 6) c16 (by decide); omega) (by decide) ?_
              refine j_iload_n hF 1 dX10_keeps_107 rfl ?_
              refine j_iconst hF (v := 2) dX10_keeps_108 (by decide) ?_
              refine j_idiv hF dX10_keeps_109 (by decide) ?_
              exact j_iret hF hG dX10_keeps_110  (Option.some.inj h) rfl
def f_X10_rain (o : Nat) (σ : bzS) : Option Int32 :=
  bzGd (kd o = 10) (bzGd (bzIn ((12 + (2 * ((σ (ly o 0) 0) - (σ (ly o 0) 0) / 6 * 6))) + 1) 254) (some ((σ (ly o 0) ((((12 + (2 * ((σ (ly o 0) 0) - (σ (ly o 0) 0) / 6 * 6))) + 1)).toNatClampNeg)))))
set_option maxHeartbeats 4000000 in
set_option maxRecDepth 20000 in
theorem mt_X10_rain {g : bzGeo} {o : Nat} {σ : bzS} {r0 : Int32} (l : Launch) (h : f_X10_rain  o σ = some r0) : Met l yX10_rain (Cond.code yX10_rain cX10_rain 1 (some .int) :: GW) (bzR (1)) (va_Pc [.ref (ga g o)] (bzP g σ)) (va_Qi (fun (r : Int32) (u : bzS) => r = r0 ∧ u = σ) (bzB g) (gA g)) 0 0 (gA g) := by
  unfold f_X10_rain at h
  obtain ⟨ho, h⟩ := bzGdE h
  refine j_start l (by decide +kernel) [.ref (ga g o)] [(0, .ref (ga g o))] (Nat.le_of_ble_eq_true rfl) rfl (fun x hF hG => ?_)
  refine j_aload_n hF 0 dX10_rain_0 rfl ?_
  refine gf_X10_7 hF ho dX10_rain_1 ?_
  refine j_bipush hF (v := 12) dX10_rain_4 (by decide) ?_
  refine j_iconst hF (v := 2) dX10_rain_6 (by decide) ?_
  refine j_aload_n hF 0 dX10_rain_7 rfl ?_
  refine gf_X10_7 hF ho dX10_rain_8 ?_
  refine j_iconst hF (v := 0) dX10_rain_11 (by decide) ?_
  refine j_iald hF (c := 0) (kl_10_0 ho) (nl_10_0 ho) (by decide) (by decide) dX10_rain_12 ?_
  refine j_bipush hF (v := 6) dX10_rain_13 (by decide) ?_
  refine j_irem hF dX10_rain_15 (by decide) ?_
  refine j_imul hF dX10_rain_16 ?_
  refine j_iadd hF dX10_rain_17 ?_
  refine j_iconst hF (v := 1) dX10_rain_18 (by decide) ?_
  refine j_iadd hF dX10_rain_19 ?_
  obtain ⟨g1, h⟩ := bzGdE h
  refine j_iald hF (c := (((12 + (2 * ((σ (ly o 0) 0) - (σ (ly o 0) 0) / 6 * 6))) + 1)).toNatClampNeg) (kl_10_0 ho) (nl_10_0 ho) g1 rfl dX10_rain_20 ?_
  exact j_iret hF hG dX10_rain_21  (Option.some.inj h) rfl
def fb_X10_isComing_21 (o : Nat) (a1 : Int32) (σ : bzS) (s0 : Int32) : Option Int32 :=
  bzBd (f_X10_its o a1 0 σ) (fun x6 => if x6 = 2 then (bzBd (f_X10_rain o σ) (fun x9 => if 5 ≤ x9 then (some 0) else (some 1))) else if x6 = 3 then (bzGd (s0 = 0 ∨ s0 = 1) (some s0)) else if x6 = 4 then (if s0 = 0 then (some 0) else (bzBd (f_X10_rain o σ) (fun x16 => if 6 < x16 then (some 0) else (some 1)))) else if x6 = 5 then (if s0 = 0 then (some 0) else (bzBd (f_X10_rain o σ) (fun x21 => if 5 ≤ x21 then (some 0) else (some 1)))) else if x6 = 6 then (if s0 = 0 then (some 0) else (bzBd (f_X10_its o a1 1 σ) (fun x26 => if ((σ (ly o 0) 0) - (σ (ly o 0) 0) / 10 * 10) = x26 then (some 0) else (some 1)))) else (bzGd (s0 = 0 ∨ s0 = 1) (some s0)))
def f_X10_isComing (o : Nat) (a1 : Int32) (σ : bzS) : Option Int32 :=
  bzGd (kd o = 10) (bzBd (f_X10_its o a1 3 σ) (fun x2 => bzGd (¬ x2 = 0) (if ((σ (ly o 0) 0) - (σ (ly o 0) 0) / x2 * x2) = 0 then (fb_X10_isComing_21 o a1 σ 1) else (fb_X10_isComing_21 o a1 σ 0))))
set_option maxHeartbeats 4000000 in
set_option maxRecDepth 20000 in
theorem mt_X10_isComing {g : bzGeo} {o : Nat} {a1 : Int32} {σ : bzS} {r0 : Int32} (l : Launch) (h : f_X10_isComing  o a1 σ = some r0) : Met l yX10_isComing (Cond.code yX10_isComing cX10_isComing 3 (some .boolean) :: GW) (bzR (2)) (va_Pc [.ref (ga g o), .int a1] (bzP g σ)) (va_Qi (fun (r : Int32) (u : bzS) => r = r0 ∧ u = σ) (bzB g) (gA g)) 0 0 (gA g) := by
  unfold f_X10_isComing at h
  obtain ⟨ho, h⟩ := bzGdE h
  refine j_start l (by decide +kernel) [.ref (ga g o), .int a1] [(0, .ref (ga g o)), (1, .int a1)] (Nat.le_of_ble_eq_true rfl) rfl (fun x hF hG => ?_)
  have J21 : ∀ (s0 : Int32), fb_X10_isComing_21 o a1 σ s0 = some r0 → bzJ g 3 x σ 21 [(0, .ref (ga g o)), (1, .int a1)] [.int s0] := by
    intro s0 h
    unfold fb_X10_isComing_21 at h
    refine j_istore_n hF (lv1 := [(2, .int s0), (0, .ref (ga g o)), (1, .int a1)]) dX10_isComing_21 (by decide) rfl ?_
    refine j_aload_n hF 1 dX10_isComing_22 rfl ?_
    refine j_iload_n hF 2 dX10_isComing_23 rfl ?_
    refine j_iconst hF (v := 0) dX10_isComing_24 (by decide) ?_
    obtain ⟨x6, e5, h⟩ := bzBdE h
    refine cs_X10_83 hF ho (fun l => mt_X10_its l e5) (by decide) (Nat.le_of_ble_eq_true rfl) dX10_isComing_25 ?_
    rcases Decidable.em (x6 = 2) with c7 | c7
    · replace h := bzIfT h c7
      refine j_tableIn hF (tgt := 64) dX10_isComing_28 (by rw [c7] <;> decide) (by rw [c7] <;> decide) (by rw [c7] <;> rfl) (by decide) ?_
      refine j_aload_n hF 1 dX10_isComing_64 rfl ?_
      obtain ⟨x9, e8, h⟩ := bzBdE h
      refine cs_X10_171 hF ho (fun l => mt_X10_rain l e8) (by decide) (Nat.le_of_ble_eq_true rfl) dX10_isComing_65 ?_
      refine j_iconst hF (v := 5) dX10_isComing_68 (by decide) ?_
      refine j_icmp_ge hF (tgt := 76) dX10_isComing_69 (by decide) (fun c10 => ?_) (fun c10 => ?_)
      · replace h := bzIfT h c10
        refine j_iconst hF (v := 0) dX10_isComing_76 (by decide) ?_
        exact j_zret hF hG dX10_isComing_77 (by decide) (Option.some.inj h) rfl
      · replace h := bzIfF h c10
        refine j_iconst hF (v := 1) dX10_isComing_72 (by decide) ?_
        refine j_goto hF (tgt := 77) dX10_isComing_73 (by decide) ?_
        exact j_zret hF hG dX10_isComing_77 (by decide) (Option.some.inj h) rfl
    · replace h := bzIfF h c7
      rcases Decidable.em (x6 = 3) with c11 | c11
      · replace h := bzIfT h c11
        refine j_tableIn hF (tgt := 143) dX10_isComing_28 (by rw [c11] <;> decide) (by rw [c11] <;> decide) (by rw [c11] <;> rfl) (by decide) ?_
        refine j_iload_n hF 0 dX10_isComing_143 rfl ?_
        obtain ⟨g12, h⟩ := bzGdE h
        exact j_zret hF hG dX10_isComing_144 (bz01 g12) (Option.some.inj h) rfl
      · replace h := bzIfF h c11
        rcases Decidable.em (x6 = 4) with c13 | c13
        · replace h := bzIfT h c13
          refine j_tableIn hF (tgt := 78) dX10_isComing_28 (by rw [c13] <;> decide) (by rw [c13] <;> decide) (by rw [c13] <;> rfl) (by decide) ?_
          refine j_iload_n hF 0 dX10_isComing_78 rfl ?_
          refine j_if_eq hF (tgt := 95) dX10_isComing_79 (by decide) (fun c14 => ?_) (fun c14 => ?_)
          · replace h := bzIfT h c14
            refine j_iconst hF (v := 0) dX10_isComing_95 (by decide) ?_
            exact j_zret hF hG dX10_isComing_96 (by decide) (Option.some.inj h) rfl
          · replace h := bzIfF h c14
            refine j_aload_n hF 1 dX10_isComing_82 rfl ?_
            obtain ⟨x16, e15, h⟩ := bzBdE h
            refine cs_X10_171 hF ho (fun l => mt_X10_rain l e15) (by decide) (Nat.le_of_ble_eq_true rfl) dX10_isComing_83 ?_
            refine j_bipush hF (v := 6) dX10_isComing_86 (by decide) ?_
            refine j_icmp_gt hF (tgt := 95) dX10_isComing_88 (by decide) (fun c17 => ?_) (fun c17 => ?_)
            · replace h := bzIfT h c17
              refine j_iconst hF (v := 0) dX10_isComing_95 (by decide) ?_
              exact j_zret hF hG dX10_isComing_96 (by decide) (Option.some.inj h) rfl
            · replace h := bzIfF h c17
              refine j_iconst hF (v := 1) dX10_isComing_91 (by decide) ?_
              refine j_goto hF (tgt := 96) dX10_isComing_92 (by decide) ?_
              exact j_zret hF hG dX10_isComing_96 (by decide) (Option.some.inj h) rfl
        · replace h := bzIfF h c13
          rcases Decidable.em (x6 = 5) with c18 | c18
          · replace h := bzIfT h c18
            refine j_tableIn hF (tgt := 97) dX10_isComing_28 (by rw [c18] <;> decide) (by rw [c18] <;> decide) (by rw [c18] <;> rfl) (by decide) ?_
            refine j_iload_n hF 0 dX10_isComing_97 rfl ?_
            refine j_if_eq hF (tgt := 113) dX10_isComing_98 (by decide) (fun c19 => ?_) (fun c19 => ?_)
            · replace h := bzIfT h c19
              refine j_iconst hF (v := 0) dX10_isComing_113 (by decide) ?_
              exact j_zret hF hG dX10_isComing_114 (by decide) (Option.some.inj h) rfl
            · replace h := bzIfF h c19
              refine j_aload_n hF 1 dX10_isComing_101 rfl ?_
              obtain ⟨x21, e20, h⟩ := bzBdE h
              refine cs_X10_171 hF ho (fun l => mt_X10_rain l e20) (by decide) (Nat.le_of_ble_eq_true rfl) dX10_isComing_102 ?_
              refine j_iconst hF (v := 5) dX10_isComing_105 (by decide) ?_
              refine j_icmp_ge hF (tgt := 113) dX10_isComing_106 (by decide) (fun c22 => ?_) (fun c22 => ?_)
              · replace h := bzIfT h c22
                refine j_iconst hF (v := 0) dX10_isComing_113 (by decide) ?_
                exact j_zret hF hG dX10_isComing_114 (by decide) (Option.some.inj h) rfl
              · replace h := bzIfF h c22
                refine j_iconst hF (v := 1) dX10_isComing_109 (by decide) ?_
                refine j_goto hF (tgt := 114) dX10_isComing_110 (by decide) ?_
                exact j_zret hF hG dX10_isComing_114 (by decide) (Option.some.inj h) rfl
          · replace h := bzIfF h c18
            rcases Decidable.em (x6 = 6) with c23 | c23
            · replace h := bzIfT h c23
              refine j_tableIn hF (tgt := 115) dX10_isComing_28 (by rw [c23] <;> decide) (by rw [c23] <;> decide) (by rw [c23] <;> rfl) (by decide) ?_
              refine j_iload_n hF 0 dX10_isComing_115 rfl ?_
              refine j_if_eq hF (tgt := 141) dX10_isComing_116 (by decide) (fun c24 => ?_) (fun c24 => ?_)
              · replace h := bzIfT h c24
                refine j_iconst hF (v := 0) dX10_isComing_141 (by decide) ?_
                exact j_zret hF hG dX10_isComing_142 (by decide) (Option.some.inj h) rfl
              · replace h := bzIfF h c24
                refine j_aload_n hF 1 dX10_isComing_119 rfl ?_
                refine gf_X10_7 hF ho dX10_isComing_120 ?_
                refine j_iconst hF (v := 0) dX10_isComing_123 (by decide) ?_
                refine j_iald hF (c := 0) (kl_10_0 ho) (nl_10_0 ho) (by decide) (by decide) dX10_isComing_124 ?_
                refine j_bipush hF (v := 10) dX10_isComing_125 (by decide) ?_
                refine j_irem hF dX10_isComing_127 (by decide) ?_
                refine j_aload_n hF 1 dX10_isComing_128 rfl ?_
                refine j_iload_n hF 2 dX10_isComing_129 rfl ?_
                refine j_iconst hF (v := 1) dX10_isComing_130 (by decide) ?_
                obtain ⟨x26, e25, h⟩ := bzBdE h
                refine cs_X10_83 hF ho (fun l => mt_X10_its l e25) (by decide) (Nat.le_of_ble_eq_true rfl) dX10_isComing_131 ?_
                refine j_icmp_eq hF (tgt := 141) dX10_isComing_134 (by decide) (fun c27 => ?_) (fun c27 => ?_)
                · replace h := bzIfT h c27
                  refine j_iconst hF (v := 0) dX10_isComing_141 (by decide) ?_
                  exact j_zret hF hG dX10_isComing_142 (by decide) (Option.some.inj h) rfl
                · replace h := bzIfF h c27
                  refine j_iconst hF (v := 1) dX10_isComing_137 (by decide) ?_
                  refine j_goto hF (tgt := 142) dX10_isComing_138 (by decide) ?_
                  exact j_zret hF hG dX10_isComing_142 (by decide) (Option.some.inj h) rfl
            · replace h := bzIfF h c23
              refine j_tableOut hF (tgt := 143) dX10_isComing_28 (by have q0 := lv_neT (a := 2) c7 (by decide); have q1 := lv_neT (a := 3) c11 (by decide); have q2 := lv_neT (a := 4) c13 (by decide); have q3 := lv_neT (a := 5) c18 (by decide); have q4 := lv_neT (a := 6) c23 (by decide); omega) (by decide) ?_
              refine j_iload_n hF 0 dX10_isComing_143 rfl ?_
              obtain ⟨g28, h⟩ := bzGdE h
              exact j_zret hF hG dX10_isComing_144 (bz01 g28) (Option.some.inj h) rfl
  refine j_aload_n hF 0 dX10_isComing_0 rfl ?_
  refine gf_X10_7 hF ho dX10_isComing_1 ?_
  refine j_iconst hF (v := 0) dX10_isComing_4 (by decide) ?_
  refine j_iald hF (c := 0) (kl_10_0 ho) (nl_10_0 ho) (by decide) (by decide) dX10_isComing_5 ?_
  refine j_aload_n hF 0 dX10_isComing_6 rfl ?_
  refine j_iload_n hF 1 dX10_isComing_7 rfl ?_
  refine j_iconst hF (v := 3) dX10_isComing_8 (by decide) ?_
  obtain ⟨x2, e1, h⟩ := bzBdE h
  refine cs_X10_83 hF ho (fun l => mt_X10_its l e1) (by decide) (Nat.le_of_ble_eq_true rfl) dX10_isComing_9 ?_
  obtain ⟨g3, h⟩ := bzGdE h
  refine j_irem hF dX10_isComing_12 g3 ?_
  refine j_if_ne hF (tgt := 20) dX10_isComing_13 (by decide) (fun c4 => ?_) (fun c4 => ?_)
  · replace h := bzIfF h c4
    refine j_iconst hF (v := 0) dX10_isComing_20 (by decide) ?_
    exact J21 0 h
  · replace h := bzIfT h c4
    refine j_iconst hF (v := 1) dX10_isComing_16 (by decide) ?_
    refine j_goto hF (tgt := 21) dX10_isComing_17 (by decide) ?_
    exact J21 1 h
def f_X10_ofVisitor (o : Nat) (a1 : Int32) (a2 : Int32) (σ : bzS) : Option (Int32 × bzS) :=
  bzGd (kd o = 10) (bzBd (f_X10_isVisitor o a1 σ) (fun x2 => if x2 = 0 then (bzBp (f_X10_errs o ((-1000000001)) σ) (fun x5 σ6 => some (x5, σ6))) else (bzBd (f_X10_in a2 0 5) (fun x8 => if x8 = 0 then (bzBp (f_X10_errs o ((-1000000001)) σ) (fun x20 σ21 => some (x20, σ21))) else (if 4 ≤ a2 then (if a2 = 5 then (bzBd (f_X10_keeps o a1 σ) (fun x16 => some (x16, σ))) else (bzBd (f_X10_isComing o a1 σ) (fun x13 => if x13 = 0 then (some (0, σ)) else (some (1, σ))))) else (bzBd (f_X10_its o a1 a2 σ) (fun x18 => some (x18, σ))))))))
set_option maxHeartbeats 4000000 in
set_option maxRecDepth 20000 in
theorem mt_X10_ofVisitor {g : bzGeo} {o : Nat} {a1 : Int32} {a2 : Int32} {σ : bzS} {r0 : Int32} {σ0 : bzS} (l : Launch) (h : f_X10_ofVisitor  o a1 a2 σ = some (r0, σ0)) : Met l yX10_ofVisitor (Cond.code yX10_ofVisitor cX10_ofVisitor 3 (some .int) :: GW) (bzR (3)) (va_Pc [.ref (ga g o), .int a1, .int a2] (bzP g σ)) (va_Qi (fun (r : Int32) (u : bzS) => r = r0 ∧ u = σ0) (bzB g) (gA g)) 0 0 (gA g) := by
  unfold f_X10_ofVisitor at h
  obtain ⟨ho, h⟩ := bzGdE h
  refine j_start l (by decide +kernel) [.ref (ga g o), .int a1, .int a2] [(0, .ref (ga g o)), (1, .int a1), (2, .int a2)] (Nat.le_of_ble_eq_true rfl) rfl (fun x hF hG => ?_)
  refine j_aload_n hF 0 dX10_ofVisitor_0 rfl ?_
  refine j_iload_n hF 1 dX10_ofVisitor_1 rfl ?_
  obtain ⟨x2, e1, h⟩ := bzBdE h
  refine cs_X10_80 hF ho (fun l => mt_X10_isVisitor l e1) (by decide) (Nat.le_of_ble_eq_true rfl) dX10_ofVisitor_2 ?_
  refine j_if_eq hF (tgt := 17) dX10_ofVisitor_5 (by decide) (fun c3 => ?_) (fun c3 => ?_)
  · replace h := bzIfT h c3
    refine j_aload_n hF 0 dX10_ofVisitor_17 rfl ?_
    refine j_ldc hF (v := (-1000000001)) kc_X10_59 dX10_ofVisitor_18 ?_
    obtain ⟨x5, σ6, e4, h⟩ := bzBpE h
    refine cs_X10_60 hF ho (fun l => mt_X10_errs l e4) (by decide) (Nat.le_of_ble_eq_true rfl) dX10_ofVisitor_20 ?_
    exact j_iret hF hG dX10_ofVisitor_23  (bzRet h).1 (bzRet h).2
  · replace h := bzIfF h c3
    refine j_iload_n hF 2 dX10_ofVisitor_8 rfl ?_
    refine j_iconst hF (v := 0) dX10_ofVisitor_9 (by decide) ?_
    refine j_iconst hF (v := 5) dX10_ofVisitor_10 (by decide) ?_
    obtain ⟨x8, e7, h⟩ := bzBdE h
    refine cs_X10_51 hF (fun l => mt_X10_in l e7) (by decide) (Nat.le_of_ble_eq_true rfl) dX10_ofVisitor_11 ?_
    refine j_if_ne hF (tgt := 24) dX10_ofVisitor_14 (by decide) (fun c9 => ?_) (fun c9 => ?_)
    · replace h := bzIfF h c9
      refine j_iload_n hF 2 dX10_ofVisitor_24 rfl ?_
      refine j_iconst hF (v := 4) dX10_ofVisitor_25 (by decide) ?_
      refine j_icmp_ge hF (tgt := 38) dX10_ofVisitor_26 (by decide) (fun c10 => ?_) (fun c10 => ?_)
      · replace h := bzIfT h c10
        refine j_iload_n hF 2 dX10_ofVisitor_38 rfl ?_
        refine j_iconst hF (v := 5) dX10_ofVisitor_39 (by decide) ?_
        refine j_icmp_ne hF (tgt := 51) dX10_ofVisitor_40 (by decide) (fun c11 => ?_) (fun c11 => ?_)
        · replace h := bzIfF h c11
          refine j_aload_n hF 0 dX10_ofVisitor_51 rfl ?_
          refine j_iload_n hF 1 dX10_ofVisitor_52 rfl ?_
          obtain ⟨x13, e12, h⟩ := bzBdE h
          refine cs_X10_89 hF ho (fun l => mt_X10_isComing l e12) (by decide) (Nat.le_of_ble_eq_true rfl) dX10_ofVisitor_53 ?_
          refine j_if_eq hF (tgt := 63) dX10_ofVisitor_56 (by decide) (fun c14 => ?_) (fun c14 => ?_)
          · replace h := bzIfT h c14
            refine j_iconst hF (v := 0) dX10_ofVisitor_63 (by decide) ?_
            exact j_iret hF hG dX10_ofVisitor_64  (bzRet h).1 (bzRet h).2
          · replace h := bzIfF h c14
            refine j_iconst hF (v := 1) dX10_ofVisitor_59 (by decide) ?_
            refine j_goto hF (tgt := 64) dX10_ofVisitor_60 (by decide) ?_
            exact j_iret hF hG dX10_ofVisitor_64  (bzRet h).1 (bzRet h).2
        · replace h := bzIfT h c11
          refine j_aload_n hF 0 dX10_ofVisitor_43 rfl ?_
          refine j_iload_n hF 1 dX10_ofVisitor_44 rfl ?_
          obtain ⟨x16, e15, h⟩ := bzBdE h
          refine cs_X10_86 hF ho (fun l => mt_X10_keeps l e15) (by decide) (Nat.le_of_ble_eq_true rfl) dX10_ofVisitor_45 ?_
          refine j_goto hF (tgt := 64) dX10_ofVisitor_48 (by decide) ?_
          exact j_iret hF hG dX10_ofVisitor_64  (bzRet h).1 (bzRet h).2
      · replace h := bzIfF h c10
        refine j_aload_n hF 0 dX10_ofVisitor_29 rfl ?_
        refine j_iload_n hF 1 dX10_ofVisitor_30 rfl ?_
        refine j_iload_n hF 2 dX10_ofVisitor_31 rfl ?_
        obtain ⟨x18, e17, h⟩ := bzBdE h
        refine cs_X10_83 hF ho (fun l => mt_X10_its l e17) (by decide) (Nat.le_of_ble_eq_true rfl) dX10_ofVisitor_32 ?_
        refine j_goto hF (tgt := 64) dX10_ofVisitor_35 (by decide) ?_
        exact j_iret hF hG dX10_ofVisitor_64  (bzRet h).1 (bzRet h).2
    · replace h := bzIfT h c9
      refine j_aload_n hF 0 dX10_ofVisitor_17 rfl ?_
      refine j_ldc hF (v := (-1000000001)) kc_X10_59 dX10_ofVisitor_18 ?_
      obtain ⟨x20, σ21, e19, h⟩ := bzBpE h
      refine cs_X10_60 hF ho (fun l => mt_X10_errs l e19) (by decide) (Nat.le_of_ble_eq_true rfl) dX10_ofVisitor_20 ?_
      exact j_iret hF hG dX10_ofVisitor_23  (bzRet h).1 (bzRet h).2
def fb_X10_change_34 (o : Nat) (a1 : Int32) (a2 : Int32) (a3 : Int32) (s0 : Int32) (σ1 : bzS) : Option (Int32 × bzS) :=
  bzBd (f_X10_isVisitor o a1 σ1) (fun x4 => if x4 = 0 then (bzBp (f_X10_errs o ((-1000000001)) σ1) (fun x7 σ8 => some (x7, σ8))) else (if s0 = 0 then (bzBp (f_X10_errs o ((-1000000001)) σ1) (fun x11 σ12 => some (x11, σ12))) else (bzBp (f_X10_becomes o ((((52 + (4 * a1)) + 2) + a2)) a3 σ1) (fun x14 σ15 => some (x14, σ15)))))
def f_X10_change (o : Nat) (a1 : Int32) (a2 : Int32) (a3 : Int32) (σ : bzS) : Option (Int32 × bzS) :=
  bzGd (kd o = 10) (if a2 = 0 then (bzBd (f_X10_in a3 0 9) (fun x20 => fb_X10_change_34 o a1 a2 a3 x20 σ)) else (if a2 = 1 then (bzBd (f_X10_in a3 1 12) (fun x17 => if x17 = 0 then (fb_X10_change_34 o a1 a2 a3 0 σ) else (fb_X10_change_34 o a1 a2 a3 1 σ))) else (fb_X10_change_34 o a1 a2 a3 0 σ)))
set_option maxHeartbeats 4000000 in
set_option maxRecDepth 20000 in
theorem mt_X10_change {g : bzGeo} {o : Nat} {a1 : Int32} {a2 : Int32} {a3 : Int32} {σ : bzS} {r0 : Int32} {σ0 : bzS} (l : Launch) (h : f_X10_change  o a1 a2 a3 σ = some (r0, σ0)) : Met l yX10_change (Cond.code yX10_change cX10_change 5 (some .int) :: GW) (bzR (3)) (va_Pc [.ref (ga g o), .int a1, .int a2, .int a3] (bzP g σ)) (va_Qi (fun (r : Int32) (u : bzS) => r = r0 ∧ u = σ0) (bzB g) (gA g)) 0 0 (gA g) := by
  unfold f_X10_change at h
  obtain ⟨ho, h⟩ := bzGdE h
  refine j_start l (by decide +kernel) [.ref (ga g o), .int a1, .int a2, .int a3] [(0, .ref (ga g o)), (1, .int a1), (2, .int a2), (3, .int a3)] (Nat.le_of_ble_eq_true rfl) rfl (fun x hF hG => ?_)
  have J34 : ∀ (s0 : Int32) (σ1 : bzS), fb_X10_change_34 o a1 a2 a3 s0 σ1 = some (r0, σ0) → bzJ g 5 x σ1 34 [(0, .ref (ga g o)), (1, .int a1), (2, .int a2), (3, .int a3)] [.int s0] := by
    intro s0 σ1 h
    unfold fb_X10_change_34 at h
    refine j_istore hF (lv1 := [(4, .int s0), (0, .ref (ga g o)), (1, .int a1), (2, .int a2), (3, .int a3)]) dX10_change_34 (by decide) rfl ?_
    refine j_aload_n hF 1 dX10_change_36 rfl ?_
    refine j_iload_n hF 2 dX10_change_37 rfl ?_
    obtain ⟨x4, e3, h⟩ := bzBdE h
    refine cs_X10_80 hF ho (fun l => mt_X10_isVisitor l e3) (by decide) (Nat.le_of_ble_eq_true rfl) dX10_change_38 ?_
    refine j_if_eq hF (tgt := 67) dX10_change_41 (by decide) (fun c5 => ?_) (fun c5 => ?_)
    · replace h := bzIfT h c5
      refine j_aload_n hF 1 dX10_change_67 rfl ?_
      refine j_ldc hF (v := (-1000000001)) kc_X10_59 dX10_change_68 ?_
      obtain ⟨x7, σ8, e6, h⟩ := bzBpE h
      refine cs_X10_60 hF ho (fun l => mt_X10_errs l e6) (by decide) (Nat.le_of_ble_eq_true rfl) dX10_change_70 ?_
      exact j_iret hF hG dX10_change_73 (bzRet h).1 (bzRet h).2
    · replace h := bzIfF h c5
      refine j_iload hF 0 dX10_change_44 rfl ?_
      refine j_if_eq hF (tgt := 67) dX10_change_46 (by decide) (fun c9 => ?_) (fun c9 => ?_)
      · replace h := bzIfT h c9
        refine j_aload_n hF 1 dX10_change_67 rfl ?_
        refine j_ldc hF (v := (-1000000001)) kc_X10_59 dX10_change_68 ?_
        obtain ⟨x11, σ12, e10, h⟩ := bzBpE h
        refine cs_X10_60 hF ho (fun l => mt_X10_errs l e10) (by decide) (Nat.le_of_ble_eq_true rfl) dX10_change_70 ?_
        exact j_iret hF hG dX10_change_73 (bzRet h).1 (bzRet h).2
      · replace h := bzIfF h c9
        refine j_aload_n hF 1 dX10_change_49 rfl ?_
        refine j_bipush hF (v := 52) dX10_change_50 (by decide) ?_
        refine j_iconst hF (v := 4) dX10_change_52 (by decide) ?_
        refine j_iload_n hF 2 dX10_change_53 rfl ?_
        refine j_imul hF dX10_change_54 ?_
        refine j_iadd hF dX10_change_55 ?_
        refine j_iconst hF (v := 2) dX10_change_56 (by decide) ?_
        refine j_iadd hF dX10_change_57 ?_
        refine j_iload_n hF 3 dX10_change_58 rfl ?_
        refine j_iadd hF dX10_change_59 ?_
        refine j_iload_n hF 4 dX10_change_60 rfl ?_
        obtain ⟨x14, σ15, e13, h⟩ := bzBpE h
        refine cs_X10_55 hF ho (fun l => mt_X10_becomes l e13) (by decide) (Nat.le_of_ble_eq_true rfl) dX10_change_61 ?_
        refine j_goto hF (tgt := 73) dX10_change_64 (by decide) ?_
        exact j_iret hF hG dX10_change_73 (bzRet h).1 (bzRet h).2
  refine j_iload_n hF 2 dX10_change_0 rfl ?_
  refine j_if_ne hF (tgt := 14) dX10_change_1 (by decide) (fun c1 => ?_) (fun c1 => ?_)
  · replace h := bzIfF h c1
    refine j_iload_n hF 2 dX10_change_14 rfl ?_
    refine j_iconst hF (v := 1) dX10_change_15 (by decide) ?_
    refine j_icmp_ne hF (tgt := 33) dX10_change_16 (by decide) (fun c2 => ?_) (fun c2 => ?_)
    · replace h := bzIfF h c2
      refine j_iconst hF (v := 0) dX10_change_33 (by decide) ?_
      exact J34 0 σ h
    · replace h := bzIfT h c2
      refine j_iload_n hF 3 dX10_change_19 rfl ?_
      refine j_iconst hF (v := 1) dX10_change_20 (by decide) ?_
      refine j_bipush hF (v := 12) dX10_change_21 (by decide) ?_
      obtain ⟨x17, e16, h⟩ := bzBdE h
      refine cs_X10_51 hF (fun l => mt_X10_in l e16) (by decide) (Nat.le_of_ble_eq_true rfl) dX10_change_23 ?_
      refine j_if_eq hF (tgt := 33) dX10_change_26 (by decide) (fun c18 => ?_) (fun c18 => ?_)
      · replace h := bzIfT h c18
        refine j_iconst hF (v := 0) dX10_change_33 (by decide) ?_
        exact J34 0 σ h
      · replace h := bzIfF h c18
        refine j_iconst hF (v := 1) dX10_change_29 (by decide) ?_
        refine j_goto hF (tgt := 34) dX10_change_30 (by decide) ?_
        exact J34 1 σ h
  · replace h := bzIfT h c1
    refine j_iload_n hF 3 dX10_change_4 rfl ?_
    refine j_iconst hF (v := 0) dX10_change_5 (by decide) ?_
    refine j_bipush hF (v := 9) dX10_change_6 (by decide) ?_
    obtain ⟨x20, e19, h⟩ := bzBdE h
    refine cs_X10_51 hF (fun l => mt_X10_in l e19) (by decide) (Nat.le_of_ble_eq_true rfl) dX10_change_8 ?_
    refine j_goto hF (tgt := 34) dX10_change_11 (by decide) ?_
    exact J34 x20 σ h
def f_X10_become (o : Nat) (a1 : Int32) (a2 : Int32) (σ : bzS) : Option (Int32 × bzS) :=
  bzGd (kd o = 10) (bzBd (f_X10_isVisitor o a1 σ) (fun x2 => if x2 = 0 then (bzBp (f_X10_errs o ((-1000000001)) σ) (fun x5 σ6 => some (x5, σ6))) else (bzBd (f_X10_in a2 0 69) (fun x8 => if x8 = 0 then (bzBp (f_X10_errs o ((-1000000001)) σ) (fun x16 σ17 => some (x16, σ17))) else (bzBd (f_X10_puts o a1 1 ((a2 - a2 / 10 * 10)) σ) (fun σ11 => bzBp (f_X10_becomes o ((52 + (4 * a1))) ((a2 / 10)) σ11) (fun x13 σ14 => some (x13, σ14))))))))
set_option maxHeartbeats 4000000 in
set_option maxRecDepth 20000 in
theorem mt_X10_become {g : bzGeo} {o : Nat} {a1 : Int32} {a2 : Int32} {σ : bzS} {r0 : Int32} {σ0 : bzS} (l : Launch) (h : f_X10_become  o a1 a2 σ = some (r0, σ0)) : Met l yX10_become (Cond.code yX10_become cX10_become 3 (some .int) :: GW) (bzR (3)) (va_Pc [.ref (ga g o), .int a1, .int a2] (bzP g σ)) (va_Qi (fun (r : Int32) (u : bzS) => r = r0 ∧ u = σ0) (bzB g) (gA g)) 0 0 (gA g) := by
  unfold f_X10_become at h
  obtain ⟨ho, h⟩ := bzGdE h
  refine j_start l (by decide +kernel) [.ref (ga g o), .int a1, .int a2] [(0, .ref (ga g o)), (1, .int a1), (2, .int a2)] (Nat.le_of_ble_eq_true rfl) rfl (fun x hF hG => ?_)
  refine j_aload_n hF 0 dX10_become_0 rfl ?_
  refine j_iload_n hF 1 dX10_become_1 rfl ?_
  obtain ⟨x2, e1, h⟩ := bzBdE h
  refine cs_X10_80 hF ho (fun l => mt_X10_isVisitor l e1) (by decide) (Nat.le_of_ble_eq_true rfl) dX10_become_2 ?_
  refine j_if_eq hF (tgt := 18) dX10_become_5 (by decide) (fun c3 => ?_) (fun c3 => ?_)
  · replace h := bzIfT h c3
    refine j_aload_n hF 0 dX10_become_18 rfl ?_
    refine j_ldc hF (v := (-1000000001)) kc_X10_59 dX10_become_19 ?_
    obtain ⟨x5, σ6, e4, h⟩ := bzBpE h
    refine cs_X10_60 hF ho (fun l => mt_X10_errs l e4) (by decide) (Nat.le_of_ble_eq_true rfl) dX10_become_21 ?_
    exact j_iret hF hG dX10_become_24  (bzRet h).1 (bzRet h).2
  · replace h := bzIfF h c3
    refine j_iload_n hF 2 dX10_become_8 rfl ?_
    refine j_iconst hF (v := 0) dX10_become_9 (by decide) ?_
    refine j_bipush hF (v := 69) dX10_become_10 (by decide) ?_
    obtain ⟨x8, e7, h⟩ := bzBdE h
    refine cs_X10_51 hF (fun l => mt_X10_in l e7) (by decide) (Nat.le_of_ble_eq_true rfl) dX10_become_12 ?_
    refine j_if_ne hF (tgt := 25) dX10_become_15 (by decide) (fun c9 => ?_) (fun c9 => ?_)
    · replace h := bzIfF h c9
      refine j_aload_n hF 0 dX10_become_25 rfl ?_
      refine j_iload_n hF 1 dX10_become_26 rfl ?_
      refine j_iconst hF (v := 1) dX10_become_27 (by decide) ?_
      refine j_iload_n hF 2 dX10_become_28 rfl ?_
      refine j_bipush hF (v := 10) dX10_become_29 (by decide) ?_
      refine j_irem hF dX10_become_31 (by decide) ?_
      obtain ⟨σ11, e10, h⟩ := bzBdE h
      refine cs_X10_76 hF ho (fun l => mt_X10_puts l e10) (by decide) (Nat.le_of_ble_eq_true rfl) dX10_become_32 ?_
      refine j_aload_n hF 0 dX10_become_35 rfl ?_
      refine j_bipush hF (v := 52) dX10_become_36 (by decide) ?_
      refine j_iconst hF (v := 4) dX10_become_38 (by decide) ?_
      refine j_iload_n hF 1 dX10_become_39 rfl ?_
      refine j_imul hF dX10_become_40 ?_
      refine j_iadd hF dX10_become_41 ?_
      refine j_iload_n hF 2 dX10_become_42 rfl ?_
      refine j_bipush hF (v := 10) dX10_become_43 (by decide) ?_
      refine j_idiv hF dX10_become_45 (by decide) ?_
      obtain ⟨x13, σ14, e12, h⟩ := bzBpE h
      refine cs_X10_55 hF ho (fun l => mt_X10_becomes l e12) (by decide) (Nat.le_of_ble_eq_true rfl) dX10_become_46 ?_
      exact j_iret hF hG dX10_become_49  (bzRet h).1 (bzRet h).2
    · replace h := bzIfT h c9
      refine j_aload_n hF 0 dX10_become_18 rfl ?_
      refine j_ldc hF (v := (-1000000001)) kc_X10_59 dX10_become_19 ?_
      obtain ⟨x16, σ17, e15, h⟩ := bzBpE h
      refine cs_X10_60 hF ho (fun l => mt_X10_errs l e15) (by decide) (Nat.le_of_ble_eq_true rfl) dX10_become_21 ?_
      exact j_iret hF hG dX10_become_24  (bzRet h).1 (bzRet h).2
def f_X10_above (a0 : Int32) : Option Int32 :=
  if a0 = 0 then (some ((-1))) else (if a0 ≤ 3 then (some 0) else (some ((a0 - 3))))
set_option maxHeartbeats 4000000 in
set_option maxRecDepth 20000 in
theorem mt_X10_above {g : bzGeo} {a0 : Int32} {σ : bzS} {r0 : Int32} (l : Launch) (h : f_X10_above  a0 = some r0) : Met l yX10_above (Cond.code yX10_above cX10_above 1 (some .int) :: GW) (bzR (1)) (va_Pc [.int a0] (bzP g σ)) (va_Qi (fun (r : Int32) (u : bzS) => r = r0 ∧ u = σ) (bzB g) (gA g)) 0 0 (gA g) := by
  unfold f_X10_above at h
  refine j_start l (by decide +kernel) [.int a0] [(0, .int a0)] (Nat.le_of_ble_eq_true rfl) rfl (fun x hF hG => ?_)
  refine j_iload_n hF 0 dX10_above_0 rfl ?_
  refine j_if_ne hF (tgt := 8) dX10_above_1 (by decide) (fun c1 => ?_) (fun c1 => ?_)
  · replace h := bzIfF h c1
    refine j_iload_n hF 0 dX10_above_8 rfl ?_
    refine j_iconst hF (v := 3) dX10_above_9 (by decide) ?_
    refine j_icmp_le hF (tgt := 19) dX10_above_10 (by decide) (fun c2 => ?_) (fun c2 => ?_)
    · replace h := bzIfT h c2
      refine j_iconst hF (v := 0) dX10_above_19 (by decide) ?_
      exact j_iret hF hG dX10_above_20  (Option.some.inj h) rfl
    · replace h := bzIfF h c2
      refine j_iload_n hF 0 dX10_above_13 rfl ?_
      refine j_iconst hF (v := 3) dX10_above_14 (by decide) ?_
      refine j_isub hF dX10_above_15 ?_
      refine j_goto hF (tgt := 20) dX10_above_16 (by decide) ?_
      exact j_iret hF hG dX10_above_20  (Option.some.inj h) rfl
  · replace h := bzIfT h c1
    refine j_iconst hF (v := (-1)) dX10_above_4 (by decide) ?_
    refine j_goto hF (tgt := 20) dX10_above_5 (by decide) ?_
    exact j_iret hF hG dX10_above_20  (Option.some.inj h) rfl
def fb_X10_as_32 (K32 : Int32 → bzS → Option (Int32 × bzS)) (o : Nat) (a1 : Int32) (a2 : Int32) (v3 : Int32) (σ1 : bzS) : Option (Int32 × bzS) :=
  if v3 < 0 then (if 0 ≤ v3 then (bzBd (f_X10_its o a1 1 σ1) (fun x15 => some (x15, σ1))) else (bzBp (f_X10_errs o ((-1000000005)) σ1) (fun x17 σ18 => some (x17, σ18)))) else (if v3 = a2 then (if 0 ≤ v3 then (bzBd (f_X10_its o a1 1 σ1) (fun x22 => some (x22, σ1))) else (bzBp (f_X10_errs o ((-1000000005)) σ1) (fun x24 σ25 => some (x24, σ25)))) else (bzBd (f_X10_above v3) (fun x27 => K32 x27 σ1)))
def fl_X10_as_32 (o : Nat) (a1 : Int32) (a2 : Int32) : Nat → Int32 → bzS → Option (Int32 × bzS)
  | 0, _, _ => none
  | n + 1, v3, σ1 => fb_X10_as_32   (fl_X10_as_32   o a1 a2 n) o a1 a2 v3 σ1
def f_X10_as (o : Nat) (a1 : Int32) (a2 : Int32) (σ : bzS) : Option (Int32 × bzS) :=
  bzGd (kd o = 10) (bzBd (f_X10_isVisitor o a1 σ) (fun x2 => if x2 = 0 then (bzBp (f_X10_errs o ((-1000000001)) σ) (fun x5 σ6 => some (x5, σ6))) else (bzBd (f_X10_in a2 0 6) (fun x8 => if x8 = 0 then (bzBp (f_X10_errs o ((-1000000001)) σ) (fun x29 σ30 => some (x29, σ30))) else (bzBd (f_X10_its o a1 0 σ) (fun x11 => fl_X10_as_32 o a1 a2 2000 x11 σ))))))
set_option maxHeartbeats 4000000 in
set_option maxRecDepth 20000 in
theorem mt_X10_as {g : bzGeo} {o : Nat} {a1 : Int32} {a2 : Int32} {σ : bzS} {r0 : Int32} {σ0 : bzS} (l : Launch) (h : f_X10_as  o a1 a2 σ = some (r0, σ0)) : Met l yX10_as (Cond.code yX10_as cX10_as 4 (some .int) :: GW) (bzR (3)) (va_Pc [.ref (ga g o), .int a1, .int a2] (bzP g σ)) (va_Qi (fun (r : Int32) (u : bzS) => r = r0 ∧ u = σ0) (bzB g) (gA g)) 0 0 (gA g) := by
  unfold f_X10_as at h
  obtain ⟨ho, h⟩ := bzGdE h
  refine j_start l (by decide +kernel) [.ref (ga g o), .int a1, .int a2] [(0, .ref (ga g o)), (1, .int a1), (2, .int a2)] (Nat.le_of_ble_eq_true rfl) rfl (fun x hF hG => ?_)
  have J32 : (K32 : Int32 → bzS → Option (Int32 × bzS)) → (hK32 : ∀ (v3 : Int32) (σ1 : bzS), K32 v3 σ1 = some (r0, σ0) → bzJ g 4 x σ1 32 [(0, .ref (ga g o)), (1, .int a1), (2, .int a2), (3, .int v3)] []) → ∀ (v3 : Int32) (σ1 : bzS), fb_X10_as_32 K32 o a1 a2 v3 σ1 = some (r0, σ0) → bzJ g 4 x σ1 32 [(0, .ref (ga g o)), (1, .int a1), (2, .int a2), (3, .int v3)] [] := by
    intro K32 hK32 v3 σ1 h
    unfold fb_X10_as_32 at h
    refine j_iload_n hF 3 dX10_as_32 rfl ?_
    refine j_if_lt hF (tgt := 49) dX10_as_33 (by decide) (fun c12 => ?_) (fun c12 => ?_)
    · replace h := bzIfT h c12
      refine j_iload_n hF 3 dX10_as_49 rfl ?_
      refine j_if_ge hF (tgt := 62) dX10_as_50 (by decide) (fun c13 => ?_) (fun c13 => ?_)
      · replace h := bzIfT h c13
        refine j_aload_n hF 0 dX10_as_62 rfl ?_
        refine j_iload_n hF 1 dX10_as_63 rfl ?_
        refine j_iconst hF (v := 1) dX10_as_64 (by decide) ?_
        obtain ⟨x15, e14, h⟩ := bzBdE h
        refine cs_X10_83 hF ho (fun l => mt_X10_its l e14) (by decide) (Nat.le_of_ble_eq_true rfl) dX10_as_65 ?_
        exact j_iret hF hG dX10_as_68 (bzRet h).1 (bzRet h).2
      · replace h := bzIfF h c13
        refine j_aload_n hF 0 dX10_as_53 rfl ?_
        refine j_ldc hF (v := (-1000000005)) kc_X10_95 dX10_as_54 ?_
        obtain ⟨x17, σ18, e16, h⟩ := bzBpE h
        refine cs_X10_60 hF ho (fun l => mt_X10_errs l e16) (by decide) (Nat.le_of_ble_eq_true rfl) dX10_as_56 ?_
        refine j_goto hF (tgt := 68) dX10_as_59 (by decide) ?_
        exact j_iret hF hG dX10_as_68 (bzRet h).1 (bzRet h).2
    · replace h := bzIfF h c12
      refine j_iload_n hF 3 dX10_as_36 rfl ?_
      refine j_iload_n hF 2 dX10_as_37 rfl ?_
      refine j_icmp_eq hF (tgt := 49) dX10_as_38 (by decide) (fun c19 => ?_) (fun c19 => ?_)
      · replace h := bzIfT h c19
        refine j_iload_n hF 3 dX10_as_49 rfl ?_
        refine j_if_ge hF (tgt := 62) dX10_as_50 (by decide) (fun c20 => ?_) (fun c20 => ?_)
        · replace h := bzIfT h c20
          refine j_aload_n hF 0 dX10_as_62 rfl ?_
          refine j_iload_n hF 1 dX10_as_63 rfl ?_
          refine j_iconst hF (v := 1) dX10_as_64 (by decide) ?_
          obtain ⟨x22, e21, h⟩ := bzBdE h
          refine cs_X10_83 hF ho (fun l => mt_X10_its l e21) (by decide) (Nat.le_of_ble_eq_true rfl) dX10_as_65 ?_
          exact j_iret hF hG dX10_as_68 (bzRet h).1 (bzRet h).2
        · replace h := bzIfF h c20
          refine j_aload_n hF 0 dX10_as_53 rfl ?_
          refine j_ldc hF (v := (-1000000005)) kc_X10_95 dX10_as_54 ?_
          obtain ⟨x24, σ25, e23, h⟩ := bzBpE h
          refine cs_X10_60 hF ho (fun l => mt_X10_errs l e23) (by decide) (Nat.le_of_ble_eq_true rfl) dX10_as_56 ?_
          refine j_goto hF (tgt := 68) dX10_as_59 (by decide) ?_
          exact j_iret hF hG dX10_as_68 (bzRet h).1 (bzRet h).2
      · replace h := bzIfF h c19
        refine j_iload_n hF 3 dX10_as_41 rfl ?_
        obtain ⟨x27, e26, h⟩ := bzBdE h
        refine cs_X10_92 hF (fun l => mt_X10_above l e26) (by decide) (Nat.le_of_ble_eq_true rfl) dX10_as_42 ?_
        refine j_istore_n hF (lv1 := [(3, .int x27), (0, .ref (ga g o)), (1, .int a1), (2, .int a2)]) dX10_as_45 (by decide) rfl ?_
        refine j_goto hF (tgt := 32) dX10_as_46 (by decide) ?_
        refine j_sub [1, 2, 3, 0] rfl ?_
        exact hK32 x27 σ1 h
  have L32 : ∀ (n : Nat) (v3 : Int32) (σ1 : bzS), fl_X10_as_32   o a1 a2 n v3 σ1 = some (r0, σ0) → bzJ g 4 x σ1 32 [(0, .ref (ga g o)), (1, .int a1), (2, .int a2), (3, .int v3)] [] := by
    intro  n
    induction n with
    | zero =>
      intro v3 σ1  h
      cases h
    | succ n ih =>
      intro v3 σ1  h
      exact J32  (fl_X10_as_32   o a1 a2 n) ih v3 σ1  h
  refine j_aload_n hF 0 dX10_as_0 rfl ?_
  refine j_iload_n hF 1 dX10_as_1 rfl ?_
  obtain ⟨x2, e1, h⟩ := bzBdE h
  refine cs_X10_80 hF ho (fun l => mt_X10_isVisitor l e1) (by decide) (Nat.le_of_ble_eq_true rfl) dX10_as_2 ?_
  refine j_if_eq hF (tgt := 18) dX10_as_5 (by decide) (fun c3 => ?_) (fun c3 => ?_)
  · replace h := bzIfT h c3
    refine j_aload_n hF 0 dX10_as_18 rfl ?_
    refine j_ldc hF (v := (-1000000001)) kc_X10_59 dX10_as_19 ?_
    obtain ⟨x5, σ6, e4, h⟩ := bzBpE h
    refine cs_X10_60 hF ho (fun l => mt_X10_errs l e4) (by decide) (Nat.le_of_ble_eq_true rfl) dX10_as_21 ?_
    exact j_iret hF hG dX10_as_24  (bzRet h).1 (bzRet h).2
  · replace h := bzIfF h c3
    refine j_iload_n hF 2 dX10_as_8 rfl ?_
    refine j_iconst hF (v := 0) dX10_as_9 (by decide) ?_
    refine j_bipush hF (v := 6) dX10_as_10 (by decide) ?_
    obtain ⟨x8, e7, h⟩ := bzBdE h
    refine cs_X10_51 hF (fun l => mt_X10_in l e7) (by decide) (Nat.le_of_ble_eq_true rfl) dX10_as_12 ?_
    refine j_if_ne hF (tgt := 25) dX10_as_15 (by decide) (fun c9 => ?_) (fun c9 => ?_)
    · replace h := bzIfF h c9
      refine j_aload_n hF 0 dX10_as_25 rfl ?_
      refine j_iload_n hF 1 dX10_as_26 rfl ?_
      refine j_iconst hF (v := 0) dX10_as_27 (by decide) ?_
      obtain ⟨x11, e10, h⟩ := bzBdE h
      refine cs_X10_83 hF ho (fun l => mt_X10_its l e10) (by decide) (Nat.le_of_ble_eq_true rfl) dX10_as_28 ?_
      refine j_istore_n hF (lv1 := [(3, .int x11), (0, .ref (ga g o)), (1, .int a1), (2, .int a2)]) dX10_as_31 (by decide) rfl ?_
      refine j_sub [1, 2, 3, 0] rfl ?_
      exact L32 2000 x11 σ h
    · replace h := bzIfT h c9
      refine j_aload_n hF 0 dX10_as_18 rfl ?_
      refine j_ldc hF (v := (-1000000001)) kc_X10_59 dX10_as_19 ?_
      obtain ⟨x29, σ30, e28, h⟩ := bzBpE h
      refine cs_X10_60 hF ho (fun l => mt_X10_errs l e28) (by decide) (Nat.le_of_ble_eq_true rfl) dX10_as_21 ?_
      exact j_iret hF hG dX10_as_24  (bzRet h).1 (bzRet h).2
def f_X10_byteAt (o : Nat) (a1 : Int32) (σ : bzS) : Option Int32 :=
  bzGd (kd o = 10) (if (σ o 10) ≤ a1 then (some ((-1))) else (bzGd (bzIn ((154 + (50 * (σ o 8))) + a1) 254) (some ((σ (ly o 0) ((((154 + (50 * (σ o 8))) + a1)).toNatClampNeg))))))
set_option maxHeartbeats 4000000 in
set_option maxRecDepth 20000 in
theorem mt_X10_byteAt {g : bzGeo} {o : Nat} {a1 : Int32} {σ : bzS} {r0 : Int32} (l : Launch) (h : f_X10_byteAt  o a1 σ = some r0) : Met l yX10_byteAt (Cond.code yX10_byteAt cX10_byteAt 2 (some .int) :: GW) (bzR (1)) (va_Pc [.ref (ga g o), .int a1] (bzP g σ)) (va_Qi (fun (r : Int32) (u : bzS) => r = r0 ∧ u = σ) (bzB g) (gA g)) 0 0 (gA g) := by
  unfold f_X10_byteAt at h
  obtain ⟨ho, h⟩ := bzGdE h
  refine j_start l (by decide +kernel) [.ref (ga g o), .int a1] [(0, .ref (ga g o)), (1, .int a1)] (Nat.le_of_ble_eq_true rfl) rfl (fun x hF hG => ?_)
  refine j_iload_n hF 1 dX10_byteAt_0 rfl ?_
  refine j_aload_n hF 0 dX10_byteAt_1 rfl ?_
  refine gf_X10_96 hF ho dX10_byteAt_2 ?_
  refine j_icmp_ge hF (tgt := 29) dX10_byteAt_5 (by decide) (fun c1 => ?_) (fun c1 => ?_)
  · replace h := bzIfT h c1
    refine j_iconst hF (v := (-1)) dX10_byteAt_29 (by decide) ?_
    exact j_iret hF hG dX10_byteAt_30  (Option.some.inj h) rfl
  · replace h := bzIfF h c1
    refine j_aload_n hF 0 dX10_byteAt_8 rfl ?_
    refine gf_X10_7 hF ho dX10_byteAt_9 ?_
    refine j_sipush hF (v := 154) dX10_byteAt_12 (by decide) ?_
    refine j_bipush hF (v := 50) dX10_byteAt_15 (by decide) ?_
    refine j_aload_n hF 0 dX10_byteAt_17 rfl ?_
    refine gf_X10_99 hF ho dX10_byteAt_18 ?_
    refine j_imul hF dX10_byteAt_21 ?_
    refine j_iadd hF dX10_byteAt_22 ?_
    refine j_iload_n hF 1 dX10_byteAt_23 rfl ?_
    refine j_iadd hF dX10_byteAt_24 ?_
    obtain ⟨g2, h⟩ := bzGdE h
    refine j_iald hF (c := (((154 + (50 * (σ o 8))) + a1)).toNatClampNeg) (kl_10_0 ho) (nl_10_0 ho) g2 rfl dX10_byteAt_25 ?_
    refine j_goto hF (tgt := 30) dX10_byteAt_26 (by decide) ?_
    exact j_iret hF hG dX10_byteAt_30  (Option.some.inj h) rfl
def f_X10_isDigit (a0 : Int32) : Option Int32 :=
  bzBd (f_X10_in a0 48 57) (fun x2 => bzGd (x2 = 0 ∨ x2 = 1) (some x2))
set_option maxHeartbeats 4000000 in
set_option maxRecDepth 20000 in
theorem mt_X10_isDigit {g : bzGeo} {a0 : Int32} {σ : bzS} {r0 : Int32} (l : Launch) (h : f_X10_isDigit  a0 = some r0) : Met l yX10_isDigit (Cond.code yX10_isDigit cX10_isDigit 1 (some .boolean) :: GW) (bzR (2)) (va_Pc [.int a0] (bzP g σ)) (va_Qi (fun (r : Int32) (u : bzS) => r = r0 ∧ u = σ) (bzB g) (gA g)) 0 0 (gA g) := by
  unfold f_X10_isDigit at h
  refine j_start l (by decide +kernel) [.int a0] [(0, .int a0)] (Nat.le_of_ble_eq_true rfl) rfl (fun x hF hG => ?_)
  refine j_iload_n hF 0 dX10_isDigit_0 rfl ?_
  refine j_bipush hF (v := 48) dX10_isDigit_1 (by decide) ?_
  refine j_bipush hF (v := 57) dX10_isDigit_3 (by decide) ?_
  obtain ⟨x2, e1, h⟩ := bzBdE h
  refine cs_X10_51 hF (fun l => mt_X10_in l e1) (by decide) (Nat.le_of_ble_eq_true rfl) dX10_isDigit_5 ?_
  obtain ⟨g3, h⟩ := bzGdE h
  exact j_zret hF hG dX10_isDigit_8 (bz01 g3)  (Option.some.inj h) rfl
def f_X10_fails (o : Nat) (σ : bzS) : Option (Int32 × bzS) :=
  bzGd (kd o = 10) (bzLet (bzSt σ o 15 0) (fun σ1 => some (0, σ1)))
set_option maxHeartbeats 4000000 in
set_option maxRecDepth 20000 in
theorem mt_X10_fails {g : bzGeo} {o : Nat} {σ : bzS} {r0 : Int32} {σ0 : bzS} (l : Launch) (h : f_X10_fails  o σ = some (r0, σ0)) : Met l yX10_fails (Cond.code yX10_fails cX10_fails 1 (some .int) :: GW) (bzR (1)) (va_Pc [.ref (ga g o)] (bzP g σ)) (va_Qi (fun (r : Int32) (u : bzS) => r = r0 ∧ u = σ0) (bzB g) (gA g)) 0 0 (gA g) := by
  unfold f_X10_fails at h
  obtain ⟨ho, h⟩ := bzGdE h
  refine j_start l (by decide +kernel) [.ref (ga g o)] [(0, .ref (ga g o))] (Nat.le_of_ble_eq_true rfl) rfl (fun x hF hG => ?_)
  refine j_aload_n hF 0 dX10_fails_0 rfl ?_
  refine j_iconst hF (v := 0) dX10_fails_1 (by decide) ?_
  refine pf_X10_102 hF ho (Or.inl rfl) dX10_fails_2 ?_
  refine j_s (fun σ1 eσ1 => ?_)
  replace h := bzLetE h eσ1
  refine j_iconst hF (v := 0) dX10_fails_5 (by decide) ?_
  exact j_iret hF hG dX10_fails_6  (bzRet h).1 (bzRet h).2
def fb_X10_number_4 (K4 : Int32 → Int32 → bzS → Option (Int32 × bzS)) (o : Nat) (v1 : Int32) (v2 : Int32) (σ1 : bzS) : Option (Int32 × bzS) :=
  if 4 ≤ v2 then (some (v1, σ1)) else (bzBd (f_X10_byteAt o ((σ1 o 9)) σ1) (fun x3 => bzBd (f_X10_isDigit x3) (fun x5 => if x5 = 0 then (some (v1, σ1)) else (bzBd (f_X10_byteAt o ((σ1 o 9)) σ1) (fun x8 => bzLet ((((10 * v1) + x8) - 48)) (fun x9 => bzLet (bzSt σ1 o 9 ((σ1 o 9) + 1)) (fun σ10 => bzLet (v2 + 1) (fun x11 => K4 x9 x11 σ10))))))))
def fl_X10_number_4 (o : Nat) : Nat → Int32 → Int32 → bzS → Option (Int32 × bzS)
  | 0, _, _, _ => none
  | n + 1, v1, v2, σ1 => fb_X10_number_4   (fl_X10_number_4   o n) o v1 v2 σ1
def f_X10_number (o : Nat) (σ : bzS) : Option (Int32 × bzS) :=
  bzGd (kd o = 10) (fl_X10_number_4 o 2000 0 0 σ)
set_option maxHeartbeats 4000000 in
set_option maxRecDepth 20000 in
theorem mt_X10_number {g : bzGeo} {o : Nat} {σ : bzS} {r0 : Int32} {σ0 : bzS} (l : Launch) (h : f_X10_number  o σ = some (r0, σ0)) : Met l yX10_number (Cond.code yX10_number cX10_number 3 (some .int) :: GW) (bzR (3)) (va_Pc [.ref (ga g o)] (bzP g σ)) (va_Qi (fun (r : Int32) (u : bzS) => r = r0 ∧ u = σ0) (bzB g) (gA g)) 0 0 (gA g) := by
  unfold f_X10_number at h
  obtain ⟨ho, h⟩ := bzGdE h
  refine j_start l (by decide +kernel) [.ref (ga g o)] [(0, .ref (ga g o))] (Nat.le_of_ble_eq_true rfl) rfl (fun x hF hG => ?_)
  have J4 : (K4 : Int32 → Int32 → bzS → Option (Int32 × bzS)) → (hK4 : ∀ (v1 : Int32) (v2 : Int32) (σ1 : bzS), K4 v1 v2 σ1 = some (r0, σ0) → bzJ g 3 x σ1 4 [(0, .ref (ga g o)), (1, .int v1), (2, .int v2)] []) → ∀ (v1 : Int32) (v2 : Int32) (σ1 : bzS), fb_X10_number_4 K4 o v1 v2 σ1 = some (r0, σ0) → bzJ g 3 x σ1 4 [(0, .ref (ga g o)), (1, .int v1), (2, .int v2)] [] := by
    intro K4 hK4 v1 v2 σ1 h
    unfold fb_X10_number_4 at h
    refine j_iload_n hF 2 dX10_number_4 rfl ?_
    refine j_iconst hF (v := 4) dX10_number_5 (by decide) ?_
    refine j_icmp_ge hF (tgt := 56) dX10_number_6 (by decide) (fun c1 => ?_) (fun c1 => ?_)
    · replace h := bzIfT h c1
      refine j_iload_n hF 1 dX10_number_56 rfl ?_
      exact j_iret hF hG dX10_number_57 (bzRet h).1 (bzRet h).2
    · replace h := bzIfF h c1
      refine j_aload_n hF 0 dX10_number_9 rfl ?_
      refine j_aload_n hF 0 dX10_number_10 rfl ?_
      refine gf_X10_106 hF ho dX10_number_11 ?_
      obtain ⟨x3, e2, h⟩ := bzBdE h
      refine cs_X10_109 hF ho (fun l => mt_X10_byteAt l e2) (by decide) (Nat.le_of_ble_eq_true rfl) dX10_number_14 ?_
      obtain ⟨x5, e4, h⟩ := bzBdE h
      refine cs_X10_112 hF (fun l => mt_X10_isDigit l e4) (by decide) (Nat.le_of_ble_eq_true rfl) dX10_number_17 ?_
      refine j_if_eq hF (tgt := 56) dX10_number_20 (by decide) (fun c6 => ?_) (fun c6 => ?_)
      · replace h := bzIfT h c6
        refine j_iload_n hF 1 dX10_number_56 rfl ?_
        exact j_iret hF hG dX10_number_57 (bzRet h).1 (bzRet h).2
      · replace h := bzIfF h c6
        refine j_bipush hF (v := 10) dX10_number_23 (by decide) ?_
        refine j_iload_n hF 1 dX10_number_25 rfl ?_
        refine j_imul hF dX10_number_26 ?_
        refine j_aload_n hF 0 dX10_number_27 rfl ?_
        refine j_aload_n hF 0 dX10_number_28 rfl ?_
        refine gf_X10_106 hF ho dX10_number_29 ?_
        obtain ⟨x8, e7, h⟩ := bzBdE h
        refine cs_X10_109 hF ho (fun l => mt_X10_byteAt l e7) (by decide) (Nat.le_of_ble_eq_true rfl) dX10_number_32 ?_
        refine j_iadd hF dX10_number_35 ?_
        refine j_bipush hF (v := 48) dX10_number_36 (by decide) ?_
        refine j_isub hF dX10_number_38 ?_
        refine j_topi (fun x9 ex9 => ?_)
        replace h := bzLetE h ex9
        refine j_istore_n hF (lv1 := [(1, .int x9), (0, .ref (ga g o)), (2, .int v2)]) dX10_number_39 (by decide) rfl ?_
        refine j_aload_n hF 1 dX10_number_40 rfl ?_
        refine j_dup hF dX10_number_41 rfl ?_
        refine gf_X10_106 hF ho dX10_number_42 ?_
        refine j_iconst hF (v := 1) dX10_number_45 (by decide) ?_
        refine j_iadd hF dX10_number_46 ?_
        refine pf_X10_106 hF ho dX10_number_47 ?_
        refine j_s (fun σ10 eσ10 => ?_)
        replace h := bzLetE h eσ10
        obtain ⟨x11, ex11⟩ : ∃ y : Int32, y = v2 + 1 := ⟨_, rfl⟩
        replace h := bzLetE h ex11
        refine j_iinc hF (v := x11) (lv1 := [(2, .int x11), (1, .int x9), (0, .ref (ga g o))]) 2 dX10_number_50 rfl (by rw [ex11]; rfl) (by decide) rfl ?_
        refine j_goto hF (tgt := 4) dX10_number_53 (by decide) ?_
        refine j_sub [2, 1, 0] rfl ?_
        exact hK4 x9 x11 σ10 h
  have L4 : ∀ (n : Nat) (v1 : Int32) (v2 : Int32) (σ1 : bzS), fl_X10_number_4   o n v1 v2 σ1 = some (r0, σ0) → bzJ g 3 x σ1 4 [(0, .ref (ga g o)), (1, .int v1), (2, .int v2)] [] := by
    intro  n
    induction n with
    | zero =>
      intro v1 v2 σ1  h
      cases h
    | succ n ih =>
      intro v1 v2 σ1  h
      exact J4  (fl_X10_number_4   o n) ih v1 v2 σ1  h
  refine j_iconst hF (v := 0) dX10_number_0 (by decide) ?_
  refine j_istore_n hF (lv1 := [(1, .int 0), (0, .ref (ga g o))]) dX10_number_1 (by decide) rfl ?_
  refine j_iconst hF (v := 0) dX10_number_2 (by decide) ?_
  refine j_istore_n hF (lv1 := [(2, .int 0), (1, .int 0), (0, .ref (ga g o))]) dX10_number_3 (by decide) rfl ?_
  refine j_sub [2, 1, 0] rfl ?_
  exact L4 2000 0 0 σ h
def fb_X10_named_67 (o : Nat) (a1 : Int32) (v2 : Int32) (v3 : Int32) (σ1 : bzS) : Option (Int32 × bzS) :=
  bzLet (bzSt σ1 o 9 ((σ1 o 9) + 1)) (fun σ6 => if v2 = 0 then (if v3 = 0 then (some ((σ6 o 14), σ6)) else (some ((σ6 o 13), σ6))) else (some ((σ6 o 12), σ6)))
def fb_X10_named_39 (o : Nat) (a1 : Int32) (v2 : Int32) (v3 : Int32) (s0 : Int32) (s1 : Int32) (σ1 : bzS) : Option (Int32 × bzS) :=
  if s1 = s0 then (if v2 = 0 then (if v3 = 0 then (fb_X10_named_67 o a1 v2 v3 σ1) else (fb_X10_named_67 o a1 v2 v3 σ1)) else (fb_X10_named_67 o a1 v2 v3 σ1)) else (if v2 = 0 then (if v3 = 0 then (bzBp (f_X10_fails o σ1) (fun x12 σ13 => some (x12, σ13))) else (fb_X10_named_67 o a1 v2 v3 σ1)) else (fb_X10_named_67 o a1 v2 v3 σ1))
def fb_X10_named_11 (o : Nat) (a1 : Int32) (s0 : Int32) (σ1 : bzS) : Option (Int32 × bzS) :=
  if a1 = 104 then (if (σ1 o 8) = 0 then (fb_X10_named_39 o a1 s0 1 108 a1 σ1) else (fb_X10_named_39 o a1 s0 1 102 a1 σ1)) else (if (σ1 o 8) = 0 then (fb_X10_named_39 o a1 s0 0 108 a1 σ1) else (fb_X10_named_39 o a1 s0 0 102 a1 σ1))
def f_X10_named (o : Nat) (a1 : Int32) (σ : bzS) : Option (Int32 × bzS) :=
  bzGd (kd o = 10) (if a1 = 119 then (fb_X10_named_11 o a1 1 σ) else (fb_X10_named_11 o a1 0 σ))
set_option maxHeartbeats 4000000 in
set_option maxRecDepth 20000 in
theorem mt_X10_named {g : bzGeo} {o : Nat} {a1 : Int32} {σ : bzS} {r0 : Int32} {σ0 : bzS} (l : Launch) (h : f_X10_named  o a1 σ = some (r0, σ0)) : Met l yX10_named (Cond.code yX10_named cX10_named 5 (some .int) :: GW) (bzR (2)) (va_Pc [.ref (ga g o), .int a1] (bzP g σ)) (va_Qi (fun (r : Int32) (u : bzS) => r = r0 ∧ u = σ0) (bzB g) (gA g)) 0 0 (gA g) := by
  unfold f_X10_named at h
  obtain ⟨ho, h⟩ := bzGdE h
  refine j_start l (by decide +kernel) [.ref (ga g o), .int a1] [(0, .ref (ga g o)), (1, .int a1)] (Nat.le_of_ble_eq_true rfl) rfl (fun x hF hG => ?_)
  have J67 : ∀ (v2 : Int32) (v3 : Int32) (σ1 : bzS), fb_X10_named_67 o a1 v2 v3 σ1 = some (r0, σ0) → bzJ g 5 x σ1 67 [(0, .ref (ga g o)), (1, .int a1), (2, .int v2), (3, .int v3)] [] := by
    intro v2 v3 σ1 h
    unfold fb_X10_named_67 at h
    refine j_aload_n hF 0 dX10_named_67 rfl ?_
    refine j_dup hF dX10_named_68 rfl ?_
    refine gf_X10_106 hF ho dX10_named_69 ?_
    refine j_iconst hF (v := 1) dX10_named_72 (by decide) ?_
    refine j_iadd hF dX10_named_73 ?_
    refine pf_X10_106 hF ho dX10_named_74 ?_
    refine j_s (fun σ6 eσ6 => ?_)
    replace h := bzLetE h eσ6
    refine j_iload_n hF 2 dX10_named_77 rfl ?_
    refine j_if_eq hF (tgt := 88) dX10_named_78 (by decide) (fun c7 => ?_) (fun c7 => ?_)
    · replace h := bzIfT h c7
      refine j_iload_n hF 3 dX10_named_88 rfl ?_
      refine j_if_eq hF (tgt := 99) dX10_named_89 (by decide) (fun c8 => ?_) (fun c8 => ?_)
      · replace h := bzIfT h c8
        refine j_aload_n hF 0 dX10_named_99 rfl ?_
        refine gf_X10_124 hF ho dX10_named_100 ?_
        exact j_iret hF hG dX10_named_103 (bzRet h).1 (bzRet h).2
      · replace h := bzIfF h c8
        refine j_aload_n hF 0 dX10_named_92 rfl ?_
        refine gf_X10_121 hF ho dX10_named_93 ?_
        refine j_goto hF (tgt := 103) dX10_named_96 (by decide) ?_
        exact j_iret hF hG dX10_named_103 (bzRet h).1 (bzRet h).2
    · replace h := bzIfF h c7
      refine j_aload_n hF 0 dX10_named_81 rfl ?_
      refine gf_X10_118 hF ho dX10_named_82 ?_
      refine j_goto hF (tgt := 103) dX10_named_85 (by decide) ?_
      exact j_iret hF hG dX10_named_103 (bzRet h).1 (bzRet h).2
  have J39 : ∀ (v2 : Int32) (v3 : Int32) (s0 : Int32) (s1 : Int32) (σ1 : bzS), fb_X10_named_39 o a1 v2 v3 s0 s1 σ1 = some (r0, σ0) → bzJ g 5 x σ1 39 [(0, .ref (ga g o)), (1, .int a1), (2, .int v2), (3, .int v3)] [.int s0, .int s1] := by
    intro v2 v3 s0 s1 σ1 h
    unfold fb_X10_named_39 at h
    refine j_icmp_ne hF (tgt := 46) dX10_named_39 (by decide) (fun c4 => ?_) (fun c4 => ?_)
    · replace h := bzIfF h c4
      refine j_iconst hF (v := 0) dX10_named_46 (by decide) ?_
      refine j_istore hF (lv1 := [(4, .int 0), (0, .ref (ga g o)), (1, .int a1), (2, .int v2), (3, .int v3)]) dX10_named_47 (by decide) rfl ?_
      refine j_iload_n hF 3 dX10_named_49 rfl ?_
      refine j_if_ne hF (tgt := 67) dX10_named_50 (by decide) (fun c5 => ?_) (fun c5 => ?_)
      · replace h := bzIfF h c5
        refine j_sub [1, 2, 3, 4] rfl ?_
        exact J67 v2 v3 σ1 h
      · replace h := bzIfT h c5
        refine j_iload_n hF 4 dX10_named_53 rfl ?_
        refine j_if_ne hF (tgt := 67) dX10_named_54 (by decide) (fun c9 => ?_) (fun c9 => ?_)
        · replace h := bzIfF h c9
          refine j_sub [1, 2, 3, 4] rfl ?_
          exact J67 v2 v3 σ1 h
        · replace h := bzIfT h c9
          refine j_iload hF 0 dX10_named_57 rfl ?_
          refine j_if_ne hF (tgt := 67) dX10_named_59 (by decide) (fun c10 => absurd c10 (by decide)) (fun c10 => ?_)
          refine j_aload_n hF 1 dX10_named_62 rfl ?_
          obtain ⟨x12, σ13, e11, h⟩ := bzBpE h
          refine cs_X10_115 hF ho (fun l => mt_X10_fails l e11) (by decide) (Nat.le_of_ble_eq_true rfl) dX10_named_63 ?_
          exact j_iret hF hG dX10_named_66 (bzRet h).1 (bzRet h).2
    · replace h := bzIfT h c4
      refine j_iconst hF (v := 1) dX10_named_42 (by decide) ?_
      refine j_goto hF (tgt := 47) dX10_named_43 (by decide) ?_
      refine j_istore hF (lv1 := [(4, .int 1), (0, .ref (ga g o)), (1, .int a1), (2, .int v2), (3, .int v3)]) dX10_named_47 (by decide) rfl ?_
      refine j_iload_n hF 3 dX10_named_49 rfl ?_
      refine j_if_ne hF (tgt := 67) dX10_named_50 (by decide) (fun c14 => ?_) (fun c14 => ?_)
      · replace h := bzIfF h c14
        refine j_sub [1, 2, 3, 4] rfl ?_
        exact J67 v2 v3 σ1 h
      · replace h := bzIfT h c14
        refine j_iload_n hF 4 dX10_named_53 rfl ?_
        refine j_if_ne hF (tgt := 67) dX10_named_54 (by decide) (fun c15 => ?_) (fun c15 => ?_)
        · replace h := bzIfF h c15
          refine j_sub [1, 2, 3, 4] rfl ?_
          exact J67 v2 v3 σ1 h
        · replace h := bzIfT h c15
          refine j_iload hF 0 dX10_named_57 rfl ?_
          refine j_if_ne hF (tgt := 67) dX10_named_59 (by decide) (fun c16 => ?_) (fun c16 => absurd c16 (by decide))
          refine j_sub [1, 2, 3, 4] rfl ?_
          exact J67 v2 v3 σ1 h
  have J11 : ∀ (s0 : Int32) (σ1 : bzS), fb_X10_named_11 o a1 s0 σ1 = some (r0, σ0) → bzJ g 5 x σ1 11 [(0, .ref (ga g o)), (1, .int a1)] [.int s0] := by
    intro s0 σ1 h
    unfold fb_X10_named_11 at h
    refine j_istore_n hF (lv1 := [(2, .int s0), (0, .ref (ga g o)), (1, .int a1)]) dX10_named_11 (by decide) rfl ?_
    refine j_iload_n hF 2 dX10_named_12 rfl ?_
    refine j_bipush hF (v := 104) dX10_named_13 (by decide) ?_
    refine j_icmp_ne hF (tgt := 22) dX10_named_15 (by decide) (fun c2 => ?_) (fun c2 => ?_)
    · replace h := bzIfF h c2
      refine j_iconst hF (v := 0) dX10_named_22 (by decide) ?_
      refine j_istore_n hF (lv1 := [(3, .int 0), (2, .int s0), (0, .ref (ga g o)), (1, .int a1)]) dX10_named_23 (by decide) rfl ?_
      refine j_iload_n hF 3 dX10_named_24 rfl ?_
      refine j_aload_n hF 2 dX10_named_25 rfl ?_
      refine gf_X10_99 hF ho dX10_named_26 ?_
      refine j_if_ne hF (tgt := 37) dX10_named_29 (by decide) (fun c3 => ?_) (fun c3 => ?_)
      · replace h := bzIfF h c3
        refine j_bipush hF (v := 102) dX10_named_37 (by decide) ?_
        refine j_sub [2, 3, 1, 0] rfl ?_
        exact J39 s0 0 102 a1 σ1 h
      · replace h := bzIfT h c3
        refine j_bipush hF (v := 108) dX10_named_32 (by decide) ?_
        refine j_goto hF (tgt := 39) dX10_named_34 (by decide) ?_
        refine j_sub [2, 3, 1, 0] rfl ?_
        exact J39 s0 0 108 a1 σ1 h
    · replace h := bzIfT h c2
      refine j_iconst hF (v := 1) dX10_named_18 (by decide) ?_
      refine j_goto hF (tgt := 23) dX10_named_19 (by decide) ?_
      refine j_istore_n hF (lv1 := [(3, .int 1), (2, .int s0), (0, .ref (ga g o)), (1, .int a1)]) dX10_named_23 (by decide) rfl ?_
      refine j_iload_n hF 3 dX10_named_24 rfl ?_
      refine j_aload_n hF 2 dX10_named_25 rfl ?_
      refine gf_X10_99 hF ho dX10_named_26 ?_
      refine j_if_ne hF (tgt := 37) dX10_named_29 (by decide) (fun c17 => ?_) (fun c17 => ?_)
      · replace h := bzIfF h c17
        refine j_bipush hF (v := 102) dX10_named_37 (by decide) ?_
        refine j_sub [2, 3, 1, 0] rfl ?_
        exact J39 s0 1 102 a1 σ1 h
      · replace h := bzIfT h c17
        refine j_bipush hF (v := 108) dX10_named_32 (by decide) ?_
        refine j_goto hF (tgt := 39) dX10_named_34 (by decide) ?_
        refine j_sub [2, 3, 1, 0] rfl ?_
        exact J39 s0 1 108 a1 σ1 h
  refine j_iload_n hF 1 dX10_named_0 rfl ?_
  refine j_bipush hF (v := 119) dX10_named_1 (by decide) ?_
  refine j_icmp_ne hF (tgt := 10) dX10_named_3 (by decide) (fun c1 => ?_) (fun c1 => ?_)
  · replace h := bzIfF h c1
    refine j_iconst hF (v := 0) dX10_named_10 (by decide) ?_
    exact J11 0 σ h
  · replace h := bzIfT h c1
    refine j_iconst hF (v := 1) dX10_named_6 (by decide) ?_
    refine j_goto hF (tgt := 11) dX10_named_7 (by decide) ?_
    exact J11 1 σ h
def fb_X10_factor_89 (qX10_factor : Nat → bzS → Option (Int32 × bzS)) (qX10_product : Nat → bzS → Option (Int32 × bzS)) (qX10_sum : Nat → bzS → Option (Int32 × bzS)) (qX10_compared : Nat → bzS → Option (Int32 × bzS)) (qX10_both : Nat → bzS → Option (Int32 × bzS)) (qX10_whole : Nat → bzS → Option (Int32 × bzS)) (o : Nat) (v1 : Int32) (s0 : Int32) (σ1 : bzS) : Option (Int32 × bzS) :=
  bzLet (bzSt σ1 o 11 ((σ1 o 11) - 1)) (fun σ14 => if v1 = 33 then (if s0 = 0 then (some (1, σ14)) else (some (0, σ14))) else (if (σ14 o 15) = 0 then (bzBp (f_X10_fails o σ14) (fun x18 σ19 => some (x18, σ19))) else (bzBd (f_X10_byteAt o ((σ14 o 9)) σ14) (fun x21 => if x21 = 41 then (bzLet (bzSt σ14 o 9 ((σ14 o 9) + 1)) (fun σ26 => some (s0, σ26))) else (bzBp (f_X10_fails o σ14) (fun x24 σ25 => some (x24, σ25)))))))
def fb_X10_factor_39 (qX10_factor : Nat → bzS → Option (Int32 × bzS)) (qX10_product : Nat → bzS → Option (Int32 × bzS)) (qX10_sum : Nat → bzS → Option (Int32 × bzS)) (qX10_compared : Nat → bzS → Option (Int32 × bzS)) (qX10_both : Nat → bzS → Option (Int32 × bzS)) (qX10_whole : Nat → bzS → Option (Int32 × bzS)) (o : Nat) (v1 : Int32) (σ1 : bzS) : Option (Int32 × bzS) :=
  if (σ1 o 11) = 5 then (bzBp (f_X10_fails o σ1) (fun x32 σ33 => some (x32, σ33))) else (bzLet (bzSt σ1 o 11 ((σ1 o 11) + 1)) (fun σ8 => bzLet (bzSt σ8 o 9 ((σ8 o 9) + 1)) (fun σ9 => if v1 = 33 then (bzBp (qX10_factor o σ9) (fun x29 σ30 => fb_X10_factor_89 qX10_factor qX10_product qX10_sum qX10_compared qX10_both qX10_whole o v1 x29 σ30)) else (bzBp (qX10_whole o σ9) (fun x12 σ13 => fb_X10_factor_89 qX10_factor qX10_product qX10_sum qX10_compared qX10_both qX10_whole o v1 x12 σ13)))))
def fm_X10_factor (qX10_factor : Nat → bzS → Option (Int32 × bzS)) (qX10_product : Nat → bzS → Option (Int32 × bzS)) (qX10_sum : Nat → bzS → Option (Int32 × bzS)) (qX10_compared : Nat → bzS → Option (Int32 × bzS)) (qX10_both : Nat → bzS → Option (Int32 × bzS)) (qX10_whole : Nat → bzS → Option (Int32 × bzS)) (o : Nat) (σ : bzS) : Option (Int32 × bzS) :=
  bzGd (kd o = 10) (bzBd (f_X10_byteAt o ((σ o 9)) σ) (fun x2 => bzBd (f_X10_isDigit x2) (fun x4 => if x4 = 0 then (if x2 = 33 then (fb_X10_factor_39 qX10_factor qX10_product qX10_sum qX10_compared qX10_both qX10_whole o x2 σ) else (if x2 = 40 then (fb_X10_factor_39 qX10_factor qX10_product qX10_sum qX10_compared qX10_both qX10_whole o x2 σ) else (bzBp (f_X10_named o x2 σ) (fun x36 σ37 => some (x36, σ37))))) else (bzBp (f_X10_number o σ) (fun x39 σ40 => some (x39, σ40))))))
set_option maxHeartbeats 4000000 in
set_option maxRecDepth 20000 in
theorem mm_X10_factor {d : Nat} (hd : 4 ≤ d) {qX10_factor : Nat → bzS → Option (Int32 × bzS)} (hqX10_factor : ∀ {g : bzGeo} {o : Nat} {σ : bzS} {r0 : Int32} {σ0 : bzS} , qX10_factor o σ = some (r0, σ0) → ∀ l : Launch, Met l yX10_factor (Cond.code yX10_factor cX10_factor 3 (some .int) :: GW) (bzR (d)) (va_Pc [.ref (ga g o)] (bzP g σ)) (va_Qi (fun (r : Int32) (u : bzS) => r = r0 ∧ u = σ0) (bzB g) (gA g)) 0 0 (gA g)) {qX10_product : Nat → bzS → Option (Int32 × bzS)} (hqX10_product : ∀ {g : bzGeo} {o : Nat} {σ : bzS} {r0 : Int32} {σ0 : bzS} , qX10_product o σ = some (r0, σ0) → ∀ l : Launch, Met l yX10_product (Cond.code yX10_product cX10_product 4 (some .int) :: GW) (bzR (d)) (va_Pc [.ref (ga g o)] (bzP g σ)) (va_Qi (fun (r : Int32) (u : bzS) => r = r0 ∧ u = σ0) (bzB g) (gA g)) 0 0 (gA g)) {qX10_sum : Nat → bzS → Option (Int32 × bzS)} (hqX10_sum : ∀ {g : bzGeo} {o : Nat} {σ : bzS} {r0 : Int32} {σ0 : bzS} , qX10_sum o σ = some (r0, σ0) → ∀ l : Launch, Met l yX10_sum (Cond.code yX10_sum cX10_sum 4 (some .int) :: GW) (bzR (d)) (va_Pc [.ref (ga g o)] (bzP g σ)) (va_Qi (fun (r : Int32) (u : bzS) => r = r0 ∧ u = σ0) (bzB g) (gA g)) 0 0 (gA g)) {qX10_compared : Nat → bzS → Option (Int32 × bzS)} (hqX10_compared : ∀ {g : bzGeo} {o : Nat} {σ : bzS} {r0 : Int32} {σ0 : bzS} , qX10_compared o σ = some (r0, σ0) → ∀ l : Launch, Met l yX10_compared (Cond.code yX10_compared cX10_compared 5 (some .int) :: GW) (bzR (d)) (va_Pc [.ref (ga g o)] (bzP g σ)) (va_Qi (fun (r : Int32) (u : bzS) => r = r0 ∧ u = σ0) (bzB g) (gA g)) 0 0 (gA g)) {qX10_both : Nat → bzS → Option (Int32 × bzS)} (hqX10_both : ∀ {g : bzGeo} {o : Nat} {σ : bzS} {r0 : Int32} {σ0 : bzS} , qX10_both o σ = some (r0, σ0) → ∀ l : Launch, Met l yX10_both (Cond.code yX10_both cX10_both 3 (some .int) :: GW) (bzR (d)) (va_Pc [.ref (ga g o)] (bzP g σ)) (va_Qi (fun (r : Int32) (u : bzS) => r = r0 ∧ u = σ0) (bzB g) (gA g)) 0 0 (gA g)) {qX10_whole : Nat → bzS → Option (Int32 × bzS)} (hqX10_whole : ∀ {g : bzGeo} {o : Nat} {σ : bzS} {r0 : Int32} {σ0 : bzS} , qX10_whole o σ = some (r0, σ0) → ∀ l : Launch, Met l yX10_whole (Cond.code yX10_whole cX10_whole 3 (some .int) :: GW) (bzR (d)) (va_Pc [.ref (ga g o)] (bzP g σ)) (va_Qi (fun (r : Int32) (u : bzS) => r = r0 ∧ u = σ0) (bzB g) (gA g)) 0 0 (gA g)) {g : bzGeo} {o : Nat} {σ : bzS} {r0 : Int32} {σ0 : bzS} (l : Launch) (h : fm_X10_factor qX10_factor qX10_product qX10_sum qX10_compared qX10_both qX10_whole o σ = some (r0, σ0)) : Met l yX10_factor (Cond.code yX10_factor cX10_factor 3 (some .int) :: GW) (bzR (d + 1)) (va_Pc [.ref (ga g o)] (bzP g σ)) (va_Qi (fun (r : Int32) (u : bzS) => r = r0 ∧ u = σ0) (bzB g) (gA g)) 0 0 (gA g) := by
  unfold fm_X10_factor at h
  obtain ⟨ho, h⟩ := bzGdE h
  refine j_start l (by decide +kernel) [.ref (ga g o)] [(0, .ref (ga g o))] (Nat.le_of_ble_eq_true rfl) rfl (fun x hF hG => ?_)
  have J89 : ∀ (v1 : Int32) (s0 : Int32) (σ1 : bzS), fb_X10_factor_89 qX10_factor qX10_product qX10_sum qX10_compared qX10_both qX10_whole o v1 s0 σ1 = some (r0, σ0) → bzJ g 3 x σ1 89 [(0, .ref (ga g o)), (1, .int v1)] [.int s0] := by
    intro v1 s0 σ1 h
    unfold fb_X10_factor_89 at h
    refine j_istore_n hF (lv1 := [(2, .int s0), (0, .ref (ga g o)), (1, .int v1)]) dX10_factor_89 (by decide) rfl ?_
    refine j_aload_n hF 1 dX10_factor_90 rfl ?_
    refine j_dup hF dX10_factor_91 rfl ?_
    refine gf_X10_133 hF ho dX10_factor_92 ?_
    refine j_iconst hF (v := 1) dX10_factor_95 (by decide) ?_
    refine j_isub hF dX10_factor_96 ?_
    refine pf_X10_133 hF ho dX10_factor_97 ?_
    refine j_s (fun σ14 eσ14 => ?_)
    replace h := bzLetE h eσ14
    refine j_iload_n hF 2 dX10_factor_100 rfl ?_
    refine j_bipush hF (v := 33) dX10_factor_101 (by decide) ?_
    refine j_icmp_ne hF (tgt := 116) dX10_factor_103 (by decide) (fun c15 => ?_) (fun c15 => ?_)
    · replace h := bzIfF h c15
      refine j_aload_n hF 1 dX10_factor_116 rfl ?_
      refine gf_X10_102 hF ho dX10_factor_117 ?_
      refine j_if_eq hF (tgt := 148) dX10_factor_120 (by decide) (fun c16 => ?_) (fun c16 => ?_)
      · replace h := bzIfT h c16
        refine j_aload_n hF 1 dX10_factor_148 rfl ?_
        obtain ⟨x18, σ19, e17, h⟩ := bzBpE h
        refine cs_X10_115 hF ho (fun l => mt_X10_fails l e17) (by omega) (Nat.le_of_ble_eq_true rfl) dX10_factor_149 ?_
        exact j_iret hF hG dX10_factor_152 (bzRet h).1 (bzRet h).2
      · replace h := bzIfF h c16
        refine j_aload_n hF 1 dX10_factor_123 rfl ?_
        refine j_aload_n hF 1 dX10_factor_124 rfl ?_
        refine gf_X10_106 hF ho dX10_factor_125 ?_
        obtain ⟨x21, e20, h⟩ := bzBdE h
        refine cs_X10_109 hF ho (fun l => mt_X10_byteAt l e20) (by omega) (Nat.le_of_ble_eq_true rfl) dX10_factor_128 ?_
        refine j_bipush hF (v := 41) dX10_factor_131 (by decide) ?_
        refine j_icmp_ne hF (tgt := 148) dX10_factor_133 (by decide) (fun c22 => ?_) (fun c22 => ?_)
        · replace h := bzIfF h c22
          refine j_aload_n hF 1 dX10_factor_148 rfl ?_
          obtain ⟨x24, σ25, e23, h⟩ := bzBpE h
          refine cs_X10_115 hF ho (fun l => mt_X10_fails l e23) (by omega) (Nat.le_of_ble_eq_true rfl) dX10_factor_149 ?_
          exact j_iret hF hG dX10_factor_152 (bzRet h).1 (bzRet h).2
        · replace h := bzIfT h c22
          refine j_aload_n hF 1 dX10_factor_136 rfl ?_
          refine j_dup hF dX10_factor_137 rfl ?_
          refine gf_X10_106 hF ho dX10_factor_138 ?_
          refine j_iconst hF (v := 1) dX10_factor_141 (by decide) ?_
          refine j_iadd hF dX10_factor_142 ?_
          refine pf_X10_106 hF ho dX10_factor_143 ?_
          refine j_s (fun σ26 eσ26 => ?_)
          replace h := bzLetE h eσ26
          refine j_iload_n hF 0 dX10_factor_146 rfl ?_
          exact j_iret hF hG dX10_factor_147 (bzRet h).1 (bzRet h).2
    · replace h := bzIfT h c15
      refine j_iload_n hF 0 dX10_factor_106 rfl ?_
      refine j_if_ne hF (tgt := 114) dX10_factor_107 (by decide) (fun c27 => ?_) (fun c27 => ?_)
      · replace h := bzIfF h c27
        refine j_iconst hF (v := 0) dX10_factor_114 (by decide) ?_
        exact j_iret hF hG dX10_factor_115 (bzRet h).1 (bzRet h).2
      · replace h := bzIfT h c27
        refine j_iconst hF (v := 1) dX10_factor_110 (by decide) ?_
        refine j_goto hF (tgt := 115) dX10_factor_111 (by decide) ?_
        exact j_iret hF hG dX10_factor_115 (bzRet h).1 (bzRet h).2
  have J39 : ∀ (v1 : Int32) (σ1 : bzS), fb_X10_factor_39 qX10_factor qX10_product qX10_sum qX10_compared qX10_both qX10_whole o v1 σ1 = some (r0, σ0) → bzJ g 3 x σ1 39 [(0, .ref (ga g o)), (1, .int v1)] [] := by
    intro v1 σ1 h
    unfold fb_X10_factor_39 at h
    refine j_aload_n hF 0 dX10_factor_39 rfl ?_
    refine gf_X10_133 hF ho dX10_factor_40 ?_
    refine j_iconst hF (v := 5) dX10_factor_43 (by decide) ?_
    refine j_icmp_ne hF (tgt := 52) dX10_factor_44 (by decide) (fun c7 => ?_) (fun c7 => ?_)
    · replace h := bzIfF h c7
      refine j_aload_n hF 0 dX10_factor_52 rfl ?_
      refine j_dup hF dX10_factor_53 rfl ?_
      refine gf_X10_133 hF ho dX10_factor_54 ?_
      refine j_iconst hF (v := 1) dX10_factor_57 (by decide) ?_
      refine j_iadd hF dX10_factor_58 ?_
      refine pf_X10_133 hF ho dX10_factor_59 ?_
      refine j_s (fun σ8 eσ8 => ?_)
      replace h := bzLetE h eσ8
      refine j_aload_n hF 0 dX10_factor_62 rfl ?_
      refine j_dup hF dX10_factor_63 rfl ?_
      refine gf_X10_106 hF ho dX10_factor_64 ?_
      refine j_iconst hF (v := 1) dX10_factor_67 (by decide) ?_
      refine j_iadd hF dX10_factor_68 ?_
      refine pf_X10_106 hF ho dX10_factor_69 ?_
      refine j_s (fun σ9 eσ9 => ?_)
      replace h := bzLetE h eσ9
      refine j_iload_n hF 1 dX10_factor_72 rfl ?_
      refine j_bipush hF (v := 33) dX10_factor_73 (by decide) ?_
      refine j_icmp_ne hF (tgt := 85) dX10_factor_75 (by decide) (fun c10 => ?_) (fun c10 => ?_)
      · replace h := bzIfF h c10
        refine j_aload_n hF 0 dX10_factor_85 rfl ?_
        obtain ⟨x12, σ13, e11, h⟩ := bzBpE h
        refine cs_X10_139 hF ho (hqX10_whole e11) (by omega) (Nat.le_of_ble_eq_true rfl) dX10_factor_86 ?_
        exact J89 v1 x12 σ13 h
      · replace h := bzIfT h c10
        refine j_aload_n hF 0 dX10_factor_78 rfl ?_
        obtain ⟨x29, σ30, e28, h⟩ := bzBpE h
        refine cs_X10_136 hF ho (hqX10_factor e28) (by omega) (Nat.le_of_ble_eq_true rfl) dX10_factor_79 ?_
        refine j_goto hF (tgt := 89) dX10_factor_82 (by decide) ?_
        exact J89 v1 x29 σ30 h
    · replace h := bzIfT h c7
      refine j_aload_n hF 0 dX10_factor_47 rfl ?_
      obtain ⟨x32, σ33, e31, h⟩ := bzBpE h
      refine cs_X10_115 hF ho (fun l => mt_X10_fails l e31) (by omega) (Nat.le_of_ble_eq_true rfl) dX10_factor_48 ?_
      exact j_iret hF hG dX10_factor_51 (bzRet h).1 (bzRet h).2
  refine j_aload_n hF 0 dX10_factor_0 rfl ?_
  refine j_aload_n hF 0 dX10_factor_1 rfl ?_
  refine gf_X10_106 hF ho dX10_factor_2 ?_
  obtain ⟨x2, e1, h⟩ := bzBdE h
  refine cs_X10_109 hF ho (fun l => mt_X10_byteAt l e1) (by omega) (Nat.le_of_ble_eq_true rfl) dX10_factor_5 ?_
  refine j_istore_n hF (lv1 := [(1, .int x2), (0, .ref (ga g o))]) dX10_factor_8 (by decide) rfl ?_
  refine j_iload_n hF 0 dX10_factor_9 rfl ?_
  obtain ⟨x4, e3, h⟩ := bzBdE h
  refine cs_X10_112 hF (fun l => mt_X10_isDigit l e3) (by omega) (Nat.le_of_ble_eq_true rfl) dX10_factor_10 ?_
  refine j_if_eq hF (tgt := 21) dX10_factor_13 (by decide) (fun c5 => ?_) (fun c5 => ?_)
  · replace h := bzIfT h c5
    refine j_iload_n hF 0 dX10_factor_21 rfl ?_
    refine j_bipush hF (v := 33) dX10_factor_22 (by decide) ?_
    refine j_icmp_eq hF (tgt := 39) dX10_factor_24 (by decide) (fun c6 => ?_) (fun c6 => ?_)
    · replace h := bzIfT h c6
      refine j_sub [1, 0] rfl ?_
      exact J39 x2 σ h
    · replace h := bzIfF h c6
      refine j_iload_n hF 0 dX10_factor_27 rfl ?_
      refine j_bipush hF (v := 40) dX10_factor_28 (by decide) ?_
      refine j_icmp_eq hF (tgt := 39) dX10_factor_30 (by decide) (fun c34 => ?_) (fun c34 => ?_)
      · replace h := bzIfT h c34
        refine j_sub [1, 0] rfl ?_
        exact J39 x2 σ h
      · replace h := bzIfF h c34
        refine j_aload_n hF 1 dX10_factor_33 rfl ?_
        refine j_iload_n hF 0 dX10_factor_34 rfl ?_
        obtain ⟨x36, σ37, e35, h⟩ := bzBpE h
        refine cs_X10_130 hF ho (fun l => mt_X10_named l e35) (by omega) (Nat.le_of_ble_eq_true rfl) dX10_factor_35 ?_
        exact j_iret hF hG dX10_factor_38  (bzRet h).1 (bzRet h).2
  · replace h := bzIfF h c5
    refine j_aload_n hF 1 dX10_factor_16 rfl ?_
    obtain ⟨x39, σ40, e38, h⟩ := bzBpE h
    refine cs_X10_127 hF ho (fun l => mt_X10_number l e38) (by omega) (Nat.le_of_ble_eq_true rfl) dX10_factor_17 ?_
    exact j_iret hF hG dX10_factor_20  (bzRet h).1 (bzRet h).2
def fb_X10_product_51 (qX10_factor : Nat → bzS → Option (Int32 × bzS)) (qX10_product : Nat → bzS → Option (Int32 × bzS)) (qX10_sum : Nat → bzS → Option (Int32 × bzS)) (qX10_compared : Nat → bzS → Option (Int32 × bzS)) (qX10_both : Nat → bzS → Option (Int32 × bzS)) (qX10_whole : Nat → bzS → Option (Int32 × bzS)) (K5 : Int32 → bzS → Option (Int32 × bzS)) (o : Nat) (v1 : Int32) (σ1 : bzS) : Option (Int32 × bzS) :=
  bzBd (f_X10_byteAt o ((σ1 o 9)) σ1) (fun x9 => bzLet (bzSt σ1 o 9 ((σ1 o 9) + 1)) (fun σ10 => bzBp (qX10_factor o σ10) (fun x12 σ13 => if x9 = 42 then (bzLet ((v1 * x12)) (fun x21 => K5 x21 σ13)) else (if x12 = 0 then (K5 0 σ13) else (if x9 = 47 then (bzGd (¬ x12 = 0) (bzLet ((v1 / x12)) (fun x20 => K5 x20 σ13))) else (bzGd (¬ x12 = 0) (bzLet ((v1 - v1 / x12 * x12)) (fun x18 => K5 x18 σ13))))))))
def fb_X10_product_5 (qX10_factor : Nat → bzS → Option (Int32 × bzS)) (qX10_product : Nat → bzS → Option (Int32 × bzS)) (qX10_sum : Nat → bzS → Option (Int32 × bzS)) (qX10_compared : Nat → bzS → Option (Int32 × bzS)) (qX10_both : Nat → bzS → Option (Int32 × bzS)) (qX10_whole : Nat → bzS → Option (Int32 × bzS)) (K5 : Int32 → bzS → Option (Int32 × bzS)) (o : Nat) (v1 : Int32) (σ1 : bzS) : Option (Int32 × bzS) :=
  if (σ1 o 15) = 0 then (some (v1, σ1)) else (bzBd (f_X10_byteAt o ((σ1 o 9)) σ1) (fun x6 => if x6 = 42 then (fb_X10_product_51 qX10_factor qX10_product qX10_sum qX10_compared qX10_both qX10_whole K5 o v1 σ1) else (bzBd (f_X10_byteAt o ((σ1 o 9)) σ1) (fun x23 => if x23 = 47 then (fb_X10_product_51 qX10_factor qX10_product qX10_sum qX10_compared qX10_both qX10_whole K5 o v1 σ1) else (bzBd (f_X10_byteAt o ((σ1 o 9)) σ1) (fun x26 => if x26 = 37 then (fb_X10_product_51 qX10_factor qX10_product qX10_sum qX10_compared qX10_both qX10_whole K5 o v1 σ1) else (some (v1, σ1))))))))
def fl_X10_product_5 (qX10_factor : Nat → bzS → Option (Int32 × bzS)) (qX10_product : Nat → bzS → Option (Int32 × bzS)) (qX10_sum : Nat → bzS → Option (Int32 × bzS)) (qX10_compared : Nat → bzS → Option (Int32 × bzS)) (qX10_both : Nat → bzS → Option (Int32 × bzS)) (qX10_whole : Nat → bzS → Option (Int32 × bzS)) (o : Nat) : Nat → Int32 → bzS → Option (Int32 × bzS)
  | 0, _, _ => none
  | n + 1, v1, σ1 => fb_X10_product_5 qX10_factor qX10_product qX10_sum qX10_compared qX10_both qX10_whole  (fl_X10_product_5 qX10_factor qX10_product qX10_sum qX10_compared qX10_both qX10_whole  o n) o v1 σ1
def fm_X10_product (qX10_factor : Nat → bzS → Option (Int32 × bzS)) (qX10_product : Nat → bzS → Option (Int32 × bzS)) (qX10_sum : Nat → bzS → Option (Int32 × bzS)) (qX10_compared : Nat → bzS → Option (Int32 × bzS)) (qX10_both : Nat → bzS → Option (Int32 × bzS)) (qX10_whole : Nat → bzS → Option (Int32 × bzS)) (o : Nat) (σ : bzS) : Option (Int32 × bzS) :=
  bzGd (kd o = 10) (bzBp (qX10_factor o σ) (fun x2 σ3 => fl_X10_product_5 qX10_factor qX10_product qX10_sum qX10_compared qX10_both qX10_whole o 2000 x2 σ3))
set_option maxHeartbeats 4000000 in
set_option maxRecDepth 20000 in
theorem mm_X10_product {d : Nat} (hd : 4 ≤ d) {qX10_factor : Nat → bzS → Option (Int32 × bzS)} (hqX10_factor : ∀ {g : bzGeo} {o : Nat} {σ : bzS} {r0 : Int32} {σ0 : bzS} , qX10_factor o σ = some (r0, σ0) → ∀ l : Launch, Met l yX10_factor (Cond.code yX10_factor cX10_factor 3 (some .int) :: GW) (bzR (d)) (va_Pc [.ref (ga g o)] (bzP g σ)) (va_Qi (fun (r : Int32) (u : bzS) => r = r0 ∧ u = σ0) (bzB g) (gA g)) 0 0 (gA g)) {qX10_product : Nat → bzS → Option (Int32 × bzS)} (hqX10_product : ∀ {g : bzGeo} {o : Nat} {σ : bzS} {r0 : Int32} {σ0 : bzS} , qX10_product o σ = some (r0, σ0) → ∀ l : Launch, Met l yX10_product (Cond.code yX10_product cX10_product 4 (some .int) :: GW) (bzR (d)) (va_Pc [.ref (ga g o)] (bzP g σ)) (va_Qi (fun (r : Int32) (u : bzS) => r = r0 ∧ u = σ0) (bzB g) (gA g)) 0 0 (gA g)) {qX10_sum : Nat → bzS → Option (Int32 × bzS)} (hqX10_sum : ∀ {g : bzGeo} {o : Nat} {σ : bzS} {r0 : Int32} {σ0 : bzS} , qX10_sum o σ = some (r0, σ0) → ∀ l : Launch, Met l yX10_sum (Cond.code yX10_sum cX10_sum 4 (some .int) :: GW) (bzR (d)) (va_Pc [.ref (ga g o)] (bzP g σ)) (va_Qi (fun (r : Int32) (u : bzS) => r = r0 ∧ u = σ0) (bzB g) (gA g)) 0 0 (gA g)) {qX10_compared : Nat → bzS → Option (Int32 × bzS)} (hqX10_compared : ∀ {g : bzGeo} {o : Nat} {σ : bzS} {r0 : Int32} {σ0 : bzS} , qX10_compared o σ = some (r0, σ0) → ∀ l : Launch, Met l yX10_compared (Cond.code yX10_compared cX10_compared 5 (some .int) :: GW) (bzR (d)) (va_Pc [.ref (ga g o)] (bzP g σ)) (va_Qi (fun (r : Int32) (u : bzS) => r = r0 ∧ u = σ0) (bzB g) (gA g)) 0 0 (gA g)) {qX10_both : Nat → bzS → Option (Int32 × bzS)} (hqX10_both : ∀ {g : bzGeo} {o : Nat} {σ : bzS} {r0 : Int32} {σ0 : bzS} , qX10_both o σ = some (r0, σ0) → ∀ l : Launch, Met l yX10_both (Cond.code yX10_both cX10_both 3 (some .int) :: GW) (bzR (d)) (va_Pc [.ref (ga g o)] (bzP g σ)) (va_Qi (fun (r : Int32) (u : bzS) => r = r0 ∧ u = σ0) (bzB g) (gA g)) 0 0 (gA g)) {qX10_whole : Nat → bzS → Option (Int32 × bzS)} (hqX10_whole : ∀ {g : bzGeo} {o : Nat} {σ : bzS} {r0 : Int32} {σ0 : bzS} , qX10_whole o σ = some (r0, σ0) → ∀ l : Launch, Met l yX10_whole (Cond.code yX10_whole cX10_whole 3 (some .int) :: GW) (bzR (d)) (va_Pc [.ref (ga g o)] (bzP g σ)) (va_Qi (fun (r : Int32) (u : bzS) => r = r0 ∧ u = σ0) (bzB g) (gA g)) 0 0 (gA g)) {g : bzGeo} {o : Nat} {σ : bzS} {r0 : Int32} {σ0 : bzS} (l : Launch) (h : fm_X10_product qX10_factor qX10_product qX10_sum qX10_compared qX10_both qX10_whole o σ = some (r0, σ0)) : Met l yX10_product (Cond.code yX10_product cX10_product 4 (some .int) :: GW) (bzR (d + 1)) (va_Pc [.ref (ga g o)] (bzP g σ)) (va_Qi (fun (r : Int32) (u : bzS) => r = r0 ∧ u = σ0) (bzB g) (gA g)) 0 0 (gA g) := by
  unfold fm_X10_product at h
  obtain ⟨ho, h⟩ := bzGdE h
  refine j_start l (by decide +kernel) [.ref (ga g o)] [(0, .ref (ga g o))] (Nat.le_of_ble_eq_true rfl) rfl (fun x hF hG => ?_)
  have J51 : (K5 : Int32 → bzS → Option (Int32 × bzS)) → (hK5 : ∀ (v1 : Int32) (σ1 : bzS), K5 v1 σ1 = some (r0, σ0) → bzJ g 4 x σ1 5 [(0, .ref (ga g o)), (1, .int v1)] []) → ∀ (v1 : Int32) (σ1 : bzS), fb_X10_product_51 qX10_factor qX10_product qX10_sum qX10_compared qX10_both qX10_whole K5 o v1 σ1 = some (r0, σ0) → bzJ g 4 x σ1 51 [(0, .ref (ga g o)), (1, .int v1)] [] := by
    intro K5 hK5 v1 σ1 h
    unfold fb_X10_product_51 at h
    refine j_aload_n hF 0 dX10_product_51 rfl ?_
    refine j_aload_n hF 0 dX10_product_52 rfl ?_
    refine gf_X10_106 hF ho dX10_product_53 ?_
    obtain ⟨x9, e8, h⟩ := bzBdE h
    refine cs_X10_109 hF ho (fun l => mt_X10_byteAt l e8) (by omega) (Nat.le_of_ble_eq_true rfl) dX10_product_56 ?_
    refine j_istore_n hF (lv1 := [(2, .int x9), (0, .ref (ga g o)), (1, .int v1)]) dX10_product_59 (by decide) rfl ?_
    refine j_aload_n hF 1 dX10_product_60 rfl ?_
    refine j_dup hF dX10_product_61 rfl ?_
    refine gf_X10_106 hF ho dX10_product_62 ?_
    refine j_iconst hF (v := 1) dX10_product_65 (by decide) ?_
    refine j_iadd hF dX10_product_66 ?_
    refine pf_X10_106 hF ho dX10_product_67 ?_
    refine j_s (fun σ10 eσ10 => ?_)
    replace h := bzLetE h eσ10
    refine j_aload_n hF 1 dX10_product_70 rfl ?_
    obtain ⟨x12, σ13, e11, h⟩ := bzBpE h
    refine cs_X10_136 hF ho (hqX10_factor e11) (by omega) (Nat.le_of_ble_eq_true rfl) dX10_product_71 ?_
    refine j_istore_n hF (lv1 := [(3, .int x12), (2, .int x9), (0, .ref (ga g o)), (1, .int v1)]) dX10_product_74 (by decide) rfl ?_
    refine j_iload_n hF 1 dX10_product_75 rfl ?_
    refine j_bipush hF (v := 42) dX10_product_76 (by decide) ?_
    refine j_icmp_ne hF (tgt := 87) dX10_product_78 (by decide) (fun c14 => ?_) (fun c14 => ?_)
    · replace h := bzIfF h c14
      refine j_iload_n hF 0 dX10_product_87 rfl ?_
      refine j_if_ne hF (tgt := 95) dX10_product_88 (by decide) (fun c15 => ?_) (fun c15 => ?_)
      · replace h := bzIfF h c15
        refine j_iload_n hF 1 dX10_product_95 rfl ?_
        refine j_bipush hF (v := 47) dX10_product_96 (by decide) ?_
        refine j_icmp_ne hF (tgt := 107) dX10_product_98 (by decide) (fun c16 => ?_) (fun c16 => ?_)
        · replace h := bzIfF h c16
          refine j_iload_n hF 3 dX10_product_107 rfl ?_
          refine j_iload_n hF 0 dX10_product_108 rfl ?_
          obtain ⟨g17, h⟩ := bzGdE h
          refine j_irem hF dX10_product_109 g17 ?_
          refine j_topi (fun x18 ex18 => ?_)
          replace h := bzLetE h ex18
          refine j_istore_n hF (lv1 := [(1, .int x18), (3, .int x12), (2, .int x9), (0, .ref (ga g o))]) dX10_product_110 (by decide) rfl ?_
          refine j_goto hF (tgt := 5) dX10_product_111 (by decide) ?_
          refine j_sub [3, 0] rfl ?_
          exact hK5 x18 σ13 h
        · replace h := bzIfT h c16
          refine j_iload_n hF 3 dX10_product_101 rfl ?_
          refine j_iload_n hF 0 dX10_product_102 rfl ?_
          obtain ⟨g19, h⟩ := bzGdE h
          refine j_idiv hF dX10_product_103 g19 ?_
          refine j_goto hF (tgt := 110) dX10_product_104 (by decide) ?_
          refine j_topi (fun x20 ex20 => ?_)
          replace h := bzLetE h ex20
          refine j_istore_n hF (lv1 := [(1, .int x20), (3, .int x12), (2, .int x9), (0, .ref (ga g o))]) dX10_product_110 (by decide) rfl ?_
          refine j_goto hF (tgt := 5) dX10_product_111 (by decide) ?_
          refine j_sub [3, 0] rfl ?_
          exact hK5 x20 σ13 h
      · replace h := bzIfT h c15
        refine j_iconst hF (v := 0) dX10_product_91 (by decide) ?_
        refine j_goto hF (tgt := 110) dX10_product_92 (by decide) ?_
        refine j_istore_n hF (lv1 := [(1, .int 0), (3, .int x12), (2, .int x9), (0, .ref (ga g o))]) dX10_product_110 (by decide) rfl ?_
        refine j_goto hF (tgt := 5) dX10_product_111 (by decide) ?_
        refine j_sub [3, 0] rfl ?_
        exact hK5 0 σ13 h
    · replace h := bzIfT h c14
      refine j_iload_n hF 3 dX10_product_81 rfl ?_
      refine j_iload_n hF 0 dX10_product_82 rfl ?_
      refine j_imul hF dX10_product_83 ?_
      refine j_goto hF (tgt := 110) dX10_product_84 (by decide) ?_
      refine j_topi (fun x21 ex21 => ?_)
      replace h := bzLetE h ex21
      refine j_istore_n hF (lv1 := [(1, .int x21), (3, .int x12), (2, .int x9), (0, .ref (ga g o))]) dX10_product_110 (by decide) rfl ?_
      refine j_goto hF (tgt := 5) dX10_product_111 (by decide) ?_
      refine j_sub [3, 0] rfl ?_
      exact hK5 x21 σ13 h
  have J5 : (K5 : Int32 → bzS → Option (Int32 × bzS)) → (hK5 : ∀ (v1 : Int32) (σ1 : bzS), K5 v1 σ1 = some (r0, σ0) → bzJ g 4 x σ1 5 [(0, .ref (ga g o)), (1, .int v1)] []) → ∀ (v1 : Int32) (σ1 : bzS), fb_X10_product_5 qX10_factor qX10_product qX10_sum qX10_compared qX10_both qX10_whole K5 o v1 σ1 = some (r0, σ0) → bzJ g 4 x σ1 5 [(0, .ref (ga g o)), (1, .int v1)] [] := by
    intro K5 hK5 v1 σ1 h
    unfold fb_X10_product_5 at h
    refine j_aload_n hF 0 dX10_product_5 rfl ?_
    refine gf_X10_102 hF ho dX10_product_6 ?_
    refine j_if_eq hF (tgt := 114) dX10_product_9 (by decide) (fun c4 => ?_) (fun c4 => ?_)
    · replace h := bzIfT h c4
      refine j_iload_n hF 1 dX10_product_114 rfl ?_
      exact j_iret hF hG dX10_product_115 (bzRet h).1 (bzRet h).2
    · replace h := bzIfF h c4
      refine j_aload_n hF 0 dX10_product_12 rfl ?_
      refine j_aload_n hF 0 dX10_product_13 rfl ?_
      refine gf_X10_106 hF ho dX10_product_14 ?_
      obtain ⟨x6, e5, h⟩ := bzBdE h
      refine cs_X10_109 hF ho (fun l => mt_X10_byteAt l e5) (by omega) (Nat.le_of_ble_eq_true rfl) dX10_product_17 ?_
      refine j_bipush hF (v := 42) dX10_product_20 (by decide) ?_
      refine j_icmp_eq hF (tgt := 51) dX10_product_22 (by decide) (fun c7 => ?_) (fun c7 => ?_)
      · replace h := bzIfT h c7
        exact J51 K5 hK5 v1 σ1 h
      · replace h := bzIfF h c7
        refine j_aload_n hF 0 dX10_product_25 rfl ?_
        refine j_aload_n hF 0 dX10_product_26 rfl ?_
        refine gf_X10_106 hF ho dX10_product_27 ?_
        obtain ⟨x23, e22, h⟩ := bzBdE h
        refine cs_X10_109 hF ho (fun l => mt_X10_byteAt l e22) (by omega) (Nat.le_of_ble_eq_true rfl) dX10_product_30 ?_
        refine j_bipush hF (v := 47) dX10_product_33 (by decide) ?_
        refine j_icmp_eq hF (tgt := 51) dX10_product_35 (by decide) (fun c24 => ?_) (fun c24 => ?_)
        · replace h := bzIfT h c24
          exact J51 K5 hK5 v1 σ1 h
        · replace h := bzIfF h c24
          refine j_aload_n hF 0 dX10_product_38 rfl ?_
          refine j_aload_n hF 0 dX10_product_39 rfl ?_
          refine gf_X10_106 hF ho dX10_product_40 ?_
          obtain ⟨x26, e25, h⟩ := bzBdE h
          refine cs_X10_109 hF ho (fun l => mt_X10_byteAt l e25) (by omega) (Nat.le_of_ble_eq_true rfl) dX10_product_43 ?_
          refine j_bipush hF (v := 37) dX10_product_46 (by decide) ?_
          refine j_icmp_ne hF (tgt := 114) dX10_product_48 (by decide) (fun c27 => ?_) (fun c27 => ?_)
          · replace h := bzIfF h c27
            refine j_iload_n hF 1 dX10_product_114 rfl ?_
            exact j_iret hF hG dX10_product_115 (bzRet h).1 (bzRet h).2
          · replace h := bzIfT h c27
            exact J51 K5 hK5 v1 σ1 h
  have L5 : ∀ (n : Nat) (v1 : Int32) (σ1 : bzS), fl_X10_product_5 qX10_factor qX10_product qX10_sum qX10_compared qX10_both qX10_whole  o n v1 σ1 = some (r0, σ0) → bzJ g 4 x σ1 5 [(0, .ref (ga g o)), (1, .int v1)] [] := by
    intro  n
    induction n with
    | zero =>
      intro v1 σ1  h
      cases h
    | succ n ih =>
      intro v1 σ1  h
      exact J5  (fl_X10_product_5 qX10_factor qX10_product qX10_sum qX10_compared qX10_both qX10_whole  o n) ih v1 σ1  h
  refine j_aload_n hF 0 dX10_product_0 rfl ?_
  obtain ⟨x2, σ3, e1, h⟩ := bzBpE h
  refine cs_X10_136 hF ho (hqX10_factor e1) (by omega) (Nat.le_of_ble_eq_true rfl) dX10_product_1 ?_
  refine j_istore_n hF (lv1 := [(1, .int x2), (0, .ref (ga g o))]) dX10_product_4 (by decide) rfl ?_
  refine j_sub [1, 0] rfl ?_
  exact L5 2000 x2 σ3 h
def fb_X10_sum_38 (qX10_factor : Nat → bzS → Option (Int32 × bzS)) (qX10_product : Nat → bzS → Option (Int32 × bzS)) (qX10_sum : Nat → bzS → Option (Int32 × bzS)) (qX10_compared : Nat → bzS → Option (Int32 × bzS)) (qX10_both : Nat → bzS → Option (Int32 × bzS)) (qX10_whole : Nat → bzS → Option (Int32 × bzS)) (K5 : Int32 → bzS → Option (Int32 × bzS)) (o : Nat) (v1 : Int32) (σ1 : bzS) : Option (Int32 × bzS) :=
  bzBd (f_X10_byteAt o ((σ1 o 9)) σ1) (fun x9 => bzLet (bzSt σ1 o 9 ((σ1 o 9) + 1)) (fun σ10 => bzBp (qX10_product o σ10) (fun x12 σ13 => if x9 = 43 then (bzLet ((v1 + x12)) (fun x16 => K5 x16 σ13)) else (bzLet ((v1 - x12)) (fun x15 => K5 x15 σ13)))))
def fb_X10_sum_5 (qX10_factor : Nat → bzS → Option (Int32 × bzS)) (qX10_product : Nat → bzS → Option (Int32 × bzS)) (qX10_sum : Nat → bzS → Option (Int32 × bzS)) (qX10_compared : Nat → bzS → Option (Int32 × bzS)) (qX10_both : Nat → bzS → Option (Int32 × bzS)) (qX10_whole : Nat → bzS → Option (Int32 × bzS)) (K5 : Int32 → bzS → Option (Int32 × bzS)) (o : Nat) (v1 : Int32) (σ1 : bzS) : Option (Int32 × bzS) :=
  if (σ1 o 15) = 0 then (some (v1, σ1)) else (bzBd (f_X10_byteAt o ((σ1 o 9)) σ1) (fun x6 => if x6 = 43 then (fb_X10_sum_38 qX10_factor qX10_product qX10_sum qX10_compared qX10_both qX10_whole K5 o v1 σ1) else (bzBd (f_X10_byteAt o ((σ1 o 9)) σ1) (fun x18 => if x18 = 45 then (fb_X10_sum_38 qX10_factor qX10_product qX10_sum qX10_compared qX10_both qX10_whole K5 o v1 σ1) else (some (v1, σ1))))))
def fl_X10_sum_5 (qX10_factor : Nat → bzS → Option (Int32 × bzS)) (qX10_product : Nat → bzS → Option (Int32 × bzS)) (qX10_sum : Nat → bzS → Option (Int32 × bzS)) (qX10_compared : Nat → bzS → Option (Int32 × bzS)) (qX10_both : Nat → bzS → Option (Int32 × bzS)) (qX10_whole : Nat → bzS → Option (Int32 × bzS)) (o : Nat) : Nat → Int32 → bzS → Option (Int32 × bzS)
  | 0, _, _ => none
  | n + 1, v1, σ1 => fb_X10_sum_5 qX10_factor qX10_product qX10_sum qX10_compared qX10_both qX10_whole  (fl_X10_sum_5 qX10_factor qX10_product qX10_sum qX10_compared qX10_both qX10_whole  o n) o v1 σ1
def fm_X10_sum (qX10_factor : Nat → bzS → Option (Int32 × bzS)) (qX10_product : Nat → bzS → Option (Int32 × bzS)) (qX10_sum : Nat → bzS → Option (Int32 × bzS)) (qX10_compared : Nat → bzS → Option (Int32 × bzS)) (qX10_both : Nat → bzS → Option (Int32 × bzS)) (qX10_whole : Nat → bzS → Option (Int32 × bzS)) (o : Nat) (σ : bzS) : Option (Int32 × bzS) :=
  bzGd (kd o = 10) (bzBp (qX10_product o σ) (fun x2 σ3 => fl_X10_sum_5 qX10_factor qX10_product qX10_sum qX10_compared qX10_both qX10_whole o 2000 x2 σ3))
set_option maxHeartbeats 4000000 in
set_option maxRecDepth 20000 in
theorem mm_X10_sum {d : Nat} (hd : 4 ≤ d) {qX10_factor : Nat → bzS → Option (Int32 × bzS)} (hqX10_factor : ∀ {g : bzGeo} {o : Nat} {σ : bzS} {r0 : Int32} {σ0 : bzS} , qX10_factor o σ = some (r0, σ0) → ∀ l : Launch, Met l yX10_factor (Cond.code yX10_factor cX10_factor 3 (some .int) :: GW) (bzR (d)) (va_Pc [.ref (ga g o)] (bzP g σ)) (va_Qi (fun (r : Int32) (u : bzS) => r = r0 ∧ u = σ0) (bzB g) (gA g)) 0 0 (gA g)) {qX10_product : Nat → bzS → Option (Int32 × bzS)} (hqX10_product : ∀ {g : bzGeo} {o : Nat} {σ : bzS} {r0 : Int32} {σ0 : bzS} , qX10_product o σ = some (r0, σ0) → ∀ l : Launch, Met l yX10_product (Cond.code yX10_product cX10_product 4 (some .int) :: GW) (bzR (d)) (va_Pc [.ref (ga g o)] (bzP g σ)) (va_Qi (fun (r : Int32) (u : bzS) => r = r0 ∧ u = σ0) (bzB g) (gA g)) 0 0 (gA g)) {qX10_sum : Nat → bzS → Option (Int32 × bzS)} (hqX10_sum : ∀ {g : bzGeo} {o : Nat} {σ : bzS} {r0 : Int32} {σ0 : bzS} , qX10_sum o σ = some (r0, σ0) → ∀ l : Launch, Met l yX10_sum (Cond.code yX10_sum cX10_sum 4 (some .int) :: GW) (bzR (d)) (va_Pc [.ref (ga g o)] (bzP g σ)) (va_Qi (fun (r : Int32) (u : bzS) => r = r0 ∧ u = σ0) (bzB g) (gA g)) 0 0 (gA g)) {qX10_compared : Nat → bzS → Option (Int32 × bzS)} (hqX10_compared : ∀ {g : bzGeo} {o : Nat} {σ : bzS} {r0 : Int32} {σ0 : bzS} , qX10_compared o σ = some (r0, σ0) → ∀ l : Launch, Met l yX10_compared (Cond.code yX10_compared cX10_compared 5 (some .int) :: GW) (bzR (d)) (va_Pc [.ref (ga g o)] (bzP g σ)) (va_Qi (fun (r : Int32) (u : bzS) => r = r0 ∧ u = σ0) (bzB g) (gA g)) 0 0 (gA g)) {qX10_both : Nat → bzS → Option (Int32 × bzS)} (hqX10_both : ∀ {g : bzGeo} {o : Nat} {σ : bzS} {r0 : Int32} {σ0 : bzS} , qX10_both o σ = some (r0, σ0) → ∀ l : Launch, Met l yX10_both (Cond.code yX10_both cX10_both 3 (some .int) :: GW) (bzR (d)) (va_Pc [.ref (ga g o)] (bzP g σ)) (va_Qi (fun (r : Int32) (u : bzS) => r = r0 ∧ u = σ0) (bzB g) (gA g)) 0 0 (gA g)) {qX10_whole : Nat → bzS → Option (Int32 × bzS)} (hqX10_whole : ∀ {g : bzGeo} {o : Nat} {σ : bzS} {r0 : Int32} {σ0 : bzS} , qX10_whole o σ = some (r0, σ0) → ∀ l : Launch, Met l yX10_whole (Cond.code yX10_whole cX10_whole 3 (some .int) :: GW) (bzR (d)) (va_Pc [.ref (ga g o)] (bzP g σ)) (va_Qi (fun (r : Int32) (u : bzS) => r = r0 ∧ u = σ0) (bzB g) (gA g)) 0 0 (gA g)) {g : bzGeo} {o : Nat} {σ : bzS} {r0 : Int32} {σ0 : bzS} (l : Launch) (h : fm_X10_sum qX10_factor qX10_product qX10_sum qX10_compared qX10_both qX10_whole o σ = some (r0, σ0)) : Met l yX10_sum (Cond.code yX10_sum cX10_sum 4 (some .int) :: GW) (bzR (d + 1)) (va_Pc [.ref (ga g o)] (bzP g σ)) (va_Qi (fun (r : Int32) (u : bzS) => r = r0 ∧ u = σ0) (bzB g) (gA g)) 0 0 (gA g) := by
  unfold fm_X10_sum at h
  obtain ⟨ho, h⟩ := bzGdE h
  refine j_start l (by decide +kernel) [.ref (ga g o)] [(0, .ref (ga g o))] (Nat.le_of_ble_eq_true rfl) rfl (fun x hF hG => ?_)
  have J38 : (K5 : Int32 → bzS → Option (Int32 × bzS)) → (hK5 : ∀ (v1 : Int32) (σ1 : bzS), K5 v1 σ1 = some (r0, σ0) → bzJ g 4 x σ1 5 [(0, .ref (ga g o)), (1, .int v1)] []) → ∀ (v1 : Int32) (σ1 : bzS), fb_X10_sum_38 qX10_factor qX10_product qX10_sum qX10_compared qX10_both qX10_whole K5 o v1 σ1 = some (r0, σ0) → bzJ g 4 x σ1 38 [(0, .ref (ga g o)), (1, .int v1)] [] := by
    intro K5 hK5 v1 σ1 h
    unfold fb_X10_sum_38 at h
    refine j_aload_n hF 0 dX10_sum_38 rfl ?_
    refine j_aload_n hF 0 dX10_sum_39 rfl ?_
    refine gf_X10_106 hF ho dX10_sum_40 ?_
    obtain ⟨x9, e8, h⟩ := bzBdE h
    refine cs_X10_109 hF ho (fun l => mt_X10_byteAt l e8) (by omega) (Nat.le_of_ble_eq_true rfl) dX10_sum_43 ?_
    refine j_istore_n hF (lv1 := [(2, .int x9), (0, .ref (ga g o)), (1, .int v1)]) dX10_sum_46 (by decide) rfl ?_
    refine j_aload_n hF 1 dX10_sum_47 rfl ?_
    refine j_dup hF dX10_sum_48 rfl ?_
    refine gf_X10_106 hF ho dX10_sum_49 ?_
    refine j_iconst hF (v := 1) dX10_sum_52 (by decide) ?_
    refine j_iadd hF dX10_sum_53 ?_
    refine pf_X10_106 hF ho dX10_sum_54 ?_
    refine j_s (fun σ10 eσ10 => ?_)
    replace h := bzLetE h eσ10
    refine j_aload_n hF 1 dX10_sum_57 rfl ?_
    obtain ⟨x12, σ13, e11, h⟩ := bzBpE h
    refine cs_X10_142 hF ho (hqX10_product e11) (by omega) (Nat.le_of_ble_eq_true rfl) dX10_sum_58 ?_
    refine j_istore_n hF (lv1 := [(3, .int x12), (2, .int x9), (0, .ref (ga g o)), (1, .int v1)]) dX10_sum_61 (by decide) rfl ?_
    refine j_iload_n hF 1 dX10_sum_62 rfl ?_
    refine j_bipush hF (v := 43) dX10_sum_63 (by decide) ?_
    refine j_icmp_ne hF (tgt := 74) dX10_sum_65 (by decide) (fun c14 => ?_) (fun c14 => ?_)
    · replace h := bzIfF h c14
      refine j_iload_n hF 3 dX10_sum_74 rfl ?_
      refine j_iload_n hF 0 dX10_sum_75 rfl ?_
      refine j_isub hF dX10_sum_76 ?_
      refine j_topi (fun x15 ex15 => ?_)
      replace h := bzLetE h ex15
      refine j_istore_n hF (lv1 := [(1, .int x15), (3, .int x12), (2, .int x9), (0, .ref (ga g o))]) dX10_sum_77 (by decide) rfl ?_
      refine j_goto hF (tgt := 5) dX10_sum_78 (by decide) ?_
      refine j_sub [3, 0] rfl ?_
      exact hK5 x15 σ13 h
    · replace h := bzIfT h c14
      refine j_iload_n hF 3 dX10_sum_68 rfl ?_
      refine j_iload_n hF 0 dX10_sum_69 rfl ?_
      refine j_iadd hF dX10_sum_70 ?_
      refine j_goto hF (tgt := 77) dX10_sum_71 (by decide) ?_
      refine j_topi (fun x16 ex16 => ?_)
      replace h := bzLetE h ex16
      refine j_istore_n hF (lv1 := [(1, .int x16), (3, .int x12), (2, .int x9), (0, .ref (ga g o))]) dX10_sum_77 (by decide) rfl ?_
      refine j_goto hF (tgt := 5) dX10_sum_78 (by decide) ?_
      refine j_sub [3, 0] rfl ?_
      exact hK5 x16 σ13 h
  have J5 : (K5 : Int32 → bzS → Option (Int32 × bzS)) → (hK5 : ∀ (v1 : Int32) (σ1 : bzS), K5 v1 σ1 = some (r0, σ0) → bzJ g 4 x σ1 5 [(0, .ref (ga g o)), (1, .int v1)] []) → ∀ (v1 : Int32) (σ1 : bzS), fb_X10_sum_5 qX10_factor qX10_product qX10_sum qX10_compared qX10_both qX10_whole K5 o v1 σ1 = some (r0, σ0) → bzJ g 4 x σ1 5 [(0, .ref (ga g o)), (1, .int v1)] [] := by
    intro K5 hK5 v1 σ1 h
    unfold fb_X10_sum_5 at h
    refine j_aload_n hF 0 dX10_sum_5 rfl ?_
    refine gf_X10_102 hF ho dX10_sum_6 ?_
    refine j_if_eq hF (tgt := 81) dX10_sum_9 (by decide) (fun c4 => ?_) (fun c4 => ?_)
    · replace h := bzIfT h c4
      refine j_iload_n hF 1 dX10_sum_81 rfl ?_
      exact j_iret hF hG dX10_sum_82 (bzRet h).1 (bzRet h).2
    · replace h := bzIfF h c4
      refine j_aload_n hF 0 dX10_sum_12 rfl ?_
      refine j_aload_n hF 0 dX10_sum_13 rfl ?_
      refine gf_X10_106 hF ho dX10_sum_14 ?_
      obtain ⟨x6, e5, h⟩ := bzBdE h
      refine cs_X10_109 hF ho (fun l => mt_X10_byteAt l e5) (by omega) (Nat.le_of_ble_eq_true rfl) dX10_sum_17 ?_
      refine j_bipush hF (v := 43) dX10_sum_20 (by decide) ?_
      refine j_icmp_eq hF (tgt := 38) dX10_sum_22 (by decide) (fun c7 => ?_) (fun c7 => ?_)
      · replace h := bzIfT h c7
        exact J38 K5 hK5 v1 σ1 h
      · replace h := bzIfF h c7
        refine j_aload_n hF 0 dX10_sum_25 rfl ?_
        refine j_aload_n hF 0 dX10_sum_26 rfl ?_
        refine gf_X10_106 hF ho dX10_sum_27 ?_
        obtain ⟨x18, e17, h⟩ := bzBdE h
        refine cs_X10_109 hF ho (fun l => mt_X10_byteAt l e17) (by omega) (Nat.le_of_ble_eq_true rfl) dX10_sum_30 ?_
        refine j_bipush hF (v := 45) dX10_sum_33 (by decide) ?_
        refine j_icmp_ne hF (tgt := 81) dX10_sum_35 (by decide) (fun c19 => ?_) (fun c19 => ?_)
        · replace h := bzIfF h c19
          refine j_iload_n hF 1 dX10_sum_81 rfl ?_
          exact j_iret hF hG dX10_sum_82 (bzRet h).1 (bzRet h).2
        · replace h := bzIfT h c19
          exact J38 K5 hK5 v1 σ1 h
  have L5 : ∀ (n : Nat) (v1 : Int32) (σ1 : bzS), fl_X10_sum_5 qX10_factor qX10_product qX10_sum qX10_compared qX10_both qX10_whole  o n v1 σ1 = some (r0, σ0) → bzJ g 4 x σ1 5 [(0, .ref (ga g o)), (1, .int v1)] [] := by
    intro  n
    induction n with
    | zero =>
      intro v1 σ1  h
      cases h
    | succ n ih =>
      intro v1 σ1  h
      exact J5  (fl_X10_sum_5 qX10_factor qX10_product qX10_sum qX10_compared qX10_both qX10_whole  o n) ih v1 σ1  h
  refine j_aload_n hF 0 dX10_sum_0 rfl ?_
  obtain ⟨x2, σ3, e1, h⟩ := bzBpE h
  refine cs_X10_142 hF ho (hqX10_product e1) (by omega) (Nat.le_of_ble_eq_true rfl) dX10_sum_1 ?_
  refine j_istore_n hF (lv1 := [(1, .int x2), (0, .ref (ga g o))]) dX10_sum_4 (by decide) rfl ?_
  refine j_sub [1, 0] rfl ?_
  exact L5 2000 x2 σ3 h
def fb_X10_compared_45 (qX10_factor : Nat → bzS → Option (Int32 × bzS)) (qX10_product : Nat → bzS → Option (Int32 × bzS)) (qX10_sum : Nat → bzS → Option (Int32 × bzS)) (qX10_compared : Nat → bzS → Option (Int32 × bzS)) (qX10_both : Nat → bzS → Option (Int32 × bzS)) (qX10_whole : Nat → bzS → Option (Int32 × bzS)) (o : Nat) (v1 : Int32) (v2 : Int32) (σ1 : bzS) : Option (Int32 × bzS) :=
  bzLet (bzSt σ1 o 9 ((σ1 o 9) + 1)) (fun σ11 => bzBp (qX10_sum o σ11) (fun x13 σ14 => if v2 = 60 then (if x13 ≤ v1 then (some (0, σ14)) else (some (1, σ14))) else (if v2 = 61 then (if v1 = x13 then (some (1, σ14)) else (some (0, σ14))) else (if v1 ≤ x13 then (some (0, σ14)) else (some (1, σ14))))))
def fm_X10_compared (qX10_factor : Nat → bzS → Option (Int32 × bzS)) (qX10_product : Nat → bzS → Option (Int32 × bzS)) (qX10_sum : Nat → bzS → Option (Int32 × bzS)) (qX10_compared : Nat → bzS → Option (Int32 × bzS)) (qX10_both : Nat → bzS → Option (Int32 × bzS)) (qX10_whole : Nat → bzS → Option (Int32 × bzS)) (o : Nat) (σ : bzS) : Option (Int32 × bzS) :=
  bzGd (kd o = 10) (bzBp (qX10_sum o σ) (fun x2 σ3 => if (σ3 o 15) = 0 then (some (x2, σ3)) else (bzBd (f_X10_byteAt o ((σ3 o 9)) σ3) (fun x9 => if x9 = 60 then (fb_X10_compared_45 qX10_factor qX10_product qX10_sum qX10_compared qX10_both qX10_whole o x2 x9 σ3) else (if x9 = 61 then (fb_X10_compared_45 qX10_factor qX10_product qX10_sum qX10_compared qX10_both qX10_whole o x2 x9 σ3) else (if x9 = 62 then (fb_X10_compared_45 qX10_factor qX10_product qX10_sum qX10_compared qX10_both qX10_whole o x2 x9 σ3) else (some (x2, σ3))))))))
set_option maxHeartbeats 4000000 in
set_option maxRecDepth 20000 in
theorem mm_X10_compared {d : Nat} (hd : 4 ≤ d) {qX10_factor : Nat → bzS → Option (Int32 × bzS)} (hqX10_factor : ∀ {g : bzGeo} {o : Nat} {σ : bzS} {r0 : Int32} {σ0 : bzS} , qX10_factor o σ = some (r0, σ0) → ∀ l : Launch, Met l yX10_factor (Cond.code yX10_factor cX10_factor 3 (some .int) :: GW) (bzR (d)) (va_Pc [.ref (ga g o)] (bzP g σ)) (va_Qi (fun (r : Int32) (u : bzS) => r = r0 ∧ u = σ0) (bzB g) (gA g)) 0 0 (gA g)) {qX10_product : Nat → bzS → Option (Int32 × bzS)} (hqX10_product : ∀ {g : bzGeo} {o : Nat} {σ : bzS} {r0 : Int32} {σ0 : bzS} , qX10_product o σ = some (r0, σ0) → ∀ l : Launch, Met l yX10_product (Cond.code yX10_product cX10_product 4 (some .int) :: GW) (bzR (d)) (va_Pc [.ref (ga g o)] (bzP g σ)) (va_Qi (fun (r : Int32) (u : bzS) => r = r0 ∧ u = σ0) (bzB g) (gA g)) 0 0 (gA g)) {qX10_sum : Nat → bzS → Option (Int32 × bzS)} (hqX10_sum : ∀ {g : bzGeo} {o : Nat} {σ : bzS} {r0 : Int32} {σ0 : bzS} , qX10_sum o σ = some (r0, σ0) → ∀ l : Launch, Met l yX10_sum (Cond.code yX10_sum cX10_sum 4 (some .int) :: GW) (bzR (d)) (va_Pc [.ref (ga g o)] (bzP g σ)) (va_Qi (fun (r : Int32) (u : bzS) => r = r0 ∧ u = σ0) (bzB g) (gA g)) 0 0 (gA g)) {qX10_compared : Nat → bzS → Option (Int32 × bzS)} (hqX10_compared : ∀ {g : bzGeo} {o : Nat} {σ : bzS} {r0 : Int32} {σ0 : bzS} , qX10_compared o σ = some (r0, σ0) → ∀ l : Launch, Met l yX10_compared (Cond.code yX10_compared cX10_compared 5 (some .int) :: GW) (bzR (d)) (va_Pc [.ref (ga g o)] (bzP g σ)) (va_Qi (fun (r : Int32) (u : bzS) => r = r0 ∧ u = σ0) (bzB g) (gA g)) 0 0 (gA g)) {qX10_both : Nat → bzS → Option (Int32 × bzS)} (hqX10_both : ∀ {g : bzGeo} {o : Nat} {σ : bzS} {r0 : Int32} {σ0 : bzS} , qX10_both o σ = some (r0, σ0) → ∀ l : Launch, Met l yX10_both (Cond.code yX10_both cX10_both 3 (some .int) :: GW) (bzR (d)) (va_Pc [.ref (ga g o)] (bzP g σ)) (va_Qi (fun (r : Int32) (u : bzS) => r = r0 ∧ u = σ0) (bzB g) (gA g)) 0 0 (gA g)) {qX10_whole : Nat → bzS → Option (Int32 × bzS)} (hqX10_whole : ∀ {g : bzGeo} {o : Nat} {σ : bzS} {r0 : Int32} {σ0 : bzS} , qX10_whole o σ = some (r0, σ0) → ∀ l : Launch, Met l yX10_whole (Cond.code yX10_whole cX10_whole 3 (some .int) :: GW) (bzR (d)) (va_Pc [.ref (ga g o)] (bzP g σ)) (va_Qi (fun (r : Int32) (u : bzS) => r = r0 ∧ u = σ0) (bzB g) (gA g)) 0 0 (gA g)) {g : bzGeo} {o : Nat} {σ : bzS} {r0 : Int32} {σ0 : bzS} (l : Launch) (h : fm_X10_compared qX10_factor qX10_product qX10_sum qX10_compared qX10_both qX10_whole o σ = some (r0, σ0)) : Met l yX10_compared (Cond.code yX10_compared cX10_compared 5 (some .int) :: GW) (bzR (d + 1)) (va_Pc [.ref (ga g o)] (bzP g σ)) (va_Qi (fun (r : Int32) (u : bzS) => r = r0 ∧ u = σ0) (bzB g) (gA g)) 0 0 (gA g) := by
  unfold fm_X10_compared at h
  obtain ⟨ho, h⟩ := bzGdE h
  refine j_start l (by decide +kernel) [.ref (ga g o)] [(0, .ref (ga g o))] (Nat.le_of_ble_eq_true rfl) rfl (fun x hF hG => ?_)
  have J45 : ∀ (v1 : Int32) (v2 : Int32) (σ1 : bzS), fb_X10_compared_45 qX10_factor qX10_product qX10_sum qX10_compared qX10_both qX10_whole o v1 v2 σ1 = some (r0, σ0) → bzJ g 5 x σ1 45 [(0, .ref (ga g o)), (1, .int v1), (2, .int v2)] [] := by
    intro v1 v2 σ1 h
    unfold fb_X10_compared_45 at h
    refine j_aload_n hF 0 dX10_compared_45 rfl ?_
    refine j_dup hF dX10_compared_46 rfl ?_
    refine gf_X10_106 hF ho dX10_compared_47 ?_
    refine j_iconst hF (v := 1) dX10_compared_50 (by decide) ?_
    refine j_iadd hF dX10_compared_51 ?_
    refine pf_X10_106 hF ho dX10_compared_52 ?_
    refine j_s (fun σ11 eσ11 => ?_)
    replace h := bzLetE h eσ11
    refine j_aload_n hF 0 dX10_compared_55 rfl ?_
    obtain ⟨x13, σ14, e12, h⟩ := bzBpE h
    refine cs_X10_145 hF ho (hqX10_sum e12) (by omega) (Nat.le_of_ble_eq_true rfl) dX10_compared_56 ?_
    refine j_istore_n hF (lv1 := [(3, .int x13), (0, .ref (ga g o)), (1, .int v1), (2, .int v2)]) dX10_compared_59 (by decide) rfl ?_
    refine j_iload_n hF 3 dX10_compared_60 rfl ?_
    refine j_bipush hF (v := 60) dX10_compared_61 (by decide) ?_
    refine j_icmp_ne hF (tgt := 79) dX10_compared_63 (by decide) (fun c15 => ?_) (fun c15 => ?_)
    · replace h := bzIfF h c15
      refine j_iload_n hF 3 dX10_compared_79 rfl ?_
      refine j_bipush hF (v := 61) dX10_compared_80 (by decide) ?_
      refine j_icmp_ne hF (tgt := 98) dX10_compared_82 (by decide) (fun c16 => ?_) (fun c16 => ?_)
      · replace h := bzIfF h c16
        refine j_iload_n hF 2 dX10_compared_98 rfl ?_
        refine j_iload_n hF 0 dX10_compared_99 rfl ?_
        refine j_icmp_le hF (tgt := 107) dX10_compared_100 (by decide) (fun c17 => ?_) (fun c17 => ?_)
        · replace h := bzIfT h c17
          refine j_iconst hF (v := 0) dX10_compared_107 (by decide) ?_
          refine j_istore hF (lv1 := [(4, .int 0), (3, .int x13), (0, .ref (ga g o)), (1, .int v1), (2, .int v2)]) dX10_compared_108 (by decide) rfl ?_
          refine j_iload hF 0 dX10_compared_110 rfl ?_
          refine j_if_eq hF (tgt := 119) dX10_compared_112 (by decide) (fun c18 => ?_) (fun c18 => absurd c18 (by decide))
          refine j_iconst hF (v := 0) dX10_compared_119 (by decide) ?_
          exact j_iret hF hG dX10_compared_120 (bzRet h).1 (bzRet h).2
        · replace h := bzIfF h c17
          refine j_iconst hF (v := 1) dX10_compared_103 (by decide) ?_
          refine j_goto hF (tgt := 108) dX10_compared_104 (by decide) ?_
          refine j_istore hF (lv1 := [(4, .int 1), (3, .int x13), (0, .ref (ga g o)), (1, .int v1), (2, .int v2)]) dX10_compared_108 (by decide) rfl ?_
          refine j_iload hF 0 dX10_compared_110 rfl ?_
          refine j_if_eq hF (tgt := 119) dX10_compared_112 (by decide) (fun c19 => absurd c19 (by decide)) (fun c19 => ?_)
          refine j_iconst hF (v := 1) dX10_compared_115 (by decide) ?_
          refine j_goto hF (tgt := 120) dX10_compared_116 (by decide) ?_
          exact j_iret hF hG dX10_compared_120 (bzRet h).1 (bzRet h).2
      · replace h := bzIfT h c16
        refine j_iload_n hF 2 dX10_compared_85 rfl ?_
        refine j_iload_n hF 0 dX10_compared_86 rfl ?_
        refine j_icmp_ne hF (tgt := 94) dX10_compared_87 (by decide) (fun c20 => ?_) (fun c20 => ?_)
        · replace h := bzIfF h c20
          refine j_iconst hF (v := 0) dX10_compared_94 (by decide) ?_
          refine j_goto hF (tgt := 108) dX10_compared_95 (by decide) ?_
          refine j_istore hF (lv1 := [(4, .int 0), (3, .int x13), (0, .ref (ga g o)), (1, .int v1), (2, .int v2)]) dX10_compared_108 (by decide) rfl ?_
          refine j_iload hF 0 dX10_compared_110 rfl ?_
          refine j_if_eq hF (tgt := 119) dX10_compared_112 (by decide) (fun c21 => ?_) (fun c21 => absurd c21 (by decide))
          refine j_iconst hF (v := 0) dX10_compared_119 (by decide) ?_
          exact j_iret hF hG dX10_compared_120 (bzRet h).1 (bzRet h).2
        · replace h := bzIfT h c20
          refine j_iconst hF (v := 1) dX10_compared_90 (by decide) ?_
          refine j_goto hF (tgt := 108) dX10_compared_91 (by decide) ?_
          refine j_istore hF (lv1 := [(4, .int 1), (3, .int x13), (0, .ref (ga g o)), (1, .int v1), (2, .int v2)]) dX10_compared_108 (by decide) rfl ?_
          refine j_iload hF 0 dX10_compared_110 rfl ?_
          refine j_if_eq hF (tgt := 119) dX10_compared_112 (by decide) (fun c22 => absurd c22 (by decide)) (fun c22 => ?_)
          refine j_iconst hF (v := 1) dX10_compared_115 (by decide) ?_
          refine j_goto hF (tgt := 120) dX10_compared_116 (by decide) ?_
          exact j_iret hF hG dX10_compared_120 (bzRet h).1 (bzRet h).2
    · replace h := bzIfT h c15
      refine j_iload_n hF 2 dX10_compared_66 rfl ?_
      refine j_iload_n hF 0 dX10_compared_67 rfl ?_
      refine j_icmp_ge hF (tgt := 75) dX10_compared_68 (by decide) (fun c23 => ?_) (fun c23 => ?_)
      · replace h := bzIfT h c23
        refine j_iconst hF (v := 0) dX10_compared_75 (by decide) ?_
        refine j_goto hF (tgt := 108) dX10_compared_76 (by decide) ?_
        refine j_istore hF (lv1 := [(4, .int 0), (3, .int x13), (0, .ref (ga g o)), (1, .int v1), (2, .int v2)]) dX10_compared_108 (by decide) rfl ?_
        refine j_iload hF 0 dX10_compared_110 rfl ?_
        refine j_if_eq hF (tgt := 119) dX10_compared_112 (by decide) (fun c24 => ?_) (fun c24 => absurd c24 (by decide))
        refine j_iconst hF (v := 0) dX10_compared_119 (by decide) ?_
        exact j_iret hF hG dX10_compared_120 (bzRet h).1 (bzRet h).2
      · replace h := bzIfF h c23
        refine j_iconst hF (v := 1) dX10_compared_71 (by decide) ?_
        refine j_goto hF (tgt := 108) dX10_compared_72 (by decide) ?_
        refine j_istore hF (lv1 := [(4, .int 1), (3, .int x13), (0, .ref (ga g o)), (1, .int v1), (2, .int v2)]) dX10_compared_108 (by decide) rfl ?_
        refine j_iload hF 0 dX10_compared_110 rfl ?_
        refine j_if_eq hF (tgt := 119) dX10_compared_112 (by decide) (fun c25 => absurd c25 (by decide)) (fun c25 => ?_)
        refine j_iconst hF (v := 1) dX10_compared_115 (by decide) ?_
        refine j_goto hF (tgt := 120) dX10_compared_116 (by decide) ?_
        exact j_iret hF hG dX10_compared_120 (bzRet h).1 (bzRet h).2
  refine j_aload_n hF 0 dX10_compared_0 rfl ?_
  obtain ⟨x2, σ3, e1, h⟩ := bzBpE h
  refine cs_X10_145 hF ho (hqX10_sum e1) (by omega) (Nat.le_of_ble_eq_true rfl) dX10_compared_1 ?_
  refine j_istore_n hF (lv1 := [(1, .int x2), (0, .ref (ga g o))]) dX10_compared_4 (by decide) rfl ?_
  refine j_aload_n hF 1 dX10_compared_5 rfl ?_
  refine gf_X10_102 hF ho dX10_compared_6 ?_
  refine j_if_eq hF (tgt := 23) dX10_compared_9 (by decide) (fun c4 => ?_) (fun c4 => ?_)
  · replace h := bzIfT h c4
    refine j_iconst hF (v := (-1)) dX10_compared_23 (by decide) ?_
    refine j_istore_n hF (lv1 := [(2, .int (-1)), (1, .int x2), (0, .ref (ga g o))]) dX10_compared_24 (by decide) rfl ?_
    refine j_iload_n hF 0 dX10_compared_25 rfl ?_
    refine j_bipush hF (v := 60) dX10_compared_26 (by decide) ?_
    refine j_icmp_eq hF (tgt := 45) dX10_compared_28 (by decide) (fun c5 => absurd c5 (by decide)) (fun c5 => ?_)
    refine j_iload_n hF 0 dX10_compared_31 rfl ?_
    refine j_bipush hF (v := 61) dX10_compared_32 (by decide) ?_
    refine j_icmp_eq hF (tgt := 45) dX10_compared_34 (by decide) (fun c6 => absurd c6 (by decide)) (fun c6 => ?_)
    refine j_iload_n hF 0 dX10_compared_37 rfl ?_
    refine j_bipush hF (v := 62) dX10_compared_38 (by decide) ?_
    refine j_icmp_eq hF (tgt := 45) dX10_compared_40 (by decide) (fun c7 => absurd c7 (by decide)) (fun c7 => ?_)
    refine j_iload_n hF 1 dX10_compared_43 rfl ?_
    exact j_iret hF hG dX10_compared_44  (bzRet h).1 (bzRet h).2
  · replace h := bzIfF h c4
    refine j_aload_n hF 1 dX10_compared_12 rfl ?_
    refine j_aload_n hF 1 dX10_compared_13 rfl ?_
    refine gf_X10_106 hF ho dX10_compared_14 ?_
    obtain ⟨x9, e8, h⟩ := bzBdE h
    refine cs_X10_109 hF ho (fun l => mt_X10_byteAt l e8) (by omega) (Nat.le_of_ble_eq_true rfl) dX10_compared_17 ?_
    refine j_goto hF (tgt := 24) dX10_compared_20 (by decide) ?_
    refine j_istore_n hF (lv1 := [(2, .int x9), (1, .int x2), (0, .ref (ga g o))]) dX10_compared_24 (by decide) rfl ?_
    refine j_iload_n hF 0 dX10_compared_25 rfl ?_
    refine j_bipush hF (v := 60) dX10_compared_26 (by decide) ?_
    refine j_icmp_eq hF (tgt := 45) dX10_compared_28 (by decide) (fun c10 => ?_) (fun c10 => ?_)
    · replace h := bzIfT h c10
      refine j_sub [2, 1, 0] rfl ?_
      exact J45 x2 x9 σ3 h
    · replace h := bzIfF h c10
      refine j_iload_n hF 0 dX10_compared_31 rfl ?_
      refine j_bipush hF (v := 61) dX10_compared_32 (by decide) ?_
      refine j_icmp_eq hF (tgt := 45) dX10_compared_34 (by decide) (fun c26 => ?_) (fun c26 => ?_)
      · replace h := bzIfT h c26
        refine j_sub [2, 1, 0] rfl ?_
        exact J45 x2 x9 σ3 h
      · replace h := bzIfF h c26
        refine j_iload_n hF 0 dX10_compared_37 rfl ?_
        refine j_bipush hF (v := 62) dX10_compared_38 (by decide) ?_
        refine j_icmp_eq hF (tgt := 45) dX10_compared_40 (by decide) (fun c27 => ?_) (fun c27 => ?_)
        · replace h := bzIfT h c27
          refine j_sub [2, 1, 0] rfl ?_
          exact J45 x2 x9 σ3 h
        · replace h := bzIfF h c27
          refine j_iload_n hF 1 dX10_compared_43 rfl ?_
          exact j_iret hF hG dX10_compared_44  (bzRet h).1 (bzRet h).2
def fb_X10_both_5 (qX10_factor : Nat → bzS → Option (Int32 × bzS)) (qX10_product : Nat → bzS → Option (Int32 × bzS)) (qX10_sum : Nat → bzS → Option (Int32 × bzS)) (qX10_compared : Nat → bzS → Option (Int32 × bzS)) (qX10_both : Nat → bzS → Option (Int32 × bzS)) (qX10_whole : Nat → bzS → Option (Int32 × bzS)) (K5 : Int32 → bzS → Option (Int32 × bzS)) (o : Nat) (v1 : Int32) (σ1 : bzS) : Option (Int32 × bzS) :=
  if (σ1 o 15) = 0 then (some (v1, σ1)) else (bzBd (f_X10_byteAt o ((σ1 o 9)) σ1) (fun x6 => if x6 = 38 then (bzLet (bzSt σ1 o 9 ((σ1 o 9) + 1)) (fun σ8 => bzBp (qX10_compared o σ8) (fun x10 σ11 => if v1 = 0 then (K5 0 σ11) else (if x10 = 0 then (K5 0 σ11) else (K5 1 σ11))))) else (some (v1, σ1))))
def fl_X10_both_5 (qX10_factor : Nat → bzS → Option (Int32 × bzS)) (qX10_product : Nat → bzS → Option (Int32 × bzS)) (qX10_sum : Nat → bzS → Option (Int32 × bzS)) (qX10_compared : Nat → bzS → Option (Int32 × bzS)) (qX10_both : Nat → bzS → Option (Int32 × bzS)) (qX10_whole : Nat → bzS → Option (Int32 × bzS)) (o : Nat) : Nat → Int32 → bzS → Option (Int32 × bzS)
  | 0, _, _ => none
  | n + 1, v1, σ1 => fb_X10_both_5 qX10_factor qX10_product qX10_sum qX10_compared qX10_both qX10_whole  (fl_X10_both_5 qX10_factor qX10_product qX10_sum qX10_compared qX10_both qX10_whole  o n) o v1 σ1
def fm_X10_both (qX10_factor : Nat → bzS → Option (Int32 × bzS)) (qX10_product : Nat → bzS → Option (Int32 × bzS)) (qX10_sum : Nat → bzS → Option (Int32 × bzS)) (qX10_compared : Nat → bzS → Option (Int32 × bzS)) (qX10_both : Nat → bzS → Option (Int32 × bzS)) (qX10_whole : Nat → bzS → Option (Int32 × bzS)) (o : Nat) (σ : bzS) : Option (Int32 × bzS) :=
  bzGd (kd o = 10) (bzBp (qX10_compared o σ) (fun x2 σ3 => fl_X10_both_5 qX10_factor qX10_product qX10_sum qX10_compared qX10_both qX10_whole o 2000 x2 σ3))
set_option maxHeartbeats 4000000 in
set_option maxRecDepth 20000 in
theorem mm_X10_both {d : Nat} (hd : 4 ≤ d) {qX10_factor : Nat → bzS → Option (Int32 × bzS)} (hqX10_factor : ∀ {g : bzGeo} {o : Nat} {σ : bzS} {r0 : Int32} {σ0 : bzS} , qX10_factor o σ = some (r0, σ0) → ∀ l : Launch, Met l yX10_factor (Cond.code yX10_factor cX10_factor 3 (some .int) :: GW) (bzR (d)) (va_Pc [.ref (ga g o)] (bzP g σ)) (va_Qi (fun (r : Int32) (u : bzS) => r = r0 ∧ u = σ0) (bzB g) (gA g)) 0 0 (gA g)) {qX10_product : Nat → bzS → Option (Int32 × bzS)} (hqX10_product : ∀ {g : bzGeo} {o : Nat} {σ : bzS} {r0 : Int32} {σ0 : bzS} , qX10_product o σ = some (r0, σ0) → ∀ l : Launch, Met l yX10_product (Cond.code yX10_product cX10_product 4 (some .int) :: GW) (bzR (d)) (va_Pc [.ref (ga g o)] (bzP g σ)) (va_Qi (fun (r : Int32) (u : bzS) => r = r0 ∧ u = σ0) (bzB g) (gA g)) 0 0 (gA g)) {qX10_sum : Nat → bzS → Option (Int32 × bzS)} (hqX10_sum : ∀ {g : bzGeo} {o : Nat} {σ : bzS} {r0 : Int32} {σ0 : bzS} , qX10_sum o σ = some (r0, σ0) → ∀ l : Launch, Met l yX10_sum (Cond.code yX10_sum cX10_sum 4 (some .int) :: GW) (bzR (d)) (va_Pc [.ref (ga g o)] (bzP g σ)) (va_Qi (fun (r : Int32) (u : bzS) => r = r0 ∧ u = σ0) (bzB g) (gA g)) 0 0 (gA g)) {qX10_compared : Nat → bzS → Option (Int32 × bzS)} (hqX10_compared : ∀ {g : bzGeo} {o : Nat} {σ : bzS} {r0 : Int32} {σ0 : bzS} , qX10_compared o σ = some (r0, σ0) → ∀ l : Launch, Met l yX10_compared (Cond.code yX10_compared cX10_compared 5 (some .int) :: GW) (bzR (d)) (va_Pc [.ref (ga g o)] (bzP g σ)) (va_Qi (fun (r : Int32) (u : bzS) => r = r0 ∧ u = σ0) (bzB g) (gA g)) 0 0 (gA g)) {qX10_both : Nat → bzS → Option (Int32 × bzS)} (hqX10_both : ∀ {g : bzGeo} {o : Nat} {σ : bzS} {r0 : Int32} {σ0 : bzS} , qX10_both o σ = some (r0, σ0) → ∀ l : Launch, Met l yX10_both (Cond.code yX10_both cX10_both 3 (some .int) :: GW) (bzR (d)) (va_Pc [.ref (ga g o)] (bzP g σ)) (va_Qi (fun (r : Int32) (u : bzS) => r = r0 ∧ u = σ0) (bzB g) (gA g)) 0 0 (gA g)) {qX10_whole : Nat → bzS → Option (Int32 × bzS)} (hqX10_whole : ∀ {g : bzGeo} {o : Nat} {σ : bzS} {r0 : Int32} {σ0 : bzS} , qX10_whole o σ = some (r0, σ0) → ∀ l : Launch, Met l yX10_whole (Cond.code yX10_whole cX10_whole 3 (some .int) :: GW) (bzR (d)) (va_Pc [.ref (ga g o)] (bzP g σ)) (va_Qi (fun (r : Int32) (u : bzS) => r = r0 ∧ u = σ0) (bzB g) (gA g)) 0 0 (gA g)) {g : bzGeo} {o : Nat} {σ : bzS} {r0 : Int32} {σ0 : bzS} (l : Launch) (h : fm_X10_both qX10_factor qX10_product qX10_sum qX10_compared qX10_both qX10_whole o σ = some (r0, σ0)) : Met l yX10_both (Cond.code yX10_both cX10_both 3 (some .int) :: GW) (bzR (d + 1)) (va_Pc [.ref (ga g o)] (bzP g σ)) (va_Qi (fun (r : Int32) (u : bzS) => r = r0 ∧ u = σ0) (bzB g) (gA g)) 0 0 (gA g) := by
  unfold fm_X10_both at h
  obtain ⟨ho, h⟩ := bzGdE h
  refine j_start l (by decide +kernel) [.ref (ga g o)] [(0, .ref (ga g o))] (Nat.le_of_ble_eq_true rfl) rfl (fun x hF hG => ?_)
  have J5 : (K5 : Int32 → bzS → Option (Int32 × bzS)) → (hK5 : ∀ (v1 : Int32) (σ1 : bzS), K5 v1 σ1 = some (r0, σ0) → bzJ g 3 x σ1 5 [(0, .ref (ga g o)), (1, .int v1)] []) → ∀ (v1 : Int32) (σ1 : bzS), fb_X10_both_5 qX10_factor qX10_product qX10_sum qX10_compared qX10_both qX10_whole K5 o v1 σ1 = some (r0, σ0) → bzJ g 3 x σ1 5 [(0, .ref (ga g o)), (1, .int v1)] [] := by
    intro K5 hK5 v1 σ1 h
    unfold fb_X10_both_5 at h
    refine j_aload_n hF 0 dX10_both_5 rfl ?_
    refine gf_X10_102 hF ho dX10_both_6 ?_
    refine j_if_eq hF (tgt := 57) dX10_both_9 (by decide) (fun c4 => ?_) (fun c4 => ?_)
    · replace h := bzIfT h c4
      refine j_iload_n hF 1 dX10_both_57 rfl ?_
      exact j_iret hF hG dX10_both_58 (bzRet h).1 (bzRet h).2
    · replace h := bzIfF h c4
      refine j_aload_n hF 0 dX10_both_12 rfl ?_
      refine j_aload_n hF 0 dX10_both_13 rfl ?_
      refine gf_X10_106 hF ho dX10_both_14 ?_
      obtain ⟨x6, e5, h⟩ := bzBdE h
      refine cs_X10_109 hF ho (fun l => mt_X10_byteAt l e5) (by omega) (Nat.le_of_ble_eq_true rfl) dX10_both_17 ?_
      refine j_bipush hF (v := 38) dX10_both_20 (by decide) ?_
      refine j_icmp_ne hF (tgt := 57) dX10_both_22 (by decide) (fun c7 => ?_) (fun c7 => ?_)
      · replace h := bzIfF h c7
        refine j_iload_n hF 1 dX10_both_57 rfl ?_
        exact j_iret hF hG dX10_both_58 (bzRet h).1 (bzRet h).2
      · replace h := bzIfT h c7
        refine j_aload_n hF 0 dX10_both_25 rfl ?_
        refine j_dup hF dX10_both_26 rfl ?_
        refine gf_X10_106 hF ho dX10_both_27 ?_
        refine j_iconst hF (v := 1) dX10_both_30 (by decide) ?_
        refine j_iadd hF dX10_both_31 ?_
        refine pf_X10_106 hF ho dX10_both_32 ?_
        refine j_s (fun σ8 eσ8 => ?_)
        replace h := bzLetE h eσ8
        refine j_aload_n hF 0 dX10_both_35 rfl ?_
        obtain ⟨x10, σ11, e9, h⟩ := bzBpE h
        refine cs_X10_148 hF ho (hqX10_compared e9) (by omega) (Nat.le_of_ble_eq_true rfl) dX10_both_36 ?_
        refine j_istore_n hF (lv1 := [(2, .int x10), (0, .ref (ga g o)), (1, .int v1)]) dX10_both_39 (by decide) rfl ?_
        refine j_iload_n hF 2 dX10_both_40 rfl ?_
        refine j_if_eq hF (tgt := 52) dX10_both_41 (by decide) (fun c12 => ?_) (fun c12 => ?_)
        · replace h := bzIfT h c12
          refine j_iconst hF (v := 0) dX10_both_52 (by decide) ?_
          refine j_istore_n hF (lv1 := [(1, .int 0), (2, .int x10), (0, .ref (ga g o))]) dX10_both_53 (by decide) rfl ?_
          refine j_goto hF (tgt := 5) dX10_both_54 (by decide) ?_
          refine j_sub [2, 0] rfl ?_
          exact hK5 0 σ11 h
        · replace h := bzIfF h c12
          refine j_iload_n hF 0 dX10_both_44 rfl ?_
          refine j_if_eq hF (tgt := 52) dX10_both_45 (by decide) (fun c13 => ?_) (fun c13 => ?_)
          · replace h := bzIfT h c13
            refine j_iconst hF (v := 0) dX10_both_52 (by decide) ?_
            refine j_istore_n hF (lv1 := [(1, .int 0), (2, .int x10), (0, .ref (ga g o))]) dX10_both_53 (by decide) rfl ?_
            refine j_goto hF (tgt := 5) dX10_both_54 (by decide) ?_
            refine j_sub [2, 0] rfl ?_
            exact hK5 0 σ11 h
          · replace h := bzIfF h c13
            refine j_iconst hF (v := 1) dX10_both_48 (by decide) ?_
            refine j_goto hF (tgt := 53) dX10_both_49 (by decide) ?_
            refine j_istore_n hF (lv1 := [(1, .int 1), (2, .int x10), (0, .ref (ga g o))]) dX10_both_53 (by decide) rfl ?_
            refine j_goto hF (tgt := 5) dX10_both_54 (by decide) ?_
            refine j_sub [2, 0] rfl ?_
            exact hK5 1 σ11 h
  have L5 : ∀ (n : Nat) (v1 : Int32) (σ1 : bzS), fl_X10_both_5 qX10_factor qX10_product qX10_sum qX10_compared qX10_both qX10_whole  o n v1 σ1 = some (r0, σ0) → bzJ g 3 x σ1 5 [(0, .ref (ga g o)), (1, .int v1)] [] := by
    intro  n
    induction n with
    | zero =>
      intro v1 σ1  h
      cases h
    | succ n ih =>
      intro v1 σ1  h
      exact J5  (fl_X10_both_5 qX10_factor qX10_product qX10_sum qX10_compared qX10_both qX10_whole  o n) ih v1 σ1  h
  refine j_aload_n hF 0 dX10_both_0 rfl ?_
  obtain ⟨x2, σ3, e1, h⟩ := bzBpE h
  refine cs_X10_148 hF ho (hqX10_compared e1) (by omega) (Nat.le_of_ble_eq_true rfl) dX10_both_1 ?_
  refine j_istore_n hF (lv1 := [(1, .int x2), (0, .ref (ga g o))]) dX10_both_4 (by decide) rfl ?_
  refine j_sub [1, 0] rfl ?_
  exact L5 2000 x2 σ3 h
def fb_X10_whole_5 (qX10_factor : Nat → bzS → Option (Int32 × bzS)) (qX10_product : Nat → bzS → Option (Int32 × bzS)) (qX10_sum : Nat → bzS → Option (Int32 × bzS)) (qX10_compared : Nat → bzS → Option (Int32 × bzS)) (qX10_both : Nat → bzS → Option (Int32 × bzS)) (qX10_whole : Nat → bzS → Option (Int32 × bzS)) (K5 : Int32 → bzS → Option (Int32 × bzS)) (o : Nat) (v1 : Int32) (σ1 : bzS) : Option (Int32 × bzS) :=
  if (σ1 o 15) = 0 then (some (v1, σ1)) else (bzBd (f_X10_byteAt o ((σ1 o 9)) σ1) (fun x6 => if x6 = 124 then (bzLet (bzSt σ1 o 9 ((σ1 o 9) + 1)) (fun σ8 => bzBp (qX10_both o σ8) (fun x10 σ11 => if v1 = 0 then (if x10 = 0 then (K5 0 σ11) else (K5 1 σ11)) else (K5 1 σ11)))) else (some (v1, σ1))))
def fl_X10_whole_5 (qX10_factor : Nat → bzS → Option (Int32 × bzS)) (qX10_product : Nat → bzS → Option (Int32 × bzS)) (qX10_sum : Nat → bzS → Option (Int32 × bzS)) (qX10_compared : Nat → bzS → Option (Int32 × bzS)) (qX10_both : Nat → bzS → Option (Int32 × bzS)) (qX10_whole : Nat → bzS → Option (Int32 × bzS)) (o : Nat) : Nat → Int32 → bzS → Option (Int32 × bzS)
  | 0, _, _ => none
  | n + 1, v1, σ1 => fb_X10_whole_5 qX10_factor qX10_product qX10_sum qX10_compared qX10_both qX10_whole  (fl_X10_whole_5 qX10_factor qX10_product qX10_sum qX10_compared qX10_both qX10_whole  o n) o v1 σ1
def fm_X10_whole (qX10_factor : Nat → bzS → Option (Int32 × bzS)) (qX10_product : Nat → bzS → Option (Int32 × bzS)) (qX10_sum : Nat → bzS → Option (Int32 × bzS)) (qX10_compared : Nat → bzS → Option (Int32 × bzS)) (qX10_both : Nat → bzS → Option (Int32 × bzS)) (qX10_whole : Nat → bzS → Option (Int32 × bzS)) (o : Nat) (σ : bzS) : Option (Int32 × bzS) :=
  bzGd (kd o = 10) (bzBp (qX10_both o σ) (fun x2 σ3 => fl_X10_whole_5 qX10_factor qX10_product qX10_sum qX10_compared qX10_both qX10_whole o 2000 x2 σ3))
set_option maxHeartbeats 4000000 in
set_option maxRecDepth 20000 in
theorem mm_X10_whole {d : Nat} (hd : 4 ≤ d) {qX10_factor : Nat → bzS → Option (Int32 × bzS)} (hqX10_factor : ∀ {g : bzGeo} {o : Nat} {σ : bzS} {r0 : Int32} {σ0 : bzS} , qX10_factor o σ = some (r0, σ0) → ∀ l : Launch, Met l yX10_factor (Cond.code yX10_factor cX10_factor 3 (some .int) :: GW) (bzR (d)) (va_Pc [.ref (ga g o)] (bzP g σ)) (va_Qi (fun (r : Int32) (u : bzS) => r = r0 ∧ u = σ0) (bzB g) (gA g)) 0 0 (gA g)) {qX10_product : Nat → bzS → Option (Int32 × bzS)} (hqX10_product : ∀ {g : bzGeo} {o : Nat} {σ : bzS} {r0 : Int32} {σ0 : bzS} , qX10_product o σ = some (r0, σ0) → ∀ l : Launch, Met l yX10_product (Cond.code yX10_product cX10_product 4 (some .int) :: GW) (bzR (d)) (va_Pc [.ref (ga g o)] (bzP g σ)) (va_Qi (fun (r : Int32) (u : bzS) => r = r0 ∧ u = σ0) (bzB g) (gA g)) 0 0 (gA g)) {qX10_sum : Nat → bzS → Option (Int32 × bzS)} (hqX10_sum : ∀ {g : bzGeo} {o : Nat} {σ : bzS} {r0 : Int32} {σ0 : bzS} , qX10_sum o σ = some (r0, σ0) → ∀ l : Launch, Met l yX10_sum (Cond.code yX10_sum cX10_sum 4 (some .int) :: GW) (bzR (d)) (va_Pc [.ref (ga g o)] (bzP g σ)) (va_Qi (fun (r : Int32) (u : bzS) => r = r0 ∧ u = σ0) (bzB g) (gA g)) 0 0 (gA g)) {qX10_compared : Nat → bzS → Option (Int32 × bzS)} (hqX10_compared : ∀ {g : bzGeo} {o : Nat} {σ : bzS} {r0 : Int32} {σ0 : bzS} , qX10_compared o σ = some (r0, σ0) → ∀ l : Launch, Met l yX10_compared (Cond.code yX10_compared cX10_compared 5 (some .int) :: GW) (bzR (d)) (va_Pc [.ref (ga g o)] (bzP g σ)) (va_Qi (fun (r : Int32) (u : bzS) => r = r0 ∧ u = σ0) (bzB g) (gA g)) 0 0 (gA g)) {qX10_both : Nat → bzS → Option (Int32 × bzS)} (hqX10_both : ∀ {g : bzGeo} {o : Nat} {σ : bzS} {r0 : Int32} {σ0 : bzS} , qX10_both o σ = some (r0, σ0) → ∀ l : Launch, Met l yX10_both (Cond.code yX10_both cX10_both 3 (some .int) :: GW) (bzR (d)) (va_Pc [.ref (ga g o)] (bzP g σ)) (va_Qi (fun (r : Int32) (u : bzS) => r = r0 ∧ u = σ0) (bzB g) (gA g)) 0 0 (gA g)) {qX10_whole : Nat → bzS → Option (Int32 × bzS)} (hqX10_whole : ∀ {g : bzGeo} {o : Nat} {σ : bzS} {r0 : Int32} {σ0 : bzS} , qX10_whole o σ = some (r0, σ0) → ∀ l : Launch, Met l yX10_whole (Cond.code yX10_whole cX10_whole 3 (some .int) :: GW) (bzR (d)) (va_Pc [.ref (ga g o)] (bzP g σ)) (va_Qi (fun (r : Int32) (u : bzS) => r = r0 ∧ u = σ0) (bzB g) (gA g)) 0 0 (gA g)) {g : bzGeo} {o : Nat} {σ : bzS} {r0 : Int32} {σ0 : bzS} (l : Launch) (h : fm_X10_whole qX10_factor qX10_product qX10_sum qX10_compared qX10_both qX10_whole o σ = some (r0, σ0)) : Met l yX10_whole (Cond.code yX10_whole cX10_whole 3 (some .int) :: GW) (bzR (d + 1)) (va_Pc [.ref (ga g o)] (bzP g σ)) (va_Qi (fun (r : Int32) (u : bzS) => r = r0 ∧ u = σ0) (bzB g) (gA g)) 0 0 (gA g) := by
  unfold fm_X10_whole at h
  obtain ⟨ho, h⟩ := bzGdE h
  refine j_start l (by decide +kernel) [.ref (ga g o)] [(0, .ref (ga g o))] (Nat.le_of_ble_eq_true rfl) rfl (fun x hF hG => ?_)
  have J5 : (K5 : Int32 → bzS → Option (Int32 × bzS)) → (hK5 : ∀ (v1 : Int32) (σ1 : bzS), K5 v1 σ1 = some (r0, σ0) → bzJ g 3 x σ1 5 [(0, .ref (ga g o)), (1, .int v1)] []) → ∀ (v1 : Int32) (σ1 : bzS), fb_X10_whole_5 qX10_factor qX10_product qX10_sum qX10_compared qX10_both qX10_whole K5 o v1 σ1 = some (r0, σ0) → bzJ g 3 x σ1 5 [(0, .ref (ga g o)), (1, .int v1)] [] := by
    intro K5 hK5 v1 σ1 h
    unfold fb_X10_whole_5 at h
    refine j_aload_n hF 0 dX10_whole_5 rfl ?_
    refine gf_X10_102 hF ho dX10_whole_6 ?_
    refine j_if_eq hF (tgt := 57) dX10_whole_9 (by decide) (fun c4 => ?_) (fun c4 => ?_)
    · replace h := bzIfT h c4
      refine j_iload_n hF 1 dX10_whole_57 rfl ?_
      exact j_iret hF hG dX10_whole_58 (bzRet h).1 (bzRet h).2
    · replace h := bzIfF h c4
      refine j_aload_n hF 0 dX10_whole_12 rfl ?_
      refine j_aload_n hF 0 dX10_whole_13 rfl ?_
      refine gf_X10_106 hF ho dX10_whole_14 ?_
      obtain ⟨x6, e5, h⟩ := bzBdE h
      refine cs_X10_109 hF ho (fun l => mt_X10_byteAt l e5) (by omega) (Nat.le_of_ble_eq_true rfl) dX10_whole_17 ?_
      refine j_bipush hF (v := 124) dX10_whole_20 (by decide) ?_
      refine j_icmp_ne hF (tgt := 57) dX10_whole_22 (by decide) (fun c7 => ?_) (fun c7 => ?_)
      · replace h := bzIfF h c7
        refine j_iload_n hF 1 dX10_whole_57 rfl ?_
        exact j_iret hF hG dX10_whole_58 (bzRet h).1 (bzRet h).2
      · replace h := bzIfT h c7
        refine j_aload_n hF 0 dX10_whole_25 rfl ?_
        refine j_dup hF dX10_whole_26 rfl ?_
        refine gf_X10_106 hF ho dX10_whole_27 ?_
        refine j_iconst hF (v := 1) dX10_whole_30 (by decide) ?_
        refine j_iadd hF dX10_whole_31 ?_
        refine pf_X10_106 hF ho dX10_whole_32 ?_
        refine j_s (fun σ8 eσ8 => ?_)
        replace h := bzLetE h eσ8
        refine j_aload_n hF 0 dX10_whole_35 rfl ?_
        obtain ⟨x10, σ11, e9, h⟩ := bzBpE h
        refine cs_X10_151 hF ho (hqX10_both e9) (by omega) (Nat.le_of_ble_eq_true rfl) dX10_whole_36 ?_
        refine j_istore_n hF (lv1 := [(2, .int x10), (0, .ref (ga g o)), (1, .int v1)]) dX10_whole_39 (by decide) rfl ?_
        refine j_iload_n hF 2 dX10_whole_40 rfl ?_
        refine j_if_ne hF (tgt := 48) dX10_whole_41 (by decide) (fun c12 => ?_) (fun c12 => ?_)
        · replace h := bzIfF h c12
          refine j_iconst hF (v := 1) dX10_whole_48 (by decide) ?_
          refine j_goto hF (tgt := 53) dX10_whole_49 (by decide) ?_
          refine j_istore_n hF (lv1 := [(1, .int 1), (2, .int x10), (0, .ref (ga g o))]) dX10_whole_53 (by decide) rfl ?_
          refine j_goto hF (tgt := 5) dX10_whole_54 (by decide) ?_
          refine j_sub [2, 0] rfl ?_
          exact hK5 1 σ11 h
        · replace h := bzIfT h c12
          refine j_iload_n hF 0 dX10_whole_44 rfl ?_
          refine j_if_eq hF (tgt := 52) dX10_whole_45 (by decide) (fun c13 => ?_) (fun c13 => ?_)
          · replace h := bzIfT h c13
            refine j_iconst hF (v := 0) dX10_whole_52 (by decide) ?_
            refine j_istore_n hF (lv1 := [(1, .int 0), (2, .int x10), (0, .ref (ga g o))]) dX10_whole_53 (by decide) rfl ?_
            refine j_goto hF (tgt := 5) dX10_whole_54 (by decide) ?_
            refine j_sub [2, 0] rfl ?_
            exact hK5 0 σ11 h
          · replace h := bzIfF h c13
            refine j_iconst hF (v := 1) dX10_whole_48 (by decide) ?_
            refine j_goto hF (tgt := 53) dX10_whole_49 (by decide) ?_
            refine j_istore_n hF (lv1 := [(1, .int 1), (2, .int x10), (0, .ref (ga g o))]) dX10_whole_53 (by decide) rfl ?_
            refine j_goto hF (tgt := 5) dX10_whole_54 (by decide) ?_
            refine j_sub [2, 0] rfl ?_
            exact hK5 1 σ11 h
  have L5 : ∀ (n : Nat) (v1 : Int32) (σ1 : bzS), fl_X10_whole_5 qX10_factor qX10_product qX10_sum qX10_compared qX10_both qX10_whole  o n v1 σ1 = some (r0, σ0) → bzJ g 3 x σ1 5 [(0, .ref (ga g o)), (1, .int v1)] [] := by
    intro  n
    induction n with
    | zero =>
      intro v1 σ1  h
      cases h
    | succ n ih =>
      intro v1 σ1  h
      exact J5  (fl_X10_whole_5 qX10_factor qX10_product qX10_sum qX10_compared qX10_both qX10_whole  o n) ih v1 σ1  h
  refine j_aload_n hF 0 dX10_whole_0 rfl ?_
  obtain ⟨x2, σ3, e1, h⟩ := bzBpE h
  refine cs_X10_151 hF ho (hqX10_both e1) (by omega) (Nat.le_of_ble_eq_true rfl) dX10_whole_1 ?_
  refine j_istore_n hF (lv1 := [(1, .int x2), (0, .ref (ga g o))]) dX10_whole_4 (by decide) rfl ?_
  refine j_sub [1, 0] rfl ?_
  exact L5 2000 x2 σ3 h
def fr_X10_factor : Nat → (Nat → bzS → Option (Int32 × bzS)) × (Nat → bzS → Option (Int32 × bzS)) × (Nat → bzS → Option (Int32 × bzS)) × (Nat → bzS → Option (Int32 × bzS)) × (Nat → bzS → Option (Int32 × bzS)) × (Nat → bzS → Option (Int32 × bzS))
  | 0 => (fun _ _ => none, fun _ _ => none, fun _ _ => none, fun _ _ => none, fun _ _ => none, fun _ _ => none)
  | n + 1 => (fm_X10_factor (fr_X10_factor n).1 (fr_X10_factor n).2.1 (fr_X10_factor n).2.2.1 (fr_X10_factor n).2.2.2.1 (fr_X10_factor n).2.2.2.2.1 (fr_X10_factor n).2.2.2.2.2, fm_X10_product (fr_X10_factor n).1 (fr_X10_factor n).2.1 (fr_X10_factor n).2.2.1 (fr_X10_factor n).2.2.2.1 (fr_X10_factor n).2.2.2.2.1 (fr_X10_factor n).2.2.2.2.2, fm_X10_sum (fr_X10_factor n).1 (fr_X10_factor n).2.1 (fr_X10_factor n).2.2.1 (fr_X10_factor n).2.2.2.1 (fr_X10_factor n).2.2.2.2.1 (fr_X10_factor n).2.2.2.2.2, fm_X10_compared (fr_X10_factor n).1 (fr_X10_factor n).2.1 (fr_X10_factor n).2.2.1 (fr_X10_factor n).2.2.2.1 (fr_X10_factor n).2.2.2.2.1 (fr_X10_factor n).2.2.2.2.2, fm_X10_both (fr_X10_factor n).1 (fr_X10_factor n).2.1 (fr_X10_factor n).2.2.1 (fr_X10_factor n).2.2.2.1 (fr_X10_factor n).2.2.2.2.1 (fr_X10_factor n).2.2.2.2.2, fm_X10_whole (fr_X10_factor n).1 (fr_X10_factor n).2.1 (fr_X10_factor n).2.2.1 (fr_X10_factor n).2.2.2.1 (fr_X10_factor n).2.2.2.2.1 (fr_X10_factor n).2.2.2.2.2)
def f_X10_factor : Nat → bzS → Option (Int32 × bzS) := (fr_X10_factor 60).1
def f_X10_product : Nat → bzS → Option (Int32 × bzS) := (fr_X10_factor 60).2.1
def f_X10_sum : Nat → bzS → Option (Int32 × bzS) := (fr_X10_factor 60).2.2.1
def f_X10_compared : Nat → bzS → Option (Int32 × bzS) := (fr_X10_factor 60).2.2.2.1
def f_X10_both : Nat → bzS → Option (Int32 × bzS) := (fr_X10_factor 60).2.2.2.2.1
def f_X10_whole : Nat → bzS → Option (Int32 × bzS) := (fr_X10_factor 60).2.2.2.2.2
set_option maxHeartbeats 4000000 in
theorem mr_X10_factor : ∀ n : Nat, (∀ {g : bzGeo} {o : Nat} {σ : bzS} {r0 : Int32} {σ0 : bzS} , (fr_X10_factor n).1 o σ = some (r0, σ0) → ∀ l : Launch, Met l yX10_factor (Cond.code yX10_factor cX10_factor 3 (some .int) :: GW) (bzR (n + 4)) (va_Pc [.ref (ga g o)] (bzP g σ)) (va_Qi (fun (r : Int32) (u : bzS) => r = r0 ∧ u = σ0) (bzB g) (gA g)) 0 0 (gA g)) ∧ (∀ {g : bzGeo} {o : Nat} {σ : bzS} {r0 : Int32} {σ0 : bzS} , (fr_X10_factor n).2.1 o σ = some (r0, σ0) → ∀ l : Launch, Met l yX10_product (Cond.code yX10_product cX10_product 4 (some .int) :: GW) (bzR (n + 4)) (va_Pc [.ref (ga g o)] (bzP g σ)) (va_Qi (fun (r : Int32) (u : bzS) => r = r0 ∧ u = σ0) (bzB g) (gA g)) 0 0 (gA g)) ∧ (∀ {g : bzGeo} {o : Nat} {σ : bzS} {r0 : Int32} {σ0 : bzS} , (fr_X10_factor n).2.2.1 o σ = some (r0, σ0) → ∀ l : Launch, Met l yX10_sum (Cond.code yX10_sum cX10_sum 4 (some .int) :: GW) (bzR (n + 4)) (va_Pc [.ref (ga g o)] (bzP g σ)) (va_Qi (fun (r : Int32) (u : bzS) => r = r0 ∧ u = σ0) (bzB g) (gA g)) 0 0 (gA g)) ∧ (∀ {g : bzGeo} {o : Nat} {σ : bzS} {r0 : Int32} {σ0 : bzS} , (fr_X10_factor n).2.2.2.1 o σ = some (r0, σ0) → ∀ l : Launch, Met l yX10_compared (Cond.code yX10_compared cX10_compared 5 (some .int) :: GW) (bzR (n + 4)) (va_Pc [.ref (ga g o)] (bzP g σ)) (va_Qi (fun (r : Int32) (u : bzS) => r = r0 ∧ u = σ0) (bzB g) (gA g)) 0 0 (gA g)) ∧ (∀ {g : bzGeo} {o : Nat} {σ : bzS} {r0 : Int32} {σ0 : bzS} , (fr_X10_factor n).2.2.2.2.1 o σ = some (r0, σ0) → ∀ l : Launch, Met l yX10_both (Cond.code yX10_both cX10_both 3 (some .int) :: GW) (bzR (n + 4)) (va_Pc [.ref (ga g o)] (bzP g σ)) (va_Qi (fun (r : Int32) (u : bzS) => r = r0 ∧ u = σ0) (bzB g) (gA g)) 0 0 (gA g)) ∧ (∀ {g : bzGeo} {o : Nat} {σ : bzS} {r0 : Int32} {σ0 : bzS} , (fr_X10_factor n).2.2.2.2.2 o σ = some (r0, σ0) → ∀ l : Launch, Met l yX10_whole (Cond.code yX10_whole cX10_whole 3 (some .int) :: GW) (bzR (n + 4)) (va_Pc [.ref (ga g o)] (bzP g σ)) (va_Qi (fun (r : Int32) (u : bzS) => r = r0 ∧ u = σ0) (bzB g) (gA g)) 0 0 (gA g)) := by
  intro n
  induction n with
  | zero => exact ⟨by intros; contradiction, by intros; contradiction, by intros; contradiction, by intros; contradiction, by intros; contradiction, by intros; contradiction⟩
  | succ n ih =>
    exact ⟨fun {g} {o} {σ} {r0} {σ0} h l => (by have q := mm_X10_factor (g := g) (d := n + 4) (by omega) (fun {g} {o} {σ} {r0} {σ0} h l => ih.1 h l) (fun {g} {o} {σ} {r0} {σ0} h l => ih.2.1 h l) (fun {g} {o} {σ} {r0} {σ0} h l => ih.2.2.1 h l) (fun {g} {o} {σ} {r0} {σ0} h l => ih.2.2.2.1 h l) (fun {g} {o} {σ} {r0} {σ0} h l => ih.2.2.2.2.1 h l) (fun {g} {o} {σ} {r0} {σ0} h l => ih.2.2.2.2.2 h l) l h; rw [show n + 1 + 4 = n + 4 + 1 by omega]; exact q), fun {g} {o} {σ} {r0} {σ0} h l => (by have q := mm_X10_product (g := g) (d := n + 4) (by omega) (fun {g} {o} {σ} {r0} {σ0} h l => ih.1 h l) (fun {g} {o} {σ} {r0} {σ0} h l => ih.2.1 h l) (fun {g} {o} {σ} {r0} {σ0} h l => ih.2.2.1 h l) (fun {g} {o} {σ} {r0} {σ0} h l => ih.2.2.2.1 h l) (fun {g} {o} {σ} {r0} {σ0} h l => ih.2.2.2.2.1 h l) (fun {g} {o} {σ} {r0} {σ0} h l => ih.2.2.2.2.2 h l) l h; rw [show n + 1 + 4 = n + 4 + 1 by omega]; exact q), fun {g} {o} {σ} {r0} {σ0} h l => (by have q := mm_X10_sum (g := g) (d := n + 4) (by omega) (fun {g} {o} {σ} {r0} {σ0} h l => ih.1 h l) (fun {g} {o} {σ} {r0} {σ0} h l => ih.2.1 h l) (fun {g} {o} {σ} {r0} {σ0} h l => ih.2.2.1 h l) (fun {g} {o} {σ} {r0} {σ0} h l => ih.2.2.2.1 h l) (fun {g} {o} {σ} {r0} {σ0} h l => ih.2.2.2.2.1 h l) (fun {g} {o} {σ} {r0} {σ0} h l => ih.2.2.2.2.2 h l) l h; rw [show n + 1 + 4 = n + 4 + 1 by omega]; exact q), fun {g} {o} {σ} {r0} {σ0} h l => (by have q := mm_X10_compared (g := g) (d := n + 4) (by omega) (fun {g} {o} {σ} {r0} {σ0} h l => ih.1 h l) (fun {g} {o} {σ} {r0} {σ0} h l => ih.2.1 h l) (fun {g} {o} {σ} {r0} {σ0} h l => ih.2.2.1 h l) (fun {g} {o} {σ} {r0} {σ0} h l => ih.2.2.2.1 h l) (fun {g} {o} {σ} {r0} {σ0} h l => ih.2.2.2.2.1 h l) (fun {g} {o} {σ} {r0} {σ0} h l => ih.2.2.2.2.2 h l) l h; rw [show n + 1 + 4 = n + 4 + 1 by omega]; exact q), fun {g} {o} {σ} {r0} {σ0} h l => (by have q := mm_X10_both (g := g) (d := n + 4) (by omega) (fun {g} {o} {σ} {r0} {σ0} h l => ih.1 h l) (fun {g} {o} {σ} {r0} {σ0} h l => ih.2.1 h l) (fun {g} {o} {σ} {r0} {σ0} h l => ih.2.2.1 h l) (fun {g} {o} {σ} {r0} {σ0} h l => ih.2.2.2.1 h l) (fun {g} {o} {σ} {r0} {σ0} h l => ih.2.2.2.2.1 h l) (fun {g} {o} {σ} {r0} {σ0} h l => ih.2.2.2.2.2 h l) l h; rw [show n + 1 + 4 = n + 4 + 1 by omega]; exact q), fun {g} {o} {σ} {r0} {σ0} h l => (by have q := mm_X10_whole (g := g) (d := n + 4) (by omega) (fun {g} {o} {σ} {r0} {σ0} h l => ih.1 h l) (fun {g} {o} {σ} {r0} {σ0} h l => ih.2.1 h l) (fun {g} {o} {σ} {r0} {σ0} h l => ih.2.2.1 h l) (fun {g} {o} {σ} {r0} {σ0} h l => ih.2.2.2.1 h l) (fun {g} {o} {σ} {r0} {σ0} h l => ih.2.2.2.2.1 h l) (fun {g} {o} {σ} {r0} {σ0} h l => ih.2.2.2.2.2 h l) l h; rw [show n + 1 + 4 = n + 4 + 1 by omega]; exact q)⟩
theorem mt_X10_factor {g : bzGeo} {o : Nat} {σ : bzS} {r0 : Int32} {σ0 : bzS} (l : Launch) (h : f_X10_factor o σ = some (r0, σ0)) : Met l yX10_factor (Cond.code yX10_factor cX10_factor 3 (some .int) :: GW) (bzR (64)) (va_Pc [.ref (ga g o)] (bzP g σ)) (va_Qi (fun (r : Int32) (u : bzS) => r = r0 ∧ u = σ0) (bzB g) (gA g)) 0 0 (gA g) := (mr_X10_factor 60).1 h l
theorem mt_X10_product {g : bzGeo} {o : Nat} {σ : bzS} {r0 : Int32} {σ0 : bzS} (l : Launch) (h : f_X10_product o σ = some (r0, σ0)) : Met l yX10_product (Cond.code yX10_product cX10_product 4 (some .int) :: GW) (bzR (64)) (va_Pc [.ref (ga g o)] (bzP g σ)) (va_Qi (fun (r : Int32) (u : bzS) => r = r0 ∧ u = σ0) (bzB g) (gA g)) 0 0 (gA g) := (mr_X10_factor 60).2.1 h l
theorem mt_X10_sum {g : bzGeo} {o : Nat} {σ : bzS} {r0 : Int32} {σ0 : bzS} (l : Launch) (h : f_X10_sum o σ = some (r0, σ0)) : Met l yX10_sum (Cond.code yX10_sum cX10_sum 4 (some .int) :: GW) (bzR (64)) (va_Pc [.ref (ga g o)] (bzP g σ)) (va_Qi (fun (r : Int32) (u : bzS) => r = r0 ∧ u = σ0) (bzB g) (gA g)) 0 0 (gA g) := (mr_X10_factor 60).2.2.1 h l
theorem mt_X10_compared {g : bzGeo} {o : Nat} {σ : bzS} {r0 : Int32} {σ0 : bzS} (l : Launch) (h : f_X10_compared o σ = some (r0, σ0)) : Met l yX10_compared (Cond.code yX10_compared cX10_compared 5 (some .int) :: GW) (bzR (64)) (va_Pc [.ref (ga g o)] (bzP g σ)) (va_Qi (fun (r : Int32) (u : bzS) => r = r0 ∧ u = σ0) (bzB g) (gA g)) 0 0 (gA g) := (mr_X10_factor 60).2.2.2.1 h l
theorem mt_X10_both {g : bzGeo} {o : Nat} {σ : bzS} {r0 : Int32} {σ0 : bzS} (l : Launch) (h : f_X10_both o σ = some (r0, σ0)) : Met l yX10_both (Cond.code yX10_both cX10_both 3 (some .int) :: GW) (bzR (64)) (va_Pc [.ref (ga g o)] (bzP g σ)) (va_Qi (fun (r : Int32) (u : bzS) => r = r0 ∧ u = σ0) (bzB g) (gA g)) 0 0 (gA g) := (mr_X10_factor 60).2.2.2.2.1 h l
theorem mt_X10_whole {g : bzGeo} {o : Nat} {σ : bzS} {r0 : Int32} {σ0 : bzS} (l : Launch) (h : f_X10_whole o σ = some (r0, σ0)) : Met l yX10_whole (Cond.code yX10_whole cX10_whole 3 (some .int) :: GW) (bzR (64)) (va_Pc [.ref (ga g o)] (bzP g σ)) (va_Qi (fun (r : Int32) (u : bzS) => r = r0 ∧ u = σ0) (bzB g) (gA g)) 0 0 (gA g) := (mr_X10_factor 60).2.2.2.2.2 h l
