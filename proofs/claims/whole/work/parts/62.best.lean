set_option linter.unusedVariables false
/-! what would be: loudFor, everyFor, needless, odds -/
theorem pOk_set {f : Nat → Int32} {y p : Nat} {v : Int32} (h : pOk f y) (hp : p < 84) (h0 : p ≠ 0) (h2 : p ≠ 2) (h10 : p ≠ 10) (h11 : p ≠ 11) (hv : p ≠ 1 → bzUp (mx p) v) (he : ∀ i, i < 8 → p = 55 + 4 * i → v ≠ 0) : pOk (upd f p v) y := by
  refine ⟨h.1.set h2 (fun _ => hv) he, fun u hu => ?_, by rw [pk_un (Ne.symm h0)]; exact h.2.2.1, h.2.2.2⟩
  rw [pk_un (by omega), show (fun j => upd f p v (154 + 50 * u + j)) = fun j => f (154 + 50 * u + j) from funext (fun j => pk_un (by omega))]
  exact h.2.1 u hu
/-- a visitor's place is set: the row goes on -/
theorem pOk_vis {f : Nat → Int32} {y i w : Nat} {v : Nat} (h : pOk f y) (hi : i < 8) (hw : w < 4) (hv : v ≤ (if w = 0 then 6 else if w = 3 then 12 else 9)) (he : w = 3 → v ≠ 0) : pOk (upd f (52 + 4 * i + w) (nI v)) y := by
  have e12 : v ≤ 12 := by
    by_cases c : w = 0
    · rw [if_pos c] at hv; omega
    · rw [if_neg c] at hv
      by_cases d : w = 3
      · rw [if_pos d] at hv; omega
      · rw [if_neg d] at hv; omega
  refine pOk_set h (by omega) (by omega) (by omega) (by omega) (by omega) (fun _ => ?_) (fun q hq e => ?_)
  · rw [(vis_p i hi w hw).2.2.2]; exact ⟨v, hv, rfl⟩
  · have : w = 3 := by omega
    exact fun c => he this ((nI_eq (b := 0) (by omega) (by decide)).mp c)
theorem th_vis {aw : Int32} {g : Nat → Int32} {σ0 σ : bzS} {i w : Nat} (v : Int32) (h : thT aw g σ0 σ) (hi : i < 8) (hw : w < 4) : thT aw (upd g (52 + 4 * i + w) v) σ0 (bzSt σ (59 + w) i v) := by
  obtain ⟨p0, m0, j0, x0⟩ := vis_p i hi w hw
  exact th_set v h (decide_eq_true (by omega)) (by omega) j0 (by omega)
def pLf (f : Nat → Int32) (i n : Nat) (a3 : Int32) : Nat → Nat → Option Nat
  | 0, _ => none
  | m + 1, v => if a3 < pYrs (-1) n (upd f (52 + 4 * i + 2) (nI v)) 4 then pLf f i n a3 m (v + 1) else some v
theorem lf_c {n0 i n y : Nat} {σ0 : bzS} {a3 : Int32} (hI : bzInv n0 σ0) (hi : i < 8) (hn : n ≤ 60) (hy : y ≤ 9999) (hk : pOk (σ0 96) y) : ∀ m v, v + m = 10 → ∀ (F : Nat) (σ : bzS), m < F → (∀ k, (k < 55 ∨ 70 < k) → σ k = σ0 k) →
    (∀ r, pLf (σ0 96) i n a3 m v = some r → ∃ τ, fl_X9_loudFor_47 0 (nI i) (nI n) a3 F (nI v) σ = some (nI r, τ) ∧ ∀ k, (k < 55 ∨ 70 < k) → τ k = σ0 k) ∧ (pLf (σ0 96) i n a3 m v = none → ∃ τ, fl_X9_loudFor_47 0 (nI i) (nI n) a3 F (nI v) σ = some (-1000000002, bzSt τ 82 2 (τ 82 2 + 1)) ∧ ∀ k, (k < 55 ∨ 70 < k) → τ k = σ0 k) := by
  intro m
  induction m with
  | zero =>
    intro v hv F σ hF h
    obtain ⟨F, rfl⟩ : ∃ x, F = x + 1 := ⟨F - 1, by omega⟩
    have e : v = 10 := by omega
    subst e
    refine ⟨fun r hr => no_some hr, fun _ => ⟨σ, ?_, h⟩⟩
    show fb_X9_loudFor_47 (fl_X9_loudFor_47 0 (nI i) (nI n) a3 F) 0 (nI i) (nI n) a3 (nI 10) σ = _
    unfold fb_X9_loudFor_47
    rw [if_pos (show (9 : Int32) < nI 10 by decide)]; rfl
  | succ m ih =>
    intro v hv F σ hF h
    obtain ⟨F, rfl⟩ : ∃ x, F = x + 1 := ⟨F - 1, by omega⟩
    have v9 : ¬ (9 : Int32) < nI v := nI_nlt (a := 9) (by omega) (by decide)
    obtain ⟨τ, t1, t2⟩ := th_new hI h
    have t3 := th_vis (i := i) (w := 2) (nI v) t2 hi (by decide)
    obtain ⟨κ, k1, k2⟩ := th_pass hn t3 (pOk_vis hk hi (by decide) (show v ≤ 9 by omega) (fun c => absurd c (by decide))) (by omega)
    have e0 : fl_X9_loudFor_47 0 (nI i) (nI n) a3 (F + 1) (nI v) σ = (if a3 < pYrs (-1) n (upd (σ0 96) (52 + 4 * i + 2) (nI v)) 4 then fl_X9_loudFor_47 0 (nI i) (nI n) a3 F (nI (v + 1)) κ else some (nI v, κ)) := by
      show fb_X9_loudFor_47 (fl_X9_loudFor_47 0 (nI i) (nI n) a3 F) 0 (nI i) (nI n) a3 (nI v) σ = _
      unfold fb_X9_loudFor_47
      rw [if_neg v9, t1, bzBdS, bzGdT (bzIn_nI hi (by decide)), l_0_3, l_55_2, l_58_2, clN (by omega), bzLetS, k1, bzBpS, bzLetS, nI_1]
    rw [e0]
    by_cases c : a3 < pYrs (-1) n (upd (σ0 96) (52 + 4 * i + 2) (nI v)) 4
    · have e : pLf (σ0 96) i n a3 (m + 1) v = pLf (σ0 96) i n a3 m (v + 1) := if_pos c
      rw [e, if_pos c]
      exact ih (v + 1) (by omega) F κ (by omega) k2.2.2
    · have e : pLf (σ0 96) i n a3 (m + 1) v = some v := if_neg c
      rw [e, if_neg c]
      refine ⟨fun r hr => ⟨κ, ?_, k2.2.2⟩, fun hr => no_some hr.symm⟩
      obtain rfl := Option.some.inj hr
      rfl
theorem lf_m {f : Nat → Int32} {i n y : Nat} {σ1 : bzS} {a3 : Int32} (hi : i < 8) (hn : n ≤ 60) (hy : y ≤ 9999) (hk : pOk f y) : ∀ m v, v + m = 10 → ∀ (F : Nat) (σ : bzS) (L : Int32), m + 1 < F → L = nI v - 1 → mdT (-1) f f σ1 σ →
    (∀ r, pLf f i n a3 m v = some r → ∃ τ, fl_X10_loudFor_53 95 (nI i) (nI n) a3 F L 0 σ = some (nI r, τ) ∧ mdT (-1) f f σ1 τ) ∧ (pLf f i n a3 m v = none → ∃ τ, fl_X10_loudFor_53 95 (nI i) (nI n) a3 F L 0 σ = some (-1000000002, bzSt τ 100 2 (τ 100 2 + 1)) ∧ mdT (-1) f f σ1 τ) := by
  intro m
  induction m with
  | zero =>
    intro v hv F σ L hF hL h
    obtain ⟨F, rfl⟩ : ∃ x, F = x + 1 := ⟨F - 1, by omega⟩
    have e : v = 10 := by omega
    subst e
    refine ⟨fun r hr => no_some hr, fun _ => ⟨σ, ?_, h⟩⟩
    show fb_X10_loudFor_53 (fl_X10_loudFor_53 95 (nI i) (nI n) a3 F) 95 (nI i) (nI n) a3 L 0 σ = _
    unfold fb_X10_loudFor_53
    rw [hL, if_pos (show (9 : Int32) ≤ nI 10 - 1 by decide), if_pos rfl]; rfl
  | succ m ih =>
    intro v hv F σ L hF hL h
    obtain ⟨F, rfl⟩ : ∃ x, F = x + 2 := ⟨F - 2, by omega⟩
    have v9 : ¬ (9 : Int32) ≤ L := by
      rw [hL, Int32.le_iff_toInt_le, show (nI v - 1).toInt = (v : Int) - 1 from pk_sub_toInt (b := 1) (by omega) (by decide)]
      have : (9 : Int32).toInt = 9 := rfl
      omega
    have L1 : L + 1 = nI v := by rw [hL, Int32.sub_add_cancel]
    have pu : f_X10_puts 95 (nI i) 2 (nI v) σ = some (bzSt σ 96 (52 + 4 * i + 2) (nI v)) := e_puts (w := 2) rfl (by omega)
    obtain ⟨κ, k1, k2⟩ := md_behind (q := 4) hn (by decide) (md_set (p := 52 + 4 * i + 2) (nI v) h (by omega)) (pOk_vis hk hi (by decide) (show v ≤ 9 by omega) (fun c => absurd c (by decide))) (by omega)
    have k1 : f_X10_behind 95 (nI n) 4 (bzSt σ 96 (52 + 4 * i + 2) (nI v)) = _ := k1
    have e0 : fl_X10_loudFor_53 95 (nI i) (nI n) a3 (F + 2) L 0 σ = (if a3 < pYrs (-1) n (upd f (52 + 4 * i + 2) (nI v)) 4 then fl_X10_loudFor_53 95 (nI i) (nI n) a3 (F + 1) (nI v) 0 κ else fl_X10_loudFor_53 95 (nI i) (nI n) a3 (F + 1) (nI v) 1 κ) := by
      show fb_X10_loudFor_53 (fl_X10_loudFor_53 95 (nI i) (nI n) a3 (F + 1)) 95 (nI i) (nI n) a3 L 0 σ = _
      unfold fb_X10_loudFor_53
      rw [if_neg v9, if_pos rfl, bzLetS, L1, pu, bzBdS, k1, bzBpS]
    rw [e0]
    by_cases c : a3 < pYrs (-1) n (upd f (52 + 4 * i + 2) (nI v)) 4
    · have e : pLf f i n a3 (m + 1) v = pLf f i n a3 m (v + 1) := if_pos c
      rw [e, if_pos c]
      exact ih (v + 1) (by omega) (F + 1) κ (nI v) (by omega) (nI_pred v).symm k2
    · have e : pLf f i n a3 (m + 1) v = some v := if_neg c
      rw [e, if_neg c]
      refine ⟨fun r hr => ⟨κ, ?_, k2⟩, fun hr => no_some hr.symm⟩
      obtain rfl := Option.some.inj hr
      show fb_X10_loudFor_53 (fl_X10_loudFor_53 95 (nI i) (nI n) a3 F) 95 (nI i) (nI n) a3 (nI v) 1 κ = _
      unfold fb_X10_loudFor_53
      by_cases d : (9 : Int32) ≤ nI v
      · rw [if_pos d, if_neg one_ne]
      · rw [if_neg d, if_neg one_ne, if_neg one_ne]
theorem st_loudFor : bzSt_loudFor bzInv := by
  intro a1 a2 a3 σ n hn hI
  obtain ⟨y, hy, hk⟩ := pOk_I hI
  rcases hasV hI a1 with ⟨h1, h2⟩ | ⟨i, N, e1, hi, hN, s1, s2, b1, n1, h1, h2⟩
  · refine err1 hI ?_ (fun τ ht => ?_)
    · unfold f_X9_loudFor; rw [g_0, l_0_0, l_1_0, l_2_2, h1, bzBdS, if_pos rfl]; rfl
    · unfold f_X10_loudFor; rw [g_95, h2 τ ht, bzBdS, if_pos rfl]; rfl
  have hv : ∀ τ : bzS, (∀ q, q ≠ 82 → τ q = σ q) → f_X10_isVisitor 95 a1 τ = some 1 := fun τ ht => h2 τ (by rw [ht 96 (by decide)]; exact s1)
  rcases cutR a2 (n := 60) (lo := 0) (N := 60) rfl (Or.inl rfl) (by decide) with c2 | ⟨c2, c2', q, hq, rfl⟩
  · refine err1 hI ?_ (fun τ ht => ?_)
    · unfold f_X9_loudFor; rw [g_0, l_0_0, l_1_0, l_2_2, h1, bzBdS, if_neg one_ne, wi_0 c2, bzBdS, if_pos rfl]; rfl
    · unfold f_X10_loudFor; rw [g_95, hv τ ht, bzBdS, if_neg one_ne, in_0 c2, bzBdS, if_pos rfl]; rfl
  rcases cutR a3 (n := 99) (lo := 0) (N := 99) rfl (Or.inl rfl) (by decide) with c3 | ⟨c3, c3', -⟩
  · refine err1 hI ?_ (fun τ ht => ?_)
    · unfold f_X9_loudFor; rw [g_0, l_0_0, l_1_0, l_2_2, h1, bzBdS, if_neg one_ne, wi_1 c2 c2', bzBdS, if_neg one_ne, wi_0 c3, bzBdS, if_pos rfl]; rfl
    · unfold f_X10_loudFor; rw [g_95, hv τ ht, bzBdS, if_neg one_ne, in_1 c2 c2', bzBdS, if_neg one_ne, in_0 c3, bzBdS, if_pos rfl]; rfl
  subst e1
  obtain ⟨fc1, fc2⟩ := lf_c (a3 := a3) hI (show i < 8 by omega) hq hy hk 10 0 rfl 2000 σ (by decide) (fun k _ => rfl)
  have ec : f_X9_loudFor 0 (nI i) (nI q) a3 σ = fl_X9_loudFor_47 0 (nI i) (nI q) a3 2000 (nI 0) σ := by
    unfold f_X9_loudFor; rw [g_0, l_0_0, l_1_0, l_2_2, h1, bzBdS, if_neg one_ne, wi_1 c2 c2', bzBdS, if_neg one_ne, wi_1 c3 c3', bzBdS, if_neg one_ne]; rfl
  have em : ∀ κ ρ : bzS, κ 96 = σ 96 → f_X10_moveAll 95 96 98 κ = some ρ → f_X10_loudFor 95 (nI i) (nI q) a3 κ = fl_X10_loudFor_53 95 (nI i) (nI q) a3 2000 (-1) 0 ρ := fun κ ρ hκ h => by
    unfold f_X10_loudFor
    rw [g_95, h2 κ (by rw [hκ]; exact s1), bzBdS, if_neg one_ne, in_1 c2 c2', bzBdS, if_neg one_ne, in_1 c3 c3', bzBdS, if_neg one_ne, l_95_0, l_95_2, h, bzBdS]
  cases hp : pLf (σ 96) i q a3 10 0 with
  | some r =>
    obtain ⟨κ, k1, k2⟩ := fc1 r hp
    obtain ⟨ρ, r1, r2⟩ := md_start hI k2
    obtain ⟨ω, w1, w2⟩ := (lf_m (a3 := a3) (show i < 8 by omega) hq hy hk 10 0 rfl 2000 ρ (-1) (by decide) rfl r2).1 r hp
    exact ⟨nI r, κ, ω, ec.trans k1, (em κ ρ (k2 96 (by decide)) r1).trans w1, inv_th hI k2 w2⟩
  | none =>
    obtain ⟨κ, k1, k2⟩ := fc2 hp
    have k3 : ∀ k, (k < 55 ∨ 70 < k) → k ≠ 82 → bzSt κ 82 2 (κ 82 2 + 1) k = σ k := fun k h1 h2 => by rw [st_o h2]; exact k2 k h1
    obtain ⟨ρ, r1, r2⟩ := md_new (σ1 := bzSt κ 82 2 (κ 82 2 + 1)) (σ := bzSt κ 82 2 (κ 82 2 + 1)) (aw := -1) (k3 96 (by decide) (by decide)) (by rw [k3 95 (by decide) (by decide)]; exact hI.2.2.1) (fun k _ => rfl)
    obtain ⟨ω, w1, w2⟩ := (lf_m (a3 := a3) (show i < 8 by omega) hq hy hk 10 0 rfl 2000 ρ (-1) (by decide) rfl r2).2 hp
    exact ⟨-1000000002, _, _, ec.trans k1, (em _ ρ (k3 96 (by decide) (by decide)) r1).trans w1, inv_the (q := 2) hI k3 (by rw [st_s, k2 82 (by decide)]) w2⟩
def pEf (f : Nat → Int32) (i n : Nat) : Nat → Nat → Int32 → Int32 → Int32
  | 0, _, b, _ => b
  | m + 1, v, b, l => if l ≤ pYrs (-1) n (upd f (52 + 4 * i + 3) (nI v)) 4 then pEf f i n m (v + 1) b l else pEf f i n m (v + 1) (nI v) (pYrs (-1) n (upd f (52 + 4 * i + 3) (nI v)) 4)
theorem ef_c {n0 i n y : Nat} {σ0 : bzS} (hI : bzInv n0 σ0) (hi : i < 8) (hn : n ≤ 60) (hy : y ≤ 9999) (hk : pOk (σ0 96) y) : ∀ m v, v + m = 13 → 1 ≤ v → ∀ (F : Nat) (σ : bzS) (b l : Int32), m < F → (∀ k, (k < 55 ∨ 70 < k) → σ k = σ0 k) →
    ∃ τ, fl_X9_everyFor_43 0 (nI i) (nI n) F b l (nI v) σ = some (pEf (σ0 96) i n m v b l, τ) ∧ ∀ k, (k < 55 ∨ 70 < k) → τ k = σ0 k := by
  intro m
  induction m with
  | zero =>
    intro v hv h1v F σ b l hF h
    obtain ⟨F, rfl⟩ : ∃ x, F = x + 1 := ⟨F - 1, by omega⟩
    have e : v = 13 := by omega
    subst e
    refine ⟨σ, ?_, h⟩
    show fb_X9_everyFor_43 (fl_X9_everyFor_43 0 (nI i) (nI n) F) 0 (nI i) (nI n) b l (nI 13) σ = _
    unfold fb_X9_everyFor_43
    rw [if_pos (show (12 : Int32) < nI 13 by decide)]; rfl
  | succ m ih =>
    intro v hv h1v F σ b l hF h
    obtain ⟨F, rfl⟩ : ∃ x, F = x + 1 := ⟨F - 1, by omega⟩
    have v9 : ¬ (12 : Int32) < nI v := nI_nlt (a := 12) (by omega) (by decide)
    obtain ⟨τ, t1, t2⟩ := th_new hI h
    have t3 := th_vis (i := i) (w := 3) (nI v) t2 hi (by decide)
    obtain ⟨κ, k1, k2⟩ := th_pass hn t3 (pOk_vis hk hi (by decide) (show v ≤ 12 by omega) (fun _ => by omega)) (by omega)
    show ∃ ρ, fb_X9_everyFor_43 (fl_X9_everyFor_43 0 (nI i) (nI n) F) 0 (nI i) (nI n) b l (nI v) σ = some ((if l ≤ pYrs (-1) n (upd (σ0 96) (52 + 4 * i + 3) (nI v)) 4 then pEf (σ0 96) i n m (v + 1) b l else pEf (σ0 96) i n m (v + 1) (nI v) (pYrs (-1) n (upd (σ0 96) (52 + 4 * i + 3) (nI v)) 4)), ρ) ∧ _
    unfold fb_X9_everyFor_43
    rw [if_neg v9, t1, bzBdS, bzGdT (bzIn_nI hi (by decide)), l_0_3, l_55_2, l_58_3, clN (by omega), bzLetS, k1, bzBpS, bzLetS, bzLetS, nI_1]
    by_cases c : l ≤ pYrs (-1) n (upd (σ0 96) (52 + 4 * i + 3) (nI v)) 4
    · rw [if_pos c, if_pos c]; exact ih (v + 1) (by omega) (by omega) F κ _ _ (by omega) k2.2.2
    · rw [if_neg c, if_neg c]; exact ih (v + 1) (by omega) (by omega) F κ _ _ (by omega) k2.2.2
theorem ef_m {f : Nat → Int32} {i n y : Nat} {σ1 : bzS} (hi : i < 8) (hn : n ≤ 60) (hy : y ≤ 9999) (hk : pOk f y) : ∀ m v, v + m = 13 → 1 ≤ v → ∀ (F : Nat) (σ : bzS) (b l : Int32), m < F → mdT (-1) f f σ1 σ →
    ∃ τ, fl_X10_everyFor_46 95 (nI i) (nI n) F b l (nI v) σ = some (pEf f i n m v b l, τ) ∧ mdT (-1) f f σ1 τ := by
  intro m
  induction m with
  | zero =>
    intro v hv h1v F σ b l hF h
    obtain ⟨F, rfl⟩ : ∃ x, F = x + 1 := ⟨F - 1, by omega⟩
    have e : v = 13 := by omega
    subst e
    refine ⟨σ, ?_, h⟩
    show fb_X10_everyFor_46 (fl_X10_everyFor_46 95 (nI i) (nI n) F) 95 (nI i) (nI n) b l (nI 13) σ = _
    unfold fb_X10_everyFor_46
    rw [if_pos (show (12 : Int32) < nI 13 by decide)]; rfl
  | succ m ih =>
    intro v hv h1v F σ b l hF h
    obtain ⟨F, rfl⟩ : ∃ x, F = x + 1 := ⟨F - 1, by omega⟩
    have v9 : ¬ (12 : Int32) < nI v := nI_nlt (a := 12) (by omega) (by decide)
    have pu : f_X10_puts 95 (nI i) 3 (nI v) σ = some (bzSt σ 96 (52 + 4 * i + 3) (nI v)) := e_puts (w := 3) rfl (by omega)
    obtain ⟨κ, k1, k2⟩ := md_behind (q := 4) hn (by decide) (md_set (p := 52 + 4 * i + 3) (nI v) h (by omega)) (pOk_vis hk hi (by decide) (show v ≤ 12 by omega) (fun _ => by omega)) (by omega)
    have k1 : f_X10_behind 95 (nI n) 4 (bzSt σ 96 (52 + 4 * i + 3) (nI v)) = _ := k1
    show ∃ ρ, fb_X10_everyFor_46 (fl_X10_everyFor_46 95 (nI i) (nI n) F) 95 (nI i) (nI n) b l (nI v) σ = some ((if l ≤ pYrs (-1) n (upd f (52 + 4 * i + 3) (nI v)) 4 then pEf f i n m (v + 1) b l else pEf f i n m (v + 1) (nI v) (pYrs (-1) n (upd f (52 + 4 * i + 3) (nI v)) 4)), ρ) ∧ _
    unfold fb_X10_everyFor_46
    rw [if_neg v9, pu, bzBdS, k1, bzBpS, bzLetS, bzLetS, bzLetS, bzLetS, nI_1]
    by_cases c : l ≤ pYrs (-1) n (upd f (52 + 4 * i + 3) (nI v)) 4
    · rw [if_pos c, if_pos c, if_pos c]; exact ih (v + 1) (by omega) (by omega) F κ _ _ (by omega) k2
    · rw [if_neg c, if_neg c, if_neg c]; exact ih (v + 1) (by omega) (by omega) F κ _ _ (by omega) k2
theorem st_everyFor : bzSt_everyFor bzInv := by
  intro a1 a2 σ n hn hI
  obtain ⟨y, hy, hk⟩ := pOk_I hI
  rcases hasV hI a1 with ⟨h1, h2⟩ | ⟨i, N, e1, hi, hN, s1, s2, b1, n1, h1, h2⟩
  · refine err1 hI ?_ (fun τ ht => ?_)
    · unfold f_X9_everyFor; rw [g_0, l_0_0, l_1_0, l_2_2, h1, bzBdS, if_pos rfl]; rfl
    · unfold f_X10_everyFor; rw [g_95, h2 τ ht, bzBdS, if_pos rfl]; rfl
  have hv : ∀ τ : bzS, (∀ q, q ≠ 82 → τ q = σ q) → f_X10_isVisitor 95 a1 τ = some 1 := fun τ ht => h2 τ (by rw [ht 96 (by decide)]; exact s1)
  rcases cutR a2 (n := 60) (lo := 0) (N := 60) rfl (Or.inl rfl) (by decide) with c2 | ⟨c2, c2', q, hq, rfl⟩
  · refine err1 hI ?_ (fun τ ht => ?_)
    · unfold f_X9_everyFor; rw [g_0, l_0_0, l_1_0, l_2_2, h1, bzBdS, if_neg one_ne, wi_0 c2, bzBdS, if_pos rfl]; rfl
    · unfold f_X10_everyFor; rw [g_95, hv τ ht, bzBdS, if_neg one_ne, in_0 c2, bzBdS, if_pos rfl]; rfl
  subst e1
  have i8 : i < 8 := by omega
  obtain ⟨κ, k1, k2⟩ := ef_c hI i8 hq hy hk 12 1 rfl (by decide) 2000 σ 1 100 (by decide) (fun k _ => rfl)
  obtain ⟨ρ, r1, r2⟩ := md_start hI k2
  obtain ⟨ω, w1, w2⟩ := ef_m i8 hq hy hk 12 1 rfl (by decide) 2000 ρ 0 100 (by decide) r2
  have eb : pEf (σ 96) i q 12 1 0 100 = pEf (σ 96) i q 12 1 1 100 := by
    obtain ⟨x, x1, x2⟩ := (pYrs_ok (aw := -1) q _ y (pOk_vis (w := 3) (v := 1) hk i8 (by decide) (by decide) (by decide)) (by omega)).lean
    have c : ¬ (100 : Int32) ≤ pYrs (-1) q (upd (σ 96) (52 + 4 * i + 3) (nI 1)) 4 := by rw [x2]; exact nI_ge (b := 100) (by omega) (by decide)
    show (if _ then _ else _) = (if _ then _ else _)
    rw [if_neg c, if_neg c]
  rw [eb] at w1
  refine ⟨pEf (σ 96) i q 12 1 1 100, κ, ω, ?_, ?_, inv_th hI k2 w2⟩
  · unfold f_X9_everyFor
    rw [g_0, l_0_0, l_1_0, l_2_2, h1, bzBdS, if_neg one_ne, wi_1 c2 c2', bzBdS, if_neg one_ne]; exact k1
  · unfold f_X10_everyFor
    rw [g_95, h2 κ (by rw [k2 96 (by decide)]; exact s1), bzBdS, if_neg one_ne, in_1 c2 c2', bzBdS, if_neg one_ne, l_95_0, l_95_2, r1, bzBdS]; exact w1
def pNd (f : Nat → Int32) (n : Nat) (p : Int32) : Nat → Nat → Int32 → Int32
  | 0, _, s => s
  | m + 1, v, s => if p < pYrs (nI v) n f 4 then pNd f n p m (v + 1) s else pNd f n p m (v + 1) (s ||| (1 <<< (nI v &&& 31)))
theorem nd_c {n0 n y N : Nat} {σ0 : bzS} {p : Int32} (hI : bzInv n0 σ0) (hn : n ≤ 60) (hy : y ≤ 9999) (hk : pOk (σ0 96) y) (h4 : σ0 5 4 = nI N) (hN : N ≤ 8) : ∀ m v, v + m = N → ∀ (F : Nat) (σ : bzS) (s : Int32), m < F → (∀ k, (k < 55 ∨ 70 < k) → σ k = σ0 k) →
    ∃ τ, fl_X9_needless_35 0 (nI n) F p s (nI v) σ = some (pNd (σ0 96) n p m v s, τ) ∧ ∀ k, (k < 55 ∨ 70 < k) → τ k = σ0 k := by
  intro m
  induction m with
  | zero =>
    intro v hv F σ s hF h
    obtain ⟨F, rfl⟩ : ∃ x, F = x + 1 := ⟨F - 1, by omega⟩
    have e : v = N := by omega
    subst e
    refine ⟨σ, ?_, h⟩
    show fb_X9_needless_35 (fl_X9_needless_35 0 (nI n) F) 0 (nI n) p s (nI v) σ = _
    unfold fb_X9_needless_35
    rw [l_0_0, l_1_0, l_2_2, h 5 (by decide), h4, if_pos (Int32.le_refl _)]; rfl
  | succ m ih =>
    intro v hv F σ s hF h
    obtain ⟨F, rfl⟩ : ∃ x, F = x + 1 := ⟨F - 1, by omega⟩
    obtain ⟨τ, t1, t2⟩ := th_new hI h
    obtain ⟨κ, k1, k2⟩ := th_pass hn (th_aw (nI v) t2) hk (by omega)
    show ∃ ρ, fb_X9_needless_35 (fl_X9_needless_35 0 (nI n) F) 0 (nI n) p s (nI v) σ = some ((if p < pYrs (nI v) n (σ0 96) 4 then pNd (σ0 96) n p m (v + 1) s else pNd (σ0 96) n p m (v + 1) (s ||| (1 <<< (nI v &&& 31)))), ρ) ∧ _
    unfold fb_X9_needless_35
    rw [l_0_0, l_1_0, l_2_2, h 5 (by decide), h4, if_neg (nI_ge (by omega) (by omega)), t1, bzBdS, l_0_3, l_55_2, bzLetS, k1, bzBpS, bzLetS, bzLetS, bzLetS, nI_1]
    by_cases c : p < pYrs (nI v) n (σ0 96) 4
    · rw [if_pos c, if_pos c]; exact ih (v + 1) (by omega) F κ _ (by omega) k2.2.2
    · rw [if_neg c, if_neg c]; exact ih (v + 1) (by omega) F κ _ (by omega) k2.2.2
theorem nd_m {f : Nat → Int32} {n y N : Nat} {σ1 : bzS} {p : Int32} (hn : n ≤ 60) (hy : y ≤ 9999) (hk : pOk f y) (h2 : f 2 = nI N) (hN : N ≤ 8) : ∀ m v, v + m = N → ∀ (F : Nat) (σ : bzS) (s aw : Int32), m < F → mdT aw f f σ1 σ →
    ∃ τ, fl_X10_needless_41 95 (nI n) F p s (nI v) σ = some (pNd f n p m v s, τ) ∧ mdT (-1) f f σ1 τ := by
  intro m
  induction m with
  | zero =>
    intro v hv F σ s aw hF h
    obtain ⟨F, rfl⟩ : ∃ x, F = x + 1 := ⟨F - 1, by omega⟩
    have e : v = N := by omega
    subst e
    refine ⟨bzSt σ 95 7 (-1), ?_, md_aw (-1) h⟩
    show fb_X10_needless_41 (fl_X10_needless_41 95 (nI n) F) 95 (nI n) p s (nI v) σ = _
    unfold fb_X10_needless_41
    rw [l_95_0, h.1, h2, if_pos (Int32.le_refl _)]; rfl
  | succ m ih =>
    intro v hv F σ s aw hF h
    obtain ⟨F, rfl⟩ : ∃ x, F = x + 1 := ⟨F - 1, by omega⟩
    obtain ⟨κ, k1, k2⟩ := md_behind (q := 4) hn (by decide) (md_aw (nI v) h) hk (by omega)
    have k1 : f_X10_behind 95 (nI n) 4 (bzSt σ 95 7 (nI v)) = _ := k1
    show ∃ ρ, fb_X10_needless_41 (fl_X10_needless_41 95 (nI n) F) 95 (nI n) p s (nI v) σ = some ((if p < pYrs (nI v) n f 4 then pNd f n p m (v + 1) s else pNd f n p m (v + 1) (s ||| (1 <<< (nI v &&& 31)))), ρ) ∧ _
    unfold fb_X10_needless_41
    rw [l_95_0, h.1, h2, if_neg (nI_ge (by omega) (by omega)), bzLetS, k1, bzBpS, bzLetS, bzLetS, bzLetS, bzLetS, nI_1, Int32.or_zero]
    by_cases c : p < pYrs (nI v) n f 4
    · rw [if_pos c, if_pos c]; exact ih (v + 1) (by omega) F κ _ _ (by omega) k2
    · rw [if_neg c, if_neg c]; exact ih (v + 1) (by omega) F κ _ _ (by omega) k2
theorem st_needless : bzSt_needless bzInv := by
  intro a1 σ n hn hI
  obtain ⟨y, hy, hk⟩ := pOk_I hI
  rcases cutR a1 (n := 60) (lo := 0) (N := 60) rfl (Or.inl rfl) (by decide) with c1 | ⟨c1, c1', q, hq, rfl⟩
  · refine err1 hI ?_ (fun τ _ => ?_)
    · unfold f_X9_needless; rw [g_0, wi_0 c1, bzBdS, if_pos rfl]; rfl
    · unfold f_X10_needless; rw [g_95, in_0 c1, bzBdS, if_pos rfl]; rfl
  obtain ⟨N, hN, s1, s2⟩ := sizeV hI
  obtain ⟨τ, t1, t2⟩ := th_new hI (σ := σ) (fun k _ => rfl)
  obtain ⟨μ, m1, m2⟩ := th_pass hq t2 hk (by omega)
  obtain ⟨κ, k1, k2⟩ := nd_c (p := pYrs (-1) q (σ 96) 4) hI hq hy hk s2 hN N 0 (by omega) 2000 μ 0 (by omega) m2.2.2
  obtain ⟨ρ, r1, r2⟩ := md_start hI k2
  obtain ⟨χ, x1, x2⟩ := md_behind (q := 4) hq (by decide) r2 hk (by omega)
  have x1 : f_X10_behind 95 (nI q) 4 ρ = _ := x1
  obtain ⟨ω, w1, w2⟩ := nd_m (p := pYrs (-1) q (σ 96) 4) hq hy hk s1 hN N 0 (by omega) 2000 χ 0 _ (by omega) x2
  refine ⟨pNd (σ 96) q (pYrs (-1) q (σ 96) 4) N 0 0, κ, ω, ?_, ?_, inv_th hI k2 w2⟩
  · unfold f_X9_needless
    rw [g_0, wi_1 c1 c1', bzBdS, if_neg one_ne, t1, bzBdS, l_0_3, m1, bzBpS]; exact k1
  · unfold f_X10_needless
    rw [g_95, in_1 c1 c1', bzBdS, if_neg one_ne, l_95_0, l_95_2, r1, bzBdS, x1, bzBpS]; exact w1
def pOd (f : Nat → Int32) (n : Nat) (a2 : Int32) : Nat → Nat → Nat → Nat
  | 0, _, c => c
  | m + 1, v, c => if a2 < pYrs (-1) n (upd f 3 (nI (10 * v))) 4 then pOd f n a2 m (v + 1) c else pOd f n a2 m (v + 1) (c + 1)
theorem pOd_le (f : Nat → Int32) (n : Nat) (a2 : Int32) : ∀ m v c, pOd f n a2 m v c ≤ c + m := by
  intro m
  induction m with
  | zero => intro v c; exact Nat.le_refl _
  | succ m ih =>
    intro v c
    show (if _ then _ else _) ≤ _
    by_cases q : a2 < pYrs (-1) n (upd f 3 (nI (10 * v))) 4
    · rw [if_pos q]; have := ih (v + 1) c; omega
    · rw [if_neg q]; have := ih (v + 1) (c + 1); omega
def mLow (c p : Int32) : Int32 := if c - c / 10 * 10 = 0 then (if p = 0 then c / 10 else 10 / 10) else if c = 5 then (if p = 0 then c / 5 else 10 / 5) else if c - c / 2 * 2 = 0 then (if p = 0 then c / 2 else 10 / 2) else (if p = 0 then c / 1 else 10 / 1)
theorem low_c : ∀ c, c ≤ 10 → ∀ p, p ≤ 1 → f_X9_inLowestTerms (nI c) 10 (nI p) = some (mLow (nI c) (nI p)) := by decide +kernel
theorem pOk_want {f : Nat → Int32} {y v : Nat} (h : pOk f y) (hv : v ≤ 99) : pOk (upd f 3 (nI v)) y :=
  pOk_set h (by decide) (by decide) (by decide) (by decide) (by decide) (fun _ => ⟨v, hv, rfl⟩) (fun q hq e => absurd e (by omega))
theorem od_c {n0 n y p : Nat} {σ0 : bzS} {a2 : Int32} (hI : bzInv n0 σ0) (hn : n ≤ 30) (hy : y ≤ 9999) (hk : pOk (σ0 96) y) (hp : p ≤ 1) : ∀ m v, v + m = 10 → ∀ (F : Nat) (σ : bzS) (c : Nat), m < F → c ≤ v → (∀ k, (k < 55 ∨ 70 < k) → σ k = σ0 k) →
    ∃ τ, fl_X9_odds_42 0 (nI n) a2 (nI p) F (nI c) (nI v) σ = some (mLow (nI (pOd (σ0 96) n a2 m v c)) (nI p), τ) ∧ ∀ k, (k < 55 ∨ 70 < k) → τ k = σ0 k := by
  intro m
  induction m with
  | zero =>
    intro v hv F σ c hF hc h
    obtain ⟨F, rfl⟩ : ∃ x, F = x + 1 := ⟨F - 1, by omega⟩
    have e : v = 10 := by omega
    subst e
    refine ⟨σ, ?_, h⟩
    show fb_X9_odds_42 (fl_X9_odds_42 0 (nI n) a2 (nI p) F) 0 (nI n) a2 (nI p) (nI c) (nI 10) σ = _
    unfold fb_X9_odds_42
    rw [if_pos (show (10 : Int32) ≤ nI 10 by decide), low_c c hc p hp, bzBdS]; rfl
  | succ m ih =>
    intro v hv F σ c hF hc h
    obtain ⟨F, rfl⟩ : ∃ x, F = x + 1 := ⟨F - 1, by omega⟩
    obtain ⟨τ, t1, t2⟩ := th_new hI h
    have t3 := th_set (p := 3) (c := 55) (j := 5) (nI (10 * v)) t2 rfl rfl rfl (by decide)
    obtain ⟨κ, k1, k2⟩ := th_pass (show n ≤ 60 by omega) t3 (pOk_want hk (by omega)) (by omega)
    show ∃ ρ, fb_X9_odds_42 (fl_X9_odds_42 0 (nI n) a2 (nI p) F) 0 (nI n) a2 (nI p) (nI c) (nI v) σ = some (mLow (nI (if a2 < pYrs (-1) n (upd (σ0 96) 3 (nI (10 * v))) 4 then pOd (σ0 96) n a2 m (v + 1) c else pOd (σ0 96) n a2 m (v + 1) (c + 1))) (nI p), ρ) ∧ _
    unfold fb_X9_odds_42
    rw [if_neg (show ¬ (10 : Int32) ≤ nI v from nI_ge (b := 10) (by omega) (by decide)), t1, bzBdS, l_0_3, show (10 : Int32) * nI v = nI (10 * v) from pk_mul 10 v, bzLetS, k1, bzBpS, bzLetS, bzLetS, bzLetS, nI_1, nI_1]
    by_cases q : a2 < pYrs (-1) n (upd (σ0 96) 3 (nI (10 * v))) 4
    · rw [if_pos q, if_pos q]; exact ih (v + 1) (by omega) F κ c (by omega) (by omega) k2.2.2
    · rw [if_neg q, if_neg q]; exact ih (v + 1) (by omega) F κ (c + 1) (by omega) (by omega) k2.2.2
theorem od_m {f : Nat → Int32} {n y : Nat} {σ1 : bzS} {a2 a3 : Int32} (hn : n ≤ 30) (hy : y ≤ 9999) (hk : pOk f y) : ∀ m v, v + m = 10 → ∀ (F : Nat) (σ : bzS) (c : Nat), m < F → mdT (-1) f f σ1 σ →
    ∃ τ, fl_X10_odds_54 95 (nI n) a2 a3 F (nI c) (nI v) σ = some (mLow (nI (pOd f n a2 m v c)) a3, τ) ∧ mdT (-1) f f σ1 τ := by
  intro m
  induction m with
  | zero =>
    intro v hv F σ c hF h
    obtain ⟨F, rfl⟩ : ∃ x, F = x + 1 := ⟨F - 1, by omega⟩
    have e : v = 10 := by omega
    subst e
    refine ⟨σ, ?_, h⟩
    show fb_X10_odds_54 (fl_X10_odds_54 95 (nI n) a2 a3 F) 95 (nI n) a2 a3 (nI c) (nI 10) σ = some (mLow (nI c) a3, σ)
    unfold fb_X10_odds_54 mLow
    rw [if_pos (show (10 : Int32) ≤ nI 10 by decide)]
    repeat' split
    all_goals rfl
  | succ m ih =>
    intro v hv F σ c hF h
    obtain ⟨F, rfl⟩ : ∃ x, F = x + 1 := ⟨F - 1, by omega⟩
    obtain ⟨κ, k1, k2⟩ := md_behind (q := 4) (show n ≤ 60 by omega) (by decide) (md_set (p := 3) (nI (10 * v)) h (by decide)) (pOk_want hk (by omega)) (by omega)
    have k1 : f_X10_behind 95 (nI n) 4 (bzSt σ 96 3 (nI (10 * v))) = _ := k1
    show ∃ ρ, fb_X10_odds_54 (fl_X10_odds_54 95 (nI n) a2 a3 F) 95 (nI n) a2 a3 (nI c) (nI v) σ = some (mLow (nI (if a2 < pYrs (-1) n (upd f 3 (nI (10 * v))) 4 then pOd f n a2 m (v + 1) c else pOd f n a2 m (v + 1) (c + 1))) a3, ρ) ∧ _
    unfold fb_X10_odds_54
    rw [if_neg (show ¬ (10 : Int32) ≤ nI v from nI_ge (b := 10) (by omega) (by decide)), l_95_0, show (10 : Int32) * nI v = nI (10 * v) from pk_mul 10 v, bzLetS, k1, bzBpS, bzLetS, bzLetS, bzLetS, bzLetS, nI_1, nI_1, Int32.add_zero]
    by_cases q : a2 < pYrs (-1) n (upd f 3 (nI (10 * v))) 4
    · rw [if_pos q, if_pos q]; exact ih (v + 1) (by omega) F κ c (by omega) k2
    · rw [if_neg q, if_neg q]; exact ih (v + 1) (by omega) F κ (c + 1) (by omega) k2
theorem st_odds : bzSt_odds bzInv := by
  intro a1 a2 a3 σ n hn hI
  obtain ⟨y, hy, hk⟩ := pOk_I hI
  rcases cutR a1 (n := 30) (lo := 0) (N := 30) rfl (Or.inl rfl) (by decide) with c1 | ⟨c1, c1', q, hq, rfl⟩
  · refine err1 hI ?_ (fun τ _ => ?_)
    · unfold f_X9_odds; rw [g_0, wi_0 c1, bzBdS, if_pos rfl]; rfl
    · unfold f_X10_odds; rw [g_95, in_0 c1, bzBdS, if_pos rfl]; rfl
  rcases cutR a2 (n := 99) (lo := 0) (N := 99) rfl (Or.inl rfl) (by decide) with c2 | ⟨c2, c2', -⟩
  · refine err1 hI ?_ (fun τ _ => ?_)
    · unfold f_X9_odds; rw [g_0, wi_1 c1 c1', bzBdS, if_neg one_ne, wi_0 c2, bzBdS, if_pos rfl]; rfl
    · unfold f_X10_odds; rw [g_95, in_1 c1 c1', bzBdS, if_neg one_ne, in_0 c2, bzBdS, if_pos rfl]; rfl
  rcases cutR a3 (n := 1) (lo := 0) (N := 1) rfl (Or.inl rfl) (by decide) with c3 | ⟨c3, c3', p, hp, rfl⟩
  · refine err1 hI ?_ (fun τ _ => ?_)
    · unfold f_X9_odds; rw [g_0, wi_1 c1 c1', bzBdS, if_neg one_ne, wi_1 c2 c2', bzBdS, if_neg one_ne, wi_0 c3, bzBdS, if_pos rfl]; rfl
    · unfold f_X10_odds; rw [g_95, in_1 c1 c1', bzBdS, if_neg one_ne, in_1 c2 c2', bzBdS, if_neg one_ne, in_0 c3, bzBdS, if_pos rfl]; rfl
  obtain ⟨κ, k1, k2⟩ := od_c (a2 := a2) hI hq hy hk hp 10 0 rfl 2000 σ 0 (by decide) (Nat.le_refl _) (fun k _ => rfl)
  obtain ⟨ρ, r1, r2⟩ := md_start hI k2
  obtain ⟨ω, w1, w2⟩ := od_m (a2 := a2) (a3 := nI p) hq hy hk 10 0 rfl 2000 ρ 0 (by decide) r2
  refine ⟨mLow (nI (pOd (σ 96) q a2 10 0 0)) (nI p), κ, ω, ?_, ?_, inv_th hI k2 w2⟩
  · unfold f_X9_odds
    rw [g_0, wi_1 c1 c1', bzBdS, if_neg one_ne, wi_1 c2 c2', bzBdS, if_neg one_ne, wi_1 c3 c3', bzBdS, if_neg one_ne]; exact k1
  · unfold f_X10_odds
    rw [g_95, in_1 c1 c1', bzBdS, if_neg one_ne, in_1 c2 c2', bzBdS, if_neg one_ne, in_1 c3 c3', bzBdS, if_neg one_ne, l_95_0, l_95_2, r1, bzBdS]; exact w1
