set_option linter.unusedVariables false
/-! YEARS: one pure function of a year -/
def pMin (n x : Int32) : Int32 := if x < n then x else n
def pMax0 (x : Int32) : Int32 := if 0 < x then x else 0
theorem min_c (n x : Int32) : f_J_min n x = some (pMin n x) := by
  unfold f_J_min pMin
  by_cases h : x < n
  · rw [if_pos h, if_pos h]
  · rw [if_neg h, if_neg h]
theorem max_c (x : Int32) : f_J_max 0 x = some (pMax0 x) := by
  unfold f_J_max pMax0
  by_cases h : 0 < x
  · rw [if_pos h, if_pos h]
  · rw [if_neg h, if_neg h]
theorem hold_min {n x : Int32} (h : ¬ x < 0) : pHold n x = pMin n x := by
  unfold pHold pMin
  rw [if_neg h]
  by_cases h1 : n < x
  · rw [if_pos h1, if_neg (fun c => Int32.lt_irrefl (Int32.lt_trans c h1))]
  · rw [if_neg h1]
    by_cases h2 : x < n
    · rw [if_pos h2]
    · rw [if_neg h2]; exact Int32.le_antisymm (le_of_nlt h1) (le_of_nlt h2)
theorem hold_max {n x : Int32} (h : ¬ n < x) : pHold n x = pMax0 x := by
  unfold pHold pMax0
  by_cases h1 : x < 0
  · rw [if_pos h1, if_neg (fun c => Int32.lt_irrefl (Int32.lt_trans c h1))]
  · rw [if_neg h1, if_neg h]
    by_cases h2 : 0 < x
    · rw [if_pos h2]
    · rw [if_neg h2]; exact Int32.le_antisymm (le_of_nlt h2) (le_of_nlt h1)
theorem pMin_n {a : Nat} (h : a < 2 ^ 31) : ∃ k : Nat, k ≤ 99 ∧ k ≤ a ∧ pMin 99 (nI a) = nI k := by
  unfold pMin
  by_cases c : a < 99
  · exact ⟨a, by omega, Nat.le_refl _, if_pos (nI_lt (b := 99) c (by decide))⟩
  · exact ⟨99, Nat.le_refl _, by omega, if_neg (nI_nlt (b := 99) (by omega) h)⟩
theorem pMax0_n {a b : Nat} (ha : a < 2 ^ 30) (hb : b < 2 ^ 30) : ∃ k : Nat, k ≤ a ∧ pMax0 (nI a - nI b) = nI k := by
  unfold pMax0
  by_cases c : b < a
  · refine ⟨a - b, by omega, ?_⟩
    rw [pk_sub (by omega), if_pos (show 0 < nI (a - b) from nI_lt (a := 0) (by omega) (by omega))]
  · refine ⟨0, by omega, if_neg ?_⟩
    rw [Int32.lt_iff_toInt_lt, pk_sub_toInt ha hb]
    have : (0 : Int32).toInt = 0 := rfl
    omega
theorem pHold_n {N : Int32} {n : Nat} (hN : nI n = N) (hn : n < 2 ^ 31) (x : Int32) : ∃ k : Nat, k ≤ n ∧ pHold N x = nI k := by
  subst hN
  unfold pHold
  rcases pk_ix x (n := n) hn with h | h | ⟨j, h1, rfl⟩
  · exact ⟨0, by omega, if_pos h⟩
  · by_cases h2 : nI n < x
    · refine ⟨n, Nat.le_refl _, ?_⟩
      rw [if_neg (fun c => nI_n0 hn (Int32.lt_trans h2 c)), if_pos h2]
    · have : x = nI n := Int32.le_antisymm (le_of_nlt h2) h
      subst this
      exact ⟨n, Nat.le_refl _, by rw [if_neg (nI_n0 hn), if_neg h2]⟩
  · exact ⟨j, by omega, by rw [if_neg (nI_n0 (by omega)), if_neg (nI_nlt (by omega) hn)]⟩
theorem pLaw_n (f : Nat → Int32) (u : Nat) (a b c : Int32) : ∃ k : Nat, k ≤ 20 ∧ pLaw f u a b c = nI k := by
  unfold pLaw
  have h20 := fun x => pHold_n (N := 20) (n := 20) rfl (by decide) x
  have h9 := fun x => pHold_n (N := 9) (n := 9) rfl (by decide) x
  by_cases h1 : f (10 + u) < 0
  · rw [if_pos h1]
    by_cases h2 : u = 0
    · rw [if_pos h2]; exact h20 b
    · rw [if_neg h2]
      obtain ⟨k, hk, e⟩ := h9 (a / 10)
      exact ⟨k, by omega, e⟩
  · rw [if_neg h1]
    by_cases h2 : u = 0
    · rw [if_pos h2]; exact h20 _
    · rw [if_neg h2]
      obtain ⟨k, hk, e⟩ := h9 (pvVal (fun j => f (154 + 50 * u + j)) (f (10 + u)).toNatClampNeg u a b c)
      exact ⟨k, by omega, e⟩
theorem pLaw_c {f g : Nat → Int32} {u : Nat} (h1 : g (10 + u) = f (10 + u)) (h2 : ∀ j, g (154 + 50 * u + j) = f (154 + 50 * u + j)) (a b c : Int32) : pLaw g u a b c = pLaw f u a b c := by
  have : (fun j => g (154 + 50 * u + j)) = fun j => f (154 + 50 * u + j) := funext h2
  unfold pLaw
  rw [h1, this]
/-- what the visitors leave of WANT: m of them, from the i-th on -/
def pVisW (aw : Int32) (f : Nat → Int32) (y r h : Int32) : Nat → Nat → Int32 → Int32
  | 0, _, w => w
  | m + 1, i, w => pVisW aw f y r h m (i + 1) (if nI i = aw then w else if pComes (f (52 + 4 * i + 0)) (f (52 + 4 * i + 1)) (f (52 + 4 * i + 3)) y r = 0 then w else pMax0 (w - pKeeps (f (52 + 4 * i + 0)) (f (52 + 4 * i + 1)) (f (52 + 4 * i + 2)) w h))
def pW0 (f : Nat → Int32) (y : Nat) : Int32 := pMin 99 (f 3 + pLaw f 0 (f 3) (pHeat f y) (f 4))
def pW (aw : Int32) (f : Nat → Int32) (y : Nat) : Int32 := pVisW aw f (nI y) (pRain f y) (pHeat f y) (f 2).toNatClampNeg 0 (pW0 f y)
def pYr4 (f : Nat → Int32) (w l h y : Int32) : Nat → Int32 := upd (upd (upd (upd f 3 w) 4 l) 5 h) 0 y
/-- a year of a row -/
def pYr (aw : Int32) (f : Nat → Int32) : Nat → Int32 := pYr4 f (pW aw f (f 0).toNatClampNeg) (pMin 99 (f 4 + pLaw f 1 (pW aw f (f 0).toNatClampNeg) (pHeat f (f 0).toNatClampNeg) (f 5))) (pMin 99 (pMax0 (f 5 - pHeat f (f 0).toNatClampNeg) + pRain f (f 0).toNatClampNeg)) (f 0 + 1)
theorem pYr4_o {f : Nat → Int32} {w l h y : Int32} {p : Nat} (h0 : p ≠ 0) (h3 : p ≠ 3) (h4 : p ≠ 4) (h5 : p ≠ 5) : pYr4 f w l h y p = f p := by
  unfold pYr4; rw [pk_un h0, pk_un h5, pk_un h4, pk_un h3]
theorem pYr_o {aw : Int32} {f : Nat → Int32} {p : Nat} (h0 : p ≠ 0) (h3 : p ≠ 3) (h4 : p ≠ 4) (h5 : p ≠ 5) : pYr aw f p = f p := pYr4_o h0 h3 h4 h5
/-- a row that years may pass over -/
def pOk (f : Nat → Int32) (y : Nat) : Prop := bzRg f ∧ bzLw f ∧ f 0 = nI y ∧ y < 20000
theorem vis_b {f : Nat → Int32} (hR : bzRg f) {i : Nat} (hi : i < 8) : ∃ k m l e : Nat, k ≤ 6 ∧ m ≤ 9 ∧ l ≤ 9 ∧ e ≤ 12 ∧ f (52 + 4 * i + 0) = nI k ∧ f (52 + 4 * i + 1) = nI m ∧ f (52 + 4 * i + 2) = nI l ∧ f (52 + 4 * i + 3) = nI e := by
  have g : ∀ w, w < 4 → ∃ k : Nat, k ≤ (if w = 0 then 6 else if w = 3 then 12 else 9) ∧ f (52 + 4 * i + w) = nI k := fun w hw => by
    obtain ⟨p0, m0, j0, x0⟩ := vis_p i hi w hw
    have q := hR.1 (52 + 4 * i + w) p0 (by omega) (by omega)
    rw [x0] at q
    exact q
  obtain ⟨k, k1, k2⟩ := g 0 (by decide)
  obtain ⟨m, m1, m2⟩ := g 1 (by decide)
  obtain ⟨l, l1, l2⟩ := g 2 (by decide)
  obtain ⟨e, e1, e2⟩ := g 3 (by decide)
  exact ⟨k, m, l, e, k1, m1, l1, e1, k2, m2, l2, e2⟩
theorem keeps_n {k m l : Nat} (hm : m ≤ 9) (hl : l ≤ 9) (w h : Int32) : ∃ q : Nat, q ≤ 100 ∧ pKeeps (nI k) (nI m) (nI l) w h = nI q := by
  have e2 : nI l / 2 = nI (l / 2) := pk_div (d := 2) (by omega) (by decide) (by decide)
  have e3 : nI m / 3 = nI (m / 3) := pk_div (d := 3) (by omega) (by decide) (by decide)
  unfold pKeeps
  rw [e2, e3, nI_add, show (2 : Int32) * nI (l / 2 + m / 3) = nI (2 * (l / 2 + m / 3)) from pk_mul 2 _, show nI l + 2 = nI (l + 2) from nI_add l 2]
  by_cases c1 : nI k = 1
  · rw [if_pos c1]; exact ⟨l, by omega, rfl⟩
  rw [if_neg c1]
  by_cases c2 : nI k = 2
  · rw [if_pos c2]; exact ⟨1, by omega, rfl⟩
  rw [if_neg c2]
  by_cases c3 : nI k = 3
  · rw [if_pos c3]; exact ⟨_, by omega, rfl⟩
  rw [if_neg c3]
  by_cases c4 : nI k = 4
  · rw [if_pos c4]
    by_cases ch : h ≤ 5
    · rw [if_pos ch]; exact ⟨l, by omega, rfl⟩
    · rw [if_neg ch]; exact ⟨_, by omega, rfl⟩
  rw [if_neg c4]
  by_cases c5 : nI k = 5
  · rw [if_pos c5]; exact ⟨2, by omega, rfl⟩
  rw [if_neg c5]
  by_cases c6 : nI k = 6
  · rw [if_pos c6]
    by_cases ch : w ≤ 60
    · rw [if_pos ch]; exact ⟨_, by omega, rfl⟩
    · rw [if_neg ch]; exact ⟨0, by omega, rfl⟩
  rw [if_neg c6]; exact ⟨_, by omega, rfl⟩
theorem pVisW_n {aw : Int32} {f : Nat → Int32} (hR : bzRg f) (y r h : Int32) : ∀ m i (k : Nat), i + m ≤ 8 → k ≤ 99 → ∃ q : Nat, q ≤ 99 ∧ pVisW aw f y r h m i (nI k) = nI q := by
  intro m
  induction m with
  | zero => intro i k _ hk; exact ⟨k, hk, rfl⟩
  | succ m ih =>
    intro i k hi hk
    obtain ⟨kk, mm, ll, ee, k1, k2, k3, k4, k5, k6, k7, k8⟩ := vis_b hR (i := i) (by omega)
    show ∃ q : Nat, q ≤ 99 ∧ pVisW aw f y r h m (i + 1) _ = nI q
    by_cases c1 : nI i = aw
    · rw [if_pos c1]; exact ih (i + 1) k (by omega) hk
    · rw [if_neg c1]
      by_cases c2 : pComes (f (52 + 4 * i + 0)) (f (52 + 4 * i + 1)) (f (52 + 4 * i + 3)) y r = 0
      · rw [if_pos c2]; exact ih (i + 1) k (by omega) hk
      · rw [if_neg c2, k5, k6, k7]
        obtain ⟨q, q1, q2⟩ := keeps_n (k := kk) k2 k3 (nI k) h
        rw [q2]
        obtain ⟨x, x1, x2⟩ := pMax0_n (a := k) (b := q) (by omega) (by omega)
        rw [x2]
        exact ih (i + 1) x (by omega) (by omega)
theorem pOk.n {f : Nat → Int32} {y : Nat} (h : pOk f y) : ∃ N w l a : Nat, N ≤ 8 ∧ w ≤ 99 ∧ l ≤ 99 ∧ a ≤ 99 ∧ f 2 = nI N ∧ f 3 = nI w ∧ f 4 = nI l ∧ f 5 = nI a := by
  obtain ⟨N, n1, n2⟩ := h.1.1 2 rfl (by decide) (by decide)
  obtain ⟨w, w1, w2⟩ := h.1.1 3 rfl (by decide) (by decide)
  obtain ⟨l, l1, l2⟩ := h.1.1 4 rfl (by decide) (by decide)
  obtain ⟨a, a1, a2⟩ := h.1.1 5 rfl (by decide) (by decide)
  exact ⟨N, w, l, a, n1, w1, l1, a1, n2, w2, l2, a2⟩
theorem sea_n {f : Nat → Int32} (hR : bzRg f) (y : Nat) : ∃ h r : Nat, h ≤ 9 ∧ r ≤ 9 ∧ pHeat f y = nI h ∧ pRain f y = nI r := by
  have key : ∀ i, i < 6 → plB (12 + 2 * i) = true ∧ plB (13 + 2 * i) = true ∧ mx (12 + 2 * i) = 9 ∧ mx (13 + 2 * i) = 9 := by decide +kernel
  obtain ⟨p1, p2, p3, p4⟩ := key (y % 6) (Nat.mod_lt _ (by decide))
  obtain ⟨h, h1, h2⟩ := hR.1 _ p1 (by omega) (by omega)
  obtain ⟨r, r1, r2⟩ := hR.1 _ p2 (by omega) (by omega)
  rw [p3] at h1
  rw [p4] at r1
  exact ⟨h, r, h1, r1, h2, r2⟩
theorem pW0_n {f : Nat → Int32} {y : Nat} (h : pOk f y) (z : Nat) : ∃ k q : Nat, k ≤ 99 ∧ q ≤ 200 ∧ pW0 f z = nI k ∧ f 3 + pLaw f 0 (f 3) (pHeat f z) (f 4) = nI q := by
  obtain ⟨N, w, l, a, n1, w1, l1, a1, n2, w2, l2, a2⟩ := h.n
  obtain ⟨k, k1, k2⟩ := pLaw_n f 0 (f 3) (pHeat f z) (f 4)
  have e : f 3 + pLaw f 0 (f 3) (pHeat f z) (f 4) = nI (w + k) := by rw [k2, w2, nI_add]
  obtain ⟨q, q1, q2, q3⟩ := pMin_n (a := w + k) (by omega)
  exact ⟨q, w + k, q1, by omega, by unfold pW0; rw [e, q3], e⟩
theorem pW_n {aw : Int32} {f : Nat → Int32} {y : Nat} (h : pOk f y) (z : Nat) : ∃ k : Nat, k ≤ 99 ∧ pW aw f z = nI k := by
  obtain ⟨N, w, l, a, n1, w1, l1, a1, n2, w2, l2, a2⟩ := h.n
  obtain ⟨k, q, k1, q1, k2, -⟩ := pW0_n h z
  unfold pW
  rw [n2, clN (by omega), k2]
  exact pVisW_n h.1 _ _ _ N 0 k (by omega) k1
theorem pYr_ok {aw : Int32} {f : Nat → Int32} {y : Nat} (h : pOk f y) (hy : y + 1 < 20000) : pOk (pYr aw f) (y + 1) := by
  obtain ⟨N, w, l, a, n1, w1, l1, a1, n2, w2, l2, a2⟩ := h.n
  obtain ⟨hh, rr, h1, r1, h2, r2⟩ := sea_n h.1 (f 0).toNatClampNeg
  obtain ⟨wk, wk1, wk2⟩ := pW_n (aw := aw) h (f 0).toNatClampNeg
  obtain ⟨lk, lk1, lk2⟩ := pLaw_n f 1 (pW aw f (f 0).toNatClampNeg) (pHeat f (f 0).toNatClampNeg) (f 5)
  obtain ⟨ln, ln1, -, ln2⟩ := pMin_n (a := l + lk) (by omega)
  obtain ⟨m, m1, m2⟩ := pMax0_n (a := a) (b := hh) (by omega) (by omega)
  obtain ⟨hn, hn1, -, hn2⟩ := pMin_n (a := m + rr) (by omega)
  refine ⟨⟨fun p hp h0 h1 => ?_, fun i hi hf => ?_⟩, fun u hu => ?_, ?_, hy⟩
  · by_cases c3 : p = 3
    · subst c3
      exact ⟨wk, wk1, (show pYr aw f 3 = pW aw f (f 0).toNatClampNeg from rfl).trans wk2⟩
    · by_cases c4 : p = 4
      · subst c4
        refine ⟨ln, ln1, ?_⟩
        show pMin 99 (f 4 + pLaw f 1 (pW aw f (f 0).toNatClampNeg) (pHeat f (f 0).toNatClampNeg) (f 5)) = _
        rw [lk2, l2, nI_add, ln2]
      · by_cases c5 : p = 5
        · subst c5
          refine ⟨hn, hn1, ?_⟩
          show pMin 99 (pMax0 (f 5 - pHeat f (f 0).toNatClampNeg) + pRain f (f 0).toNatClampNeg) = _
          rw [h2, r2, a2, m2, nI_add, hn2]
        · rw [pYr_o h0 c3 c4 c5]; exact h.1.1 p hp h0 h1
  · rw [pYr_o (by decide) (by decide) (by decide) (by decide)] at hf
    rw [pYr_o (by omega) (by omega) (by omega) (by omega)]; exact h.1.2 i hi hf
  · rw [pYr_o (by omega) (by omega) (by omega) (by omega), show (fun j => pYr aw f (154 + 50 * u + j)) = fun j => f (154 + 50 * u + j) from funext (fun j => pYr_o (by omega) (by omega) (by omega) (by omega))]
    exact h.2.1 u hu
  · show f 0 + 1 = nI (y + 1)
    rw [h.2.2.1, nI_1]
theorem upd2 {f : Nat → Int32} {p : Nat} {v w : Int32} : upd (upd f p v) p w = upd f p w := by
  funext j
  by_cases c : j = p
  · subst c; rw [pk_us, pk_us]
  · rw [pk_un c, pk_un c, pk_un c]
theorem cp_in : ∀ p, p < 84 → cpB p = true → mc p ≤ 8 := by decide +kernel
theorem cr_set {σ : bzS} {b p : Nat} {f : Nat → Int32} (v : Int32) (h : bzCR σ b f) (hp : cpB p = true) : bzCR (bzSt σ (b + mc p) (mj p) v) b (upd f p v) := by
  have hl := cpB_lt hp
  have hm := cp_in p hl hp
  have hq := plB_lt (cpB_pl p hl hp)
  refine ⟨fun q hq => ?_, h.2.1.ext ?_ ?_ ?_ ?_ ?_, h.2.2.ext ?_ ?_ ?_ ?_ ?_⟩
  · have hql := cpB_lt hq
    by_cases hqp : q = p
    · subst hqp; rw [st_s, pk_us, pk_us]
    · rw [pk_un hqp]
      by_cases hc : mc q = mc p
      · have hj := (mp_inj q hql p hl hqp).resolve_left (fun c => c hc)
        rw [hc, st_s, pk_un hj, ← hc]; exact h.1 q hq
      · rw [st_o (by omega)]; exact h.1 q hq
  · rw [st_o (by omega)]
  · rw [st_o (by omega)]
  · rw [st_o (by omega)]
  · exact pk_un (by omega)
  · funext j; exact pk_un (by omega)
  · rw [st_o (by omega)]
  · rw [st_o (by omega)]
  · rw [st_o (by omega)]
  · exact pk_un (by omega)
  · funext j; exact pk_un (by omega)
theorem cr_frame {σ τ : bzS} {b : Nat} {f : Nat → Int32} (h : bzCR σ b f) (hk : ∀ k, b ≤ k → k ≤ b + 15 → k ≠ b + 12 → τ k = σ k) : bzCR τ b f := by
  refine ⟨fun q hq => ?_, h.2.1.ext ?_ ?_ ?_ rfl rfl, h.2.2.ext ?_ ?_ ?_ rfl rfl⟩
  · have hm := cp_in q (cpB_lt hq) hq
    rw [hk _ (by omega) (by omega) (by omega)]; exact h.1 q hq
  all_goals rw [hk _ (by omega) (by omega) (by omega)]
theorem comes_aw {σ : bzS} {V i N : Nat} {y r : Int32} (hV : V = 5 ∨ V = 58) (hi : i < N) (hN : N ≤ 8) (h4 : σ V 4 = nI N) (h5 : nI i = σ V 5) : f_X7_comes V (nI i) y r σ = some 0 := by
  have hh : f_X7_has V (nI i) σ = some 1 := by
    rcases hV with rfl | rfl <;> simp [f_X7_has, g_0, g_95, g_1, g_2, g_5, g_18, g_24, g_26, g_79, g_80, g_72, l_0_0, l_0_1, l_0_3, l_0_4, l_0_5, l_0_6, l_0_7, l_1_0, l_1_1, l_1_2, l_1_3, l_2_0, l_2_1, l_2_2, l_2_3, l_2_4, l_5_0, l_5_1, l_5_2, l_5_3, l_18_0, l_18_1, l_18_2, l_18_3, l_18_4, l_24_0, l_26_0, l_79_0, l_80_0, l_95_0, l_95_1, l_95_2, l_95_3, l_95_6, l_95_16, l_95_17, l_95_18, l_95_19, l_95_20, l_95_21, l_95_22, bzBd, bzBp, bzLet, bzOp, f_X10_in, f_X9_within, e_f1, e_f2, e_f3, e_f4, e_f5, e_e1, e_e2, e_e3, e_e4, e_e5, g_58, nI_n0 (show i < 2 ^ 31 by omega), h4, nI_ge hi (by omega), show ¬ (8 : Int32) < nI N from nI_nlt (b := N) (a := 8) hN (by decide)]
  have ek : kd V = 7 := by rcases hV with rfl | rfl <;> rfl
  unfold f_X7_comes
  rw [bzGdT ek, hh, bzBdS, if_neg one_ne, if_pos h5]
