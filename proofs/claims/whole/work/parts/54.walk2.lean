set_option linter.unusedVariables false
theorem pj_or (v x : Int32) : pvJoin 124 v x = if v = 0 then (if x = 0 then 0 else 1) else 1 := by
  by_cases h1 : v = 0 <;> by_cases h2 : x = 0 <;> simp [pvJoin, f_X2_joined, h1, h2]
theorem pj_and (v x : Int32) : pvJoin 38 v x = if v = 0 then 0 else (if x = 0 then 0 else 1) := by
  by_cases h1 : v = 0 <;> by_cases h2 : x = 0 <;> simp [pvJoin, f_X2_joined, h1, h2]
theorem pj_lt (v x : Int32) : pvJoin 60 v x = if x ≤ v then 0 else 1 := by
  by_cases h1 : x ≤ v <;> simp [pvJoin, f_X2_joined, h1]
theorem pj_eq (v x : Int32) : pvJoin 61 v x = if v = x then 1 else 0 := by
  by_cases h1 : v = x <;> simp [pvJoin, f_X2_joined, h1]
theorem pj_gt (v x : Int32) : pvJoin 62 v x = if v ≤ x then 0 else 1 := by
  by_cases h1 : v ≤ x <;> simp [pvJoin, f_X2_joined, h1]
theorem pj_add (v x : Int32) : pvJoin 43 v x = v + x := by simp [pvJoin, f_X2_joined]
theorem pj_sub (v x : Int32) : pvJoin 45 v x = v - x := by simp [pvJoin, f_X2_joined]
theorem pj_mul (v x : Int32) : pvJoin 42 v x = v * x := by simp [pvJoin, f_X2_joined]
theorem pj_div (v x : Int32) : pvJoin 47 v x = if x = 0 then 0 else v / x := by
  by_cases h1 : x = 0 <;> simp [pvJoin, f_X2_joined, h1, bzGd]
theorem pj_rem (v x : Int32) : pvJoin 37 v x = if x = 0 then 0 else v - v / x * x := by
  by_cases h1 : x = 0 <;> simp [pvJoin, f_X2_joined, h1, bzGd]
def wl0 (N : Nat) : Nat → Int32 → bzS → Option (Int32 × bzS) := fl_X10_whole_5 (fr_X10_factor N).1 (fr_X10_factor N).2.1 (fr_X10_factor N).2.2.1 (fr_X10_factor N).2.2.2.1 (fr_X10_factor N).2.2.2.2.1 (fr_X10_factor N).2.2.2.2.2 95
def wl1 (N : Nat) : Nat → Int32 → bzS → Option (Int32 × bzS) := fl_X10_both_5 (fr_X10_factor N).1 (fr_X10_factor N).2.1 (fr_X10_factor N).2.2.1 (fr_X10_factor N).2.2.2.1 (fr_X10_factor N).2.2.2.2.1 (fr_X10_factor N).2.2.2.2.2 95
def wl3 (N : Nat) : Nat → Int32 → bzS → Option (Int32 × bzS) := fl_X10_sum_5 (fr_X10_factor N).1 (fr_X10_factor N).2.1 (fr_X10_factor N).2.2.1 (fr_X10_factor N).2.2.2.1 (fr_X10_factor N).2.2.2.2.1 (fr_X10_factor N).2.2.2.2.2 95
def wl4 (N : Nat) : Nat → Int32 → bzS → Option (Int32 × bzS) := fl_X10_product_5 (fr_X10_factor N).1 (fr_X10_factor N).2.1 (fr_X10_factor N).2.2.1 (fr_X10_factor N).2.2.2.1 (fr_X10_factor N).2.2.2.2.1 (fr_X10_factor N).2.2.2.2.2 95
theorem wf0 (N : Nat) (σ : bzS) : wkFn (N + 1) 0 95 σ = bzBp (wkFn N 1 95 σ) (fun v s => wl0 N 2000 v s) := g_95
theorem wf1 (N : Nat) (σ : bzS) : wkFn (N + 1) 1 95 σ = bzBp (wkFn N 2 95 σ) (fun v s => wl1 N 2000 v s) := g_95
theorem wf3 (N : Nat) (σ : bzS) : wkFn (N + 1) 3 95 σ = bzBp (wkFn N 4 95 σ) (fun v s => wl3 N 2000 v s) := g_95
theorem wf4 (N : Nat) (σ : bzS) : wkFn (N + 1) 4 95 σ = bzBp (wkFn N 5 95 σ) (fun v s => wl4 N 2000 v s) := g_95
theorem ne_lv {x : Int32} {lv k : Nat} {K : Int32} (h : ¬ ptLv x = lv) (hK : ptLv K = lv) : ¬ x = K := fun c => h (by rw [c]; exact hK)
theorem wstop {σ : bzS} {t : Nat → Int32} {u e p op : Nat} {ok : Bool} {a b c : Int32} (h : wkS σ t u e p op ok a b c) : (ok = false → σ 95 15 = 0) ∧ (ok = true → ¬ σ 95 15 = 0) ∧ σ 95 9 = nI p := by
  refine ⟨?_, ?_, h.2.1⟩
  · rintro rfl; exact h.2.2.2.2.2.2.2.1
  · rintro rfl
    rw [show σ 95 15 = 1 from h.2.2.2.2.2.2.2.1]; exact one_ne
theorem w0_stop {t : Nat → Int32} {u e op N : Nat} {a b c : Int32} (he : e ≤ 50) (hu : u = 0 ∨ u = 1) : ∀ F v σ p ok, p ≤ e → wkS σ t u e p op ok a b c → (ok = false ∨ ¬ ptLv (ptAt t e p) = 0) → wl0 N (F + 1) v σ = some (v, σ) := by
  intro F v σ p ok hp h hc
  obtain ⟨s1, s2, s3⟩ := wstop h
  have nx := wk_byte h he hu hp
  show fb_X10_whole_5 (fr_X10_factor N).1 (fr_X10_factor N).2.1 (fr_X10_factor N).2.2.1 (fr_X10_factor N).2.2.2.1 (fr_X10_factor N).2.2.2.2.1 (fr_X10_factor N).2.2.2.2.2 (wl0 N F) 95 v σ = _
  cases ok with
  | false => simp only [fb_X10_whole_5, s1 rfl, if_true]
  | true =>
    have hc := hc.resolve_left (by decide)
    simp only [fb_X10_whole_5, if_neg (s2 rfl), s3, nx, bzBd, if_neg (ne_lv (K := 124) (k := 0) hc rfl)]
theorem w0_step {t : Nat → Int32} {u e op N : Nat} {a b c : Int32} (he : e ≤ 50) (hu : u = 0 ∨ u = 1) : ∀ F v σ p x τ, p ≤ e → wkS σ t u e p op true a b c → ptLv (ptAt t e p) = 0 → wkFn N 1 95 (bzSt σ 95 9 (σ 95 9 + 1)) = some (x, τ) → wl0 N (F + 1) v σ = wl0 N F (pvJoin (ptAt t e p) v x) τ := by
  intro F v σ p x τ hp h hl hs
  obtain ⟨s1, s2, s3⟩ := wstop h
  have nx := wk_byte h he hu hp
  rw [s3] at hs
  have hs : (fr_X10_factor N).2.2.2.2.1 95 (bzSt σ 95 9 (nI p + 1)) = some (x, τ) := hs
  show fb_X10_whole_5 (fr_X10_factor N).1 (fr_X10_factor N).2.1 (fr_X10_factor N).2.2.1 (fr_X10_factor N).2.2.2.1 (fr_X10_factor N).2.2.2.2.1 (fr_X10_factor N).2.2.2.2.2 (wl0 N F) 95 v σ = _
  rcases ptLv_cs hl (by decide) with ⟨-, hc⟩ | ⟨q, -⟩ | ⟨q, -⟩ | ⟨q, -⟩ | ⟨q, -⟩ <;> first | (exact absurd q (by decide)) | skip
  rw [hc] at nx ⊢
  rw [pj_or]
  simp only [fb_X10_whole_5, if_neg (s2 rfl), s3, nx, bzBd, if_true, bzLet, hs, bzBp]
  by_cases h1 : v = 0
  · by_cases h2 : x = 0
    · rw [if_pos h1, if_pos h2, if_pos h1, if_pos h2]
    · rw [if_pos h1, if_neg h2, if_pos h1, if_neg h2]
  · rw [if_neg h1, if_neg h1]
theorem w1_stop {t : Nat → Int32} {u e op N : Nat} {a b c : Int32} (he : e ≤ 50) (hu : u = 0 ∨ u = 1) : ∀ F v σ p ok, p ≤ e → wkS σ t u e p op ok a b c → (ok = false ∨ ¬ ptLv (ptAt t e p) = 1) → wl1 N (F + 1) v σ = some (v, σ) := by
  intro F v σ p ok hp h hc
  obtain ⟨s1, s2, s3⟩ := wstop h
  have nx := wk_byte h he hu hp
  show fb_X10_both_5 (fr_X10_factor N).1 (fr_X10_factor N).2.1 (fr_X10_factor N).2.2.1 (fr_X10_factor N).2.2.2.1 (fr_X10_factor N).2.2.2.2.1 (fr_X10_factor N).2.2.2.2.2 (wl1 N F) 95 v σ = _
  cases ok with
  | false => simp only [fb_X10_both_5, s1 rfl, if_true]
  | true =>
    have hc := hc.resolve_left (by decide)
    simp only [fb_X10_both_5, if_neg (s2 rfl), s3, nx, bzBd, if_neg (ne_lv (K := 38) (k := 0) hc rfl)]
theorem w1_step {t : Nat → Int32} {u e op N : Nat} {a b c : Int32} (he : e ≤ 50) (hu : u = 0 ∨ u = 1) : ∀ F v σ p x τ, p ≤ e → wkS σ t u e p op true a b c → ptLv (ptAt t e p) = 1 → wkFn N 2 95 (bzSt σ 95 9 (σ 95 9 + 1)) = some (x, τ) → wl1 N (F + 1) v σ = wl1 N F (pvJoin (ptAt t e p) v x) τ := by
  intro F v σ p x τ hp h hl hs
  obtain ⟨s1, s2, s3⟩ := wstop h
  have nx := wk_byte h he hu hp
  rw [s3] at hs
  have hs : (fr_X10_factor N).2.2.2.1 95 (bzSt σ 95 9 (nI p + 1)) = some (x, τ) := hs
  show fb_X10_both_5 (fr_X10_factor N).1 (fr_X10_factor N).2.1 (fr_X10_factor N).2.2.1 (fr_X10_factor N).2.2.2.1 (fr_X10_factor N).2.2.2.2.1 (fr_X10_factor N).2.2.2.2.2 (wl1 N F) 95 v σ = _
  rcases ptLv_cs hl (by decide) with ⟨q, -⟩ | ⟨-, hc⟩ | ⟨q, -⟩ | ⟨q, -⟩ | ⟨q, -⟩ <;> first | (exact absurd q (by decide)) | skip
  rw [hc] at nx ⊢
  rw [pj_and]
  simp only [fb_X10_both_5, if_neg (s2 rfl), s3, nx, bzBd, if_true, bzLet, hs, bzBp]
  by_cases h1 : v = 0
  · rw [if_pos h1, if_pos h1]
  · by_cases h2 : x = 0
    · rw [if_neg h1, if_pos h2, if_neg h1, if_pos h2]
    · rw [if_neg h1, if_neg h2, if_neg h1, if_neg h2]
theorem w3_stop {t : Nat → Int32} {u e op N : Nat} {a b c : Int32} (he : e ≤ 50) (hu : u = 0 ∨ u = 1) : ∀ F v σ p ok, p ≤ e → wkS σ t u e p op ok a b c → (ok = false ∨ ¬ ptLv (ptAt t e p) = 3) → wl3 N (F + 1) v σ = some (v, σ) := by
  intro F v σ p ok hp h hc
  obtain ⟨s1, s2, s3⟩ := wstop h
  have nx := wk_byte h he hu hp
  show fb_X10_sum_5 (fr_X10_factor N).1 (fr_X10_factor N).2.1 (fr_X10_factor N).2.2.1 (fr_X10_factor N).2.2.2.1 (fr_X10_factor N).2.2.2.2.1 (fr_X10_factor N).2.2.2.2.2 (wl3 N F) 95 v σ = _
  cases ok with
  | false => simp only [fb_X10_sum_5, s1 rfl, if_true]
  | true =>
    have hc := hc.resolve_left (by decide)
    simp only [fb_X10_sum_5, if_neg (s2 rfl), s3, nx, bzBd, if_neg (ne_lv (K := 43) (k := 0) hc rfl), if_neg (ne_lv (K := 45) (k := 0) hc rfl)]
theorem w3_step {t : Nat → Int32} {u e op N : Nat} {a b c : Int32} (he : e ≤ 50) (hu : u = 0 ∨ u = 1) : ∀ F v σ p x τ, p ≤ e → wkS σ t u e p op true a b c → ptLv (ptAt t e p) = 3 → wkFn N 4 95 (bzSt σ 95 9 (σ 95 9 + 1)) = some (x, τ) → wl3 N (F + 1) v σ = wl3 N F (pvJoin (ptAt t e p) v x) τ := by
  intro F v σ p x τ hp h hl hs
  obtain ⟨s1, s2, s3⟩ := wstop h
  have nx := wk_byte h he hu hp
  rw [s3] at hs
  have hs : (fr_X10_factor N).2.1 95 (bzSt σ 95 9 (nI p + 1)) = some (x, τ) := hs
  show fb_X10_sum_5 (fr_X10_factor N).1 (fr_X10_factor N).2.1 (fr_X10_factor N).2.2.1 (fr_X10_factor N).2.2.2.1 (fr_X10_factor N).2.2.2.2.1 (fr_X10_factor N).2.2.2.2.2 (wl3 N F) 95 v σ = _
  rcases ptLv_cs hl (by decide) with ⟨q, -⟩ | ⟨q, -⟩ | ⟨q, -⟩ | ⟨-, hc | hc⟩ | ⟨q, -⟩ <;> first | (exact absurd q (by decide)) | skip
  · rw [hc] at nx ⊢
    rw [pj_add]
    simp only [fb_X10_sum_5, fb_X10_sum_38, if_neg (s2 rfl), s3, nx, bzBd, if_true, bzLet, hs, bzBp]
  · rw [hc] at nx ⊢
    rw [pj_sub]
    simp only [fb_X10_sum_5, fb_X10_sum_38, if_neg (s2 rfl), s3, nx, bzBd, if_true, bzLet, hs, bzBp, if_neg (show ¬ (45 : Int32) = 43 by decide)]
theorem w4_stop {t : Nat → Int32} {u e op N : Nat} {a b c : Int32} (he : e ≤ 50) (hu : u = 0 ∨ u = 1) : ∀ F v σ p ok, p ≤ e → wkS σ t u e p op ok a b c → (ok = false ∨ ¬ ptLv (ptAt t e p) = 4) → wl4 N (F + 1) v σ = some (v, σ) := by
  intro F v σ p ok hp h hc
  obtain ⟨s1, s2, s3⟩ := wstop h
  have nx := wk_byte h he hu hp
  show fb_X10_product_5 (fr_X10_factor N).1 (fr_X10_factor N).2.1 (fr_X10_factor N).2.2.1 (fr_X10_factor N).2.2.2.1 (fr_X10_factor N).2.2.2.2.1 (fr_X10_factor N).2.2.2.2.2 (wl4 N F) 95 v σ = _
  cases ok with
  | false => simp only [fb_X10_product_5, s1 rfl, if_true]
  | true =>
    have hc := hc.resolve_left (by decide)
    simp only [fb_X10_product_5, if_neg (s2 rfl), s3, nx, bzBd, if_neg (ne_lv (K := 42) (k := 0) hc rfl), if_neg (ne_lv (K := 47) (k := 0) hc rfl), if_neg (ne_lv (K := 37) (k := 0) hc rfl)]
theorem w4_step {t : Nat → Int32} {u e op N : Nat} {a b c : Int32} (he : e ≤ 50) (hu : u = 0 ∨ u = 1) : ∀ F v σ p x τ, p ≤ e → wkS σ t u e p op true a b c → ptLv (ptAt t e p) = 4 → wkFn N 5 95 (bzSt σ 95 9 (σ 95 9 + 1)) = some (x, τ) → wl4 N (F + 1) v σ = wl4 N F (pvJoin (ptAt t e p) v x) τ := by
  intro F v σ p x τ hp h hl hs
  obtain ⟨s1, s2, s3⟩ := wstop h
  have nx := wk_byte h he hu hp
  rw [s3] at hs
  have hs : (fr_X10_factor N).1 95 (bzSt σ 95 9 (nI p + 1)) = some (x, τ) := hs
  show fb_X10_product_5 (fr_X10_factor N).1 (fr_X10_factor N).2.1 (fr_X10_factor N).2.2.1 (fr_X10_factor N).2.2.2.1 (fr_X10_factor N).2.2.2.2.1 (fr_X10_factor N).2.2.2.2.2 (wl4 N F) 95 v σ = _
  rcases ptLv_cs hl (by decide) with ⟨q, -⟩ | ⟨q, -⟩ | ⟨q, -⟩ | ⟨q, -⟩ | ⟨-, hc | hc | hc⟩ <;> first | (exact absurd q (by decide)) | skip
  · rw [hc] at nx ⊢
    rw [pj_mul]
    simp only [fb_X10_product_5, fb_X10_product_51, if_neg (s2 rfl), s3, nx, bzBd, if_true, bzLet, hs, bzBp]
  · rw [hc] at nx ⊢
    rw [pj_div]
    simp only [fb_X10_product_5, fb_X10_product_51, if_neg (s2 rfl), s3, nx, bzBd, if_true, bzLet, hs, bzBp, if_neg (show ¬ (47 : Int32) = 42 by decide)]
    by_cases h1 : x = 0
    · rw [if_pos h1, if_pos h1]
    · rw [if_neg h1, if_neg h1, bzGdT h1]
  · rw [hc] at nx ⊢
    rw [pj_rem]
    simp only [fb_X10_product_5, fb_X10_product_51, if_neg (s2 rfl), s3, nx, bzBd, if_true, bzLet, hs, bzBp, if_neg (show ¬ (37 : Int32) = 42 by decide), if_neg (show ¬ (37 : Int32) = 47 by decide)]
    by_cases h1 : x = 0
    · rw [if_pos h1, if_pos h1]
    · rw [if_neg h1, if_neg h1, bzGdT h1]
theorem wf2_stop {t : Nat → Int32} {u e op N p : Nat} {a b c v : Int32} (he : e ≤ 50) (hu : u = 0 ∨ u = 1) {σ τ : bzS} {ok : Bool} (hs : wkFn N 3 95 σ = some (v, τ)) (hp : p ≤ e) (h : wkS τ t u e p op ok a b c) (hc : ok = false ∨ ¬ ptLv (ptAt t e p) = 2) : wkFn (N + 1) 2 95 σ = some (v, τ) := by
  obtain ⟨s1, s2, s3⟩ := wstop h
  have nx := wk_byte h he hu hp
  have hs : (fr_X10_factor N).2.2.1 95 σ = some (v, τ) := hs
  show fm_X10_compared (fr_X10_factor N).1 (fr_X10_factor N).2.1 (fr_X10_factor N).2.2.1 (fr_X10_factor N).2.2.2.1 (fr_X10_factor N).2.2.2.2.1 (fr_X10_factor N).2.2.2.2.2 95 σ = _
  cases ok with
  | false => simp only [fm_X10_compared, g_95, hs, bzBp, s1 rfl, if_true]
  | true =>
    have hc := hc.resolve_left (by decide)
    simp only [fm_X10_compared, g_95, hs, bzBp, if_neg (s2 rfl), s3, nx, bzBd, if_neg (ne_lv (K := 60) (k := 0) hc rfl), if_neg (ne_lv (K := 61) (k := 0) hc rfl), if_neg (ne_lv (K := 62) (k := 0) hc rfl)]
theorem wf2_step {t : Nat → Int32} {u e op N p : Nat} {a b c v x : Int32} (he : e ≤ 50) (hu : u = 0 ∨ u = 1) {σ τ ρ : bzS} (hs : wkFn N 3 95 σ = some (v, τ)) (hp : p ≤ e) (h : wkS τ t u e p op true a b c) (hl : ptLv (ptAt t e p) = 2) (hs2 : wkFn N 3 95 (bzSt τ 95 9 (τ 95 9 + 1)) = some (x, ρ)) : wkFn (N + 1) 2 95 σ = some (pvJoin (ptAt t e p) v x, ρ) := by
  obtain ⟨s1, s2, s3⟩ := wstop h
  have nx := wk_byte h he hu hp
  rw [s3] at hs2
  have hs : (fr_X10_factor N).2.2.1 95 σ = some (v, τ) := hs
  have hs2 : (fr_X10_factor N).2.2.1 95 (bzSt τ 95 9 (nI p + 1)) = some (x, ρ) := hs2
  show fm_X10_compared (fr_X10_factor N).1 (fr_X10_factor N).2.1 (fr_X10_factor N).2.2.1 (fr_X10_factor N).2.2.2.1 (fr_X10_factor N).2.2.2.2.1 (fr_X10_factor N).2.2.2.2.2 95 σ = _
  rcases ptLv_cs hl (by decide) with ⟨q, -⟩ | ⟨q, -⟩ | ⟨-, hc | hc | hc⟩ | ⟨q, -⟩ | ⟨q, -⟩ <;> first | (exact absurd q (by decide)) | skip
  · rw [hc] at nx ⊢
    rw [pj_lt]
    simp only [fm_X10_compared, fb_X10_compared_45, g_95, hs, bzBp, if_neg (s2 rfl), s3, nx, bzBd, if_true, bzLet, hs2]
    by_cases h1 : x ≤ v
    · rw [if_pos h1, if_pos h1]
    · rw [if_neg h1, if_neg h1]
  · rw [hc] at nx ⊢
    rw [pj_eq]
    simp only [fm_X10_compared, fb_X10_compared_45, g_95, hs, bzBp, if_neg (s2 rfl), s3, nx, bzBd, if_true, bzLet, hs2, if_neg (show ¬ (61 : Int32) = 60 by decide)]
    by_cases h1 : v = x
    · rw [if_pos h1, if_pos h1]
    · rw [if_neg h1, if_neg h1]
  · rw [hc] at nx ⊢
    rw [pj_gt]
    simp only [fm_X10_compared, fb_X10_compared_45, g_95, hs, bzBp, if_neg (s2 rfl), s3, nx, bzBd, if_true, bzLet, hs2, if_neg (show ¬ (62 : Int32) = 60 by decide), if_neg (show ¬ (62 : Int32) = 61 by decide)]
    by_cases h1 : v ≤ x
    · rw [if_pos h1, if_pos h1]
    · rw [if_neg h1, if_neg h1]
theorem nm33 {u : Nat} (hu : u = 0 ∨ u = 1) : ptNm u 33 = none ∧ ptNm u 40 = none := by rcases hu with rfl | rfl <;> exact ⟨rfl, rfl⟩
theorem pv_name {a b c k : Int32} (h : k = -1 ∨ k = -2 ∨ k = -3) (st : List Int32) : pvStep a b c st k = pvOp k a b c :: st := by
  rcases h with rfl | rfl | rfl <;> rfl
theorem pv_num {a b c : Int32} {v : Nat} (h : v ≤ 9999) (st : List Int32) : pvStep a b c st (nI v) = nI v :: st := by
  have h3 : ¬ nI v < -3 := fun hc => nI_n0 (show v < 2 ^ 31 by omega) (Int32.lt_trans hc (by decide))
  have e : pvOp (nI v) a b c = nI v := by
    unfold pvOp f_X2_operand
    rw [if_neg (nI_n0 (by omega))]; rfl
  unfold pvStep
  rw [if_neg h3, e]
theorem wk_main {t : Nat → Int32} {u e : Nat} {a b c : Int32} (he : e ≤ 50) (hu : u = 0 ∨ u = 1) : ∀ n lv op p r, lv ≤ 5 → op ≤ 5 → p ≤ e → ptRead t e u n lv op p = some r → ∀ N, (5 - lv) + 1 + 6 * (5 - op) ≤ N → ∀ σ, wkS σ t u e p op true a b c → wkX t u e op a b c (wkFn N lv 95 σ) σ [] r := by
  intro n
  induction n with
  | zero => intro lv op p r _ _ _ h; exact no_some h
  | succ n ih =>
    intro lv op p r h5 ho hp hr N hN σ h
    obtain ⟨N, rfl⟩ : ∃ x, N = x + 1 := ⟨N - 1, by omega⟩
    by_cases hlv : lv < 5
    · rw [ptRead_l hlv] at hr
      cases hs : ptRead t e u n (lv + 1) op p with
      | none => rw [hs] at hr; exact no_some hr
      | some s =>
        rw [hs] at hr
        have hr : ptMore t e lv (fun q => ptRead t e u n (lv + 1) op q) (if lv = 2 then 1 else 50) s.1 s.2.1 s.2.2 = some r := hr
        obtain ⟨v, τ, t1, t2, t3, t4⟩ := ih (lv + 1) op p s (by omega) ho hp hs N (by omega) σ h
        obtain ⟨b1, b2, b3, b4⟩ := ptRead_b _ _ _ _ _ hp hs
        have hb : ∀ p r, p ≤ e → ptRead t e u n (lv + 1) op p = some r → ptOk e p 0 r := fun p r hp h => ptRead_b _ _ _ _ _ hp h
        have hsub : ∀ p r, p ≤ e → ptRead t e u n (lv + 1) op p = some r → ∀ σ, wkS σ t u e p op true a b c → wkX t u e op a b c (wkFn N (lv + 1) 95 σ) σ [] r := fun p r hp h σ h1 => ih (lv + 1) op p r (by omega) ho hp h N (by omega) σ h1
        rcases (show lv = 0 ∨ lv = 1 ∨ lv = 2 ∨ lv = 3 ∨ lv = 4 by omega) with rfl | rfl | rfl | rfl | rfl
        · obtain ⟨w, ω, w1, w2, w3, w4⟩ := wk_more he hlv hb hsub (w0_stop (N := N) he hu) (w0_step (N := N) he hu) 50 2000 _ _ _ _ v (by decide) (fun hq => by have := b4 hq; omega) hr τ t2 b2 t4
          exact ⟨w, ω, by rw [wf0, t1]; exact w1, w2, t3.trans w3, w4⟩
        · obtain ⟨w, ω, w1, w2, w3, w4⟩ := wk_more he hlv hb hsub (w1_stop (N := N) he hu) (w1_step (N := N) he hu) 50 2000 _ _ _ _ v (by decide) (fun hq => by have := b4 hq; omega) hr τ t2 b2 t4
          exact ⟨w, ω, by rw [wf1, t1]; exact w1, w2, t3.trans w3, w4⟩
        · rw [if_pos rfl] at hr
          cases hok : s.2.2 with
          | false =>
            rw [hok] at hr t2
            rw [ptMore_f] at hr
            obtain rfl := Option.some.inj hr
            exact ⟨v, τ, wf2_stop he hu t1 b2 t2 (Or.inl rfl), t2, t3, fun hq => Bool.noConfusion hq⟩
          | true =>
            rw [hok] at hr t2
            by_cases hl : ptLv (ptAt t e s.2.1) = 2
            · have hp1 : s.2.1 < e := ptLv_in (t := t) (by omega)
              cases hsb : ptRead t e u n 3 op (s.2.1 + 1) with
              | none => rw [ptMore_z hl hsb] at hr; exact no_some hr
              | some q =>
                rw [ptMore_s hl hsb] at hr
                obtain rfl := Option.some.inj hr
                obtain ⟨a1, a2⟩ := wk_at t2
                obtain ⟨x, ρ, r1, r2, r3, r4⟩ := hsub _ _ hp1 hsb _ a1
                refine ⟨_, ρ, wf2_step he hu t1 b2 t2 hl r1, r2, (t3.trans a2).trans r3, fun hq st => ?_⟩
                rw [List.foldl_append, t4 hok, List.foldl_append, r4 hq]
                exact pv_sign hl (by decide)
            · rw [ptMore_n _ _ _ _ hl] at hr
              obtain rfl := Option.some.inj hr
              exact ⟨v, τ, wf2_stop he hu t1 b2 t2 (Or.inr hl), t2, t3, fun _ => t4 hok⟩
        · obtain ⟨w, ω, w1, w2, w3, w4⟩ := wk_more he hlv hb hsub (w3_stop (N := N) he hu) (w3_step (N := N) he hu) 50 2000 _ _ _ _ v (by decide) (fun hq => by have := b4 hq; omega) hr τ t2 b2 t4
          exact ⟨w, ω, by rw [wf3, t1]; exact w1, w2, t3.trans w3, w4⟩
        · obtain ⟨w, ω, w1, w2, w3, w4⟩ := wk_more he hlv hb hsub (w4_stop (N := N) he hu) (w4_step (N := N) he hu) 50 2000 _ _ _ _ v (by decide) (fun hq => by have := b4 hq; omega) hr τ t2 b2 t4
          exact ⟨w, ω, by rw [wf4, t1]; exact w1, w2, t3.trans w3, w4⟩
    · have e5 : lv = 5 := by omega
      subst e5
      rw [ptRead_5 hlv] at hr
      have nx := wk_byte h he hu hp
      have h9 : σ 95 9 = nI p := h.2.1
      have h11 : σ 95 11 = nI op := h.2.2.2.1
      obtain ⟨n33, n40⟩ := nm33 hu
      obtain ⟨f1, f2, f3⟩ := wk_bad h
      obtain ⟨nk, nn⟩ := wk_named he hu h (ptAt t e p)
      show wkX t u e op a b c (fm_X10_factor (fr_X10_factor N).1 (fr_X10_factor N).2.1 (fr_X10_factor N).2.2.1 (fr_X10_factor N).2.2.2.1 (fr_X10_factor N).2.2.2.2.1 (fr_X10_factor N).2.2.2.2.2 95 σ) σ [] r
      have opn : op < 5 → ∀ lv2 s, lv2 ≤ 5 → p < e → ptRead t e u n lv2 (op + 1) (p + 1) = some s → (5 - lv2) + 6 * (5 - op) ≤ N + 5 → ∃ v τ, wkFn N lv2 95 (bzSt (bzSt σ 95 11 (σ 95 11 + 1)) 95 9 (bzSt σ 95 11 (σ 95 11 + 1) 95 9 + 1)) = some (v, τ) ∧ wkS (bzSt τ 95 11 (τ 95 11 - 1)) t u e s.2.1 op s.2.2 a b c ∧ wkF σ (bzSt τ 95 11 (τ 95 11 - 1)) ∧ (s.2.2 = true → ∀ st, s.1.foldl (pvStep a b c) st = v :: st) := by
        intro ho5 lv2 s hl2 hp1 hs hN2
        obtain ⟨a1, a2⟩ := wk_op (op + 1) h
        obtain ⟨c1, c2⟩ := wk_at a1
        obtain ⟨v, τ, t1, t2, t3, t4⟩ := ih lv2 (op + 1) (p + 1) s hl2 (by omega) hp1 hs N (by omega) _ c1
        obtain ⟨d1, d2⟩ := wk_op op t2
        have e11 : τ 95 11 - 1 = nI op := by rw [show τ 95 11 = nI (op + 1) from t2.2.2.2.1, nI_pred]
        rw [h11, nI_1]
        exact ⟨v, τ, t1, by rw [e11]; exact d1, by rw [e11]; exact ((a2.trans c2).trans t3).trans d2, t4⟩
      rcases ptUn_cs hr with ⟨hd, rfl⟩ | ⟨hd, k, hk, rfl⟩ | ⟨hd, hk, h33, ho5, s, hs, rfl⟩ | ⟨hd, hk, h40, ho5, s, hs, h2⟩ | ⟨hd, hk, h33, h40, rfl⟩
      · obtain ⟨v, q, h1, h2, h3, h4⟩ := ptNum_4 hd
        obtain ⟨τ, t1, t2, t3⟩ := wk_num (u := u) (op := op) (a := a) (b := b) (c := c) he hu 4 0 rfl 2000 0 p v q σ (by decide) h hp h1
        rw [h1]
        have u1 : f_X10_number 95 σ = some (nI v, τ) := t1
        refine ⟨nI v, τ, ?_, t2, t3, fun _ st => pv_num h4 st⟩
        simp only [fm_X10_factor, g_95, h9, nx, bzBd, dg_m, if_pos hd, if_neg one_ne, u1, bzBp]
      · have e33 : ¬ ptAt t e p = 33 := fun q => by rw [q, n33] at hk; exact no_some hk
        have e40 : ¬ ptAt t e p = 40 := fun q => by rw [q, n40] at hk; exact no_some hk
        obtain ⟨a1, a2⟩ := wk_at h
        refine ⟨_, _, ?_, a1, a2, fun _ st => pv_name (nm_ne hk) st⟩
        simp only [fm_X10_factor, g_95, h9, nx, bzBd, dg_m, hd, Bool.false_eq_true, if_false, if_true, if_neg e33, if_neg e40, nk k hk, bzBp]
      · have hp1 : p < e := ptAt_lt (by rw [h33]; decide)
        obtain ⟨v, τ, t1, t2, t3, t4⟩ := opn ho5 5 s (by decide) hp1 hs (by omega)
        have t1 : (fr_X10_factor N).1 95 _ = some (v, τ) := t1
        have no5 : ¬ σ 95 11 = 5 := by rw [h11]; exact fun q => absurd ((nI_eq (b := 5) (by omega) (by decide)).mp q) (by omega)
        have d33 : ptDg 33 = false := rfl
        rw [h33] at nx
        refine ⟨if v = 0 then 1 else 0, _, ?_, t2, t3, fun hq st => ?_⟩
        · simp only [fm_X10_factor, fb_X10_factor_39, fb_X10_factor_89, g_95, h9, nx, bzBd, dg_m, d33, Bool.false_eq_true, if_false, if_true, if_neg no5, bzLet]
          rw [t1]
          by_cases hv : v = 0
          · simp only [bzBp, if_pos hv]
          · simp only [bzBp, if_neg hv]
        · rw [List.foldl_append, t4 hq]; rfl
      · have hp1 : p < e := ptAt_lt (by rw [h40]; decide)
        obtain ⟨v, τ, t1, t2, t3, t4⟩ := opn ho5 0 s (by decide) hp1 hs (by omega)
        have t1 : (fr_X10_factor N).2.2.2.2.2 95 _ = some (v, τ) := t1
        have no5 : ¬ σ 95 11 = 5 := by rw [h11]; exact fun q => absurd ((nI_eq (b := 5) (by omega) (by decide)).mp q) (by omega)
        have d40 : ptDg 40 = false := rfl
        obtain ⟨b1, b2, b3, b4⟩ := ptRead_b _ _ _ _ _ hp1 hs
        rw [h40] at nx
        obtain ⟨s1, s2, s3⟩ := wstop t2
        have ny := wk_byte t2 he hu b2
        obtain ⟨y1, y2, y3⟩ := wk_bad t2
        obtain ⟨z1, z2⟩ := wk_at t2
        have no33 : ¬ (40 : Int32) = 33 := by decide
        rcases h2 with ⟨c1, c2, rfl⟩ | ⟨c1, rfl⟩
        · refine ⟨v, _, ?_, by rw [c1] at z1; exact z1, t3.trans z2, fun _ => t4 c1⟩
          rw [c2] at ny
          simp only [fm_X10_factor, fb_X10_factor_39, g_95, h9, nx, bzBd, dg_m, d40, Bool.false_eq_true, if_false, if_true, if_neg no33, if_neg no5, bzLet]
          rw [t1]
          simp only [bzBp, fb_X10_factor_89, bzLet, if_neg no33, if_neg (s2 c1), s3, ny, bzBd, if_true]
        · refine ⟨0, _, ?_, y2, t3.trans y3, fun hq => Bool.noConfusion hq⟩
          simp only [fm_X10_factor, fb_X10_factor_39, g_95, h9, nx, bzBd, dg_m, d40, Bool.false_eq_true, if_false, if_true, if_neg no33, if_neg no5, bzLet]
          rw [t1]
          cases hok : s.2.2 with
          | false => simp only [bzBp, fb_X10_factor_89, bzLet, if_neg no33, s1 hok, if_true, y1]
          | true =>
            have n41 : ¬ ptAt t e s.2.1 = 41 := fun q => c1 ⟨hok, q⟩
            simp only [bzBp, fb_X10_factor_89, bzLet, if_neg no33, if_neg (s2 hok), s3, ny, bzBd, if_neg n41, y1]
      · have o5 : ¬ op < 5 → σ 95 11 = 5 := fun q => by rw [h11, show op = 5 by omega]; rfl
        refine ⟨0, _, ?_, f2, f3, fun hq => Bool.noConfusion hq⟩
        simp only [fm_X10_factor, fb_X10_factor_39, g_95, h9, nx, bzBd, dg_m, hd, Bool.false_eq_true, if_false, if_true]
        by_cases e33 : ptAt t e p = 33
        · rw [if_pos e33, if_pos (o5 (fun q => h33 ⟨e33, q⟩)), f1]; rfl
        · rw [if_neg e33]
          by_cases e40 : ptAt t e p = 40
          · rw [if_pos e40, if_pos (o5 (fun q => h40 ⟨e40, q⟩)), f1]; rfl
          · rw [if_neg e40, nn hk]; rfl
