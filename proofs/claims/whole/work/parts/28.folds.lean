/-! SUMS AND SETS of a herd -/
def ab_sum (g : Nat → Nat) : Nat → Nat
  | 0 => 0
  | n + 1 => ab_sum g n + g n
def ab_or (g : Nat → Int32) : Nat → Int32
  | 0 => nI 0
  | n + 1 => ab_or g n ||| g n
def ab_br (a : ab_T) : Nat → Bool
  | 0 => false
  | n + 1 => ab_br a n || decide (a 1 n = 0)
theorem bn_or0 (x : Int32) : x ||| nI 0 = x := by
  show x ||| 0 = x
  exact Int32.or_zero
def ab_con (a : ab_T) (p c : Nat) : Int32 := if a 5 c = p then bm_shl (nI 1) (nI c) else nI 0
def ab_muf (a : ab_T) (c : Nat) : Int32 := bm_shl (nI (a 10 c)) (nI c)
def ab_grz (a : ab_T) (c : Nat) : Int32 := bm_shl (nI 1) (nI (a 5 c))
def ab_fld (a : ab_T) (t : Nat) : Int32 := if 0 < a 2 t then bm_shl (nI 1) (nI t) else nI 0
theorem bn_0lt {a : Nat} (ha : a < 2147483648) : decide (0 < nI a) = decide (0 < a) := by
  have := bn_lt (a := 0) (b := a) (by decide) ha
  exact this

theorem hc_milk_l (X : bm_X) {o : Nat} (ho : bm_isH o) {σ : bm_M} {a : ab_T} (hH : ab_H o σ a) (hG : ab_G a) {k : Nat} : ∀ (n j : Nat), j + n = 12 → bm_ev X 8 4 [.ref o, .int (nI (ab_sum (a 2) (j))), .int (nI j)] [] σ = some (.int (nI (ab_sum (a 2) (12))), σ) := by
  intro n
  induction n with
  | zero =>
    intro j hj
    rw [bb_8_4 _ _ _ ho]
    rw [show j = 12 by omega]
    simp (disch := omega) only [bn_lt, Nat.lt_irrefl, decide_false, cond_false]
  | succ n ih =>
    intro j hj
    rw [bb_8_4 _ _ _ ho]
    have hj8 : j < 12 := by omega
    have h2 := hH 2 j (ab_w2 hj8)
    have hj' : decide (j < 12) = true := decide_eq_true (by omega)
    have := ih (j + 1) (by omega)
    simp (disch := omega) only [bn_lt, hj', cond_true, bn_inT, bn_clamp, bm_gd_t, bn_add, h2]
    rw [← this]
    rfl
theorem hc_milk (X : bm_X) {o : Nat} (ho : bm_isH o) {σ : bm_M} {a : ab_T} (hH : ab_H o σ a) (hG : ab_G a) {k : Nat} : bm_ev X 8 0 [.ref o, .null, .null] [] σ = some (.int (nI (ab_sum (a 2) (12))), σ) := by
  rw [bb_8_0 _ _ _ ho]
  exact hc_milk_l X ho hH hG (k := k) (12) 0 (by omega)
theorem hc_rungs_l (X : bm_X) {o : Nat} (ho : bm_isH o) {σ : bm_M} {a : ab_T} (hH : ab_H o σ a) (hG : ab_G a) {k : Nat} : ∀ (n j : Nat), j + n = a 0 7 → bm_ev X 9 4 [.ref o, .int (nI (ab_sum (a 9) (j))), .int (nI j)] [] σ = some (.int (nI (ab_sum (a 9) (a 0 7))), σ) := by
  intro n
  induction n with
  | zero =>
    intro j hj
    rw [bb_9_4 _ _ _ ho]
    have h7 := hH 0 7 rfl
    rw [Nat.add_zero] at h7
    have hc := hG.2.2.1
    rw [show j = a 0 7 by omega]
    simp (disch := omega) only [h7, bn_lt, Nat.lt_irrefl, decide_false, cond_false]
  | succ n ih =>
    intro j hj
    rw [bb_9_4 _ _ _ ho]
    have h7 := hH 0 7 rfl
    rw [Nat.add_zero] at h7
    have hc := hG.2.2.1
    have hj8 : j < 8 := by omega
    have h2 := hH 9 j (ab_w8 (by decide) (by decide) hj8)
    have hj' : decide (j < a 0 7) = true := decide_eq_true (by omega)
    have := ih (j + 1) (by omega)
    simp (disch := omega) only [h7, bn_lt, hj', cond_true, bn_inT, bn_clamp, bm_gd_t, bn_add, h2]
    rw [← this]
    rfl
theorem hc_rungs (X : bm_X) {o : Nat} (ho : bm_isH o) {σ : bm_M} {a : ab_T} (hH : ab_H o σ a) (hG : ab_G a) {k : Nat} : bm_ev X 9 0 [.ref o, .null, .null] [] σ = some (.int (nI (ab_sum (a 9) (a 0 7))), σ) := by
  rw [bb_9_0 _ _ _ ho]
  exact hc_rungs_l X ho hH hG (k := k) (a 0 7) 0 (by omega)
theorem hc_green_l (X : bm_X) {o : Nat} (ho : bm_isH o) {σ : bm_M} {a : ab_T} (hH : ab_H o σ a) (hG : ab_G a) {k : Nat} : ∀ (n j : Nat), j + n = 12 → bm_ev X 10 4 [.ref o, .int (nI (ab_sum (a 1) (j))), .int (nI j)] [] σ = some (.int (nI (ab_sum (a 1) (12))), σ) := by
  intro n
  induction n with
  | zero =>
    intro j hj
    rw [bb_10_4 _ _ _ ho]
    rw [show j = 12 by omega]
    simp (disch := omega) only [bn_lt, Nat.lt_irrefl, decide_false, cond_false]
  | succ n ih =>
    intro j hj
    rw [bb_10_4 _ _ _ ho]
    have hj8 : j < 12 := by omega
    have h2 := hH 1 j (ab_w1 hj8)
    have hj' : decide (j < 12) = true := decide_eq_true (by omega)
    have := ih (j + 1) (by omega)
    simp (disch := omega) only [bn_lt, hj', cond_true, bn_inT, bn_clamp, bm_gd_t, bn_add, h2]
    rw [← this]
    rfl
theorem hc_green (X : bm_X) {o : Nat} (ho : bm_isH o) {σ : bm_M} {a : ab_T} (hH : ab_H o σ a) (hG : ab_G a) {k : Nat} : bm_ev X 10 0 [.ref o, .null, .null] [] σ = some (.int (nI (ab_sum (a 1) (12))), σ) := by
  rw [bb_10_0 _ _ _ ho]
  exact hc_green_l X ho hH hG (k := k) (12) 0 (by omega)
theorem hc_cowsOn_l (X : bm_X) {o : Nat} (ho : bm_isH o) {σ : bm_M} {a : ab_T} (hH : ab_H o σ a) (hG : ab_G a) {k : Nat} (hp : k < 12) : ∀ (n j : Nat), j + n = a 0 7 → bm_ev X 11 4 [.ref o, .int (nI k), .int (ab_or (ab_con a k) (j)), .int (nI j)] [] σ = some (.int (ab_or (ab_con a k) (a 0 7)), σ) := by
  intro n
  induction n with
  | zero =>
    intro j hj
    rw [bb_11_4 _ _ _ ho]
    have h7 := hH 0 7 rfl
    rw [Nat.add_zero] at h7
    have hc := hG.2.2.1
    rw [show j = a 0 7 by omega]
    simp (disch := omega) only [h7, bn_lt, Nat.lt_irrefl, decide_false, cond_false]
  | succ n ih =>
    intro j hj
    rw [bb_11_4 _ _ _ ho]
    have h7 := hH 0 7 rfl
    rw [Nat.add_zero] at h7
    have hc := hG.2.2.1
    have hj8 : j < 8 := by omega
    have h2 := hH 5 j (ab_w8 (by decide) (by decide) hj8)
    obtain ⟨-, b5, -⟩ := hG.2.2.2.2.2 j hj8
    have hj' : decide (j < a 0 7) = true := decide_eq_true (by omega)
    have := ih (j + 1) (by omega)
    simp (disch := omega) only [h7, bn_lt, hj', cond_true, bn_inT, bn_clamp, bm_gd_t, bn_add, h2, bn_eq]
    rw [← this]
    by_cases e : a 5 j = k
    · simp [e, ab_or, ab_con]
    · simp [e, ab_or, ab_con, bn_or0]
theorem hc_cowsOn (X : bm_X) {o : Nat} (ho : bm_isH o) {σ : bm_M} {a : ab_T} (hH : ab_H o σ a) (hG : ab_G a) {k : Nat} (hp : k < 12) : bm_ev X 11 0 [.ref o, .int (nI k), .null, .null] [] σ = some (.int (ab_or (ab_con a k) (a 0 7)), σ) := by
  rw [bb_11_0 _ _ _ ho]
  exact hc_cowsOn_l X ho hH hG hp (a 0 7) 0 (by omega)
theorem hc_muffled_l (X : bm_X) {o : Nat} (ho : bm_isH o) {σ : bm_M} {a : ab_T} (hH : ab_H o σ a) (hG : ab_G a) {k : Nat} : ∀ (n j : Nat), j + n = a 0 7 → bm_ev X 12 4 [.ref o, .int (ab_or (ab_muf a) (j)), .int (nI j)] [] σ = some (.int (ab_or (ab_muf a) (a 0 7)), σ) := by
  intro n
  induction n with
  | zero =>
    intro j hj
    rw [bb_12_4 _ _ _ ho]
    have h7 := hH 0 7 rfl
    rw [Nat.add_zero] at h7
    have hc := hG.2.2.1
    rw [show j = a 0 7 by omega]
    simp (disch := omega) only [h7, bn_lt, Nat.lt_irrefl, decide_false, cond_false]
  | succ n ih =>
    intro j hj
    rw [bb_12_4 _ _ _ ho]
    have h7 := hH 0 7 rfl
    rw [Nat.add_zero] at h7
    have hc := hG.2.2.1
    have hj8 : j < 8 := by omega
    have h2 := hH 10 j (ab_w8 (by decide) (by decide) hj8)
    have hj' : decide (j < a 0 7) = true := decide_eq_true (by omega)
    have := ih (j + 1) (by omega)
    simp (disch := omega) only [h7, bn_lt, hj', cond_true, bn_inT, bn_clamp, bm_gd_t, bn_add, h2]
    rw [← this]
    rfl
theorem hc_muffled (X : bm_X) {o : Nat} (ho : bm_isH o) {σ : bm_M} {a : ab_T} (hH : ab_H o σ a) (hG : ab_G a) {k : Nat} : bm_ev X 12 0 [.ref o, .null, .null] [] σ = some (.int (ab_or (ab_muf a) (a 0 7)), σ) := by
  rw [bb_12_0 _ _ _ ho]
  exact hc_muffled_l X ho hH hG (k := k) (a 0 7) 0 (by omega)
theorem hc_grazed_l (X : bm_X) {o : Nat} (ho : bm_isH o) {σ : bm_M} {a : ab_T} (hH : ab_H o σ a) (hG : ab_G a) {k : Nat} : ∀ (n j : Nat), j + n = a 0 7 → bm_ev X 13 4 [.ref o, .int (ab_or (ab_grz a) (j)), .int (nI j)] [] σ = some (.int (ab_or (ab_grz a) (a 0 7)), σ) := by
  intro n
  induction n with
  | zero =>
    intro j hj
    rw [bb_13_4 _ _ _ ho]
    have h7 := hH 0 7 rfl
    rw [Nat.add_zero] at h7
    have hc := hG.2.2.1
    rw [show j = a 0 7 by omega]
    simp (disch := omega) only [h7, bn_lt, Nat.lt_irrefl, decide_false, cond_false]
  | succ n ih =>
    intro j hj
    rw [bb_13_4 _ _ _ ho]
    have h7 := hH 0 7 rfl
    rw [Nat.add_zero] at h7
    have hc := hG.2.2.1
    have hj8 : j < 8 := by omega
    have h2 := hH 5 j (ab_w8 (by decide) (by decide) hj8)
    have hj' : decide (j < a 0 7) = true := decide_eq_true (by omega)
    have := ih (j + 1) (by omega)
    simp (disch := omega) only [h7, bn_lt, hj', cond_true, bn_inT, bn_clamp, bm_gd_t, bn_add, h2]
    rw [← this]
    rfl
theorem hc_grazed (X : bm_X) {o : Nat} (ho : bm_isH o) {σ : bm_M} {a : ab_T} (hH : ab_H o σ a) (hG : ab_G a) {k : Nat} : bm_ev X 13 0 [.ref o, .null, .null] [] σ = some (.int (ab_or (ab_grz a) (a 0 7)), σ) := by
  rw [bb_13_0 _ _ _ ho]
  exact hc_grazed_l X ho hH hG (k := k) (a 0 7) 0 (by omega)
theorem hc_filled_l (X : bm_X) {o : Nat} (ho : bm_isH o) {σ : bm_M} {a : ab_T} (hH : ab_H o σ a) (hG : ab_G a) {k : Nat} : ∀ (n j : Nat), j + n = 12 → bm_ev X 14 4 [.ref o, .int (ab_or (ab_fld a) (j)), .int (nI j)] [] σ = some (.int (ab_or (ab_fld a) (12)), σ) := by
  intro n
  induction n with
  | zero =>
    intro j hj
    rw [bb_14_4 _ _ _ ho]
    rw [show j = 12 by omega]
    simp (disch := omega) only [bn_lt, Nat.lt_irrefl, decide_false, cond_false]
  | succ n ih =>
    intro j hj
    rw [bb_14_4 _ _ _ ho]
    have hj8 : j < 12 := by omega
    have h2 := hH 2 j (ab_w2 hj8)
    have b2 := hG.2.2.2.2.1 j hj8
    have hj' : decide (j < 12) = true := decide_eq_true (by omega)
    have := ih (j + 1) (by omega)
    simp (disch := omega) only [bn_lt, hj', cond_true, bn_inT, bn_clamp, bm_gd_t, bn_add, h2, bn_0lt]
    rw [← this]
    by_cases e : 0 < a 2 j
    · simp [e, ab_or, ab_fld]
    · simp [e, ab_or, ab_fld, bn_or0]
theorem hc_filled (X : bm_X) {o : Nat} (ho : bm_isH o) {σ : bm_M} {a : ab_T} (hH : ab_H o σ a) (hG : ab_G a) {k : Nat} : bm_ev X 14 0 [.ref o, .null, .null] [] σ = some (.int (ab_or (ab_fld a) (12)), σ) := by
  rw [bb_14_0 _ _ _ ho]
  exact hc_filled_l X ho hH hG (k := k) (12) 0 (by omega)
theorem hm_pails_l (X : bm_X) {σ : bm_M} {a : ab_T} (hS : ab_S 46 σ a) (hG : ab_G a) {k : Nat} : ∀ (n j : Nat), j + n = 12 → bm_ev X 39 4 [.ref 45, .int (nI (ab_sum (a 2) (j))), .int (nI j)] [] σ = some (.int (nI (ab_sum (a 2) (12))), σ) := by
  intro n
  induction n with
  | zero =>
    intro j hj
    rw [bb_39_4]
    rw [show j = 12 by omega]
    simp (disch := omega) only [bn_inT, bn_clamp, bm_gd_t, bn_lt, Nat.lt_irrefl, decide_false, cond_false]
  | succ n ih =>
    intro j hj
    rw [bb_39_4]
    have hj8 : j < 12 := by omega
    have h2 : σ 46 (17 + j) = nI (a 2 j) := hS 2 j (ab_w2 hj8)
    have hj' : decide (j < 12) = true := decide_eq_true (by omega)
    have := ih (j + 1) (by omega)
    simp (disch := omega) only [bn_inT, bn_clamp, bm_gd_t, bn_lt, hj', cond_true, bn_add, bm_bI_some, h2]
    rw [← this]
    rfl
theorem hm_pails (X : bm_X) {σ : bm_M} {a : ab_T} (hS : ab_S 46 σ a) (hG : ab_G a) {k : Nat} : bm_ev X 39 0 [.ref 45, .null, .null] [] σ = some (.int (nI (ab_sum (a 2) (12))), σ) := by
  rw [bb_39_0]
  exact hm_pails_l X hS hG (k := k) (12) 0 (by omega)
theorem hm_rungs_l (X : bm_X) {σ : bm_M} {a : ab_T} (hS : ab_S 46 σ a) (hG : ab_G a) {k : Nat} : ∀ (n j : Nat), j + n = a 0 7 → bm_ev X 86 4 [.ref 45, .int (nI (ab_sum (a 9) (j))), .int (nI j)] [] σ = some (.int (nI (ab_sum (a 9) (a 0 7))), σ) := by
  intro n
  induction n with
  | zero =>
    intro j hj
    rw [bb_86_4]
    have h7 : σ 46 2 = nI (a 0 7) := hS 0 7 rfl
    have hc := hG.2.2.1
    rw [show j = a 0 7 by omega]
    simp (disch := omega) only [bn_inT, bn_clamp, bm_gd_t, h7, bn_lt, Nat.lt_irrefl, decide_false, cond_false]
  | succ n ih =>
    intro j hj
    rw [bb_86_4]
    have h7 : σ 46 2 = nI (a 0 7) := hS 0 7 rfl
    have hc := hG.2.2.1
    have hj8 : j < 8 := by omega
    have hj' : decide (j < a 0 7) = true := decide_eq_true (by omega)
    have := ih (j + 1) (by omega)
    simp (disch := omega) only [bn_inT, bn_clamp, bm_gd_t, h7, bn_lt, hj', cond_true, bn_add, bm_bI_some, hm_it5 X hS hG hj8]
    rw [← this]
    rfl
theorem hm_rungs (X : bm_X) {σ : bm_M} {a : ab_T} (hS : ab_S 46 σ a) (hG : ab_G a) {k : Nat} : bm_ev X 86 0 [.ref 45, .null, .null] [] σ = some (.int (nI (ab_sum (a 9) (a 0 7))), σ) := by
  rw [bb_86_0]
  exact hm_rungs_l X hS hG (k := k) (a 0 7) 0 (by omega)
theorem hm_green_l (X : bm_X) {σ : bm_M} {a : ab_T} (hS : ab_S 46 σ a) (hG : ab_G a) {k : Nat} : ∀ (n j : Nat), j + n = 12 → bm_ev X 40 4 [.ref 45, .int (nI (ab_sum (a 1) (j))), .int (nI j)] [] σ = some (.int (nI (ab_sum (a 1) (12))), σ) := by
  intro n
  induction n with
  | zero =>
    intro j hj
    rw [bb_40_4]
    rw [show j = 12 by omega]
    simp (disch := omega) only [bn_inT, bn_clamp, bm_gd_t, bn_lt, Nat.lt_irrefl, decide_false, cond_false]
  | succ n ih =>
    intro j hj
    rw [bb_40_4]
    have hj8 : j < 12 := by omega
    have h2 : σ 46 (5 + j) = nI (a 1 j) := hS 1 j (ab_w1 hj8)
    have hj' : decide (j < 12) = true := decide_eq_true (by omega)
    have := ih (j + 1) (by omega)
    simp (disch := omega) only [bn_inT, bn_clamp, bm_gd_t, bn_lt, hj', cond_true, bn_add, bm_bI_some, h2]
    rw [← this]
    rfl
theorem hm_green (X : bm_X) {σ : bm_M} {a : ab_T} (hS : ab_S 46 σ a) (hG : ab_G a) {k : Nat} : bm_ev X 40 0 [.ref 45, .null, .null] [] σ = some (.int (nI (ab_sum (a 1) (12))), σ) := by
  rw [bb_40_0]
  exact hm_green_l X hS hG (k := k) (12) 0 (by omega)
theorem hm_cowsOn_l (X : bm_X) {σ : bm_M} {a : ab_T} (hS : ab_S 46 σ a) (hG : ab_G a) {k : Nat} (hp : k < 12) : ∀ (n j : Nat), j + n = a 0 7 → bm_ev X 82 4 [.ref 45, .int (nI k), .int (ab_or (ab_con a k) (j)), .int (nI j)] [] σ = some (.int (ab_or (ab_con a k) (a 0 7)), σ) := by
  intro n
  induction n with
  | zero =>
    intro j hj
    rw [bb_82_4]
    have h7 : σ 46 2 = nI (a 0 7) := hS 0 7 rfl
    have hc := hG.2.2.1
    rw [show j = a 0 7 by omega]
    simp (disch := omega) only [bn_inT, bn_clamp, bm_gd_t, h7, bn_lt, Nat.lt_irrefl, decide_false, cond_false]
  | succ n ih =>
    intro j hj
    rw [bb_82_4]
    have h7 : σ 46 2 = nI (a 0 7) := hS 0 7 rfl
    have hc := hG.2.2.1
    have hj8 : j < 8 := by omega
    obtain ⟨-, b5, -⟩ := hG.2.2.2.2.2 j hj8
    have hj' : decide (j < a 0 7) = true := decide_eq_true (by omega)
    have := ih (j + 1) (by omega)
    simp (disch := omega) only [bn_inT, bn_clamp, bm_gd_t, h7, bn_lt, hj', cond_true, bn_add, bm_bI_some, hm_it1 X hS hG hj8, bn_eq, bb_82_22]
    rw [← this]
    by_cases e : a 5 j = k
    · simp [e, ab_or, ab_con]
    · simp [e, ab_or, ab_con]
theorem hm_cowsOn (X : bm_X) {σ : bm_M} {a : ab_T} (hS : ab_S 46 σ a) (hG : ab_G a) {k : Nat} (hp : k < 12) : bm_ev X 82 0 [.ref 45, .int (nI k), .null, .null] [] σ = some (.int (ab_or (ab_con a k) (a 0 7)), σ) := by
  rw [bb_82_0]
  exact hm_cowsOn_l X hS hG hp (a 0 7) 0 (by omega)
theorem hm_muffled_l (X : bm_X) {σ : bm_M} {a : ab_T} (hS : ab_S 46 σ a) (hG : ab_G a) {k : Nat} : ∀ (n j : Nat), j + n = a 0 7 → bm_ev X 87 4 [.ref 45, .int (ab_or (ab_muf a) (j)), .int (nI j)] [] σ = some (.int (ab_or (ab_muf a) (a 0 7)), σ) := by
  intro n
  induction n with
  | zero =>
    intro j hj
    rw [bb_87_4]
    have h7 : σ 46 2 = nI (a 0 7) := hS 0 7 rfl
    have hc := hG.2.2.1
    rw [show j = a 0 7 by omega]
    simp (disch := omega) only [bn_inT, bn_clamp, bm_gd_t, h7, bn_lt, Nat.lt_irrefl, decide_false, cond_false]
  | succ n ih =>
    intro j hj
    rw [bb_87_4]
    have h7 : σ 46 2 = nI (a 0 7) := hS 0 7 rfl
    have hc := hG.2.2.1
    have hj8 : j < 8 := by omega
    have hj' : decide (j < a 0 7) = true := decide_eq_true (by omega)
    have := ih (j + 1) (by omega)
    simp (disch := omega) only [bn_inT, bn_clamp, bm_gd_t, h7, bn_lt, hj', cond_true, bn_add, bm_bI_some, hm_it6 X hS hG hj8]
    rw [← this]
    rfl
theorem hm_muffled (X : bm_X) {σ : bm_M} {a : ab_T} (hS : ab_S 46 σ a) (hG : ab_G a) {k : Nat} : bm_ev X 87 0 [.ref 45, .null, .null] [] σ = some (.int (ab_or (ab_muf a) (a 0 7)), σ) := by
  rw [bb_87_0]
  exact hm_muffled_l X hS hG (k := k) (a 0 7) 0 (by omega)
theorem hm_grazed_l (X : bm_X) {σ : bm_M} {a : ab_T} (hS : ab_S 46 σ a) (hG : ab_G a) {k : Nat} : ∀ (n j : Nat), j + n = a 0 7 → bm_ev X 88 4 [.ref 45, .int (ab_or (ab_grz a) (j)), .int (nI j)] [] σ = some (.int (ab_or (ab_grz a) (a 0 7)), σ) := by
  intro n
  induction n with
  | zero =>
    intro j hj
    rw [bb_88_4]
    have h7 : σ 46 2 = nI (a 0 7) := hS 0 7 rfl
    have hc := hG.2.2.1
    rw [show j = a 0 7 by omega]
    simp (disch := omega) only [bn_inT, bn_clamp, bm_gd_t, h7, bn_lt, Nat.lt_irrefl, decide_false, cond_false]
  | succ n ih =>
    intro j hj
    rw [bb_88_4]
    have h7 : σ 46 2 = nI (a 0 7) := hS 0 7 rfl
    have hc := hG.2.2.1
    have hj8 : j < 8 := by omega
    have hj' : decide (j < a 0 7) = true := decide_eq_true (by omega)
    have := ih (j + 1) (by omega)
    simp (disch := omega) only [bn_inT, bn_clamp, bm_gd_t, h7, bn_lt, hj', cond_true, bn_add, bm_bI_some, hm_it1 X hS hG hj8]
    rw [← this]
    rfl
theorem hm_grazed (X : bm_X) {σ : bm_M} {a : ab_T} (hS : ab_S 46 σ a) (hG : ab_G a) {k : Nat} : bm_ev X 88 0 [.ref 45, .null, .null] [] σ = some (.int (ab_or (ab_grz a) (a 0 7)), σ) := by
  rw [bb_88_0]
  exact hm_grazed_l X hS hG (k := k) (a 0 7) 0 (by omega)
theorem hm_filled_l (X : bm_X) {σ : bm_M} {a : ab_T} (hS : ab_S 46 σ a) (hG : ab_G a) {k : Nat} : ∀ (n j : Nat), j + n = 12 → bm_ev X 41 4 [.ref 45, .int (ab_or (ab_fld a) (j)), .int (nI j)] [] σ = some (.int (ab_or (ab_fld a) (12)), σ) := by
  intro n
  induction n with
  | zero =>
    intro j hj
    rw [bb_41_4]
    rw [show j = 12 by omega]
    simp (disch := omega) only [bn_inT, bn_clamp, bm_gd_t, bn_lt, Nat.lt_irrefl, decide_false, cond_false]
  | succ n ih =>
    intro j hj
    rw [bb_41_4]
    have hj8 : j < 12 := by omega
    have h2 : σ 46 (17 + j) = nI (a 2 j) := hS 2 j (ab_w2 hj8)
    have b2 := hG.2.2.2.2.1 j hj8
    have hj' : decide (j < 12) = true := decide_eq_true (by omega)
    have := ih (j + 1) (by omega)
    simp (disch := omega) only [bn_inT, bn_clamp, bm_gd_t, bn_lt, hj', cond_true, bn_add, bm_bI_some, h2, bn_0lt, bb_41_20]
    rw [← this]
    by_cases e : 0 < a 2 j
    · simp [e, ab_or, ab_fld]
    · simp [e, ab_or, ab_fld]
theorem hm_filled (X : bm_X) {σ : bm_M} {a : ab_T} (hS : ab_S 46 σ a) (hG : ab_G a) {k : Nat} : bm_ev X 41 0 [.ref 45, .null, .null] [] σ = some (.int (ab_or (ab_fld a) (12)), σ) := by
  rw [bb_41_0]
  exact hm_filled_l X hS hG (k := k) (12) 0 (by omega)
theorem hc_bare_l (X : bm_X) {o : Nat} (ho : bm_isH o) {σ : bm_M} {a : ab_T} (hH : ab_H o σ a) (hG : ab_G a) {k : Nat} : ∀ (n j : Nat), j + n = 12 → ab_br a j = false → bm_ev X 15 2 [.ref o, .int (nI j)] [] σ = some (.int (bm_bi (ab_br a 12)), σ) := by
  intro n
  induction n with
  | zero =>
    intro j hj hb
    rw [bb_15_2 _ _ _ ho]
    rw [show j = 12 by omega] at hb ⊢
    simp (disch := omega) only [bn_lt, Nat.lt_irrefl, decide_false, cond_false, bm_bo_0, bm_gd_t, hb]
    rfl
  | succ n ih =>
    intro j hj hb
    rw [bb_15_2 _ _ _ ho]
    have h1 := hH 1 j (ab_w1 (by omega))
    have b1 := hG.2.2.2.1 j (by omega)
    have hj' : decide (j < 12) = true := decide_eq_true (by omega)
    simp (disch := omega) only [bn_lt, hj', cond_true, bn_inT, bn_clamp, bm_gd_t, bn_add, h1, bn_eq0, bm_bo_1]
    by_cases e : a 1 j = 0
    · simp only [e, decide_true, cond_true]
      have : ∀ m, j + 1 ≤ m → ab_br a m = true := by
        intro m hm
        induction hm with
        | refl => simp [ab_br, e]
        | step _ ih => simp [ab_br, ih]
      rw [this 12 (by omega)]
      rfl
    · simp only [e, decide_false, cond_false]
      exact ih (j + 1) (by omega) (by simp [ab_br, hb, e])
theorem hc_bare (X : bm_X) {o : Nat} (ho : bm_isH o) {σ : bm_M} {a : ab_T} (hH : ab_H o σ a) (hG : ab_G a) {k : Nat} : bm_ev X 15 0 [.ref o, .null] [] σ = some (.int (bm_bi (ab_br a 12)), σ) := by
  rw [bb_15_0 _ _ _ ho]
  exact hc_bare_l X ho hH hG (k := k) 12 0 (by omega) rfl
theorem hm_bare_l (X : bm_X) {σ : bm_M} {a : ab_T} (hS : ab_S 46 σ a) (hG : ab_G a) {k : Nat} : ∀ (n j : Nat), j + n = 12 → bm_ev X 42 4 [.ref 45, .int (bm_bi (ab_br a j)), .int (nI j)] [] σ = some (.int (bm_bi (ab_br a 12)), σ) := by
  intro n
  induction n with
  | zero =>
    intro j hj
    rw [bb_42_4]
    rw [show j = 12 by omega]
    simp (disch := omega) only [bn_lt, Nat.lt_irrefl, decide_false, cond_false, bm_bo_bi, bm_gd_t]
  | succ n ih =>
    intro j hj
    rw [bb_42_4]
    have h1 : σ 46 (5 + j) = nI (a 1 j) := hS 1 j (ab_w1 (by omega))
    have b1 := hG.2.2.2.1 j (by omega)
    have hj' : decide (j < 12) = true := decide_eq_true (by omega)
    have := ih (j + 1) (by omega)
    simp (disch := omega) only [bn_lt, hj', cond_true, bn_add, bn_inT, bn_clamp, bm_gd_t, h1, bn_eq0, bm_bi_eq0, bb_42_16, bb_42_19]
    rw [← this]
    cases hb : ab_br a j
    · by_cases e : a 1 j = 0 <;> simp [ab_br, hb, e, bm_bi]
    · simp [ab_br, hb, bm_bi]
theorem hm_bare (X : bm_X) {σ : bm_M} {a : ab_T} (hS : ab_S 46 σ a) (hG : ab_G a) {k : Nat} : bm_ev X 42 0 [.ref 45, .null, .null] [] σ = some (.int (bm_bi (ab_br a 12)), σ) := by
  rw [bb_42_0]
  exact hm_bare_l X hS hG (k := k) 12 0 (by omega)
