/-! THE HERD as numbers: a column (0 scalars, 1 grass, 2 pails, 3 spots, 4 kind, 5 place, 6 tone, 7 swings, 8 wear, 9 rung, 10 muffled) and a place in it -/
abbrev ab_T : Type := Nat → Nat → Nat
def ab_wd (c i : Nat) : Bool := match c with
  | 0 => decide (3 ≤ i) && decide (i ≤ 7)
  | 1 => decide (i < 12)
  | 2 => decide (i < 12)
  | 3 => decide (i < 10)
  | c => decide (c ≤ 10) && decide (i < 8)
def ab_ly (c i : Nat) : Nat := match c with
  | 0 => match i with
    | 3 => 3
    | 4 => 4
    | 5 => 0
    | 6 => 1
    | _ => 2
  | 1 => 5 + i
  | 2 => 17 + i
  | 3 => 85 + i
  | c => 29 + 7 * i + (c - 4)
def ab_set (a : ab_T) (c i v : Nat) : ab_T := fun c' i' => if c' = c ∧ i' = i then v else a c' i'
def ab_H (o : Nat) (σ : bm_M) (a : ab_T) : Prop := ∀ c i, ab_wd c i = true → σ (o + c) i = nI (a c i)
def ab_S (q : Nat) (σ : bm_M) (a : ab_T) : Prop := ∀ c i, ab_wd c i = true → σ q (ab_ly c i) = nI (a c i)
theorem ab_wd_lt {c i : Nat} (h : ab_wd c i = true) : c < 11 ∧ i < 12 := by
  unfold ab_wd at h
  split at h
  · simp only [Bool.and_eq_true, decide_eq_true_eq] at h; omega
  · simp only [decide_eq_true_eq] at h; omega
  · simp only [decide_eq_true_eq] at h; omega
  · simp only [decide_eq_true_eq] at h; omega
  · simp only [Bool.and_eq_true, decide_eq_true_eq] at h; omega
/-- where a place of the reference's row lies -/
def ab_iy (n : Nat) : Nat × Nat := if n < 5 then (0, match n with | 0 => 5 | 1 => 6 | 2 => 7 | n => n) else if n < 17 then (1, n - 5) else if n < 29 then (2, n - 17) else if n < 85 then ((n - 29) % 7 + 4, (n - 29) / 7) else (3, n - 85)
theorem ab_iy_ly : ∀ c, c < 11 → ∀ i, i < 12 → ab_wd c i = true → ab_iy (ab_ly c i) = (c, i) ∧ ab_ly c i < 95 := by decide
theorem ab_ly_inj {c i c' i' : Nat} (h : ab_wd c i = true) (h' : ab_wd c' i' = true) (e : ab_ly c i = ab_ly c' i') : c = c' ∧ i = i' := by
  obtain ⟨h1, h2⟩ := ab_wd_lt h
  obtain ⟨h3, h4⟩ := ab_wd_lt h'
  have e1 := (ab_iy_ly c h1 i h2 h).1
  have e2 := (ab_iy_ly c' h3 i' h4 h').1
  rw [e, e2] at e1
  cases e1
  exact ⟨rfl, rfl⟩
theorem ab_ly_iy : ∀ n, n < 95 → ab_wd (ab_iy n).1 (ab_iy n).2 = true ∧ ab_ly (ab_iy n).1 (ab_iy n).2 = n := by decide
theorem ab_set_self (a : ab_T) (c i v : Nat) : ab_set a c i v c i = v := by simp [ab_set]
theorem ab_set_ne (a : ab_T) {c i c' i' : Nat} (v : Nat) (h : ¬ (c' = c ∧ i' = i)) : ab_set a c i v c' i' = a c' i' := by simp [ab_set, h]
theorem ab_set_nc (a : ab_T) {c i c' i' : Nat} (v : Nat) (h : c' ≠ c) : ab_set a c i v c' i' = a c' i' := ab_set_ne a v (fun q => h q.1)
theorem ab_set_ni (a : ab_T) {c i i' : Nat} (v : Nat) (h : i' ≠ i) : ab_set a c i v c i' = a c i' := ab_set_ne a v (fun q => h q.2)
theorem bm_up_at (σ : bm_M) (k i : Nat) (v : Int32) : bm_up σ k i v k i = v := by simp [bm_up, upd]
theorem bm_up_ni (σ : bm_M) {k i i' : Nat} (v : Int32) (h : i' ≠ i) : bm_up σ k i v k i' = σ k i' := by simp [bm_up, upd, h]
theorem bm_up_nk (σ : bm_M) {k k' i i' : Nat} (v : Int32) (h : k' ≠ k) : bm_up σ k i v k' i' = σ k' i' := by simp [bm_up, h]
theorem ab_H.up {o : Nat} {σ : bm_M} {a : ab_T} (h : ab_H o σ a) (c i v : Nat) : ab_H o (bm_up σ (o + c) i (nI v)) (ab_set a c i v) := by
  intro c' i' hw
  by_cases e : c' = c
  · subst e
    by_cases e2 : i' = i
    · subst e2
      rw [bm_up_at, ab_set_self]
    · rw [bm_up_ni σ _ e2, ab_set_ni a _ e2]
      exact h c' i' hw
  · rw [bm_up_nk σ _ (by omega), ab_set_nc a _ e]
    exact h c' i' hw
theorem ab_H.fr {o : Nat} {σ τ : bm_M} {a : ab_T} (h : ab_H o σ a) (ht : ∀ k, o ≤ k → k ≤ o + 10 → τ k = σ k) : ab_H o τ a := by
  intro c i hw
  have := ab_wd_lt hw
  rw [ht (o + c) (by omega) (by omega)]
  exact h c i hw
theorem ab_H.ne {o : Nat} {σ : bm_M} {a : ab_T} (h : ab_H o σ a) {k : Nat} (i : Nat) (v : Int32) (hk : k < o ∨ o + 10 < k) : ab_H o (bm_up σ k i v) a :=
  h.fr (fun q h1 h2 => bm_up_ne σ i v (by omega))
theorem ab_S.up {q : Nat} {σ : bm_M} {a : ab_T} (h : ab_S q σ a) {c i : Nat} (v : Nat) (hw : ab_wd c i = true) : ab_S q (bm_up σ q (ab_ly c i) (nI v)) (ab_set a c i v) := by
  intro c' i' hw'
  by_cases e : c' = c ∧ i' = i
  · obtain ⟨rfl, rfl⟩ := e
    rw [bm_up_at, ab_set_self]
  · rw [ab_set_ne a v e, bm_up_ni σ _ (fun q => e (ab_ly_inj hw' hw q))]
    exact h c' i' hw'
theorem ab_S.fr {q : Nat} {σ τ : bm_M} {a : ab_T} (h : ab_S q σ a) (ht : τ q = σ q) : ab_S q τ a := by
  intro c i hw
  rw [ht]
  exact h c i hw
theorem ab_S.ne {q : Nat} {σ : bm_M} {a : ab_T} (h : ab_S q σ a) {k : Nat} (i : Nat) (v : Int32) (hk : q ≠ k) : ab_S q (bm_up σ k i v) a := h.fr (bm_up_ne σ i v hk)
/-- the bounds that a herd keeps -/
def ab_G (a : ab_T) : Prop := a 0 3 ≤ 20 ∧ a 0 4 ≤ 99 ∧ a 0 7 ≤ 8 ∧ (∀ i, i < 12 → a 1 i ≤ 99) ∧ (∀ i, i < 12 → a 2 i ≤ 99999) ∧ (∀ i, i < 8 → a 4 i ≤ 6 ∧ a 5 i ≤ 11 ∧ a 6 i ≤ 11 ∧ a 7 i ≤ 9 ∧ a 8 i ≤ 999 ∧ a 9 i ≤ 9999 ∧ a 10 i ≤ 1)
theorem bn_inT {a n : Nat} (h : a < n) (hn : n < 2147483648) : bm_in (nI a) n = true := by
  rw [bn_in (by omega)]
  exact decide_eq_true h
/-- how many of the first n stand where k does -/
def ab_cnt (a : ab_T) (k : Nat) : Nat → Nat
  | 0 => 0
  | n + 1 => ab_cnt a k n + (if a 5 n = a 5 k then 1 else 0)
/-- how many others of the first n do -/
def ab_oth (a : ab_T) (k : Nat) : Nat → Nat
  | 0 => 0
  | n + 1 => ab_oth a k n + (if n = k then 0 else if a 5 n = a 5 k then 1 else 0)
theorem ab_cnt_le (a : ab_T) (k : Nat) : ∀ n, ab_cnt a k n ≤ n
  | 0 => Nat.le_refl 0
  | n + 1 => by
    have := ab_cnt_le a k n
    simp only [ab_cnt]
    split <;> omega
theorem ab_oth_le (a : ab_T) (k : Nat) : ∀ n, ab_oth a k n ≤ n
  | 0 => Nat.le_refl 0
  | n + 1 => by
    have := ab_oth_le a k n
    simp only [ab_oth]
    split
    · omega
    · split <;> omega
theorem ab_cnt_oth (a : ab_T) (k : Nat) : ∀ n, ab_cnt a k n = ab_oth a k n + (if k < n then 1 else 0)
  | 0 => rfl
  | n + 1 => by
    have := ab_cnt_oth a k n
    simp only [ab_cnt, ab_oth]
    rw [this]
    by_cases e : n = k
    · subst e
      simp
    · simp only [if_neg e]
      by_cases h : k < n
      · simp [h, show k < n + 1 by omega]; omega
      · simp [h, show ¬ k < n + 1 by omega]
/-- the first of n that stands there with another tone, or n -/
def ab_bes (a : ab_T) (k : Nat) : Nat → Nat → Nat
  | j, 0 => j
  | j, n + 1 => if a 5 j = a 5 k ∧ ¬ a 6 j = a 6 k then j else ab_bes a k (j + 1) n
def ab_plain (a : ab_T) (k : Nat) : Nat := a 7 k + a 1 (a 5 k) / 10
def ab_rings (a : ab_T) (k : Nat) : Nat :=
  if a 4 k = 1 then ab_plain a k / 2 else if a 4 k = 2 then ab_plain a k + 2 else if a 4 k = 3 then ab_plain a k + 2 - ab_oth a k (a 0 7) else if a 4 k = 4 then ab_plain a k + 2 - ab_oth a k (a 0 7) + a 0 4 / 10 else if a 4 k = 5 then ab_plain a k - a 8 k / 100 else if a 4 k = 6 then ab_plain a k / 2 + 1 else ab_plain a k
def ab_eats (a : ab_T) (k : Nat) : Nat := if a 4 k = 1 then 2 else if a 4 k = 3 then 3 else if a 4 k = 4 then 0 else if a 4 k = 6 then 2 else 5
def ab_gives (a : ab_T) (k : Nat) : Nat :=
  if a 4 k = 1 then a 9 k / 4 / 2 else if a 4 k = 2 then a 9 k / 4 + a 9 k / 8 else if a 4 k = 3 then a 9 k / 4 + a 9 k / 8 - 3 else if a 4 k = 4 then a 9 k / 4 + a 9 k / 8 - 3 + 5 else if a 4 k = 5 then a 9 k / 4 / 2 else if a 4 k = 6 then a 9 k / 4 / 2 else a 9 k / 4
theorem bn_sa (x y z : Int32) : x - y + z = x + z - y := by
  rw [Int32.sub_eq_add_neg, Int32.sub_eq_add_neg, Int32.add_assoc, Int32.add_assoc, Int32.add_comm (-y) z]
theorem ab_w8 {c i : Nat} (h4 : 4 ≤ c) (h : c ≤ 10) (hi : i < 8) : ab_wd c i = true := by
  unfold ab_wd
  split <;> first | omega | (simp; omega)
theorem ab_w1 {i : Nat} (hi : i < 12) : ab_wd 1 i = true := decide_eq_true hi
theorem ab_w2 {i : Nat} (hi : i < 12) : ab_wd 2 i = true := decide_eq_true hi
set_option maxHeartbeats 1000000 in
theorem hc_others (X : bm_X) {o : Nat} (ho : bm_isH o) {σ : bm_M} {a : ab_T} (hH : ab_H o σ a) (hG : ab_G a) {k : Nat} (hk : k < 8) : ∀ (n j : Nat), j + n = a 0 7 → bm_ev X 2 4 [.ref o, .int (nI k), .int (nI (ab_cnt a k j) - nI 1), .int (nI j)] [] σ = some (.int (nI (ab_cnt a k (a 0 7)) - nI 1), σ) := by
  intro n
  induction n with
  | zero =>
    intro j hj
    rw [bb_2_4 _ _ _ ho]
    have h7 := hH 0 7 rfl
    rw [Nat.add_zero] at h7
    have := hG.2.2.1
    simp (disch := omega) only [h7, bn_lt]
    rw [show j = a 0 7 by omega]
    simp
  | succ n ih =>
    intro j hj
    rw [bb_2_4 _ _ _ ho]
    have h7 := hH 0 7 rfl
    rw [Nat.add_zero] at h7
    have hc := hG.2.2.1
    have h5 := hH 5 j (by simp [ab_wd]; omega)
    have h5k := hH 5 k (by simp [ab_wd]; omega)
    have hb := (hG.2.2.2.2.2 j (by omega)).2.1
    have hb' := (hG.2.2.2.2.2 k (by omega)).2.1
    simp (disch := omega) only [h7, bn_lt, bn_inT, bn_clamp, h5, h5k, bm_gd_t, bn_eq, bn_add]
    have hj' : decide (j < a 0 7) = true := decide_eq_true (by omega)
    rw [hj']
    have := ih (j + 1) (by omega)
    simp only [ab_cnt] at this
    by_cases e : a 5 j = a 5 k
    · simp only [e, if_true, decide_true, cond_true] at this ⊢
      rw [← this, bn_sa, bn_add]
    · simp only [e, if_false, decide_false, cond_false, cond_true, Nat.add_zero] at this ⊢
      exact this
