/-! muffle: what is saved adds up -/
def ab_bt (m j : Nat) : Bool := decide (m / 2 ^ j % 2 = 1)
def ab_ms (a : ab_T) (m : Nat) : Nat → ab_T
  | 0 => a
  | n + 1 => bif ab_bt m n then ab_set (ab_ms a m n) 10 n 1 else ab_ms a m n
theorem ab_ms_ne (a : ab_T) (m c i : Nat) (h : c ≠ 10) : ∀ n, ab_ms a m n c i = a c i
  | 0 => rfl
  | n + 1 => by
    rw [ab_ms]
    cases ab_bt m n
    · exact ab_ms_ne a m c i h n
    · rw [cond_true, ab_set_nc _ _ h]
      exact ab_ms_ne a m c i h n
theorem ab_ms_10 (a : ab_T) (m k : Nat) : ∀ n, ab_ms a m n 10 k = if k < n ∧ ab_bt m k = true then 1 else a 10 k
  | 0 => by
    rw [if_neg (by omega)]
    rfl
  | n + 1 => by
    have ih := ab_ms_10 a m k n
    rw [ab_ms]
    by_cases e : k = n
    · subst e
      cases h : ab_bt m k
      · rw [cond_false, ih, if_neg (by omega), if_neg (by simp)]
      · rw [cond_true, ab_set_self, if_pos ⟨by omega, rfl⟩]
    · have e2 : (k < n + 1 ∧ ab_bt m k = true) ↔ (k < n ∧ ab_bt m k = true) := by
        constructor
        · rintro ⟨p, q⟩; exact ⟨by omega, q⟩
        · rintro ⟨p, q⟩; exact ⟨by omega, q⟩
      simp only [e2]
      cases ab_bt m n
      · exact ih
      · rw [cond_true, ab_set_ni _ _ e]
        exact ih
theorem ab_G.ms {a : ab_T} (hG : ab_G a) (m : Nat) : ∀ n, ab_G (ab_ms a m n)
  | 0 => hG
  | n + 1 => by
    rw [ab_ms]
    cases ab_bt m n
    · exact hG.ms m n
    · exact (hG.ms m n).set (c := 10) (show 1 ≤ 1 by omega)
/-- alike for one, both ways -/
theorem ab_w_eq {a b : ab_T} {k : Nat} (h : ∀ c i, c ≠ 2 → c ≠ 9 → c ≠ 10 → a c i = b c i) (h9 : a 9 k = b 9 k) (h10 : a 10 k = b 10 k) (t n : Nat) : ab_w a t k n = ab_w b t k n := by
  have e4 : a 0 4 = b 0 4 := h 0 4 (by decide) (by decide) (by decide)
  refine Nat.le_antisymm (ab_Q.w ⟨fun c i n2 n9 n10 _ => h c i n2 n9 n10, h9, h10, by rw [e4], by omega⟩ t n) (ab_Q.w ⟨fun c i n2 n9 n10 _ => (h c i n2 n9 n10).symm, h9.symm, h10.symm, by rw [e4], by omega⟩ t n)
def ab_w1m (a : ab_T) (t n k : Nat) : Nat := ab_w (ab_set a 10 k 1) t k n
theorem ab_w_ms (a : ab_T) (m t n : Nat) {k c : Nat} (hk : k < c) : ab_w (ab_ms a m c) t k n = if ab_bt m k = true then ab_w1m a t n k else ab_w a t k n := by
  by_cases e : ab_bt m k = true
  · rw [if_pos e]
    refine ab_w_eq (fun c' i n2 n9 n10 => ?_) ?_ ?_ t n
    · rw [ab_ms_ne a m c' i n10, ab_set_nc _ _ n10]
    · rw [ab_ms_ne a m 9 k (by decide), ab_set_nc _ _ (by decide)]
    · rw [ab_ms_10, if_pos ⟨hk, e⟩, ab_set_self]
  · rw [if_neg e]
    refine ab_w_eq (fun c' i n2 n9 n10 => ?_) ?_ ?_ t n
    · rw [ab_ms_ne a m c' i n10]
    · rw [ab_ms_ne a m 9 k (by decide)]
    · rw [ab_ms_10, if_neg (fun q => e q.2)]
/-- all that comes -/
def ab_al (a : ab_T) (t n : Nat) : Nat := ab_sum (fun k => ab_w a t k n) (a 0 7)
theorem ab_al_lt {a : ab_T} (hG : ab_G a) (t : Nat) {n : Nat} (hn : n ≤ 18) : ab_al a t n ≤ 90048 := by
  have hc := hG.2.2.1
  have : ∀ m, m ≤ 8 → ab_sum (fun k => ab_w a t k n) m ≤ 11256 * m := by
    intro m
    induction m with
    | zero => intro _; exact Nat.le_refl _
    | succ m ih =>
      intro hm
      have h1 := ih (by omega)
      have h2 := ab_w_le hG (k := m) (by omega) t n
      have h3 : (a 0 5 + n) / 6 - a 0 5 / 6 ≤ 3 := by omega
      have h4 := Nat.mul_le_mul_left 3752 h3
      show ab_sum (fun k => ab_w a t k n) m + ab_w a t m n ≤ _
      omega
  have := this (a 0 7) hc
  unfold ab_al
  omega
theorem ab_hs_z {a : ab_T} (hG : ab_G a) {t n : Nat} (ht : t < 12) (hn : n ≤ 18) : ab_hs (ab_set a 2 t 0) n 2 t = ab_al a t n := by
  have g : ab_G (ab_set a 2 t 0) := hG.set (show 0 ≤ 99999 by omega)
  have hl := ab_al_lt hG t hn
  have e7 : ab_set a 2 t 0 0 7 = a 0 7 := ab_set_nc _ _ (by decide)
  rw [ab_hs_2 g ht, ab_set_self, e7, ab_sum_cg (g := fun k => ab_w a t k n) _ (fun k _ => ab_w_eq (fun c i n2 _ _ => ab_set_nc _ _ n2) (ab_set_nc _ _ (by decide)) (ab_set_nc _ _ (by decide)) t n)]
  show min 99999 (0 + ab_al a t n) = _
  omega
/-- all that comes if one is muffled -/
def ab_alk (a : ab_T) (t n k : Nat) : Nat := ab_al (ab_set a 10 k 1) t n
theorem ab_sum_one (f g : Nat → Nat) (k : Nat) (h : ∀ j, j ≠ k → f j = g j) : ∀ n, k < n → ab_sum f n + g k = ab_sum g n + f k
  | 0, h' => by omega
  | n + 1, h' => by
    by_cases e : k = n
    · subst e
      have := ab_sum_cg (f := f) (g := g) k (fun j hj => h j (by omega))
      rw [ab_sum, ab_sum, this]
      omega
    · have ih := ab_sum_one f g k h n (by omega)
      have := h n (by omega)
      rw [ab_sum, ab_sum, this]
      omega
theorem ab_alk_eq (a : ab_T) (t n : Nat) {k : Nat} (hk : k < a 0 7) : ab_alk a t n k + ab_w a t k n = ab_al a t n + ab_w1m a t n k := by
  unfold ab_alk ab_al
  rw [show ab_set a 10 k 1 0 7 = a 0 7 from ab_set_nc _ _ (by decide)]
  exact ab_sum_one (fun j => ab_w (ab_set a 10 k 1) t j n) (fun j => ab_w a t j n) k (fun j hj => ab_w_eq (a := ab_set a 10 k 1) (b := a) (k := j) (fun c i _ _ n10 => ab_set_nc a 1 n10) (ab_set_nc a 1 (by decide)) (ab_set_ni a 1 hj) t n) (a 0 7) hk
/-- what a set sums to -/
def ab_sa (m x : Nat) : Nat → Nat
  | 0 => 0
  | n + 1 => bif ab_bt m n then ab_sa m x n + x else ab_sa m x n
def ab_sb (f : Nat → Nat) (m : Nat) : Nat → Nat
  | 0 => 0
  | n + 1 => bif ab_bt m n then ab_sb f m n + f n else ab_sb f m n
theorem ab_save (a : ab_T) (t n m : Nat) : ab_al (ab_ms a m (a 0 7)) t n + ab_sa m (ab_al a t n) (a 0 7) = ab_al a t n + ab_sb (ab_alk a t n) m (a 0 7) := by
  have main : ∀ c, c ≤ a 0 7 → ab_sum (fun k => ab_w (ab_ms a m (a 0 7)) t k n) c + ab_sa m (ab_al a t n) c = ab_sum (fun k => ab_w a t k n) c + ab_sb (ab_alk a t n) m c := by
    intro c
    induction c with
    | zero => intro _; rfl
    | succ c ih =>
      intro hc
      have h1 := ih (by omega)
      have h2 := ab_alk_eq a t n (k := c) (by omega)
      have h3 := ab_w_ms a m t n (k := c) (c := a 0 7) (by omega)
      rw [ab_sum, ab_sum, ab_sa, ab_sb]
      cases hb : ab_bt m c
      · rw [hb, if_neg (by simp)] at h3
        simp only [cond_false]
        omega
      · rw [hb, if_pos rfl] at h3
        simp only [cond_true]
        omega
  have := main (a 0 7) (Nat.le_refl _)
  have e7 : ab_ms a m (a 0 7) 0 7 = a 0 7 := ab_ms_ne a m 0 7 (by decide) _
  unfold ab_al at this ⊢
  rw [e7]
  exact this
theorem ab_sa_ge (m x : Nat) {c : Nat} (hm : m < 2 ^ c) : ∀ d, ab_sa m x (c + d) = ab_sa m x c
  | 0 => rfl
  | d + 1 => by
    show ab_sa m x (c + d + 1) = _
    have : ab_bt m (c + d) = false := by
      unfold ab_bt
      have h1 : 2 ^ c ≤ 2 ^ (c + d) := Nat.pow_le_pow_right (by decide) (by omega)
      rw [Nat.div_eq_of_lt (by omega)]
      rfl
    rw [ab_sa, this, cond_false, ab_sa_ge m x hm d]
theorem ab_sb_ge (f : Nat → Nat) (m : Nat) {c : Nat} (hm : m < 2 ^ c) : ∀ d, ab_sb f m (c + d) = ab_sb f m c
  | 0 => rfl
  | d + 1 => by
    show ab_sb f m (c + d + 1) = _
    have : ab_bt m (c + d) = false := by
      unfold ab_bt
      have h1 : 2 ^ c ≤ 2 ^ (c + d) := Nat.pow_le_pow_right (by decide) (by omega)
      rw [Nat.div_eq_of_lt (by omega)]
      rfl
    rw [ab_sb, this, cond_false, ab_sb_ge f m hm d]
theorem ab_sa_le (m x : Nat) : ∀ n, ab_sa m x n ≤ x * n
  | 0 => Nat.le_refl _
  | n + 1 => by
    have := ab_sa_le m x n
    rw [ab_sa, Nat.mul_succ]
    cases ab_bt m n
    · rw [cond_false]; omega
    · rw [cond_true]; omega
theorem ab_sb_le {f : Nat → Nat} {x : Nat} (m : Nat) : ∀ n, (∀ k, k < n → f k ≤ x) → ab_sb f m n ≤ x * n
  | 0, _ => Nat.le_refl _
  | n + 1, h => by
    have h1 := ab_sb_le m n (fun k hk => h k (by omega))
    have h2 := h n (by omega)
    rw [ab_sb, Nat.mul_succ]
    cases ab_bt m n
    · rw [cond_false]; omega
    · rw [cond_true]; omega
