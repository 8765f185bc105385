/-! NUMBERS -/
def tk_mv (t : Nat → Nat) : Nat → Nat → Nat → Nat
  | 0, _, m => m
  | f + 1, p, m => bif decide (999 < m) then tk_mv t f (p + 1) m else tk_mv t f (p + 1) (10 * m + t p - 48)
theorem tk_val_mv (t : Nat → Nat) : ∀ f p m, tk_val t f p (min 1000 m) = min 1000 (tk_mv t (tk_run t 48 57 f p - p) p m)
  | 0, p, m => by
    show min 1000 m = min 1000 (tk_mv t (p - p) p m)
    rw [Nat.sub_self]
    rfl
  | f + 1, p, m => by
    rw [tk_val, tk_run]
    cases hd : tk_in 48 57 (t p)
    · rw [cond_false, cond_false, Nat.sub_self]
      rfl
    · rw [cond_true, cond_true]
      have h48 : 48 ≤ t p ∧ t p ≤ 57 := by
        unfold tk_in at hd
        rw [Bool.and_eq_true, decide_eq_true_eq, decide_eq_true_eq] at hd
        exact hd
      have le := tk_run_le t 48 57 f (p + 1)
      obtain ⟨d, hdd⟩ : ∃ d, tk_run t 48 57 f (p + 1) - p = d + 1 := ⟨tk_run t 48 57 f (p + 1) - p - 1, by omega⟩
      have hd2 : tk_run t 48 57 f (p + 1) - (p + 1) = d := by omega
      rw [hdd, tk_mv]
      by_cases c : 999 < m
      · have ih := tk_val_mv t f (p + 1) m
        rw [hd2] at ih
        rw [decide_eq_true c, cond_true, ← ih]
        congr 1
        omega
      · have ih := tk_val_mv t f (p + 1) (10 * m + t p - 48)
        rw [hd2] at ih
        rw [decide_eq_false c, cond_false, ← ih]
        congr 1
        omega
theorem tk_mv_lt (t : Nat → Nat) : ∀ f p m, m < 11000 → (∀ i, i < f → t (p + i) < 256) → tk_mv t f p m < 11000
  | 0, _, m, h, _ => h
  | f + 1, p, m, h, ht => by
    have h0 := ht 0 (by omega)
    rw [Nat.add_zero] at h0
    have hn : ∀ i, i < f → t (p + 1 + i) < 256 := fun i hi => by
      have := ht (i + 1) (by omega)
      rw [show p + (i + 1) = p + 1 + i by omega] at this
      exact this
    rw [tk_mv]
    by_cases c : 999 < m
    · rw [decide_eq_true c, cond_true]
      exact tk_mv_lt t f (p + 1) m h hn
    · rw [decide_eq_false c, cond_false]
      exact tk_mv_lt t f (p + 1) _ (by omega) hn
theorem hm_numl (X : bm_X) {t : Nat → Nat} {n e : Nat} {σ : bm_M} (hM : tk_M t n σ) (he : e ≤ n) (h11 : σ 45 11 = nI e) (x1 x2 : Int32) : ∀ (f p m : Nat), p + f = e → m < 11000 → (∀ i, i < f → 48 ≤ t (p + i)) → bm_ev X 162 14 [.ref 45, .int x1, .int x2, .int (nI m), .int (nI p)] [] σ = bm_ev X 162 38 [.ref 45, .int x1, .int x2, .int (nI (tk_mv t f p m)), .int (nI e)] [] σ
  | 0, p, m, ee, hm, h48 => by
    have c2 := hM.2.1
    have e2 : p = e := by omega
    subst e2
    rw [bb_162_14, h11, bn_lt (by omega) (by omega), decide_eq_false (by omega), cond_false]
    rfl
  | f + 1, p, m, ee, hm, h48 => by
    obtain ⟨c1, c2, c3⟩ := id hM
    obtain ⟨b1, b2⟩ := c3 p (by omega)
    have h0 := h48 0 (by omega)
    rw [Nat.add_zero] at h0
    have hn : ∀ i, i < f → 48 ≤ t (p + 1 + i) := fun i hi => by
      have := h48 (i + 1) (by omega)
      rw [show p + (i + 1) = p + 1 + i by omega] at this
      exact this
    rw [bb_162_14, h11, bn_lt (by omega) (by omega), decide_eq_true (by omega), cond_true, bn_lt0 (by omega), cond_false, bn_lt (by decide) (by omega), bb_162_35, bn_inT (show p < 120 by omega) (by decide), bm_gd_t, bb_162_35, bn_clamp (by omega), b2, bn_mul, bn_add, bn_add, bn_sub (by omega)]
    by_cases c : 999 < m
    · rw [decide_eq_true c, cond_true, hm_numl X hM he h11 x1 x2 f (p + 1) m (by omega) hm hn, tk_mv, decide_eq_true c, cond_true]
    · rw [decide_eq_false c, cond_false, hm_numl X hM he h11 x1 x2 f (p + 1) (10 * m + t p - 48) (by omega) (by omega) hn, tk_mv, decide_eq_false c, cond_false]
