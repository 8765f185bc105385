/-! copy -/
theorem bn_subz {z : Nat} (hz : z ≤ 40) {f : Int32} (h : 0 ≤ f.toInt) : (nI z - f).toInt = (z : Int) - f.toInt := by
  rw [Int32.toInt_sub, bn_toInt (by omega)]
  have h1 := f.toInt_lt
  apply Int.bmod_eq_of_le <;> omega
theorem bl_addI (x y : Int32) : (x.toInt64 + y.toInt64).toInt = x.toInt + y.toInt := by
  rw [Int64.toInt_add, bm_i2l, bm_i2l]
  have h1 := x.toInt_lt
  have h2 := y.toInt_lt
  have h3 := x.le_toInt
  have h4 := y.le_toInt
  apply Int.bmod_eq_of_le <;> omega
theorem bn_sp {x : Int32} (h : 0 ≤ x.toInt) : ∃ n : Nat, x = nI n ∧ (n : Int) = x.toInt ∧ n < 2147483648 := by
  have h1 := x.toInt_lt
  refine ⟨x.toInt.toNat, ?_, by omega, by omega⟩
  apply Int32.toInt_inj.mp
  rw [bn_toInt (by omega)]
  omega
theorem hc_27 (X : bm_X) {σ : bm_M} {s z : Nat} (hs : s < 4) (hz : z ≤ 40) (h : σ 41 s = nI z) (f n : Int32) : bm_ev X 27 0 [.ref 0, .int (nI s), .int f, .int n] [] σ = some (.int (bm_bi (decide (0 ≤ f.toInt ∧ 0 ≤ n.toInt ∧ f.toInt + n.toInt ≤ z))), σ) := by
  have h0 : (0 : Int32).toInt = 0 := by decide
  rw [bb_27_0, bm_bo_0, bm_bo_1, bm_gd_t, bm_gd_t, bn_inT hs (by decide), bm_gd_t, bn_clamp (by omega), h, bm_lt_toInt, bm_lt_toInt, bm_lt_toInt, h0]
  by_cases c1 : f.toInt < 0
  · rw [decide_eq_true c1, cond_true, decide_eq_false (by omega)]
    rfl
  · rw [decide_eq_false c1, cond_false]
    by_cases c2 : n.toInt < 0
    · rw [decide_eq_true c2, cond_true, decide_eq_false (by omega)]
      rfl
    · rw [decide_eq_false c2, cond_false, bn_subz hz (by omega)]
      by_cases c3 : (z : Int) - f.toInt < n.toInt
      · rw [decide_eq_true c3, cond_true, decide_eq_false (by omega)]
        rfl
      · rw [decide_eq_false c3, cond_false, decide_eq_true (by omega)]
        rfl
theorem hm_cp1 (X : bm_X) {s f n : Nat} (hs : s < 4) (hn : f + n ≤ 40) (x3 x4 : Int32) (u : Value) : ∀ (i j : Nat) (ρ : bm_M), j + i = n → ∃ τ, bm_ev X 138 79 [.ref 45, .int (nI s), .int (nI f), .int x3, .int x4, .int (nI n), u, .int (nI j)] [] ρ = bm_ev X 138 100 [.ref 45, .int (nI s), .int (nI f), .int x3, .int x4, .int (nI n), u, .int (nI 0)] [] τ ∧ (∀ x, j ≤ x → x < n → τ 54 x = ρ 53 (40 * s + f + x)) ∧ (∀ x, x < j → τ 54 x = ρ 54 x) ∧ ∀ q, q ≠ 54 → τ q = ρ q
  | 0, j, ρ, e => by
    refine ⟨ρ, ?_, fun x h1 h2 => by omega, fun _ _ => rfl, fun _ _ => rfl⟩
    rw [bb_138_79, bn_lt (by omega) (by omega), decide_eq_false (by omega), cond_false]
  | i + 1, j, ρ, e => by
    obtain ⟨τ, r1, r2, r3, r4⟩ := hm_cp1 X hs hn x3 x4 u i (j + 1) (bm_up ρ 54 j (ρ 53 (40 * s + f + j))) (by omega)
    refine ⟨τ, ?_, fun x x1 x2 => ?_, fun x hx => ?_, fun q hq => ?_⟩
    · rw [bb_138_79, bn_lt (by omega) (by omega), decide_eq_true (by omega), cond_true, bn_mul, bn_add, bn_add, bn_inT (show 40 * s + f + j < 160 by omega) (by decide), bm_gd_t, bn_inT (show j < 40 by omega) (by decide), bm_gd_t, bn_clamp (show j < 2147483648 by omega), bn_clamp (show 40 * s + f + j < 2147483648 by omega), bn_add, r1]
    · by_cases e : x = j
      · subst e
        rw [r3 x (by omega), bm_up_at]
      · rw [r2 x (by omega) x2, bm_up_nk _ _ (by decide)]
    · rw [r3 x (by omega), bm_up_ni _ _ (by omega)]
    · rw [r4 q hq, bm_up_ne _ _ _ hq]
theorem hm_cp2 (X : bm_X) {s t n : Nat} (hs : s < 4) (hn : t + n ≤ 40) (u1 u2 u : Value) : ∀ (i j : Nat) (ρ : bm_M), j + i = n → ∃ τ, bm_ev X 138 100 [.ref 45, u1, u2, .int (nI s), .int (nI t), .int (nI n), u, .int (nI j)] [] ρ = some (.int (nI n), τ) ∧ (∀ x, j ≤ x → x < n → τ 53 (40 * s + t + x) = ρ 54 x) ∧ (∀ y, (y < 40 * s + t + j ∨ 40 * s + t + n ≤ y) → τ 53 y = ρ 53 y) ∧ ∀ q, q ≠ 53 → τ q = ρ q
  | 0, j, ρ, e => by
    refine ⟨ρ, ?_, fun x h1 h2 => by omega, fun _ _ => rfl, fun _ _ => rfl⟩
    rw [bb_138_100, bn_lt (by omega) (by omega), decide_eq_false (by omega), cond_false]
  | i + 1, j, ρ, e => by
    obtain ⟨τ, r1, r2, r3, r4⟩ := hm_cp2 X hs hn u1 u2 u i (j + 1) (bm_up ρ 53 (40 * s + t + j) (ρ 54 j)) (by omega)
    refine ⟨τ, ?_, fun x x1 x2 => ?_, fun y hy => ?_, fun q hq => ?_⟩
    · rw [bb_138_100, bn_lt (by omega) (by omega), decide_eq_true (by omega), cond_true, bn_mul, bn_add, bn_add, bn_inT (show j < 40 by omega) (by decide), bm_gd_t, bn_inT (show 40 * s + t + j < 160 by omega) (by decide), bm_gd_t, bn_clamp (show j < 2147483648 by omega), bn_clamp (show 40 * s + t + j < 2147483648 by omega), bn_add, r1]
    · by_cases e : x = j
      · subst e
        rw [r3 _ (by omega), bm_up_at]
      · rw [r2 x (by omega) x2, bm_up_nk _ _ (by decide)]
    · rw [r3 y (by omega), bm_up_ni _ _ (by omega)]
    · rw [r4 q hq, bm_up_ne _ _ _ hq]
