theorem tk_run_in (t : Nat → Nat) (lo hi : Nat) : ∀ f p i, p ≤ i → i < tk_run t lo hi f p → tk_in lo hi (t i) = true
  | 0, p, i, h1, h2 => by
    rw [tk_run] at h2
    omega
  | f + 1, p, i, h1, h2 => by
    rw [tk_run] at h2
    cases hc : tk_in lo hi (t p)
    · rw [hc, cond_false] at h2
      omega
    · rw [hc, cond_true] at h2
      by_cases e : i = p
      · rw [e]; exact hc
      · exact tk_run_in t lo hi f (p + 1) i (by omega) h2
theorem hm_num (X : bm_X) {t : Nat → Nat} {n b hi : Nat} {σ : bm_M} {fl : Bool} (hM : tk_M t n σ) (hb : b ≤ n) (hh : hi ≤ 999) (h12 : σ 45 12 = bm_bi fl) (h10 : σ 45 10 = nI b) (h11 : σ 45 11 = nI (tk_e t n b)) : ∃ x τ, bm_ev X 162 0 [.ref 45, .int (nI 0), .int (nI hi), .null, .null] [] σ = some (.int x, τ) ∧ (tk_ok t n b hi = true → x = nI (tk_v t n b)) ∧ τ 45 12 = bm_bi (fl || !tk_ok t n b hi) ∧ ((fl || !tk_ok t n b hi) = true → τ 45 10 = nI b ∧ τ 45 11 = nI (tk_e t n b)) ∧ ((fl || !tk_ok t n b hi) = false → τ 45 10 = nI (tk_b t n (tk_e t n b)) ∧ τ 45 11 = nI (tk_e t n (tk_b t n (tk_e t n b)))) ∧ ab_K tk_H σ τ := by
  have c2 := hM.2.1
  have le := tk_e_le t hb
  have hi0 : (0 : Int) ≤ (hi : Int) := by omega
  obtain ⟨τ, m1, m2, m3, m4, m5⟩ := hm_must X (g := tk_ok t n b hi) hM le.2 h12 h11
  have hm1 : (-nI 1 : Int32).toInt = -1 := by decide
  rw [h10] at m3
  have fin : ∀ (x : Int32) (u : Value), (decide (0 ≤ x.toInt) && decide (x.toInt ≤ (hi : Int))) = tk_ok t n b hi → bm_ev X 162 38 [.ref 45, .int (nI 0), .int (nI hi), .int x, u] [] σ = some (.int x, τ) := by
    intro x u hx
    rw [bb_162_38, bs_in, bm_i2l, bm_i2l, bm_i2l, bn_toInt (by decide), bn_toInt (by omega), bm_bI_some, show (((0 : Nat) : Int)) = 0 from rfl, hx, m1, bm_bV_some]
  rw [bb_162_0, h10, hm_is X hM (by omega) (by decide) (by decide), bm_bI_some, bm_cond_bi, bb_162_10, bb_162_10, h10]
  by_cases k : tk_k t n b = 2
  · have hbd : b < n ∧ tk_in 48 57 (t b) = true := by
      unfold tk_k at k
      by_cases e : b < n
      · rw [if_pos e] at k
        refine ⟨e, ?_⟩
        cases hl : tk_in 97 122 (t b)
        · rw [hl, if_neg (by decide)] at k
          cases hd : tk_in 48 57 (t b)
          · rw [hd, if_neg (by decide)] at k
            split at k <;> omega
          · rfl
        · rw [hl, if_pos rfl] at k
          omega
      · rw [if_neg e] at k
        omega
    have ee : tk_e t n b = tk_run t 48 57 (n - b) b := by
      unfold tk_e
      rw [k, if_neg (by decide), if_pos rfl]
    have vv : tk_v t n b = min 1000 (tk_mv t (tk_e t n b - b) b 0) := by
      unfold tk_v
      rw [if_pos k, ee]
      exact tk_val_mv t (n - b) b 0
    have d48 : ∀ i, i < tk_e t n b - b → 48 ≤ t (b + i) := by
      intro i hi
      have := tk_run_in t 48 57 (n - b) b (b + i) (by omega) (by omega)
      unfold tk_in at this
      rw [Bool.and_eq_true, decide_eq_true_eq, decide_eq_true_eq] at this
      exact this.1
    have lt := tk_mv_lt t (tk_e t n b - b) b 0 (by omega) (fun i hi => (hM.2.2 (b + i) (by omega)).1)
    have hok : tk_ok t n b hi = decide (tk_mv t (tk_e t n b - b) b 0 ≤ hi) := by
      unfold tk_ok
      rw [decide_eq_true k, Bool.true_and, vv]
      exact decide_eq_decide.mpr (by omega)
    refine ⟨nI (tk_mv t (tk_e t n b - b) b 0), τ, ?_, fun q => ?_, m2, m3, m4, m5⟩
    · rw [decide_eq_true hbd.1, hbd.2, Bool.true_and, cond_true, hm_numl X hM le.2 h11 (nI 0) (nI hi) (tk_e t n b - b) b 0 (by omega) (by omega) d48]
      refine fin _ _ ?_
      rw [bn_toInt (by omega), hok, decide_eq_true (show (0 : Int) ≤ (tk_mv t (tk_e t n b - b) b 0 : Int) by omega), Bool.true_and]
      exact decide_eq_decide.mpr (by omega)
    · rw [hok, decide_eq_true_eq] at q
      rw [vv, Nat.min_eq_right (by omega)]
  · have hbd : (decide (b < n) && tk_in 48 57 (t b)) = false := by
      by_cases e : b < n
      · rw [decide_eq_true e, Bool.true_and]
        cases hd : tk_in 48 57 (t b)
        · rfl
        · exfalso
          apply k
          have hl : tk_in 97 122 (t b) = false := by
            unfold tk_in at hd ⊢
            rw [Bool.and_eq_true, decide_eq_true_eq, decide_eq_true_eq] at hd
            rw [decide_eq_false (show ¬ 97 ≤ t b by omega), Bool.false_and]
          unfold tk_k
          rw [if_pos e, hl, hd, if_neg (by decide), if_pos rfl]
      · rw [decide_eq_false e, Bool.false_and]
    have hok : tk_ok t n b hi = false := by
      unfold tk_ok
      rw [decide_eq_false k, Bool.false_and]
    refine ⟨-nI 1, τ, ?_, fun q => by (rw [hok] at q; cases q), m2, m3, m4, m5⟩
    have f38 : ∀ u, bm_ev X 162 38 [.ref 45, .int (nI 0), .int (nI hi), .int (-nI 1), u] [] σ = some (.int (-nI 1), τ) := fun u => fin _ u (by rw [hm1, hok]; rfl)
    rw [hbd, cond_false, bb_162_14, f38, decide_eq_true (show -nI 1 < (0 : Int32) by decide), cond_true]
    cases decide (nI b < σ 45 11) <;> rfl
