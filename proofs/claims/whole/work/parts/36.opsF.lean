/-! status, count, pair -/
def ab_sumI (f : Nat → Int32) : Nat → Int32
  | 0 => nI 0
  | n + 1 => ab_sumI f n + f n
theorem bn_add0 (x : Int32) : x + nI 0 = x := by
  show x + 0 = x
  exact Int32.add_zero x
theorem bn_0add (x : Int32) : nI 0 + x = x := by
  show 0 + x = x
  exact Int32.zero_add x
theorem ab_sumI_one (f : Nat → Int32) (w : Nat) : ∀ n, ab_sumI (fun k => if k = w then f k else nI 0) n = if w < n then f w else nI 0
  | 0 => rfl
  | n + 1 => by
    rw [ab_sumI, ab_sumI_one f w n]
    by_cases e : n = w
    · subst e
      simp [bn_0add]
    · by_cases h : w < n
      · simp [e, h, show w < n + 1 by omega, bn_add0]
      · simp [e, h, show ¬ w < n + 1 by omega, bn_add0]
theorem hs_c (X : bm_X) (σ : bm_M) (u : Value) : ∀ (n j : Nat), j + n = 7 → bm_ev X 64 21 [.ref 0, u, .int (ab_sumI (σ 43) j), .int (nI j)] [] σ = some (.int (ab_sumI (σ 43) 7), σ) := by
  intro n
  induction n with
  | zero =>
    intro j hj
    rw [bb_64_21]
    rw [show j = 7 by omega]
    rfl
  | succ n ih =>
    intro j hj
    rw [bb_64_21, bn_lt (by omega) (by decide), decide_eq_true (by omega), cond_true, bn_inT (by omega) (by decide), bm_gd_t, bn_clamp (by omega), bn_add]
    exact ih (j + 1) (by omega)
theorem hs_m (X : bm_X) (σ : bm_M) (p : Int32) (g : Nat → Int32) (hg : ∀ k, k < 7 → g k = if p < 0 ∨ p = nI k then σ 49 k else nI 0) : ∀ (n j : Nat), j + n = 7 → bm_ev X 100 14 [.ref 45, .int p, .int (ab_sumI g j), .int (nI j)] [] σ = some (.int (ab_sumI g 7), σ) := by
  intro n
  induction n with
  | zero =>
    intro j hj
    rw [bb_100_14]
    rw [show j = 7 by omega]
    rfl
  | succ n ih =>
    intro j hj
    have := ih (j + 1) (by omega)
    rw [ab_sumI, hg j (by omega)] at this
    rw [bb_100_14, bn_lt (by omega) (by decide), decide_eq_true (by omega), cond_true, bb_100_23, bn_inT (by omega) (by decide), bm_gd_t, bn_clamp (by omega), bb_100_29, bb_100_29, bn_add]
    by_cases e1 : p < 0
    · rw [if_pos (Or.inl e1)] at this
      rw [decide_eq_true e1, cond_true]
      exact this
    · rw [decide_eq_false e1, cond_false]
      by_cases e2 : p = nI j
      · rw [if_pos (Or.inr e2)] at this
        rw [decide_eq_true e2, cond_true]
        exact this
      · rw [if_neg (fun q => q.elim e1 e2)] at this
        rw [decide_eq_false e2, cond_false]
        exact this
theorem ab_sumI_eq {f g : Nat → Int32} : ∀ n, (∀ k, k < n → f k = g k) → ab_sumI f n = ab_sumI g n
  | 0, _ => rfl
  | n + 1, h => by rw [ab_sumI, ab_sumI, ab_sumI_eq n (fun k hk => h k (by omega)), h n (by omega)]
theorem op_status (X : bm_X) (p : Int32) : ab_op X 64 100 [.ref 0, .int p, .null, .null] [.ref 45, .int p, .null, .null] := by
  intro T σ hR hT
  obtain ⟨a, ka, kp, tl, h1, h2, h3, h4, h5⟩ := id hR
  have m1 : ∀ ρ : bm_M, bm_ev X 32 0 [.long p.toInt64, .null, .long (-1), .null, .long (lN 6), .null] [] ρ = some (.int (bm_bi (bm_rg p (-1) 6)), ρ) := by
    intro ρ
    rw [bs_in, bm_i2l, bl_toInt (by decide)]
    rfl
  have hm1 : (-nI 1 : Int32).toInt = -1 := by decide
  have h7 : (nI 7 : Int32).toInt = 7 := by decide
  have h0 : (0 : Int32).toInt = 0 := by decide
  by_cases g1 : bm_rg p (-1) 6 = true
  · have g1' := g1
    simp only [bm_rg, Bool.and_eq_true, decide_eq_true_eq] at g1'
    have c1 : decide (p < -nI 1) = false := by rw [bm_lt_toInt, hm1]; exact decide_eq_false (by omega)
    have c2 : decide (p < nI 7) = true := by rw [bm_lt_toInt, h7]; exact decide_eq_true (by omega)
    by_cases e : p < 0
    · refine ⟨ab_sumI (σ 43) 7, σ, σ, ?_, ?_, hR.junk (by omega) ab_K.rf⟩
      · rw [bb_64_0, c1, cond_false, c2, cond_true, decide_eq_true e, cond_true]
        exact hs_c X σ _ 7 0 (by omega)
      · rw [bb_100_0, m1, bm_bI_some, bm_cond_bi, g1, cond_true, ab_sumI_eq (g := σ 49) 7 (fun k hk => h5 k hk)]
        exact hs_m X σ p (σ 49) (fun k hk => by rw [if_pos (Or.inl e)]) 7 0 (by omega)
    · have c3 : 0 ≤ p.toInt := by
        have : ¬ p.toInt < 0 := fun q => e (Int32.lt_iff_toInt_lt.mpr (by rw [h0]; exact q))
        omega
      have g0 : bm_rg p 0 6 = true := by
        simp only [bm_rg, Bool.and_eq_true, decide_eq_true_eq]
        exact ⟨c3, g1'.2⟩
      obtain ⟨w, hw, hw2, rfl⟩ := bm_rg_ex (n := 6) g0
      refine ⟨σ 43 w, σ, σ, ?_, ?_, hR.junk (by omega) ab_K.rf⟩
      · rw [bb_64_0, c1, cond_false, c2, cond_true, decide_eq_false e, cond_false, bn_inT (by omega) (by decide), bm_gd_t, bn_clamp hw2]
      · rw [bb_100_0, m1, bm_bI_some, bm_cond_bi, g1, cond_true]
        have := hs_m X σ (nI w) (fun k => if k = w then σ 49 k else nI 0) (fun k hk => by
          by_cases ek : k = w
          · subst ek
            rw [if_pos rfl, if_pos (Or.inr rfl)]
          · rw [if_neg ek, if_neg]
            rintro (q | q)
            · exact e q
            · exact ek ((nI_eq hw2 (by omega)).mp q).symm) 7 0 (by omega)
        rw [ab_sumI_one (σ 49) w 7, if_pos (show w < 7 by omega)] at this
        rw [h5 w (by omega)]
        exact this
  · have g1 : bm_rg p (-1) 6 = false := by simpa using g1
    refine ⟨bm_lw 0, bm_tl 0 σ, bm_fo 0 (bm_tl 0 σ), ?_, ?_, hR.tell (by omega) (by decide)⟩
    · rw [bb_64_0, bs_tell X _ (by decide), bm_bI_some]
      by_cases c1 : p < -nI 1
      · rw [decide_eq_true c1, cond_true]
      · have c2 : decide (p < nI 7) = false := by
          rw [bm_lt_toInt, h7]
          apply decide_eq_false
          intro q
          have c1' : ¬ p.toInt < -1 := fun z => c1 (Int32.lt_iff_toInt_lt.mpr (by rw [hm1]; exact z))
          have : bm_rg p (-1) 6 = true := by
            simp only [bm_rg, Bool.and_eq_true, decide_eq_true_eq]
            omega
          rw [g1] at this
          cases this
        rw [decide_eq_false c1, cond_false, c2, cond_false]
    · rw [bb_100_0, m1, bm_bI_some, bm_cond_bi, g1, cond_false, bs_finds X _ (by decide), bm_bI_some]
/-- how many of the twelve lowest bits are set -/
def ab_on (m : Nat) : Nat → Nat
  | 0 => 0
  | n + 1 => ab_on m n + m / 2 ^ n % 2
theorem bn_bit : ∀ m, m < 256 → ∀ j, j < 12 → (bm_shr (nI m) (nI j) &&& nI 1) = nI (m / 2 ^ j % 2) := by decide +kernel
theorem bn_put : ∀ n, n < 8 → ∀ m, m < 2 ^ n → ∀ b, b < 2 → (nI m ||| bm_shl (nI b) (nI n)) = nI (m + b * 2 ^ n) := by decide +kernel
theorem ho_ones (X : bm_X) (σ : bm_M) {m : Nat} (hm : m < 256) : ∀ (n j : Nat), j + n = 12 → bm_ev X 37 4 [.int (nI m), .int (nI (ab_on m j)), .int (nI j)] [] σ = some (.int (nI (ab_on m 12)), σ) := by
  intro n
  induction n with
  | zero =>
    intro j hj
    rw [bb_37_4]
    rw [show j = 12 by omega, bn_lt (by decide) (by decide), decide_eq_false (by decide), cond_false]
  | succ n ih =>
    intro j hj
    rw [bb_37_4, bn_lt (by omega) (by decide), decide_eq_true (by omega), cond_true, bn_bit m hm j (by omega), bn_add, bn_add]
    exact ih (j + 1) (by omega)
theorem hm_ones (X : bm_X) (σ : bm_M) {m : Nat} (hm : m < 256) : bm_ev X 37 0 [.int (nI m), .null, .null] [] σ = some (.int (nI (ab_on m 12)), σ) := by
  rw [bb_37_0]
  exact ho_ones X σ hm 12 0 (by omega)
def ab_bc (p0 : Int32) : Int32 := ((((((((p0 - ((bm_ushr p0 (nI 1)) &&& (nI 1431655765))) &&& (nI 858993459)) + ((bm_ushr (p0 - ((bm_ushr p0 (nI 1)) &&& (nI 1431655765))) (nI 2)) &&& (nI 858993459))) + (bm_ushr (((p0 - ((bm_ushr p0 (nI 1)) &&& (nI 1431655765))) &&& (nI 858993459)) + ((bm_ushr (p0 - ((bm_ushr p0 (nI 1)) &&& (nI 1431655765))) (nI 2)) &&& (nI 858993459))) (nI 4))) &&& (nI 252645135)) + (bm_ushr (((((p0 - ((bm_ushr p0 (nI 1)) &&& (nI 1431655765))) &&& (nI 858993459)) + ((bm_ushr (p0 - ((bm_ushr p0 (nI 1)) &&& (nI 1431655765))) (nI 2)) &&& (nI 858993459))) + (bm_ushr (((p0 - ((bm_ushr p0 (nI 1)) &&& (nI 1431655765))) &&& (nI 858993459)) + ((bm_ushr (p0 - ((bm_ushr p0 (nI 1)) &&& (nI 1431655765))) (nI 2)) &&& (nI 858993459))) (nI 4))) &&& (nI 252645135)) (nI 8))) + (bm_ushr ((((((p0 - ((bm_ushr p0 (nI 1)) &&& (nI 1431655765))) &&& (nI 858993459)) + ((bm_ushr (p0 - ((bm_ushr p0 (nI 1)) &&& (nI 1431655765))) (nI 2)) &&& (nI 858993459))) + (bm_ushr (((p0 - ((bm_ushr p0 (nI 1)) &&& (nI 1431655765))) &&& (nI 858993459)) + ((bm_ushr (p0 - ((bm_ushr p0 (nI 1)) &&& (nI 1431655765))) (nI 2)) &&& (nI 858993459))) (nI 4))) &&& (nI 252645135)) + (bm_ushr (((((p0 - ((bm_ushr p0 (nI 1)) &&& (nI 1431655765))) &&& (nI 858993459)) + ((bm_ushr (p0 - ((bm_ushr p0 (nI 1)) &&& (nI 1431655765))) (nI 2)) &&& (nI 858993459))) + (bm_ushr (((p0 - ((bm_ushr p0 (nI 1)) &&& (nI 1431655765))) &&& (nI 858993459)) + ((bm_ushr (p0 - ((bm_ushr p0 (nI 1)) &&& (nI 1431655765))) (nI 2)) &&& (nI 858993459))) (nI 4))) &&& (nI 252645135)) (nI 8))) (nI 16))) &&& (nI 63))
theorem bn_bc : ∀ m, m < 256 → ab_bc (nI m) = nI (ab_on m 12) := by decide +kernel
theorem hc_bits (X : bm_X) (σ : bm_M) {m : Nat} (hm : m < 256) : bm_ev X 48 0 [.int (nI m)] [] σ = some (.int (nI (ab_on m 12)), σ) := by
  rw [bb_48_0]
  show some (Value.int (ab_bc (nI m)), σ) = _
  rw [bn_bc m hm]
theorem ab_muf_ex {a : ab_T} (hG : ab_G a) : ∀ n, n ≤ 8 → ∃ m, m < 2 ^ n ∧ ab_or (ab_muf a) n = nI m
  | 0, _ => ⟨0, by decide, rfl⟩
  | n + 1, hn => by
    obtain ⟨m, hm, e⟩ := ab_muf_ex hG n (by omega)
    obtain ⟨-, -, -, -, -, -, b⟩ := hG.2.2.2.2.2 n (by omega)
    refine ⟨m + a 10 n * 2 ^ n, ?_, ?_⟩
    · have : a 10 n * 2 ^ n ≤ 1 * 2 ^ n := Nat.mul_le_mul_right _ b
      rw [Nat.pow_succ]
      omega
    · rw [ab_or, e]
      exact bn_put n (by omega) m hm (a 10 n) (by omega)
theorem ab_muf256 {a : ab_T} (hG : ab_G a) : ∃ m, m < 256 ∧ ab_or (ab_muf a) (a 0 7) = nI m := by
  obtain ⟨m, h1, h2⟩ := ab_muf_ex hG (a 0 7) hG.2.2.1
  have : 2 ^ a 0 7 ≤ 2 ^ 8 := Nat.pow_le_pow_right (by decide) hG.2.2.1
  exact ⟨m, by omega, h2⟩
/-- spots that hold something -/
def ab_hd (a : ab_T) : Nat → Nat
  | 0 => 0
  | n + 1 => ab_hd a n + (if a 3 n = 4294967295 then 0 else 1)
theorem hc_held (X : bm_X) {o : Nat} (ho : bm_isH o) {σ : bm_M} {a : ab_T} (hH : ab_H o σ a) (hG : ab_G a) {k : Nat} (hP : ab_P a) : ∀ (n j : Nat), j + n = 10 → bm_ev X 16 4 [.ref o, .int (nI (ab_hd a j)), .int (nI j)] [] σ = some (.int (nI (ab_hd a 10)), σ) := by
  intro n
  induction n with
  | zero =>
    intro j hj
    rw [bb_16_4 _ _ _ ho]
    rw [show j = 10 by omega, bn_lt (by decide) (by decide), decide_eq_false (by decide), cond_false]
  | succ n ih =>
    intro j hj
    have e3 := hH 3 j (decide_eq_true (by omega))
    have := ih (j + 1) (by omega)
    have hc := hG.2.2.1
    rw [bb_16_4 _ _ _ ho, bn_lt (by omega) (by decide), decide_eq_true (by omega), cond_true, bn_inT (by omega) (by decide), bm_gd_t, bn_clamp (by omega), e3, bn_add, bn_add]
    rcases hP j (by omega) with q | q
    · rw [q, ← bn_m1, bn_same, cond_true]
      rw [ab_hd, if_pos q] at this
      exact this
    · have hne : decide (nI (a 3 j) = -nI 1) = false := by
        apply decide_eq_false
        intro z
        have := congrArg Int32.toInt z
        rw [bn_toInt (by omega)] at this
        have h2 : (-nI 1 : Int32).toInt = -1 := by decide
        omega
      rw [hne, cond_false]
      rw [ab_hd, if_neg (by omega)] at this
      exact this
theorem hm_held (X : bm_X) {σ : bm_M} {a : ab_T} (hS : ab_S 46 σ a) (hG : ab_G a) {k : Nat} (hP : ab_P a) : ∀ (n j : Nat), j + n = 10 → bm_ev X 47 4 [.ref 45, .int (nI (ab_hd a j)), .int (nI j)] [] σ = some (.int (nI (ab_hd a 10)), σ) := by
  intro n
  induction n with
  | zero =>
    intro j hj
    rw [bb_47_4]
    rw [show j = 10 by omega, bn_lt (by decide) (by decide), decide_eq_false (by decide), cond_false]
  | succ n ih =>
    intro j hj
    have e3 : σ 46 (85 + j) = nI (a 3 j) := hS 3 j (decide_eq_true (by omega))
    have := ih (j + 1) (by omega)
    have hc := hG.2.2.1
    rw [bb_47_4, bn_lt (by omega) (by decide), decide_eq_true (by omega), cond_true, bn_add, bn_inT (by omega) (by decide), bm_gd_t, bn_clamp (by omega), e3, bb_47_18, bb_47_18, bn_add, bn_add, bn_add]
    rcases hP j (by omega) with q | q
    · rw [q, ← bn_m1, bn_m1_lt, cond_true]
      rw [ab_hd, if_pos q] at this
      exact this
    · rw [bn_lt0 (by omega), cond_false]
      rw [ab_hd, if_neg (by omega)] at this
      exact this
theorem op_count (X : bm_X) (p : Int32) : ab_op X 63 139 [.ref 0, .int p] [.ref 45, .int p] := by
  intro T σ hR hT
  obtain ⟨a, ka, kp, tl, h1, h2, h3, h4, h5⟩ := id hR
  obtain ⟨hH, hS, hG, hP, hh⟩ := id h1
  obtain ⟨t1, t2, -⟩ := id h3
  have e5 : σ 1 5 = nI (a 0 5) := hH 0 5 rfl
  have e5m : σ 46 0 = nI (a 0 5) := hS 0 5 rfl
  have e6 : σ 1 6 = nI (a 0 6) := hH 0 6 rfl
  have e6m : σ 46 1 = nI (a 0 6) := hS 0 6 rfl
  have e7 : σ 1 7 = nI (a 0 7) := hH 0 7 rfl
  have e7m : σ 46 2 = nI (a 0 7) := hS 0 7 rfl
  obtain ⟨m, hm, em⟩ := ab_muf256 hG
  have fin : ∀ x : Int32, bm_ev X 63 0 [.ref 0, .int p] [] σ = some (.int x, σ) → bm_ev X 139 0 [.ref 45, .int p] [] σ = some (.int x, σ) → ∃ (x : Int32) (τ τ' : bm_M), bm_ev X 63 0 [.ref 0, .int p] [] σ = some (.int x, τ) ∧ bm_ev X 139 0 [.ref 45, .int p] [] τ = some (.int x, τ') ∧ ab_R (T + 60) τ' := fun x q1 q2 => ⟨x, σ, σ, q1, q2, hR.junk (by omega) ab_K.rf⟩
  by_cases c0 : p = nI 0
  · refine fin (nI (a 0 5)) ?_ ?_
    · rw [bb_63_0, decide_eq_true c0, cond_true, e5]
    · rw [bb_139_0, decide_eq_true c0, cond_true, bn_inT (by decide) (by decide), bm_gd_t, bn_clamp (by decide), e5m]
  by_cases c1 : p = nI 1
  · refine fin (nI (a 0 7)) ?_ ?_
    · rw [bb_63_0, decide_eq_false c0, cond_false, decide_eq_true c1, cond_true, e7]
    · rw [bb_139_0, decide_eq_false c0, cond_false, decide_eq_true c1, cond_true, bn_inT (by decide) (by decide), bm_gd_t, bn_clamp (by decide), e7m]
  by_cases c2 : p = nI 2
  · refine fin (nI (ab_on m 12)) ?_ ?_
    · rw [bb_63_0, decide_eq_false c0, cond_false, decide_eq_false c1, cond_false, decide_eq_true c2, cond_true, hc_muffled X (Or.inl rfl) hH hG (k := 0), bm_bI_some, em, hc_bits X σ hm, bm_bI_some]
    · rw [bb_139_0, decide_eq_false c0, cond_false, decide_eq_false c1, cond_false, decide_eq_true c2, cond_true, hm_muffled X hS hG (k := 0), bm_bI_some, em, hm_ones X σ hm, bm_bI_some]
  by_cases c3 : p = nI 3
  · refine fin (nI (ab_sum (a 9) (a 0 7))) ?_ ?_
    · rw [bb_63_0, decide_eq_false c0, cond_false, decide_eq_false c1, cond_false, decide_eq_false c2, cond_false, decide_eq_true c3, cond_true, hc_rungs X (Or.inl rfl) hH hG (k := 0), bm_bI_some]
    · rw [bb_139_0, decide_eq_false c0, cond_false, decide_eq_false c1, cond_false, decide_eq_false c2, cond_false, decide_eq_true c3, cond_true, hm_rungs X hS hG (k := 0), bm_bI_some]
  by_cases c4 : p = nI 4
  · refine fin (nI (ab_sum (a 2) 12)) ?_ ?_
    · rw [bb_63_0, decide_eq_false c0, cond_false, decide_eq_false c1, cond_false, decide_eq_false c2, cond_false, decide_eq_false c3, cond_false, decide_eq_true c4, cond_true, hc_milk X (Or.inl rfl) hH hG (k := 0), bm_bI_some]
    · rw [bb_139_0, decide_eq_false c0, cond_false, decide_eq_false c1, cond_false, decide_eq_false c2, cond_false, decide_eq_false c3, cond_false, decide_eq_true c4, cond_true, hm_pails X hS hG (k := 0), bm_bI_some]
  by_cases c5 : p = nI 5
  · refine fin (nI tl) ?_ ?_
    · rw [bb_63_0, decide_eq_false c0, cond_false, decide_eq_false c1, cond_false, decide_eq_false c2, cond_false, decide_eq_false c3, cond_false, decide_eq_false c4, cond_false, decide_eq_true c5, cond_true, t1]
    · rw [bb_139_0, decide_eq_false c0, cond_false, decide_eq_false c1, cond_false, decide_eq_false c2, cond_false, decide_eq_false c3, cond_false, decide_eq_false c4, cond_false, decide_eq_true c5, cond_true, t2]
  by_cases c6 : p = nI 6
  · refine fin (nI (a 0 6)) ?_ ?_
    · rw [bb_63_0, decide_eq_false c0, cond_false, decide_eq_false c1, cond_false, decide_eq_false c2, cond_false, decide_eq_false c3, cond_false, decide_eq_false c4, cond_false, decide_eq_false c5, cond_false, decide_eq_true c6, cond_true, e6]
    · rw [bb_139_0, decide_eq_false c0, cond_false, decide_eq_false c1, cond_false, decide_eq_false c2, cond_false, decide_eq_false c3, cond_false, decide_eq_false c4, cond_false, decide_eq_false c5, cond_false, decide_eq_true c6, cond_true, bn_inT (by decide) (by decide), bm_gd_t, bn_clamp (by decide), e6m]
  by_cases c7 : p = nI 7
  · refine fin (nI (ab_hd a 10)) ?_ ?_
    · rw [bb_63_0, decide_eq_false c0, cond_false, decide_eq_false c1, cond_false, decide_eq_false c2, cond_false, decide_eq_false c3, cond_false, decide_eq_false c4, cond_false, decide_eq_false c5, cond_false, decide_eq_false c6, cond_false, decide_eq_true c7, cond_true, bb_16_0 _ _ _ (Or.inl rfl)]
      have := hc_held X (Or.inl rfl) hH hG (k := 0) hP 10 0 (by omega)
      rw [show nI (ab_hd a 0) = nI 0 from rfl] at this
      rw [this, bm_bI_some]
    · rw [bb_139_0, decide_eq_false c0, cond_false, decide_eq_false c1, cond_false, decide_eq_false c2, cond_false, decide_eq_false c3, cond_false, decide_eq_false c4, cond_false, decide_eq_false c5, cond_false, decide_eq_false c6, cond_false, decide_eq_true c7, cond_true, bb_47_0]
      have := hm_held X hS hG (k := 0) hP 10 0 (by omega)
      rw [show nI (ab_hd a 0) = nI 0 from rfl] at this
      rw [this, bm_bI_some]
  refine ⟨bm_lw 0, bm_tl 0 σ, bm_fo 0 (bm_tl 0 σ), ?_, ?_, hR.tell (by omega) (by decide)⟩
  · rw [bb_63_0, decide_eq_false c0, cond_false, decide_eq_false c1, cond_false, decide_eq_false c2, cond_false, decide_eq_false c3, cond_false, decide_eq_false c4, cond_false, decide_eq_false c5, cond_false, decide_eq_false c6, cond_false, decide_eq_false c7, cond_false, bs_tell X _ (by decide), bm_bI_some]
  · rw [bb_139_0, decide_eq_false c0, cond_false, decide_eq_false c1, cond_false, decide_eq_false c2, cond_false, decide_eq_false c3, cond_false, decide_eq_false c4, cond_false, decide_eq_false c5, cond_false, decide_eq_false c6, cond_false, decide_eq_false c7, cond_false, bs_finds X _ (by decide), bm_bI_some]
