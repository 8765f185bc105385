/-! odds -/
def ab_opL (X : bm_X) (c m : Nat) (Lc Lm : List Value) : Prop := ∀ (T : Nat) (σ : bm_M), ab_R T σ → T ≤ 31000 → ∃ (x : Int64) (τ τ' : bm_M), bm_ev X c 0 Lc [] σ = some (.long x, τ) ∧ bm_ev X m 0 Lm [] τ = some (.long x, τ') ∧ ab_R (T + 60) τ'
theorem bl_to {n : Nat} (h : n < 9223372036854775808) : (lN n).toInt = (n : Int) := lg_ofNat_toInt (by omega)
theorem bl_div {a b : Nat} (ha : a < 9223372036854775808) (hb : b < 9223372036854775808) : lN a / lN b = lN (a / b) := by
  apply Int64.toInt_inj.mp
  have hd : a / b < 9223372036854775808 := Nat.lt_of_le_of_lt (Nat.div_le_self a b) ha
  rw [Int64.toInt_div, bl_to ha, bl_to hb, bl_to hd, Int.bmod_eq_of_le]
  · rfl
  · have : (0 : Int) ≤ (a : Int).tdiv (b : Int) := by exact Int.ofNat_nonneg _
    omega
  · have : (a : Int).tdiv (b : Int) = ((a / b : Nat) : Int) := rfl
    omega
theorem bl_rem {a b : Nat} (ha : a < 9223372036854775808) (hb : b < 9223372036854775808) : bm_lrem (lN a) (lN b) = lN (a % b) := by
  unfold bm_lrem
  have h : a / b * b ≤ a := Nat.div_mul_le_self a b
  rw [bl_div ha hb, lN_mul, lN_sub h]
  congr 1
  have := Nat.div_add_mod a b
  rw [Nat.mul_comm] at this
  omega
theorem bl_eq0 {a : Nat} (ha : a < 9223372036854775808) : decide (lg_cmp (lN a) (lN 0) = 0) = decide (a = 0) := by
  apply decide_eq_decide.mpr
  have h1 := bm_lcmp_gt (lN a) (lN 0)
  have h2 := bm_lcmp_lt (lN a) (lN 0)
  rw [bl_to ha, bl_to (by decide)] at h1 h2
  by_cases e : a = 0
  · subst e
    exact ⟨fun _ => rfl, fun _ => by decide⟩
  · constructor
    · intro z
      rw [z, decide_eq_true (show ((0 : Nat) : Int) < (a : Int) by omega)] at h1
      exact absurd h1 (by decide)
    · intro z; exact absurd z e
theorem bl_nz {a : Nat} (ha : a < 9223372036854775808) (h : a ≠ 0) : bm_nzl (lN a) = true := by
  unfold bm_nzl
  rw [decide_eq_false]
  · rfl
  · intro z
    have := congrArg Int64.toInt z
    rw [bl_to ha] at this
    have z0 : (0 : Int64).toInt = 0 := by decide
    omega
theorem bl_ofI {n : Nat} (h : n < 2147483648) : (nI n).toInt64 = lN n := by
  apply Int64.toInt_inj.mp
  rw [bm_i2l, bn_toInt h, bl_to (by omega)]
theorem ho_pow (X : bm_X) (σ : bm_M) {x n : Nat} (hx : x < 2147483648) (hn : n < 1000) : ∀ (i j : Nat), j + i = n → bm_ev X 29 4 [.int (nI x), .int (nI n), .long (lN (x ^ j)), .null, .int (nI j)] [] σ = some (.long (lN (x ^ n)), σ)
  | 0, j, e => by
    have e2 : j = n := by omega
    subst e2
    rw [bb_29_4, bn_lt (by omega) (by omega), decide_eq_false (by omega), cond_false]
  | i + 1, j, e => by
    rw [bb_29_4, bn_lt (by omega) (by omega), decide_eq_true (by omega), cond_true, bl_ofI hx, lN_mul, bn_add, ← Nat.pow_succ]
    exact ho_pow X σ hx hn i (j + 1) (by omega)
theorem hc_pow (X : bm_X) (σ : bm_M) {x n : Nat} (hx : x < 2147483648) (hn : n < 1000) : bm_ev X 29 0 [.int (nI x), .int (nI n), .null, .null, .null] [] σ = some (.long (lN (x ^ n)), σ) := by
  rw [bb_29_0]
  exact ho_pow X σ hx hn n 0 (by omega)
def ab_rd : Nat → Nat → Nat → Nat × Nat
  | 0, x, y => (x, y)
  | i + 1, x, y => bif decide (x % 2 = 0) then ab_rd i (x / 2) (y / 2) else (x, y)
theorem hc_red (X : bm_X) (σ : bm_M) (x1 x2 : Int32) : ∀ (i j x y : Nat), j + i = 3 → x < 1000 → y < 1000 → ∃ u, bm_ev X 60 26 [.ref 0, .int x1, .int x2, .int (nI x), .int (nI y), .int (nI j)] [] σ = bm_ev X 60 43 [.ref 0, .int x1, .int x2, .int (nI (ab_rd i x y).1), .int (nI (ab_rd i x y).2), u] [] σ
  | 0, j, x, y, e, hx, hy => ⟨.int (nI j), by
    rw [bb_60_26, bn_lt (by omega) (by decide), decide_eq_false (by omega), cond_false]
    rfl⟩
  | i + 1, j, x, y, e, hx, hy => by
    obtain ⟨u, r⟩ := hc_red X σ x1 x2 i (j + 1) (x / 2) (y / 2) (by omega) (by omega) (by omega)
    have ex : bm_ev X 60 26 [.ref 0, .int x1, .int x2, .int (nI x), .int (nI y), .int (nI j)] [] σ = bif decide (x % 2 = 0) then bm_ev X 60 26 [.ref 0, .int x1, .int x2, .int (nI (x / 2)), .int (nI (y / 2)), .int (nI (j + 1))] [] σ else bm_ev X 60 43 [.ref 0, .int x1, .int x2, .int (nI x), .int (nI y), .int (nI j)] [] σ := by
      rw [bb_60_26, bn_lt (by omega) (by decide), decide_eq_true (by omega), cond_true, bn_rem (by omega) (by decide), bn_eq0 (by omega), bn_div (by omega) (by decide), bn_div (by omega) (by decide), bn_add]
    rw [ex, ab_rd]
    cases decide (x % 2 = 0)
    · exact ⟨_, rfl⟩
    · exact ⟨u, r⟩
theorem hm_gcd (X : bm_X) (σ : bm_M) (w : Int32) {P Q : Nat} (hP : P < 9223372036854775808) (hQ : Q < 9223372036854775808) (u0 u1 : Value) : ∀ (b a : Nat) (u11 u12 : Value), a < 9223372036854775808 → b < 9223372036854775808 → Nat.gcd a b ≠ 0 → bm_ev X 132 48 [u0, u1, .int w, .long (lN P), .null, .long (lN Q), .null, .long (lN a), .null, .long (lN b), .null, u11, u12] [] σ = bif decide (w = 0) then some (.long (lN (P / Nat.gcd a b)), σ) else some (.long (lN (Q / Nat.gcd a b)), σ) := by
  intro b
  induction b using Nat.strongRecOn with
  | _ b ih =>
    intro a u11 u12 ha hb hg
    rw [bb_132_48, bl_eq0 hb]
    by_cases e : b = 0
    · subst e
      rw [Nat.gcd_zero_right] at hg ⊢
      rw [decide_eq_true rfl, cond_true, bl_nz ha hg, bm_gd_t, bm_gd_t, bl_div hP ha, bl_div hQ ha]
    · rw [decide_eq_false e, cond_false, bl_nz hb e, bm_gd_t, bl_rem ha hb]
      have hlt : a % b < b := Nat.mod_lt _ (by omega)
      have hgg : Nat.gcd b (a % b) = Nat.gcd a b := by
        rw [Nat.gcd_comm b, ← Nat.gcd_rec b a, Nat.gcd_comm]
      rw [ih (a % b) hlt b _ _ hb (by omega) (by rw [hgg]; exact hg), hgg]
theorem ab_on_le : ∀ c, c ≤ 8 → ∀ m, m < 2 ^ c → ab_on m 12 ≤ c := by decide +kernel
theorem ab_odd : ∀ u, u ≤ 8 → ∀ n, n ≤ 18 → Nat.gcd (u ^ n) (8 ^ n) ≠ 0 ∧ u ^ n / Nat.gcd (u ^ n) (8 ^ n) = (ab_rd 3 u 8).1 ^ n ∧ 8 ^ n / Nat.gcd (u ^ n) (8 ^ n) = (ab_rd 3 u 8).2 ^ n ∧ u ^ n < 9223372036854775808 ∧ 8 ^ n < 9223372036854775808 ∧ (ab_rd 3 u 8).1 < 9 ∧ (ab_rd 3 u 8).2 < 9 := by decide +kernel
theorem op_odds (X : bm_X) (p w : Int32) : ab_opL X 60 132 [.ref 0, .int p, .int w, .null, .null, .null] [.ref 45, .int p, .int w, .null, .null, .null, .null, .null, .null, .null, .null, .null, .null] := by
  intro T σ hR hT
  obtain ⟨a, ka, kp, tl, h1, h2, h3, h4, h5⟩ := id hR
  obtain ⟨hH, hS, hG, hP, hh⟩ := id h1
  have hc := hG.2.2.1
  have e7 : σ 1 7 = nI (a 0 7) := hH 0 7 rfl
  have e7m : σ 46 2 = nI (a 0 7) := hS 0 7 rfl
  have i1 : ∀ (x : Int32) (σ : bm_M), bm_ev X 24 0 [.int x, .int (nI 18)] [] σ = some (.int (bm_bi (bm_rg x 0 18)), σ) := fun x σ => bs_upN X σ x (by decide)
  have i2 : ∀ (x : Int32) (σ : bm_M), bm_ev X 24 0 [.int x, .int (nI 1)] [] σ = some (.int (bm_bi (bm_rg x 0 1)), σ) := fun x σ => bs_upN X σ x (by decide)
  have m1 : ∀ (x : Int32) (σ : bm_M), bm_ev X 32 0 [.long x.toInt64, .null, .long (lN 0), .null, .long (lN 18), .null] [] σ = some (.int (bm_bi (bm_rg x 0 18)), σ) := fun x σ => bs_inI X σ x (by decide) (by decide)
  have m2 : ∀ (x : Int32) (σ : bm_M), bm_ev X 32 0 [.long x.toInt64, .null, .long (lN 0), .null, .long (lN 1), .null] [] σ = some (.int (bm_bi (bm_rg x 0 1)), σ) := fun x σ => bs_inI X σ x (by decide) (by decide)
  cases g1 : bm_rg p 0 18
  · refine ⟨(bm_lw 0).toInt64, bm_tl 0 σ, bm_fo 0 (bm_tl 0 σ), ?_, ?_, hR.tell (by omega) (by decide)⟩
    · rw [bb_60_0, i1, bm_bI_some, bm_cond_bi, g1, cond_false, bs_tell X _ (by decide), bm_bI_some]
    · rw [bb_132_0, m1, bm_bI_some, bm_cond_bi, g1, cond_false, bs_finds X _ (by decide), bm_bI_some]
  cases g2 : bm_rg w 0 1
  · refine ⟨(bm_lw 0).toInt64, bm_tl 0 σ, bm_fo 0 (bm_tl 0 σ), ?_, ?_, hR.tell (by omega) (by decide)⟩
    · rw [bb_60_0, i1, bm_bI_some, bm_cond_bi, g1, cond_true, i2, bm_bI_some, bm_cond_bi, g2, cond_false, bs_tell X _ (by decide), bm_bI_some]
    · rw [bb_132_0, m1, bm_bI_some, bm_cond_bi, g1, cond_true, m2, bm_bI_some, bm_cond_bi, g2, cond_false, bs_finds X _ (by decide), bm_bI_some]
  obtain ⟨n, hn, -, rfl⟩ := bm_rg_ex (n := 18) g1
  obtain ⟨m, hm, em⟩ := ab_muf_ex hG (a 0 7) hc
  have hm256 : m < 256 := by
    have := ab_2c hc
    omega
  have hon := ab_on_le (a 0 7) hc m hm
  obtain ⟨U, hU⟩ : ∃ U, U = a 0 7 - ab_on m 12 := ⟨_, rfl⟩
  have hU8 : U ≤ 8 := by omega
  obtain ⟨o1, o2, o3, o4, o5, o6, o7⟩ := ab_odd U hU8 n hn
  refine ⟨bif decide (w = 0) then lN ((ab_rd 3 U 8).1 ^ n) else lN ((ab_rd 3 U 8).2 ^ n), σ, σ, ?_, ?_, hR.junk (by omega) ab_K.rf⟩
  · obtain ⟨u, r⟩ := hc_red X σ (nI n) w 3 0 U 8 (by omega) (by omega) (by decide)
    rw [bb_60_0, i1, bm_bI_some, bm_cond_bi, g1, cond_true, i2, bm_bI_some, bm_cond_bi, g2, cond_true, hc_muffled X (Or.inl rfl) hH hG (k := 0), bm_bI_some, em, hc_bits X σ hm256, bm_bI_some, e7, bn_sub hon, ← hU, r, bb_60_43, hc_pow X σ (by omega) (by omega), hc_pow X σ (by omega) (by omega), bm_bL_some, bm_bL_some]
    cases decide (w = 0) <;> rfl
  · have lp : ∀ (i j : Nat), j + i = n → bm_ev X 132 23 [.ref 45, .int (nI n), .int w, .long (lN (U ^ j)), .null, .long (lN (8 ^ j)), .null, .int (nI j), .null, .null, .null, .null, .null] [] σ = bm_ev X 132 48 [.ref 45, .int (nI n), .int w, .long (lN (U ^ n)), .null, .long (lN (8 ^ n)), .null, .long (lN (U ^ n)), .null, .long (lN (8 ^ n)), .null, .null, .null] [] σ := by
      intro i
      induction i with
      | zero =>
        intro j e
        have e2 : j = n := by omega
        subst e2
        rw [bb_132_23, bn_lt (by omega) (by omega), decide_eq_false (by omega), cond_false]
      | succ i ih =>
        intro j e
        rw [bb_132_23, bn_lt (by omega) (by omega), decide_eq_true (by omega), cond_true, bn_inT (by decide) (by decide), bm_gd_t, hm_muffled X hS hG (k := 0), bm_bI_some, em, hm_ones X σ hm256, bm_bI_some, bn_clamp (by decide), e7m, bn_sub hon, ← hU, bl_ofI (by omega), lN_mul, lN_mul, bn_add, ← Nat.pow_succ, ← Nat.pow_succ]
        exact ih (j + 1) (by omega)
    rw [bb_132_0, m1, bm_bI_some, bm_cond_bi, g1, cond_true, m2, bm_bI_some, bm_cond_bi, g2, cond_true]
    refine (lp n 0 (by omega)).trans ?_
    rw [hm_gcd X σ w o4 o5 _ _ (8 ^ n) (U ^ n) _ _ o4 o5 o1, o2, o3]
    cases decide (w = 0) <;> rfl
