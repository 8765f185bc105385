/-! NUMBERS of the little machine -/
theorem bn_mul (a b : Nat) : nI a * nI b = nI (a * b) := by
  unfold nI
  rw [Int32.ofNat_mul]
theorem bn_add (a b : Nat) : nI a + nI b = nI (a + b) := nI_add a b
theorem bn_sub {a b : Nat} (h : b ≤ a) : nI a - nI b = nI (a - b) := by
  obtain ⟨c, rfl⟩ : ∃ c, a = b + c := ⟨a - b, by omega⟩
  rw [← nI_add, Nat.add_sub_cancel_left]
  rw [Int32.add_comm, Int32.add_sub_cancel]
theorem bn_toInt {a : Nat} (h : a < 2147483648) : (nI a).toInt = (a : Int) := nI_toInt h
theorem bn_lt {a b : Nat} (ha : a < 2147483648) (hb : b < 2147483648) : decide (nI a < nI b) = decide (a < b) := by
  simp [nI_ltI ha hb]
theorem bn_eq {a b : Nat} (ha : a < 2147483648) (hb : b < 2147483648) : decide (nI a = nI b) = decide (a = b) := by
  simp [nI_eq ha hb]
theorem bn_lt0 {a : Nat} (ha : a < 2147483648) : decide (nI a < 0) = false := by
  simp [nI_pos ha]
theorem bn_eq0 {a : Nat} (ha : a < 2147483648) : decide (nI a = 0) = decide (a = 0) := by
  have := bn_eq (b := 0) ha (by decide)
  exact this
theorem bn_clamp {a : Nat} (h : a < 2147483648) : (nI a).toNatClampNeg = a := nI_clamp h
theorem bn_in {a n : Nat} (h : a < 2147483648) : bm_in (nI a) n = decide (a < n) := by
  unfold bm_in
  rw [bn_lt0 h, bn_clamp h]
  rfl
theorem bn_div {a b : Nat} (ha : a < 2147483648) (hb : b < 2147483648) : nI a / nI b = nI (a / b) := by
  apply Int32.toInt_inj.mp
  have hd : a / b < 2147483648 := Nat.lt_of_le_of_lt (Nat.div_le_self a b) ha
  rw [Int32.toInt_div, bn_toInt ha, bn_toInt hb, bn_toInt hd, Int.bmod_eq_of_le]
  · rfl
  · have : (0 : Int) ≤ (a : Int).tdiv (b : Int) := by exact Int.ofNat_nonneg _
    omega
  · have : (a : Int).tdiv (b : Int) = ((a / b : Nat) : Int) := rfl
    omega
theorem bn_rem {a b : Nat} (ha : a < 2147483648) (hb : b < 2147483648) : bm_rem (nI a) (nI b) = nI (a % b) := by
  unfold bm_rem
  rw [bn_div ha hb, bn_mul, bn_sub (Nat.div_mul_le_self a b)]
  congr 1
  have := Nat.div_add_mod a b
  rw [Nat.mul_comm] at this
  omega
theorem bn_max {a b : Nat} (ha : a < 2147483648) (hb : b < 2147483648) : bm_max (nI a) (nI b) = nI (max a b) := by
  unfold bm_max
  by_cases h : a < b
  · rw [if_pos ((nI_ltI ha hb).mpr h), Nat.max_eq_right (Nat.le_of_lt h)]
  · rw [if_neg (fun q => h ((nI_ltI ha hb).mp q)), Nat.max_eq_left (Nat.le_of_not_lt h)]
theorem bn_min {a b : Nat} (ha : a < 2147483648) (hb : b < 2147483648) : bm_min (nI a) (nI b) = nI (min a b) := by
  unfold bm_min
  by_cases h : b < a
  · rw [if_pos ((nI_ltI hb ha).mpr h), Nat.min_eq_right (Nat.le_of_lt h)]
  · rw [if_neg (fun q => h ((nI_ltI hb ha).mp q)), Nat.min_eq_left (Nat.le_of_not_lt h)]
theorem bn_sub_toInt {a b : Nat} (ha : a < 1073741824) (hb : b < 1073741824) : (nI a - nI b).toInt = (a : Int) - b := by
  rw [Int32.toInt_sub, bn_toInt (by omega), bn_toInt (by omega), Int.bmod_eq_of_le] <;> omega
/-- a difference, 0 at least -/
theorem bn_max0 {a b : Nat} (ha : a < 1073741824) (hb : b < 1073741824) : bm_max (nI 0) (nI a - nI b) = nI (a - b) := by
  rcases Nat.lt_or_ge a b with h | h
  · unfold bm_max
    rw [if_neg, Nat.sub_eq_zero_of_le (Nat.le_of_lt h)]
    intro q
    rw [Int32.lt_iff_toInt_lt, bn_sub_toInt ha hb, bn_toInt (by decide)] at q
    omega
  · rw [bn_sub h, bn_max (by decide) (by omega), Nat.max_eq_right (Nat.zero_le _)]
theorem bn_sub_lt0 {a b : Nat} (ha : a < 1073741824) (hb : b < 1073741824) : decide (nI a - nI b < 0) = decide (a < b) := by
  apply decide_eq_decide.mpr
  rw [Int32.lt_iff_toInt_lt, bn_sub_toInt ha hb]
  have : (0 : Int32).toInt = 0 := by decide
  rw [this]
  omega
/-- the number of a truth -/
def bm_bi (b : Bool) : Int32 := cond b (nI 1) (nI 0)
theorem bm_bi_eq0 (b : Bool) : decide (bm_bi b = 0) = !b := by cases b <;> decide
theorem bm_bo_bi (b : Bool) : bm_bo (bm_bi b) = true := by cases b <;> decide
theorem bm_bo_0 : bm_bo (nI 0) = true := by decide
theorem bm_bo_1 : bm_bo (nI 1) = true := by decide
theorem bm_gd_t (x : bm_R) : bm_gd true x = x := rfl
theorem bm_bI_some (x : Int32) (τ : bm_M) (k : Int32 → bm_M → bm_R) : bm_bI (some (.int x, τ)) k = k x τ := rfl
theorem bm_bV_some (τ : bm_M) (k : bm_M → bm_R) : bm_bV (some (.null, τ)) k = k τ := rfl
theorem bm_bL_some (x : Int64) (τ : bm_M) (k : Int64 → bm_M → bm_R) : bm_bL (some (.long x, τ)) k = k x τ := rfl
theorem bm_bA_some (x : Nat) (τ : bm_M) (k : Nat → bm_M → bm_R) : bm_bA (some (.ref x, τ)) k = k x τ := rfl
theorem bm_cond_not (b : Bool) (x y : bm_R) : cond (!b) x y = cond b y x := by cases b <;> rfl
/-- within bounds -/
def bm_rg (x : Int32) (lo hi : Int) : Bool := decide (lo ≤ x.toInt) && decide (x.toInt ≤ hi)
theorem bm_rg_ex {x : Int32} {n : Nat} (h : bm_rg x 0 n = true) : ∃ j : Nat, j ≤ n ∧ j < 2147483648 ∧ x = nI j := by
  simp only [bm_rg, Bool.and_eq_true, decide_eq_true_eq] at h
  have hx : ¬ x < 0 := by
    rw [Int32.lt_iff_toInt_lt]
    have : (0 : Int32).toInt = 0 := by decide
    omega
  obtain ⟨j, hj, rfl⟩ := nI_of hx
  rw [nI_toInt hj] at h
  exact ⟨j, by omega, hj, rfl⟩
theorem bm_rg_nI {j : Nat} {n : Int} (hj : j < 2147483648) : bm_rg (nI j) 0 n = decide ((j : Int) ≤ n) := by
  simp [bm_rg, bn_toInt hj]
theorem bm_lt_toInt (x y : Int32) : decide (x < y) = decide (x.toInt < y.toInt) := by
  apply decide_eq_decide.mpr
  exact Int32.lt_iff_toInt_lt
theorem bm_i2l (x : Int32) : x.toInt64.toInt = x.toInt := Int32.toInt_toInt64 x
theorem bm_lcmp_lt (x y : Int64) : decide (lg_cmp x y < 0) = decide (x.toInt < y.toInt) := by
  apply decide_eq_decide.mpr
  rw [← Int64.lt_iff_toInt_lt]
  unfold lg_cmp
  by_cases h1 : x > y
  · rw [if_pos h1]
    constructor
    · intro q; exact absurd q (by decide)
    · intro q
      exact absurd (Int64.lt_iff_toInt_lt.mp q) (by have := Int64.lt_iff_toInt_lt.mp h1; omega)
  · rw [if_neg h1]
    by_cases h2 : x = y
    · rw [if_pos h2]
      subst h2
      constructor
      · intro q; exact absurd q (by decide)
      · intro q; exact absurd (Int64.lt_iff_toInt_lt.mp q) (by omega)
    · rw [if_neg h2]
      constructor
      · intro _
        rw [Int64.lt_iff_toInt_lt]
        have e1 : ¬ y.toInt < x.toInt := fun q => h1 (Int64.lt_iff_toInt_lt.mpr q)
        have e2 : ¬ x.toInt = y.toInt := fun q => h2 (Int64.toInt_inj.mp q)
        omega
      · intro _; decide
theorem bm_lcmp_gt (x y : Int64) : decide (0 < lg_cmp x y) = decide (y.toInt < x.toInt) := by
  apply decide_eq_decide.mpr
  rw [← Int64.lt_iff_toInt_lt]
  unfold lg_cmp
  by_cases h1 : x > y
  · rw [if_pos h1]
    exact ⟨fun _ => h1, fun _ => by decide⟩
  · rw [if_neg h1]
    by_cases h2 : x = y
    · rw [if_pos h2]
      subst h2
      exact ⟨fun q => absurd q (by decide), fun q => absurd q h1⟩
    · rw [if_neg h2]
      exact ⟨fun q => absurd q (by decide), fun q => absurd q h1⟩
theorem bl_toInt {n : Nat} (h : n < 2147483648) : (lN n).toInt = (n : Int) := lN_toInt h
/-- the reference's in -/
theorem bs_in (X : bm_X) (σ : bm_M) (x y z : Int64) : bm_ev X 32 0 [.long x, .null, .long y, .null, .long z, .null] [] σ = some (.int (bm_bi (decide (y.toInt ≤ x.toInt) && decide (x.toInt ≤ z.toInt))), σ) := by
  rw [bb_32_0]
  simp only [bm_lcmp_lt, bm_lcmp_gt, bm_bo_0, bm_bo_1, bm_gd_t]
  by_cases h1 : x.toInt < y.toInt
  · have : ¬ y.toInt ≤ x.toInt := by omega
    simp [h1, this, bm_bi]
  · have e1 : y.toInt ≤ x.toInt := by omega
    by_cases h2 : z.toInt < x.toInt
    · have : ¬ x.toInt ≤ z.toInt := by omega
      simp [h1, h2, e1, this, bm_bi]
    · have : x.toInt ≤ z.toInt := by omega
      simp [h1, h2, e1, this, bm_bi]
theorem bs_upTo (X : bm_X) (σ : bm_M) (x y : Int32) : bm_ev X 24 0 [.int x, .int y] [] σ = some (.int (bm_bi (bm_rg x 0 y.toInt)), σ) := by
  rw [bb_24_0]
  have h0 : (0 : Int32).toInt = 0 := by decide
  simp only [bm_lt_toInt, h0, bm_bo_0, bm_bo_1, bm_gd_t]
  by_cases h1 : x.toInt < 0
  · have : ¬ 0 ≤ x.toInt := by omega
    simp [h1, this, bm_bi, bm_rg]
  · have e1 : 0 ≤ x.toInt := by omega
    by_cases h2 : y.toInt < x.toInt
    · have : ¬ x.toInt ≤ y.toInt := by omega
      simp [h1, h2, e1, this, bm_bi, bm_rg]
    · have : x.toInt ≤ y.toInt := by omega
      simp [h1, h2, e1, this, bm_bi, bm_rg]
