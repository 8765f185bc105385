/-! SMALL CALLS -/
theorem bs_inI (X : bm_X) (σ : bm_M) (x : Int32) {lo hi : Nat} (hl : lo < 2147483648) (hh : hi < 2147483648) : bm_ev X 32 0 [.long x.toInt64, .null, .long (lN lo), .null, .long (lN hi), .null] [] σ = some (.int (bm_bi (bm_rg x lo hi)), σ) := by
  rw [bs_in, bm_i2l, bl_toInt hl, bl_toInt hh]
  rfl
theorem bs_c65 (X : bm_X) (σ : bm_M) (x : Int32) : bm_ev X 65 0 [.int x] [] σ = some (.int (bm_bi (bm_rg x 0 11)), σ) := by
  rw [bb_65_0, bs_upTo, bm_bI_some, bm_bo_bi, bm_gd_t]; rfl
theorem bs_c66 (X : bm_X) (σ : bm_M) (x : Int32) : bm_ev X 66 0 [.int x] [] σ = some (.int (bm_bi (bm_rg x 0 11)), σ) := by
  rw [bb_66_0, bs_upTo, bm_bI_some, bm_bo_bi, bm_gd_t]; rfl
theorem bs_c67 (X : bm_X) (σ : bm_M) (x : Int32) : bm_ev X 67 0 [.int x] [] σ = some (.int (bm_bi (bm_rg x 0 6)), σ) := by
  rw [bb_67_0, bs_upTo, bm_bI_some, bm_bo_bi, bm_gd_t]; rfl
theorem bs_c68 (X : bm_X) (σ : bm_M) (x : Int32) : bm_ev X 68 0 [.int x] [] σ = some (.int (bm_bi (bm_rg x 0 3)), σ) := by
  rw [bb_68_0, bs_upTo, bm_bI_some, bm_bo_bi, bm_gd_t]; rfl
theorem bs_upN (X : bm_X) (σ : bm_M) (x : Int32) {n : Nat} (h : n < 2147483648) : bm_ev X 24 0 [.int x, .int (nI n)] [] σ = some (.int (bm_bi (bm_rg x 0 n)), σ) := by
  rw [bs_upTo, bn_toInt h]
theorem bs_m73 (X : bm_X) (σ : bm_M) (x : Int32) : bm_ev X 73 0 [.int x] [] σ = some (.int (bm_bi (bm_rg x 0 11)), σ) := by
  rw [bb_73_0, bs_inI X σ x (by decide) (by decide), bm_bI_some, bm_bo_bi, bm_gd_t]; rfl
theorem bs_m74 (X : bm_X) (σ : bm_M) (x : Int32) : bm_ev X 74 0 [.int x] [] σ = some (.int (bm_bi (bm_rg x 0 99)), σ) := by
  rw [bb_74_0, bs_inI X σ x (by decide) (by decide), bm_bI_some, bm_bo_bi, bm_gd_t]; rfl
theorem bs_m76 (X : bm_X) (σ : bm_M) (x : Int32) : bm_ev X 76 0 [.int x] [] σ = some (.int (bm_bi (bm_rg x 0 6)), σ) := by
  rw [bb_76_0, bs_inI X σ x (by decide) (by decide), bm_bI_some, bm_bo_bi, bm_gd_t]; rfl
theorem bs_m89 (X : bm_X) (σ : bm_M) (x : Int32) : bm_ev X 89 0 [.int x] [] σ = some (.int (bm_bi (bm_rg x 0 100)), σ) := by
  rw [bb_89_0, bs_inI X σ x (by decide) (by decide), bm_bI_some, bm_bo_bi, bm_gd_t]; rfl
theorem bs_m90 (X : bm_X) (σ : bm_M) (x : Int32) : bm_ev X 90 0 [.int x] [] σ = some (.int (bm_bi (bm_rg x 0 40)), σ) := by
  rw [bb_90_0, bs_inI X σ x (by decide) (by decide), bm_bI_some, bm_bo_bi, bm_gd_t]; rfl
theorem bs_m96 (X : bm_X) (σ : bm_M) (x : Int32) : bm_ev X 96 0 [.int x] [] σ = some (.int (bm_bi (bm_rg x 0 9)), σ) := by
  rw [bb_96_0, bs_inI X σ x (by decide) (by decide), bm_bI_some, bm_bo_bi, bm_gd_t]; rfl
theorem bs_m97 (X : bm_X) (σ : bm_M) (x : Int32) : bm_ev X 97 0 [.int x] [] σ = some (.int (bm_bi (bm_rg x 0 3)), σ) := by
  rw [bb_97_0, bs_inI X σ x (by decide) (by decide), bm_bI_some, bm_bo_bi, bm_gd_t]; rfl
theorem bs_isCow (X : bm_X) {σ : bm_M} {n : Nat} (h : σ 1 7 = nI n) (hn : n ≤ 8) (x : Int32) : bm_ev X 25 0 [.ref 0, .int x] [] σ = some (.int (bm_bi (bm_rg x 0 ((n : Int) - 1))), σ) := by
  rw [bb_25_0, h]
  have h0 : (0 : Int32).toInt = 0 := by decide
  simp only [bm_lt_toInt, h0, bn_toInt (show n < 2147483648 by omega), bm_bo_0, bm_bo_1, bm_gd_t]
  by_cases h1 : x.toInt < 0
  · have : ¬ 0 ≤ x.toInt := by omega
    simp [h1, this, bm_bi, bm_rg]
  · have e1 : 0 ≤ x.toInt := by omega
    by_cases h2 : x.toInt < n
    · have : x.toInt ≤ (n : Int) - 1 := by omega
      simp [h1, h2, e1, this, bm_bi, bm_rg]
    · have : ¬ x.toInt ≤ (n : Int) - 1 := by omega
      simp [h1, h2, e1, this, bm_bi, bm_rg]
theorem bs_isCowM (X : bm_X) {σ : bm_M} {n : Nat} (h : σ 46 2 = nI n) (hn : n ≤ 8) (x : Int32) : bm_ev X 72 0 [.ref 45, .int x] [] σ = some (.int (bm_bi (bm_rg x 0 ((n : Int) - 1))), σ) := by
  rw [bb_72_0]
  simp (disch := omega) only [bn_inT, bn_clamp, bm_gd_t, h]
  rw [bs_in, bm_i2l, bm_i2l, bl_toInt (by decide), bn_sub_toInt (by omega) (by decide), bm_bI_some, bm_bo_bi, bm_gd_t]
  rfl
/-- a finding is told -/
def bm_lw (k : Nat) : Int32 := -nI 1000001 - nI k
def bm_tl (k : Nat) (σ : bm_M) : bm_M := bm_up σ 43 k (σ 43 k + nI 1)
def bm_fo (k : Nat) (σ : bm_M) : bm_M := bm_up σ 49 k (σ 49 k + nI 1)
theorem bs_tell (X : bm_X) (σ : bm_M) {k : Nat} (hk : k < 7) : bm_ev X 23 0 [.ref 0, .int (nI k)] [] σ = some (.int (bm_lw k), bm_tl k σ) := by
  rw [bb_23_0]
  simp (disch := omega) only [bn_inT, bn_clamp, bm_gd_t]
  rfl
theorem bs_finds (X : bm_X) (σ : bm_M) {k : Nat} (hk : k < 7) : bm_ev X 31 0 [.ref 45, .int (nI k)] [] σ = some (.int (bm_lw k), bm_fo k σ) := by
  rw [bb_31_0]
  simp (disch := omega) only [bn_inT, bn_clamp, bm_gd_t]
  rfl
/-- a herd becomes another -/
theorem bm_cp_at (σ : bm_M) (s d n i : Nat) : bm_cp σ s d 0 0 n d i = if i < n then σ s i else σ d i := by
  simp [bm_cp, va_cpy]
theorem bm_cp_ne (σ : bm_M) {s d k : Nat} (sp dp n : Nat) (h : k ≠ d) : bm_cp σ s d sp dp n k = σ k := by
  simp [bm_cp, h]
set_option maxHeartbeats 4000000 in
theorem hc_become (X : bm_X) (σ : bm_M) {o o2 : Nat} (ho : bm_isH o) (ho2 : bm_isH o2) (hne : o ≠ o2) : ∃ τ, bm_ev X 52 0 [.ref o, .ref o2] [] σ = some (.null, τ) ∧ (∀ c i, ab_wd c i = true → τ (o + c) i = σ (o2 + c) i) ∧ ab_F o σ τ := by
  rw [bb_52_0 _ _ o ho o2 ho2]
  have h12 : bm_ac (nI 0) (nI 0) (nI 12) 12 12 = true := by decide
  have h10 : bm_ac (nI 0) (nI 0) (nI 10) 10 10 = true := by decide
  have h8 : bm_ac (nI 0) (nI 0) (nI 8) 8 8 = true := by decide
  have c0 : (nI 0).toNatClampNeg = 0 := by decide
  have c12 : (nI 12).toNatClampNeg = 12 := by decide
  have c10 : (nI 10).toNatClampNeg = 10 := by decide
  have c8 : (nI 8).toNatClampNeg = 8 := by decide
  simp only [h12, h10, h8, bm_gd_t, c0, c12, c10, c8]
  refine ⟨_, rfl, ?_, ?_⟩
  · intro c i hw
    obtain ⟨h1, h2⟩ := ab_wd_lt hw
    have hgap : ∀ x y : Nat, x ≤ 10 → y ≤ 10 → o2 + x ≠ o + y := by
      intro x y hx hy
      rcases ho with rfl | rfl | rfl <;> rcases ho2 with rfl | rfl | rfl <;> omega
    have hg0 : ∀ y : Nat, y ≤ 10 → o2 ≠ o + y := fun y hy => hgap 0 y (by decide) hy
    have hg1 : ∀ x : Nat, x ≤ 10 → o2 + x ≠ o := fun x hx => hgap x 0 hx (by decide)
    have hg2 : o2 ≠ o := fun q => hne q.symm
    match c, h1, hw with
    | 0, _, hw =>
      simp only [ab_wd, Bool.and_eq_true, decide_eq_true_eq] at hw
      rcases (show i = 3 ∨ i = 4 ∨ i = 5 ∨ i = 6 ∨ i = 7 by omega) with rfl | rfl | rfl | rfl | rfl <;> simp [bm_cp, bm_up, upd, hg0, hg1, hg2]
    | 1, _, hw => simp only [ab_wd, decide_eq_true_eq] at hw; simp [bm_cp, bm_up, upd, va_cpy, hg0, hg1, hg2, hgap, hw]
    | 2, _, hw => simp only [ab_wd, decide_eq_true_eq] at hw; simp [bm_cp, bm_up, upd, va_cpy, hg0, hg1, hg2, hgap, hw]
    | 3, _, hw => simp only [ab_wd, decide_eq_true_eq] at hw; simp [bm_cp, bm_up, upd, va_cpy, hg0, hg1, hg2, hgap, hw]
    | 4, _, hw =>
      have hw : i < 8 := (by simpa [ab_wd] using hw)
      simp [bm_cp, bm_up, upd, va_cpy, hg0, hg1, hg2, hgap, hw]
    | 5, _, hw =>
      have hw : i < 8 := (by simpa [ab_wd] using hw)
      simp [bm_cp, bm_up, upd, va_cpy, hg0, hg1, hg2, hgap, hw]
    | 6, _, hw =>
      have hw : i < 8 := (by simpa [ab_wd] using hw)
      simp [bm_cp, bm_up, upd, va_cpy, hg0, hg1, hg2, hgap, hw]
    | 7, _, hw =>
      have hw : i < 8 := (by simpa [ab_wd] using hw)
      simp [bm_cp, bm_up, upd, va_cpy, hg0, hg1, hg2, hgap, hw]
    | 8, _, hw =>
      have hw : i < 8 := (by simpa [ab_wd] using hw)
      simp [bm_cp, bm_up, upd, va_cpy, hg0, hg1, hg2, hgap, hw]
    | 9, _, hw =>
      have hw : i < 8 := (by simpa [ab_wd] using hw)
      simp [bm_cp, bm_up, upd, va_cpy, hg0, hg1, hg2, hgap, hw]
    | 10, _, hw =>
      have hw : i < 8 := (by simpa [ab_wd] using hw)
      simp [bm_cp, bm_up, upd, va_cpy, hg0, hg1, hg2, hgap, hw]
  · intro q hq
    have hq' : ∀ x : Nat, x ≤ 10 → q ≠ o + x := fun x hx => by omega
    have hq0 : q ≠ o := by omega
    simp [bm_cp, bm_up, hq', hq0]
theorem hc_becomeA (X : bm_X) {σ : bm_M} {o o2 : Nat} {a : ab_T} (ho : bm_isH o) (ho2 : bm_isH o2) (hne : o ≠ o2) (hH : ab_H o2 σ a) : ∃ τ, bm_ev X 52 0 [.ref o, .ref o2] [] σ = some (.null, τ) ∧ ab_H o τ a ∧ ab_F o σ τ := by
  obtain ⟨τ, e1, e2, e3⟩ := hc_become X σ ho ho2 hne
  exact ⟨τ, e1, fun c i hw => by rw [e2 c i hw]; exact hH c i hw, e3⟩
/-- the trial begins -/
theorem hc_begin (X : bm_X) {σ : bm_M} {a : ab_T} (hH : ab_H 1 σ a) : ∃ τ, bm_ev X 121 0 [.ref 0] [] σ = some (.null, τ) ∧ ab_H 12 τ a ∧ ab_F 12 σ τ := by
  obtain ⟨τ, e1, e2, e3⟩ := hc_becomeA X (o := 12) (o2 := 1) (Or.inr (Or.inl rfl)) (Or.inl rfl) (by decide) hH
  rw [bb_121_0, e1, bm_bV_some]
  exact ⟨τ, rfl, e2, e3⟩
/-- the reference's rows -/
theorem hm_becomel (X : bm_X) {r0 r1 : Nat} (h0 : bm_al r0 = 95) (h1 : bm_al r1 = 95) (hne : r0 ≠ r1) (σ0 : bm_M) : ∀ (n j : Nat) (σ : bm_M), j + n = 95 → (∀ q, q ≠ r1 → σ q = σ0 q) → (∀ i, i < j → σ r1 i = σ0 r0 i) → ∃ τ, bm_ev X 33 2 [.ref r0, .ref r1, .int (nI j)] [] σ = some (.null, τ) ∧ (∀ q, q ≠ r1 → τ q = σ0 q) ∧ ∀ i, i < 95 → τ r1 i = σ0 r0 i := by
  intro n
  induction n with
  | zero =>
    intro j σ hj h2 h3
    rw [bb_33_2]
    rw [show j = 95 by omega] at h3 ⊢
    simp (disch := omega) only [bn_lt, Nat.lt_irrefl, decide_false, cond_false]
    exact ⟨σ, rfl, h2, h3⟩
  | succ n ih =>
    intro j σ hj h2 h3
    rw [bb_33_2]
    have hj' : decide (j < 95) = true := decide_eq_true (by omega)
    simp (disch := omega) only [bn_lt, hj', cond_true, h0, h1, bn_inT, bn_clamp, bm_gd_t, bn_add]
    refine ih (j + 1) _ (by omega) (fun q hq => by rw [bm_up_ne _ _ _ hq]; exact h2 q hq) (fun i hi => ?_)
    by_cases e : i = j
    · subst e
      rw [bm_up_at, h2 r0 hne]
    · rw [bm_up_ni _ _ e]
      exact h3 i (by omega)
theorem hm_become (X : bm_X) {r0 r1 : Nat} (h0 : bm_al r0 = 95) (h1 : bm_al r1 = 95) (hne : r0 ≠ r1) {σ : bm_M} {a : ab_T} (hS : ab_S r0 σ a) : ∃ τ, bm_ev X 33 0 [.ref r0, .ref r1, .null] [] σ = some (.null, τ) ∧ ab_S r1 τ a ∧ ∀ q, q ≠ r1 → τ q = σ q := by
  rw [bb_33_0]
  obtain ⟨τ, e1, e2, e3⟩ := hm_becomel X h0 h1 hne σ 95 0 σ (by omega) (fun _ _ => rfl) (fun i hi => absurd hi (Nat.not_lt_zero _))
  refine ⟨τ, e1, fun c i hw => ?_, e2⟩
  obtain ⟨c1, c2⟩ := ab_wd_lt hw
  rw [e3 _ (ab_iy_ly c c1 i c2 hw).2]
  exact hS c i hw
theorem hm_lends (X : bm_X) {σ : bm_M} {a : ab_T} (hS : ab_S 46 σ a) : ∃ τ, bm_ev X 70 0 [.ref 45] [] σ = some (.null, τ) ∧ ab_S 48 τ a ∧ ab_S 46 τ a ∧ ∀ q, q ≠ 48 → τ q = σ q := by
  obtain ⟨τ, e1, e2, e3⟩ := hm_become X (r0 := 46) (r1 := 48) rfl rfl (by decide) hS
  rw [bb_70_0, e1, bm_bV_some]
  exact ⟨τ, rfl, e2, hS.fr (e3 46 (by decide)), e3⟩
theorem hm_laysBack (X : bm_X) {σ : bm_M} {a : ab_T} (hS : ab_S 48 σ a) : ∃ τ, bm_ev X 71 0 [.ref 45] [] σ = some (.null, τ) ∧ ab_S 46 τ a ∧ ab_S 48 τ a ∧ ∀ q, q ≠ 46 → τ q = σ q := by
  obtain ⟨τ, e1, e2, e3⟩ := hm_become X (r0 := 48) (r1 := 46) rfl rfl (by decide) hS
  rw [bb_71_0, e1, bm_bV_some]
  exact ⟨τ, rfl, e2, hS.fr (e3 48 (by decide)), e3⟩
