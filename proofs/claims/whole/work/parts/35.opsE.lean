/-! hold, as -/
theorem bn_m1 : (-nI 1 : Int32) = nI 4294967295 := by decide
theorem ab_R.setS {T T' : Nat} {σ : bm_M} {a ka : ab_T} {kp : Bool} {tl : Nat} (h1 : ab_CH a T σ) (h2 : ab_CK ka kp T σ) (h3 : ab_CT tl σ) (h4 : ab_CS σ) (h5 : ab_CF σ) (hT : T ≤ T') {i : Nat} (v : Nat) (hi : i < 10) (hv : v = 4294967295 ∨ v < a 0 7) : ab_R T' (bm_up (bm_up σ 4 i (nI v)) 46 (85 + i) (nI v)) := by
  obtain ⟨hH, hS, hG, hP, hh⟩ := h1
  have hw : ab_wd 3 i = true := decide_eq_true hi
  refine ab_R.herd (a' := ab_set a 3 i v) h2 h3 h4 h5 hT ((ab_K.rf.up _ (Or.inr (Or.inl (by omega)))).up _ (Or.inr (Or.inr rfl))) ⟨(hH.up 3 i v).ne _ _ (by omega), ?_, hG.set trivial, ?_, ?_⟩
  · exact (hS.ne _ _ (by omega)).up (c := 3) (i := i) v hw
  · intro j hj
    rw [ab_set_nc a v (show 0 ≠ 3 by decide)]
    by_cases e : j = i
    · subst e
      rw [ab_set_self]
      exact hv
    · rw [ab_set_ni a v e]
      exact hP j hj
  · rw [ab_set_nc a v (by decide)]
    omega
theorem op_hold (X : bm_X) (p v : Int32) : ab_op X 62 134 [.ref 0, .int p, .int v] [.ref 45, .int p, .int v] := by
  intro T σ hR hT
  obtain ⟨a, ka, kp, tl, h1, h2, h3, h4, h5⟩ := id hR
  obtain ⟨hH, hS, hG, hP, hh⟩ := id h1
  have e7 : σ 1 7 = nI (a 0 7) := hH 0 7 rfl
  have e7m : σ 46 2 = nI (a 0 7) := hS 0 7 rfl
  have hc := hG.2.2.1
  have i1 : ∀ (x : Int32) (σ : bm_M), bm_ev X 24 0 [.int x, .int (nI 9)] [] σ = some (.int (bm_bi (bm_rg x 0 9)), σ) := fun x σ => bs_upN X σ x (by decide)
  cases g1 : bm_rg p 0 9
  · refine ⟨bm_lw 0, bm_tl 0 σ, bm_fo 0 (bm_tl 0 σ), ?_, ?_, hR.tell (by omega) (by decide)⟩
    · rw [bb_62_0, i1, bm_bI_some, bm_cond_bi, g1, cond_false, bs_tell X _ (by decide), bm_bI_some]
    · rw [bb_134_0, bs_m96, bm_bI_some, bm_cond_bi, g1, cond_false, bs_finds X _ (by decide), bm_bI_some]
  · obtain ⟨j, hj, -, rfl⟩ := bm_rg_ex (n := 9) g1
    have go : ∀ n : Nat, v = nI n → (n = 4294967295 ∨ n < a 0 7) → (v = -nI 1 ∨ bm_rg v 0 ((a 0 7 : Int) - 1) = true) → ∃ (x : Int32) (τ τ' : bm_M), bm_ev X 62 0 [.ref 0, .int (nI j), .int v] [] σ = some (.int x, τ) ∧ bm_ev X 134 0 [.ref 45, .int (nI j), .int v] [] τ = some (.int x, τ') ∧ ab_R (T + 60) τ' := by
      intro n hn hv hq
      subst hn
      refine ⟨nI 1, bm_up σ 4 j (nI n), _, ?_, ?_, ab_R.setS h1 h2 h3 h4 h5 (by omega) (i := j) n (by omega) hv⟩
      · rw [bb_62_0, i1, bm_bI_some, bm_cond_bi, g1, cond_true]
        by_cases e : nI n = -nI 1
        · rw [decide_eq_true e, cond_true, bb_62_15, bn_inT (by omega) (by decide), bm_gd_t, bn_clamp (by omega)]
        · rw [decide_eq_false e, cond_false, bs_isCow X e7 hc, bm_bI_some, bm_cond_bi, hq.resolve_left e, cond_true, bb_62_15, bn_inT (by omega) (by decide), bm_gd_t, bn_clamp (by omega)]
      · have e8 : bm_up σ 4 j (nI n) 46 2 = nI (a 0 7) := by rw [bm_up_nk _ _ (by decide)]; exact e7m
        rw [bb_134_0, bs_m96, bm_bI_some, bm_cond_bi, g1, cond_true]
        by_cases e : nI n = -nI 1
        · rw [decide_eq_true e, cond_true, bb_134_14, bn_add, bn_inT (by omega) (by decide), bm_gd_t, bn_clamp (by omega)]
        · rw [decide_eq_false e, cond_false, bs_isCowM X e8 hc, bm_bI_some, bm_cond_bi, hq.resolve_left e, cond_true, bb_134_14, bn_add, bn_inT (by omega) (by decide), bm_gd_t, bn_clamp (by omega)]
    by_cases e : v = -nI 1
    · exact go 4294967295 (by rw [e]; exact bn_m1) (Or.inl rfl) (Or.inl e)
    · cases g2 : bm_rg v 0 ((a 0 7 : Int) - 1)
      · refine ⟨bm_lw 0, bm_tl 0 σ, bm_fo 0 (bm_tl 0 σ), ?_, ?_, hR.tell (by omega) (by decide)⟩
        · rw [bb_62_0, i1, bm_bI_some, bm_cond_bi, g1, cond_true, decide_eq_false e, cond_false, bs_isCow X e7 hc, bm_bI_some, bm_cond_bi, g2, cond_false, bs_tell X _ (by decide), bm_bI_some]
        · rw [bb_134_0, bs_m96, bm_bI_some, bm_cond_bi, g1, cond_true, decide_eq_false e, cond_false, bs_isCowM X (σ := bm_tl 0 σ) e7m hc, bm_bI_some, bm_cond_bi, g2, cond_false, bs_finds X _ (by decide), bm_bI_some]
      · obtain ⟨n, hn, -, hv⟩ := bm_rgc_ex g2
        exact go n hv (Or.inr hn) (Or.inr g2)
/-- a kind is the other, or under it -/
def ab_und (k o : Nat) : Bool := match k with
  | 0 => decide (0 = o)
  | 1 => decide (1 = o) || decide (0 = o)
  | 2 => decide (2 = o) || decide (0 = o)
  | 3 => decide (3 = o) || (decide (2 = o) || decide (0 = o))
  | 4 => decide (4 = o) || (decide (3 = o) || (decide (2 = o) || decide (0 = o)))
  | 5 => decide (5 = o) || decide (0 = o)
  | _ => decide (6 = o) || (decide (1 = o) || decide (0 = o))
theorem hu_c (X : bm_X) (σ : bm_M) (u : Value) {o k j : Nat} (ho : o ≤ 6) (hk : k ≤ 6) (hj : j < 7) : bm_ev X 26 4 [u, .int (nI o), .int (nI k), .int (nI j)] [] σ = cond (decide (k = o)) (some (.int (bm_bi true), σ)) (bm_ev X 26 4 [u, .int (nI o), .int (bm_rv X 57 k), .int (nI (j + 1))] [] σ) := by
  have hne : decide (nI k = -nI 1) = false := by
    apply decide_eq_false
    intro q
    have := congrArg Int32.toInt q
    rw [bn_toInt (by omega)] at this
    have h2 : (-nI 1 : Int32).toInt = -1 := by decide
    omega
  rw [bb_26_4, bn_lt (by omega) (by decide), decide_eq_true hj, cond_true, hne, cond_false, bn_eq (by omega) (by omega), bm_bo_1, bm_gd_t, show bm_rl X 57 = 7 from rfl, bn_inT (by omega) (by decide), bm_gd_t, bn_clamp (by omega), bn_add]
  rfl
theorem hu_c0 (X : bm_X) (σ : bm_M) (u : Value) {o j : Nat} (ho : o ≤ 6) (hj : j < 6) : bm_ev X 26 4 [u, .int (nI o), .int (nI 0), .int (nI j)] [] σ = some (.int (bm_bi (decide (0 = o))), σ) := by
  have e : bm_ev X 26 4 [u, .int (nI o), .int (-nI 1), .int (nI (j + 1))] [] σ = some (.int (bm_bi false), σ) := by
    rw [bb_26_4, bn_lt (by omega) (by decide), decide_eq_true (show j + 1 < 7 by omega), cond_true, bn_same, cond_true, bm_bo_0, bm_gd_t]
    rfl
  rw [hu_c X σ u ho (by decide) (by omega), show bm_rv X 57 0 = -nI 1 from rfl, e]
  cases decide (0 = o) <;> rfl
theorem hu_c1 (X : bm_X) (σ : bm_M) (u : Value) {o j : Nat} (ho : o ≤ 6) (hj : j < 5) : bm_ev X 26 4 [u, .int (nI o), .int (nI 1), .int (nI j)] [] σ = some (.int (bm_bi (decide (1 = o) || decide (0 = o))), σ) := by
  rw [hu_c X σ u ho (by decide) (by omega), show bm_rv X 57 1 = nI 0 from rfl, hu_c0 X σ u ho (by omega)]
  cases decide (1 = o) <;> rfl
theorem hu_c2 (X : bm_X) (σ : bm_M) (u : Value) {o j : Nat} (ho : o ≤ 6) (hj : j < 5) : bm_ev X 26 4 [u, .int (nI o), .int (nI 2), .int (nI j)] [] σ = some (.int (bm_bi (decide (2 = o) || decide (0 = o))), σ) := by
  rw [hu_c X σ u ho (by decide) (by omega), show bm_rv X 57 2 = nI 0 from rfl, hu_c0 X σ u ho (by omega)]
  cases decide (2 = o) <;> rfl
theorem hu_c3 (X : bm_X) (σ : bm_M) (u : Value) {o j : Nat} (ho : o ≤ 6) (hj : j < 4) : bm_ev X 26 4 [u, .int (nI o), .int (nI 3), .int (nI j)] [] σ = some (.int (bm_bi (decide (3 = o) || (decide (2 = o) || decide (0 = o)))), σ) := by
  rw [hu_c X σ u ho (by decide) (by omega), show bm_rv X 57 3 = nI 2 from rfl, hu_c2 X σ u ho (by omega)]
  cases decide (3 = o) <;> rfl
theorem hu_class (X : bm_X) (σ : bm_M) {o k : Nat} (ho : o ≤ 6) (hk : k ≤ 6) : bm_ev X 26 0 [.int (nI k), .int (nI o), .null, .null] [] σ = some (.int (bm_bi (ab_und k o)), σ) := by
  rw [bb_26_0]
  rcases (show k = 0 ∨ k = 1 ∨ k = 2 ∨ k = 3 ∨ k = 4 ∨ k = 5 ∨ k = 6 by omega) with rfl | rfl | rfl | rfl | rfl | rfl | rfl
  · exact hu_c0 X σ _ ho (by decide)
  · exact hu_c1 X σ _ ho (by decide)
  · exact hu_c2 X σ _ ho (by decide)
  · exact hu_c3 X σ _ ho (by decide)
  · rw [hu_c X σ _ ho (by decide) (by decide), show bm_rv X 57 4 = nI 3 from rfl, hu_c3 X σ _ ho (by decide)]
    unfold ab_und
    cases decide (4 = o) <;> rfl
  · rw [hu_c X σ _ ho (by decide) (by decide), show bm_rv X 57 5 = nI 0 from rfl, hu_c0 X σ _ ho (by decide)]
    unfold ab_und
    cases decide (5 = o) <;> rfl
  · rw [hu_c X σ _ ho (by decide) (by decide), show bm_rv X 57 6 = nI 1 from rfl, hu_c1 X σ _ ho (by decide)]
    unfold ab_und
    cases decide (6 = o) <;> rfl
theorem hu_m11 (X : bm_X) (σ : bm_M) (u : Value) {o k : Nat} (ho : o ≤ 6) (hk : k ≤ 6) : bm_ev X 75 11 [u, .int (nI o), .int (nI k)] [] σ = some (.int (bm_bi (decide (k = o))), σ) := by
  rw [bb_75_11, bn_eq (by omega) (by omega), bm_bo_1, bm_bo_0, bm_gd_t, bm_gd_t]
  cases decide (k = o) <;> rfl
theorem hu_m (X : bm_X) (σ : bm_M) (u : Value) {o k : Nat} (ho : o ≤ 6) (hk : k ≤ 6) (hk0 : k ≠ 0) : bm_ev X 75 2 [u, .int (nI o), .int (nI k)] [] σ = cond (decide (k = o)) (some (.int (bm_bi true), σ)) (bm_ev X 75 2 [u, .int (nI o), .int (if k = 3 then nI 2 else if k = 4 then nI 3 else if k = 6 then nI 1 else nI 0)] [] σ) := by
  have e38 : bm_ev X 38 0 [.int (nI k)] [] σ = some (.int (if k = 3 then nI 2 else if k = 4 then nI 3 else if k = 6 then nI 1 else nI 0), σ) := by
    rw [bb_38_0, bn_eq (by omega) (by decide), bn_eq (by omega) (by decide), bn_eq (by omega) (by decide)]
    by_cases c3 : k = 3
    · simp [c3]
    · by_cases c4 : k = 4
      · simp [c4]
      · by_cases c6 : k = 6
        · simp [c6]
        · simp [c3, c4, c6]
  rw [bb_75_2, bn_eq0 (by omega), decide_eq_false hk0, cond_false, bn_eq (by omega) (by omega), hu_m11 X σ u ho hk, e38, bm_bI_some]
  cases h : decide (k = o) <;> rfl
theorem hu_m0 (X : bm_X) (σ : bm_M) (u : Value) {o : Nat} (ho : o ≤ 6) : bm_ev X 75 2 [u, .int (nI o), .int (nI 0)] [] σ = some (.int (bm_bi (decide (0 = o))), σ) := by
  rw [bb_75_2, bn_eq0 (by decide), decide_eq_true rfl, cond_true, hu_m11 X σ u ho (by decide)]
theorem hu_m1 (X : bm_X) (σ : bm_M) (u : Value) {o : Nat} (ho : o ≤ 6) : bm_ev X 75 2 [u, .int (nI o), .int (nI 1)] [] σ = some (.int (bm_bi (decide (1 = o) || decide (0 = o))), σ) := by
  rw [hu_m X σ u ho (by decide) (by decide), if_neg (by decide), if_neg (by decide), if_neg (by decide), hu_m0 X σ u ho]
  cases decide (1 = o) <;> rfl
theorem hu_m2 (X : bm_X) (σ : bm_M) (u : Value) {o : Nat} (ho : o ≤ 6) : bm_ev X 75 2 [u, .int (nI o), .int (nI 2)] [] σ = some (.int (bm_bi (decide (2 = o) || decide (0 = o))), σ) := by
  rw [hu_m X σ u ho (by decide) (by decide), if_neg (by decide), if_neg (by decide), if_neg (by decide), hu_m0 X σ u ho]
  cases decide (2 = o) <;> rfl
theorem hu_m3 (X : bm_X) (σ : bm_M) (u : Value) {o : Nat} (ho : o ≤ 6) : bm_ev X 75 2 [u, .int (nI o), .int (nI 3)] [] σ = some (.int (bm_bi (decide (3 = o) || (decide (2 = o) || decide (0 = o)))), σ) := by
  rw [hu_m X σ u ho (by decide) (by decide), if_pos rfl, hu_m2 X σ u ho]
  cases decide (3 = o) <;> rfl
theorem hu_ref (X : bm_X) (σ : bm_M) {o k : Nat} (ho : o ≤ 6) (hk : k ≤ 6) : bm_ev X 75 0 [.int (nI k), .int (nI o), .null] [] σ = some (.int (bm_bi (ab_und k o)), σ) := by
  rw [bb_75_0]
  rcases (show k = 0 ∨ k = 1 ∨ k = 2 ∨ k = 3 ∨ k = 4 ∨ k = 5 ∨ k = 6 by omega) with rfl | rfl | rfl | rfl | rfl | rfl | rfl
  · exact hu_m0 X σ _ ho
  · exact hu_m1 X σ _ ho
  · exact hu_m2 X σ _ ho
  · exact hu_m3 X σ _ ho
  · rw [hu_m X σ _ ho (by decide) (by decide), if_neg (by decide), if_pos rfl, hu_m3 X σ _ ho]
    unfold ab_und
    cases decide (4 = o) <;> rfl
  · rw [hu_m X σ _ ho (by decide) (by decide), if_neg (by decide), if_neg (by decide), if_neg (by decide), hu_m0 X σ _ ho]
    unfold ab_und
    cases decide (5 = o) <;> rfl
  · rw [hu_m X σ _ ho (by decide) (by decide), if_neg (by decide), if_neg (by decide), if_pos rfl, hu_m1 X σ _ ho]
    unfold ab_und
    cases decide (6 = o) <;> rfl
theorem op_as (X : bm_X) (p v : Int32) : ab_op X 113 135 [.ref 0, .int p, .int v, .null] [.ref 45, .int p, .int v, .null] := by
  intro T σ hR hT
  obtain ⟨a, ka, kp, tl, h1, h2, h3, h4, h5⟩ := id hR
  obtain ⟨hH, hS, hG, hP, hh⟩ := id h1
  have hc := hG.2.2.1
  have i1 : ∀ (x : Int32) (σ : bm_M), bm_ev X 24 0 [.int x, .int (nI 9)] [] σ = some (.int (bm_bi (bm_rg x 0 9)), σ) := fun x σ => bs_upN X σ x (by decide)
  cases g1 : bm_rg p 0 9
  · refine ⟨bm_lw 0, bm_tl 0 σ, bm_fo 0 (bm_tl 0 σ), ?_, ?_, hR.tell (by omega) (by decide)⟩
    · rw [bb_113_0, i1, bm_bI_some, bm_cond_bi, g1, cond_false, bs_tell X _ (by decide), bm_bI_some]
    · rw [bb_135_0, bs_m96, bm_bI_some, bm_cond_bi, g1, cond_false, bs_finds X _ (by decide), bm_bI_some]
  cases g2 : bm_rg v 0 6
  · refine ⟨bm_lw 0, bm_tl 0 σ, bm_fo 0 (bm_tl 0 σ), ?_, ?_, hR.tell (by omega) (by decide)⟩
    · rw [bb_113_0, i1, bm_bI_some, bm_cond_bi, g1, cond_true, bs_c67, bm_bI_some, bm_cond_bi, g2, cond_false, bs_tell X _ (by decide), bm_bI_some]
    · rw [bb_135_0, bs_m96, bm_bI_some, bm_cond_bi, g1, cond_true, bs_m76, bm_bI_some, bm_cond_bi, g2, cond_false, bs_finds X _ (by decide), bm_bI_some]
  obtain ⟨j, hj, -, rfl⟩ := bm_rg_ex (n := 9) g1
  obtain ⟨o, ho, -, rfl⟩ := bm_rg_ex (n := 6) g2
  have hw3 : ab_wd 3 j = true := decide_eq_true (by omega)
  have e3 : σ 4 j = nI (a 3 j) := hH 3 j hw3
  have e3m : σ 46 (85 + j) = nI (a 3 j) := hS 3 j hw3
  rcases hP j (by omega) with q | q
  · refine ⟨bm_lw 5, bm_tl 5 σ, bm_fo 5 (bm_tl 5 σ), ?_, ?_, hR.tell (by omega) (by decide)⟩
    · rw [bb_113_0, i1, bm_bI_some, bm_cond_bi, g1, cond_true, bs_c67, bm_bI_some, bm_cond_bi, g2, cond_true, bn_inT (by omega) (by decide), bm_gd_t, bn_clamp (by omega), e3, q, ← bn_m1, bn_same, cond_true, bs_tell X _ (by decide), bm_bI_some]
    · have e3t : bm_tl 5 σ 46 (85 + j) = nI (a 3 j) := e3m
      rw [bb_135_0, bs_m96, bm_bI_some, bm_cond_bi, g1, cond_true, bs_m76, bm_bI_some, bm_cond_bi, g2, cond_true, bn_add, bn_inT (by omega) (by decide), bm_gd_t, bn_clamp (by omega), e3t, q, ← bn_m1, bn_m1_lt, cond_true, bs_finds X _ (by decide), bm_bI_some]
  · have hk8 : a 3 j < 8 := by omega
    have hne : decide (nI (a 3 j) = -nI 1) = false := by
      apply decide_eq_false
      intro q
      have := congrArg Int32.toInt q
      rw [bn_toInt (by omega)] at this
      have h2 : (-nI 1 : Int32).toInt = -1 := by decide
      omega
    obtain ⟨b4, -⟩ := hG.2.2.2.2.2 _ hk8
    have e4 : σ 5 (a 3 j) = nI (a 4 (a 3 j)) := hH 4 _ (ab_w8 (by decide) (by decide) hk8)
    have cl : bm_ev X 113 0 [.ref 0, .int (nI j), .int (nI o), .null] [] σ = cond (ab_und (a 4 (a 3 j)) o) (some (.int (nI (a 3 j)), σ)) (some (.int (bm_lw 2), bm_tl 2 σ)) := by
      rw [bb_113_0, i1, bm_bI_some, bm_cond_bi, g1, cond_true, bs_c67, bm_bI_some, bm_cond_bi, g2, cond_true, bn_inT (by omega) (by decide), bm_gd_t, bn_clamp (by omega), e3, hne, cond_false, bn_inT hk8 (by decide), bm_gd_t, bn_clamp (by omega), e4, hu_class X σ ho b4, bm_bI_some, bm_cond_bi, bs_tell X _ (by decide), bm_bI_some]
    have ml : ∀ ρ : bm_M, ρ 46 = σ 46 → bm_ev X 135 0 [.ref 45, .int (nI j), .int (nI o), .null] [] ρ = cond (ab_und (a 4 (a 3 j)) o) (some (.int (nI (a 3 j)), ρ)) (some (.int (bm_lw 2), bm_fo 2 ρ)) := by
      intro ρ hρ
      have e3r : ρ 46 (85 + j) = nI (a 3 j) := by rw [hρ]; exact e3m
      rw [bb_135_0, bs_m96, bm_bI_some, bm_cond_bi, g1, cond_true, bs_m76, bm_bI_some, bm_cond_bi, g2, cond_true, bn_add, bn_inT (by omega) (by decide), bm_gd_t, bn_clamp (by omega), e3r, bn_lt0 (by omega), cond_false, hm_it0 X (hS.fr hρ) hG hk8, bm_bI_some, hu_ref X ρ ho b4, bm_bI_some, bm_cond_bi, bs_finds X _ (by decide), bm_bI_some]
    cases hu : ab_und (a 4 (a 3 j)) o
    · rw [hu, cond_false] at cl
      have := ml (bm_tl 2 σ) (bm_up_ne _ _ _ (by decide))
      rw [hu, cond_false] at this
      exact ⟨_, _, _, cl, this, hR.tell (by omega) (by decide)⟩
    · rw [hu, cond_true] at cl
      have := ml σ rfl
      rw [hu, cond_true] at this
      exact ⟨_, _, _, cl, this, hR.junk (by omega) ab_K.rf⟩
