def tk_ok (t : Nat → Nat) (n b hi : Nat) : Bool := decide (tk_k t n b = 2) && decide (tk_v t n b ≤ hi)
theorem tk_k_le (t : Nat → Nat) (n b : Nat) : tk_k t n b ≤ 4 := by
  unfold tk_k
  repeat' split
  all_goals omega
theorem tk_v_le (t : Nat → Nat) (n b : Nat) : tk_v t n b ≤ 1000 := by
  unfold tk_v
  split
  · exact tk_val_le t _ _ _ (by omega)
  · omega
theorem hc_num (X : bm_X) {t : Nat → Nat} {n p hi : Nat} {σ : bm_M} (hC : tk_C t n σ) (hp : p ≤ n) (hh : hi ≤ 999) (h4 : σ 34 4 = nI p) : ∃ τ, bm_ev X 105 0 [.ref 34, .int (nI hi)] [] σ = some (.int (bm_bi (tk_ok t n (tk_b t n p) hi)), τ) ∧ τ 34 2 = nI (tk_k t n (tk_b t n p)) ∧ τ 34 3 = nI (tk_b t n p) ∧ τ 34 4 = nI (tk_e t n (tk_b t n p)) ∧ τ 34 5 = nI (tk_v t n (tk_b t n p)) ∧ ab_K tk_J σ τ := by
  obtain ⟨τ, r1, r2, r3, r4, r5, r6⟩ := hc_next X hC hp h4
  refine ⟨τ, ?_, r2, r3, r4, r5, r6⟩
  have k4 := tk_k_le t n (tk_b t n p)
  have v4 := tk_v_le t n (tk_b t n p)
  rw [bb_105_0, r1, bm_bV_some, r2, r5, bn_eq (by omega) (by decide), bn_lt (by omega) (by omega), bm_bo_0, bm_bo_1, bm_gd_t, bm_gd_t]
  unfold tk_ok
  by_cases c : tk_k t n (tk_b t n p) = 2
  · rw [decide_eq_true c, cond_true, Bool.true_and]
    by_cases d : hi < tk_v t n (tk_b t n p)
    · rw [decide_eq_true d, cond_true, decide_eq_false (by omega)]
      rfl
    · rw [decide_eq_false d, cond_false, decide_eq_true (by omega)]
      rfl
  · rw [decide_eq_false c, cond_false, Bool.false_and]
    rfl
def tk_H (q i : Nat) : Prop := q = 45 ∧ (i = 10 ∨ i = 11 ∨ i = 12)
theorem tk_M.H {t : Nat → Nat} {n : Nat} {σ τ : bm_M} (h : tk_M t n σ) (hk : ab_K tk_H σ τ) : tk_M t n τ := by
  refine ⟨by rw [hk 45 9 (by unfold tk_H; omega)]; exact h.1, h.2.1, fun i hi => ⟨(h.2.2 i hi).1, ?_⟩⟩
  rw [hk 50 i (by unfold tk_H; omega)]
  exact (h.2.2 i hi).2
/-- it goes on where this holds, and is at fault else -/
theorem hm_must (X : bm_X) {t : Nat → Nat} {n e : Nat} {σ : bm_M} {fl g : Bool} (hM : tk_M t n σ) (he : e ≤ n) (h12 : σ 45 12 = bm_bi fl) (h11 : σ 45 11 = nI e) : ∃ τ, bm_ev X 148 0 [.ref 45, .int (bm_bi g)] [] σ = some (.null, τ) ∧ τ 45 12 = bm_bi (fl || !g) ∧ ((fl || !g) = true → τ 45 10 = σ 45 10 ∧ τ 45 11 = nI e) ∧ ((fl || !g) = false → τ 45 10 = nI (tk_b t n e) ∧ τ 45 11 = nI (tk_e t n (tk_b t n e))) ∧ ab_K tk_H σ τ := by
  have ex : bm_ev X 148 0 [.ref 45, .int (bm_bi g)] [] σ = bm_ev X 148 9 [.ref 45, .int (bm_bi g)] [.int (bm_bi (fl || !g)), .ref 45] σ := by
    rw [bb_148_0, h12, bm_cond_bi, bm_cond_bi, bb_148_6]
    cases fl <;> cases g <;> rfl
  rw [ex]
  generalize (fl || !g) = y
  have k0 : ab_K tk_H σ (bm_up σ 45 12 (bm_bi y)) := ab_K.rf.up _ ⟨rfl, Or.inr (Or.inr rfl)⟩
  rw [bb_148_9, bm_bo_bi, bm_gd_t, bm_up_at, bm_cond_bi]
  cases y
  · obtain ⟨τ, r1, r2, r3, r4⟩ := hm_next X (hM.H k0) he (by rw [bm_up_ni _ _ (by decide)]; exact h11)
    refine ⟨τ, ?_, ?_, (fun q => by cases q), fun _ => ⟨r2, r3⟩, k0.tr (r4.mono (fun q i z => by unfold tk_G at z; unfold tk_H; omega))⟩
    · rw [cond_false, r1, bm_bV_some]
    · rw [r4 45 12 (by unfold tk_G; omega), bm_up_at]
  · refine ⟨_, rfl, bm_up_at _ _ _ _, fun _ => ⟨?_, ?_⟩, (fun q => by cases q), k0⟩
    · rw [bm_up_ni _ _ (by decide)]
    · rw [bm_up_ni _ _ (by decide)]
      exact h11
