theorem hm_next (X : bm_X) {t : Nat → Nat} {n p : Nat} {σ : bm_M} (hM : tk_M t n σ) (hp : p ≤ n) (h11 : σ 45 11 = nI p) : ∃ τ, bm_ev X 133 0 [.ref 45, .null, .null] [] σ = some (.null, τ) ∧ τ 45 10 = nI (tk_b t n p) ∧ τ 45 11 = nI (tk_e t n (tk_b t n p)) ∧ ab_K tk_G σ τ := by
  have c2 := hM.2.1
  have k0 : ab_K tk_G σ (bm_up σ 45 10 (nI p)) := ab_K.rf.up _ ⟨rfl, Or.inl rfl⟩
  obtain ⟨s, r1, r2, r3, r4⟩ := hm_blank X .null .null (n - p) p (bm_up σ 45 10 (nI p)) (by omega) (hM.K k0) (bm_up_at _ _ _ _)
  rw [bb_133_0, h11, r1]
  have lb := tk_run_le t 32 32 (n - p) p
  show ∃ τ, bm_ev X 133 36 [.ref 45, .int (bm_bi (decide (tk_b t n p < n) && tk_in 97 122 (t (tk_b t n p)))), .int (bm_bi (decide (tk_b t n p < n) && tk_in 48 57 (t (tk_b t n p))))] [] s = some (.null, τ) ∧ _
  have r2 : s 45 10 = nI (tk_b t n p) := r2
  have r3 : s 45 11 = nI (tk_b t n p) := r3
  have hbn : tk_b t n p ≤ n := by
    unfold tk_b
    omega
  generalize tk_b t n p = b at *
  have k1 : ab_K tk_G σ s := k0.tr r4
  have sM := hM.K k1
  have e9 : s 45 9 = nI n := sM.1
  have plain : tk_in 97 122 (t b) = false ∨ ¬ b < n → tk_in 48 57 (t b) = false ∨ ¬ b < n → ∃ τ, bm_ev X 133 36 [.ref 45, .int (bm_bi (decide (b < n) && tk_in 97 122 (t b))), .int (bm_bi (decide (b < n) && tk_in 48 57 (t b)))] [] s = some (.null, τ) ∧ τ 45 10 = nI b ∧ τ 45 11 = nI (tk_e t n b) ∧ ab_K tk_G σ τ := by
    intro hl hd
    have zl : (decide (b < n) && tk_in 97 122 (t b)) = false := by
      rcases hl with q | q
      · rw [q, Bool.and_false]
      · rw [decide_eq_false q, Bool.false_and]
    have zd : (decide (b < n) && tk_in 48 57 (t b)) = false := by
      rcases hd with q | q
      · rw [q, Bool.and_false]
      · rw [decide_eq_false q, Bool.false_and]
    rw [zl, zd, bb_133_36, bm_cond_bi, cond_false, bb_133_45, bm_cond_bi, cond_false, bb_133_61, bm_cond_bi, cond_false, bm_cond_bi, cond_false, r2, r3, e9, bn_lt (by omega) (by omega), bn_add, bn_add]
    by_cases e : b < n
    · have hl' : tk_in 97 122 (t b) = false := by
        rcases hl with q | q
        · exact q
        · exact absurd e q
      have hd' : tk_in 48 57 (t b) = false := by
        rcases hd with q | q
        · exact q
        · exact absurd e q
      have hk : tk_k t n b = 3 ∨ tk_k t n b = 4 := by
        unfold tk_k
        rw [if_pos e, hl', hd', if_neg (by decide), if_neg (by decide)]
        split
        · exact Or.inl rfl
        · exact Or.inr rfl
      rw [decide_eq_true e, cond_true]
      refine ⟨_, rfl, ?_, ?_, k1.up _ ⟨rfl, Or.inr rfl⟩⟩
      · rw [bm_up_ni _ _ (by decide), r2]
      · unfold tk_e
        rw [bm_up_at, if_neg (by omega), if_neg (by omega), if_neg (by omega)]
    · have hk : tk_k t n b = 0 := by
        unfold tk_k
        rw [if_neg e]
      rw [decide_eq_false e, cond_false]
      refine ⟨_, rfl, ?_, ?_, k1.up _ ⟨rfl, Or.inr rfl⟩⟩
      · rw [bm_up_ni _ _ (by decide), r2]
      · unfold tk_e
        rw [bm_up_at, hk, if_neg (by decide), if_neg (by decide), if_pos rfl, Nat.add_zero]
  have sp : ∀ l : Bool, tk_e t n b = (bif l then tk_run t 97 122 (n - b) b else tk_run t 48 57 (n - b) b) → ∃ τ, bm_ev X 133 36 [.ref 45, .int (bm_bi l), .int (bm_bi (!l))] [] s = some (.null, τ) ∧ τ 45 10 = nI b ∧ τ 45 11 = nI (tk_e t n b) ∧ ab_K tk_G σ τ := by
    intro l hl
    obtain ⟨τ, q1, q2, q3⟩ := hm_span X (n - b) b s l (by omega) sM r3
    refine ⟨bm_up τ 45 11 (nI (tk_e t n b)), ?_, ?_, bm_up_at _ _ _ _, (k1.tr (q3.mono (fun q j z => by unfold tk_G; omega))).up _ ⟨rfl, Or.inr rfl⟩⟩
    · rw [q1, bb_133_61, q2, bn_add, bn_add, bm_cond_bi, bm_cond_bi, hl]
      cases l <;> rfl
    · rw [bm_up_ni _ _ (by decide), q3 45 10 (by omega), r2]
  by_cases e : b < n
  · cases hl : tk_in 97 122 (t b)
    · cases hd : tk_in 48 57 (t b)
      · have := plain (Or.inl hl) (Or.inl hd)
        rw [hl, hd] at this
        exact this
      · have hk : tk_k t n b = 2 := by
          unfold tk_k
          rw [if_pos e, hl, hd, if_neg (by decide), if_pos rfl]
        have := sp false (by unfold tk_e; rw [hk, if_neg (by decide), if_pos rfl]; rfl)
        rw [decide_eq_true e]
        exact this
    · have hk : tk_k t n b = 1 := by
        unfold tk_k
        rw [if_pos e, hl, if_pos rfl]
      have hd : tk_in 48 57 (t b) = false := by
        unfold tk_in at hl ⊢
        rw [Bool.and_eq_true, decide_eq_true_eq, decide_eq_true_eq] at hl
        rw [decide_eq_false (show ¬ t b ≤ 57 by omega), Bool.and_false]
      have := sp true (by unfold tk_e; rw [hk, if_pos rfl]; rfl)
      rw [decide_eq_true e, hd]
      exact this
  · exact plain (Or.inr e) (Or.inr e)
