/-- the reference's tape is this -/
def tk_M (t : Nat → Nat) (n : Nat) (σ : bm_M) : Prop := σ 45 9 = nI n ∧ n ≤ 120 ∧ ∀ i, i < n → t i < 256 ∧ σ 50 i = nI (t i)
def tk_G (q i : Nat) : Prop := q = 45 ∧ (i = 10 ∨ i = 11)
theorem tk_M.K {t : Nat → Nat} {n : Nat} {σ τ : bm_M} (h : tk_M t n σ) (hk : ab_K tk_G σ τ) : tk_M t n τ := by
  refine ⟨by rw [hk 45 9 (by unfold tk_G; omega)]; exact h.1, h.2.1, fun i hi => ⟨(h.2.2 i hi).1, ?_⟩⟩
  rw [hk 50 i (by unfold tk_G; omega)]
  exact (h.2.2 i hi).2
theorem hm_is (X : bm_X) {t : Nat → Nat} {n : Nat} {σ : bm_M} (hM : tk_M t n σ) {p lo hi : Nat} (hp : p ≤ 1000) (hl : lo < 256) (hh : hi < 256) : bm_ev X 95 0 [.ref 45, .int (nI p), .int (nI lo), .int (nI hi)] [] σ = some (.int (bm_bi (decide (p < n) && tk_in lo hi (t p))), σ) := by
  obtain ⟨c1, c2, c3⟩ := hM
  rw [bb_95_0, c1, bn_lt (by omega) (by omega), bm_bo_0, bm_bo_1, bm_gd_t]
  by_cases e : p < n
  · obtain ⟨b1, b2⟩ := c3 p e
    rw [decide_eq_true e, cond_true, bn_inT (show p < 120 by omega) (by decide), bm_gd_t, bn_clamp (by omega), b2, bs_in, bm_i2l, bm_i2l, bm_i2l, bn_toInt (by omega), bn_toInt (by omega), bn_toInt (by omega), bm_bI_some, bm_cond_bi, bm_gd_t, bm_gd_t, Bool.true_and]
    have e1 : decide ((lo : Int) ≤ (t p : Int)) = decide (lo ≤ t p) := decide_eq_decide.mpr (by omega)
    have e2 : decide ((t p : Int) ≤ (hi : Int)) = decide (t p ≤ hi) := decide_eq_decide.mpr (by omega)
    rw [e1, e2]
    show cond (tk_in lo hi (t p)) _ _ = _
    cases tk_in lo hi (t p) <;> rfl
  · rw [decide_eq_false e, cond_false, Bool.false_and]
    rfl
theorem hm_blank (X : bm_X) {t : Nat → Nat} {n : Nat} (u1 u2 : Value) : ∀ (i p : Nat) (ρ : bm_M), p + i = n → tk_M t n ρ → ρ 45 10 = nI p → ∃ τ, bm_ev X 133 4 [.ref 45, u1, u2] [] ρ = bm_ev X 133 36 [.ref 45, .int (bm_bi (decide (tk_run t 32 32 i p < n) && tk_in 97 122 (t (tk_run t 32 32 i p)))), .int (bm_bi (decide (tk_run t 32 32 i p < n) && tk_in 48 57 (t (tk_run t 32 32 i p))))] [] τ ∧ τ 45 10 = nI (tk_run t 32 32 i p) ∧ τ 45 11 = nI (tk_run t 32 32 i p) ∧ ab_K tk_G ρ τ := by
  intro i
  have go : ∀ (p : Nat) (ρ : bm_M), p ≤ n → tk_M t n ρ → ρ 45 10 = nI p → (decide (p < n) && tk_in 32 32 (t p)) = false → ∃ τ, bm_ev X 133 4 [.ref 45, u1, u2] [] ρ = bm_ev X 133 36 [.ref 45, .int (bm_bi (decide (p < n) && tk_in 97 122 (t p))), .int (bm_bi (decide (p < n) && tk_in 48 57 (t p)))] [] τ ∧ τ 45 10 = nI p ∧ τ 45 11 = nI p ∧ ab_K tk_G ρ τ := by
    intro p ρ hp hM h10 hb
    have c2 := hM.2.1
    have k : ab_K tk_G ρ (bm_up ρ 45 11 (nI p)) := ab_K.rf.up _ ⟨rfl, Or.inr rfl⟩
    have w10 : bm_up ρ 45 11 (nI p) 45 10 = nI p := by rw [bm_up_ni _ _ (by decide), h10]
    refine ⟨bm_up ρ 45 11 (nI p), ?_, w10, bm_up_at _ _ _ _, k⟩
    rw [bb_133_4, h10, hm_is X hM (by omega) (by decide) (by decide), bm_bI_some, bm_cond_bi, hb, cond_false, h10, w10, hm_is X (hM.K k) (by omega) (by decide) (by decide), bm_bI_some, w10, hm_is X (hM.K k) (by omega) (by decide) (by decide), bm_bI_some]
  induction i with
  | zero =>
    intro p ρ e hM h10
    exact go p ρ (by omega) hM h10 (by rw [decide_eq_false (by omega), Bool.false_and])
  | succ i ih =>
    intro p ρ e hM h10
    have c2 := hM.2.1
    rw [tk_run]
    cases hb : tk_in 32 32 (t p)
    · exact go p ρ (by omega) hM h10 (by rw [hb, Bool.and_false])
    · have k : ab_K tk_G ρ (bm_up ρ 45 10 (nI (p + 1))) := ab_K.rf.up _ ⟨rfl, Or.inl rfl⟩
      obtain ⟨τ, r1, r2, r3, r4⟩ := ih (p + 1) (bm_up ρ 45 10 (nI (p + 1))) (by omega) (hM.K k) (bm_up_at _ _ _ _)
      refine ⟨τ, ?_, r2, r3, k.tr r4⟩
      rw [bb_133_4, h10, hm_is X hM (by omega) (by decide) (by decide), bm_bI_some, bm_cond_bi, hb, decide_eq_true (show p < n by omega), Bool.true_and, cond_true, h10, bn_add, r1]
      rfl
theorem hm_span (X : bm_X) {t : Nat → Nat} {n : Nat} : ∀ (i p : Nat) (ρ : bm_M) (l : Bool), p + i = n → tk_M t n ρ → ρ 45 11 = nI p → ∃ τ, bm_ev X 133 36 [.ref 45, .int (bm_bi l), .int (bm_bi (!l))] [] ρ = bm_ev X 133 61 [.ref 45, .int (bm_bi l), .int (bm_bi (!l))] [] τ ∧ τ 45 11 = nI (bif l then tk_run t 97 122 i p else tk_run t 48 57 i p) ∧ ab_K (fun q j => q = 45 ∧ j = 11) ρ τ
  | 0, p, ρ, l, e, hM, h11 => by
    have c2 := hM.2.1
    refine ⟨ρ, ?_, by cases l <;> exact h11, ab_K.rf⟩
    rw [bb_133_36, h11, hm_is X hM (by omega) (by decide) (by decide), bm_bI_some, bb_133_45, h11, hm_is X hM (by omega) (by decide) (by decide), bm_bI_some, decide_eq_false (show ¬ p < n by omega), Bool.false_and, Bool.false_and]
    cases l <;> rfl
  | i + 1, p, ρ, l, e, hM, h11 => by
    have c2 := hM.2.1
    have ex : bm_ev X 133 36 [.ref 45, .int (bm_bi l), .int (bm_bi (!l))] [] ρ = bif (bif l then tk_in 97 122 (t p) else tk_in 48 57 (t p)) then bm_ev X 133 36 [.ref 45, .int (bm_bi l), .int (bm_bi (!l))] [] (bm_up ρ 45 11 (nI (p + 1))) else bm_ev X 133 61 [.ref 45, .int (bm_bi l), .int (bm_bi (!l))] [] ρ := by
      rw [bb_133_36, h11, hm_is X hM (by omega) (by decide) (by decide), bm_bI_some, bb_133_45, h11, hm_is X hM (by omega) (by decide) (by decide), bm_bI_some, decide_eq_true (show p < n by omega), Bool.true_and, Bool.true_and, bb_133_54, h11, bn_add, bm_cond_bi, bm_cond_bi, bm_cond_bi, bm_cond_bi]
      cases l
      · cases tk_in 48 57 (t p) <;> rfl
      · cases tk_in 97 122 (t p) <;> rfl
    rw [ex]
    have un : (bif l then tk_run t 97 122 (i + 1) p else tk_run t 48 57 (i + 1) p) = bif (bif l then tk_in 97 122 (t p) else tk_in 48 57 (t p)) then (bif l then tk_run t 97 122 i (p + 1) else tk_run t 48 57 i (p + 1)) else p := by
      cases l <;> rfl
    rw [un]
    cases (bif l then tk_in 97 122 (t p) else tk_in 48 57 (t p))
    · exact ⟨ρ, rfl, h11, ab_K.rf⟩
    · have k : ab_K (fun q j => q = 45 ∧ j = 11) ρ (bm_up ρ 45 11 (nI (p + 1))) := ab_K.rf.up _ ⟨rfl, rfl⟩
      obtain ⟨τ, r1, r2, r3⟩ := hm_span X i (p + 1) _ l (by omega) (hM.K (k.mono (fun q j z => by unfold tk_G; omega))) (bm_up_at _ _ _ _)
      exact ⟨τ, r1, r2, k.tr r3⟩
