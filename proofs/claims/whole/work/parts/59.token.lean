/-! TOKENS of the tape -/
def tk_in (lo hi x : Nat) : Bool := decide (lo ≤ x) && decide (x ≤ hi)
def tk_run (t : Nat → Nat) (lo hi : Nat) : Nat → Nat → Nat
  | 0, p => p
  | f + 1, p => bif tk_in lo hi (t p) then tk_run t lo hi f (p + 1) else p
theorem tk_run_le (t : Nat → Nat) (lo hi : Nat) : ∀ f p, p ≤ tk_run t lo hi f p ∧ tk_run t lo hi f p ≤ p + f
  | 0, p => ⟨Nat.le_refl _, Nat.le_refl _⟩
  | f + 1, p => by
    rw [tk_run]
    have := tk_run_le t lo hi f (p + 1)
    cases tk_in lo hi (t p)
    · rw [cond_false]; omega
    · rw [cond_true]; omega
def tk_val (t : Nat → Nat) : Nat → Nat → Nat → Nat
  | 0, _, v => v
  | f + 1, p, v => bif tk_in 48 57 (t p) then tk_val t f (p + 1) (min 1000 (v * 10 + t p - 48)) else v
/-- where the next one begins, what it is, where it ends, what it is worth -/
def tk_b (t : Nat → Nat) (n p : Nat) : Nat := tk_run t 32 32 (n - p) p
def tk_k (t : Nat → Nat) (n b : Nat) : Nat := if b < n then (if tk_in 97 122 (t b) = true then 1 else if tk_in 48 57 (t b) = true then 2 else if t b = 59 then 3 else 4) else 0
def tk_e (t : Nat → Nat) (n b : Nat) : Nat := if tk_k t n b = 1 then tk_run t 97 122 (n - b) b else if tk_k t n b = 2 then tk_run t 48 57 (n - b) b else if tk_k t n b = 0 then b else b + 1
def tk_v (t : Nat → Nat) (n b : Nat) : Nat := if tk_k t n b = 2 then tk_val t (n - b) b 0 else 0
/-- the class's tape is this -/
def tk_C (t : Nat → Nat) (n : Nat) (σ : bm_M) : Prop := σ 34 1 = nI n ∧ n ≤ 120 ∧ ∀ i, i < n → t i < 256 ∧ σ 35 i = nI (t i)
def tk_J (q i : Nat) : Prop := q = 34 ∧ 2 ≤ i ∧ i ≤ 5
theorem tk_C.K {t : Nat → Nat} {n : Nat} {σ τ : bm_M} (h : tk_C t n σ) (hk : ab_K tk_J σ τ) : tk_C t n τ := by
  refine ⟨by rw [hk 34 1 (by unfold tk_J; omega)]; exact h.1, h.2.1, fun i hi => ⟨(h.2.2 i hi).1, ?_⟩⟩
  rw [hk 35 i (by unfold tk_J; omega)]
  exact (h.2.2 i hi).2
theorem hc_letter (X : bm_X) (σ : bm_M) {x : Nat} (hx : x < 256) : bm_ev X 18 0 [.int (nI x)] [] σ = some (.int (bm_bi (tk_in 97 122 x)), σ) := by
  rw [bb_18_0, bm_bo_0, bm_bo_1, bm_gd_t, bm_gd_t, bn_lt (by omega) (by decide), bn_lt (by decide) (by omega)]
  unfold tk_in
  by_cases h1 : x < 97
  · rw [decide_eq_true h1, cond_true, decide_eq_false (show ¬ 97 ≤ x by omega)]; rfl
  · rw [decide_eq_false h1, cond_false, decide_eq_true (show 97 ≤ x by omega)]
    by_cases h2 : 122 < x
    · rw [decide_eq_true h2, cond_true, decide_eq_false (show ¬ x ≤ 122 by omega)]; rfl
    · rw [decide_eq_false h2, cond_false, decide_eq_true (show x ≤ 122 by omega)]; rfl
theorem hc_digit (X : bm_X) (σ : bm_M) {x : Nat} (hx : x < 256) : bm_ev X 19 0 [.int (nI x)] [] σ = some (.int (bm_bi (tk_in 48 57 x)), σ) := by
  rw [bb_19_0, bm_bo_0, bm_bo_1, bm_gd_t, bm_gd_t, bn_lt (by omega) (by decide), bn_lt (by decide) (by omega)]
  unfold tk_in
  by_cases h1 : x < 48
  · rw [decide_eq_true h1, cond_true, decide_eq_false (show ¬ 48 ≤ x by omega)]; rfl
  · rw [decide_eq_false h1, cond_false, decide_eq_true (show 48 ≤ x by omega)]
    by_cases h2 : 57 < x
    · rw [decide_eq_true h2, cond_true, decide_eq_false (show ¬ x ≤ 57 by omega)]; rfl
    · rw [decide_eq_false h2, cond_false, decide_eq_true (show x ≤ 57 by omega)]; rfl
theorem hc_blank (X : bm_X) {t : Nat → Nat} {n : Nat} : ∀ (i p : Nat) (ρ : bm_M), p + i = n → tk_C t n ρ → ρ 34 3 = nI p → ∃ τ, bm_ev X 56 4 [.ref 34] [] ρ = bm_ev X 56 23 [.ref 34] [] τ ∧ τ 34 3 = nI (tk_run t 32 32 i p) ∧ ab_K tk_J ρ τ
  | 0, p, ρ, e, hC, h3 => by
    obtain ⟨c1, c2, c3⟩ := id hC
    refine ⟨ρ, ?_, h3, ab_K.rf⟩
    rw [bb_56_4, h3, c1, bn_lt (by omega) (by omega), decide_eq_false (by omega), cond_false]
  | i + 1, p, ρ, e, hC, h3 => by
    obtain ⟨c1, c2, c3⟩ := id hC
    obtain ⟨b1, b2⟩ := c3 p (by omega)
    rw [bb_56_4, h3, c1, bn_lt (by omega) (by omega), decide_eq_true (by omega), cond_true, bn_inT (show p < 120 by omega) (by decide), bm_gd_t, bn_clamp (by omega), b2, bn_eq (by omega) (by decide), bn_add, tk_run]
    by_cases c : t p = 32
    · have k : ab_K tk_J ρ (bm_up ρ 34 3 (nI (p + 1))) := ab_K.rf.up _ ⟨rfl, by decide, by decide⟩
      obtain ⟨τ, r1, r2, r3⟩ := hc_blank X i (p + 1) _ (by omega) (hC.K k) (bm_up_at _ _ _ _)
      refine ⟨τ, ?_, ?_, k.tr r3⟩
      · rw [decide_eq_true c, cond_true, r1]
      · rw [c, show tk_in 32 32 32 = true from rfl, cond_true, r2]
    · refine ⟨ρ, ?_, ?_, ab_K.rf⟩
      · rw [decide_eq_false c, cond_false]
      · have : tk_in 32 32 (t p) = false := by
          unfold tk_in
          by_cases q : 32 ≤ t p
          · rw [decide_eq_false (show ¬ t p ≤ 32 by omega), Bool.and_false]
          · rw [decide_eq_false q, Bool.false_and]
        rw [this, cond_false, h3]
theorem hc_word (X : bm_X) {t : Nat → Nat} {n : Nat} : ∀ (i p : Nat) (ρ : bm_M), p + i = n → tk_C t n ρ → ρ 34 4 = nI p → ∃ τ, bm_ev X 56 49 [.ref 34] [] ρ = some (.null, τ) ∧ τ 34 4 = nI (tk_run t 97 122 i p) ∧ ab_K (fun q j => q = 34 ∧ j = 4) ρ τ
  | 0, p, ρ, e, hC, h4 => by
    obtain ⟨c1, c2, c3⟩ := id hC
    refine ⟨ρ, ?_, h4, ab_K.rf⟩
    rw [bb_56_49, h4, c1, bn_lt (by omega) (by omega), decide_eq_false (by omega), cond_false]
  | i + 1, p, ρ, e, hC, h4 => by
    obtain ⟨c1, c2, c3⟩ := id hC
    obtain ⟨b1, b2⟩ := c3 p (by omega)
    have ex : bm_ev X 56 49 [.ref 34] [] ρ = bif tk_in 97 122 (t p) then bm_ev X 56 49 [.ref 34] [] (bm_up ρ 34 4 (nI (p + 1))) else some (.null, ρ) := by
      rw [bb_56_49, h4, c1, bn_lt (by omega) (by omega), decide_eq_true (by omega), cond_true, bn_inT (show p < 120 by omega) (by decide), bm_gd_t, bn_clamp (by omega), b2, hc_letter X ρ b1, bm_bI_some, bm_cond_bi, h4, bn_add]
    rw [ex, tk_run]
    cases tk_in 97 122 (t p)
    · exact ⟨ρ, rfl, h4, ab_K.rf⟩
    · have k : ab_K (fun q j => q = 34 ∧ j = 4) ρ (bm_up ρ 34 4 (nI (p + 1))) := ab_K.rf.up _ ⟨rfl, rfl⟩
      obtain ⟨τ, r1, r2, r3⟩ := hc_word X i (p + 1) _ (by omega) (hC.K (k.mono (fun q j z => by unfold tk_J; omega))) (bm_up_at _ _ _ _)
      exact ⟨τ, r1, r2, k.tr r3⟩
