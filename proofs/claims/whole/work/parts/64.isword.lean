theorem tk_e_le (t : Nat → Nat) {n b : Nat} (h : b ≤ n) : b ≤ tk_e t n b ∧ tk_e t n b ≤ n := by
  have h1 := tk_run_le t 97 122 (n - b) b
  have h2 := tk_run_le t 48 57 (n - b) b
  unfold tk_e
  by_cases k1 : tk_k t n b = 1
  · rw [if_pos k1]; omega
  · rw [if_neg k1]
    by_cases k2 : tk_k t n b = 2
    · rw [if_pos k2]; omega
    · rw [if_neg k2]
      by_cases k0 : tk_k t n b = 0
      · rw [if_pos k0]; omega
      · rw [if_neg k0]
        have : b < n := by
          apply Nat.lt_of_not_le
          intro q
          apply k0
          unfold tk_k
          rw [if_neg (by omega)]
        omega
theorem tk_b_le (t : Nat → Nat) {n p : Nat} (h : p ≤ n) : p ≤ tk_b t n p ∧ tk_b t n p ≤ n := by
  have := tk_run_le t 32 32 (n - p) p
  unfold tk_b
  omega
def tk_same (t : Nat → Nat) (b w : Nat) : Nat → Nat → Bool
  | 0, _ => true
  | f + 1, i => bif decide (t (b + i) = tw_c w i) then tk_same t b w f (i + 1) else false
/-- the one that begins here is this word -/
def tk_wd (t : Nat → Nat) (n b w : Nat) : Bool := bif decide (tk_e t n b - b = tw_l w) then tk_same t b w (tw_l w) 0 else false
theorem tk_wd_k {t : Nat → Nat} {n b w : Nat} (hb : b ≤ n) (h : 60 ≤ w) (h' : w ≤ 73) (hw : tk_wd t n b w = true) : tk_k t n b = 1 := by
  obtain ⟨k, rfl⟩ : ∃ k, w = 60 + k := ⟨w - 60, by omega⟩
  obtain ⟨f1, f2, f3⟩ := tw_facts k (by omega)
  have f4 := (f3 0 (by omega)).2.1 (by omega)
  have le := tk_e_le t hb
  unfold tk_wd at hw
  by_cases e : tk_e t n b - b = tw_l (60 + k)
  · rw [decide_eq_true e, cond_true] at hw
    obtain ⟨l, hl⟩ : ∃ l, tw_l (60 + k) = l + 1 := ⟨tw_l (60 + k) - 1, by omega⟩
    rw [hl, tk_same] at hw
    by_cases c : t (b + 0) = tw_c (60 + k) 0
    · have hlt : b < n := by omega
      unfold tk_k
      rw [if_pos hlt, if_pos]
      unfold tk_in
      rw [Nat.add_zero] at c
      rw [c, decide_eq_true f4.1, decide_eq_true f4.2]
      rfl
    · rw [decide_eq_false c, cond_false] at hw
      cases hw
  · rw [decide_eq_false e, cond_false] at hw
    cases hw
theorem hc_samel (X : bm_X) {t : Nat → Nat} {n b w : Nat} {σ : bm_M} (hC : tk_C t n σ) (h : 60 ≤ w) (h' : w ≤ 74) (h3 : σ 34 3 = nI b) (hl : b + tw_l w ≤ n) : ∀ (f i : Nat), i + f = tw_l w → bm_ev X 154 16 [.ref 34, .ref w, .int (nI i)] [] σ = some (.int (bm_bi (tk_same t b w f i)), σ)
  | 0, i, e => by
    have c2 := hC.2.1
    rw [bb_154_16, tw_st h h', bm_gd_t, hs_len X σ h h', bm_bI_some, bn_lt (by omega) (by omega), decide_eq_false (by omega), cond_false, bm_bo_1, bm_gd_t]
    rfl
  | f + 1, i, e => by
    obtain ⟨c1, c2, c3⟩ := id hC
    obtain ⟨b1, b2⟩ := c3 (b + i) (by omega)
    obtain ⟨k, hk⟩ : ∃ k, w = 60 + k := ⟨w - 60, by omega⟩
    have f4 : tw_c w i < 128 := by
      rw [hk] at e ⊢
      exact ((tw_facts k (by omega)).2.2 i (by omega)).1
    rw [bb_154_16, tw_st h h', bm_gd_t, hs_len X σ h h', bm_bI_some, bn_lt (by omega) (by omega), decide_eq_true (by omega), cond_true, h3, bn_add, bn_inT (show b + i < 120 by omega) (by decide), bm_gd_t, bm_gd_t, hs_chr X σ h h' (by omega), bm_bI_some, bn_clamp (by omega), b2, bn_eq (by omega) (by omega), bn_add, hc_samel X hC h h' h3 hl f (i + 1) (by omega), bm_bo_0, bm_gd_t, tk_same]
    cases decide (t (b + i) = tw_c w i) <;> rfl
theorem hc_is (X : bm_X) {t : Nat → Nat} {n b w : Nat} {σ : bm_M} (hC : tk_C t n σ) (hb : b ≤ n) (h : 60 ≤ w) (h' : w ≤ 73) (h2 : σ 34 2 = nI (tk_k t n b)) (h3 : σ 34 3 = nI b) (h4 : σ 34 4 = nI (tk_e t n b)) : bm_ev X 154 0 [.ref 34, .ref w, .null] [] σ = some (.int (bm_bi (tk_wd t n b w)), σ) := by
  have c2 := hC.2.1
  have le := tk_e_le t hb
  have k4 : tk_k t n b ≤ 4 := by
    unfold tk_k
    repeat' split
    all_goals omega
  obtain ⟨k, hk⟩ : ∃ k, w = 60 + k := ⟨w - 60, by omega⟩
  have f4 : tw_l w ≤ 9 := by
    rw [hk]
    exact (tw_facts k (by omega)).2.1
  rw [bb_154_0, h2, bn_eq (by omega) (by decide), tw_st h (by omega), bm_gd_t, hs_len X σ h (by omega), bm_bI_some, h3, h4, bn_sub le.1, bn_eq (by omega) (by omega), bm_bo_0, bm_gd_t]
  by_cases c : tk_k t n b = 1
  · rw [decide_eq_true c, cond_true]
    unfold tk_wd
    by_cases e : tk_e t n b - b = tw_l w
    · rw [decide_eq_true e, cond_true, cond_true, hc_samel X hC h (by omega) h3 (by omega) (tw_l w) 0 (by omega)]
    · rw [decide_eq_false e, cond_false, cond_false]
      rfl
  · rw [decide_eq_false c, cond_false]
    cases hw : tk_wd t n b w
    · rfl
    · exact absurd (tk_wd_k hb h h' hw) c
