theorem hm_samel (X : bm_X) {t : Nat → Nat} {n b w : Nat} {σ : bm_M} (hM : tk_M t n σ) (h : 60 ≤ w) (h' : w ≤ 74) (h10 : σ 45 10 = nI b) (hl : b + tw_l w ≤ n) : ∀ (f i : Nat), i + f = tw_l w → bm_ev X 161 17 [.ref 45, .ref w, .int (nI 1), .int (nI i)] [] σ = some (.int (bm_bi (tk_same t b w f i)), σ)
  | 0, i, e => by
    have c2 := hM.2.1
    rw [bb_161_17, decide_eq_false (show ¬ nI 1 = 0 by decide), cond_false, tw_st h h', bm_gd_t, hs_len X σ h h', bm_bI_some, bn_lt (by omega) (by omega), decide_eq_false (by omega), cond_false, bm_bo_1, bm_gd_t]
    rfl
  | f + 1, i, e => by
    obtain ⟨c1, c2, c3⟩ := id hM
    obtain ⟨b1, b2⟩ := c3 (b + i) (by omega)
    obtain ⟨k, hk⟩ : ∃ k, w = 60 + k := ⟨w - 60, by omega⟩
    have f4 : tw_c w i < 128 := by
      rw [hk] at e ⊢
      exact ((tw_facts k (by omega)).2.2 i (by omega)).1
    have z0 : bm_ev X 161 17 [.ref 45, .ref w, .int (nI 0), .int (nI (i + 1))] [] σ = some (.int (bm_bi false), σ) := by
      rw [bb_161_17, decide_eq_true (show nI 0 = 0 by decide), cond_true, bm_bo_0, bm_gd_t]
      rfl
    rw [bb_161_17, decide_eq_false (show ¬ nI 1 = 0 by decide), cond_false, tw_st h h', bm_gd_t, hs_len X σ h h', bm_bI_some, bn_lt (by omega) (by omega), decide_eq_true (by omega), cond_true, h10, bn_add, bn_inT (show b + i < 120 by omega) (by decide), bm_gd_t, bm_gd_t, hs_chr X σ h h' (by omega), bm_bI_some, bn_clamp (by omega), b2, bn_eq (by omega) (by omega), bb_161_37, bb_161_37, bn_add, z0, hm_samel X hM h h' h10 hl f (i + 1) (by omega), tk_same]
    cases decide (t (b + i) = tw_c w i) <;> rfl
theorem hm_isw (X : bm_X) {t : Nat → Nat} {n b w : Nat} {σ : bm_M} {fl : Bool} (hM : tk_M t n σ) (hb : b ≤ n) (h : 60 ≤ w) (h' : w ≤ 74) (h12 : σ 45 12 = bm_bi fl) (h10 : σ 45 10 = nI b) (h11 : σ 45 11 = nI (tk_e t n b)) : bm_ev X 161 0 [.ref 45, .ref w, .null, .null] [] σ = some (.int (bm_bi (!fl && tk_wd t n b w)), σ) := by
  have c2 := hM.2.1
  have le := tk_e_le t hb
  obtain ⟨k, hk⟩ : ∃ k, w = 60 + k := ⟨w - 60, by omega⟩
  have f4 : tw_l w ≤ 9 := by
    rw [hk]
    exact (tw_facts k (by omega)).2.1
  have z0 : bm_ev X 161 17 [.ref 45, .ref w, .int (nI 0), .int (nI 0)] [] σ = some (.int (bm_bi false), σ) := by
    rw [bb_161_17, decide_eq_true (show nI 0 = 0 by decide), cond_true, bm_bo_0, bm_gd_t]
    rfl
  rw [bb_161_0, h12, bm_cond_bi, bb_161_13, bb_161_14, z0]
  cases fl
  · rw [cond_false, tw_st h h', bm_gd_t, hs_len X σ h h', bm_bI_some, h10, h11, bn_sub le.1, bn_eq (by omega) (by omega), bb_161_14]
    unfold tk_wd
    by_cases e : tk_e t n b - b = tw_l w
    · rw [decide_eq_true e, cond_true, cond_true, hm_samel X hM h h' h10 (by omega) (tw_l w) 0 (by omega)]
      rfl
    · rw [decide_eq_false e, cond_false, cond_false, bb_161_13, bb_161_14, z0]
      rfl
  · rfl
