theorem tk_val_le (t : Nat → Nat) : ∀ f p v, v ≤ 1000 → tk_val t f p v ≤ 1000
  | 0, _, v, h => h
  | f + 1, p, v, h => by
    rw [tk_val]
    cases tk_in 48 57 (t p)
    · exact h
    · exact tk_val_le t f (p + 1) _ (Nat.min_le_left _ _)
theorem hc_number (X : bm_X) {t : Nat → Nat} {n : Nat} : ∀ (i p v : Nat) (ρ : bm_M), p + i = n → v ≤ 1000 → tk_C t n ρ → ρ 34 4 = nI p → ρ 34 5 = nI v → ∃ τ, bm_ev X 56 78 [.ref 34] [] ρ = some (.null, τ) ∧ τ 34 4 = nI (tk_run t 48 57 i p) ∧ τ 34 5 = nI (tk_val t i p v) ∧ ab_K (fun q j => q = 34 ∧ (j = 4 ∨ j = 5)) ρ τ
  | 0, p, v, ρ, e, hv, hC, h4, h5 => by
    obtain ⟨c1, c2, c3⟩ := id hC
    refine ⟨ρ, ?_, h4, h5, ab_K.rf⟩
    rw [bb_56_78, h4, c1, bn_lt (by omega) (by omega), decide_eq_false (by omega), cond_false]
  | i + 1, p, v, ρ, e, hv, hC, h4, h5 => by
    obtain ⟨c1, c2, c3⟩ := id hC
    obtain ⟨b1, b2⟩ := c3 p (by omega)
    have ex : bm_ev X 56 78 [.ref 34] [] ρ = bif tk_in 48 57 (t p) then bm_ev X 56 78 [.ref 34] [] (bm_up (bm_up ρ 34 5 (bm_min (nI 1000) (nI (v * 10 + t p) - nI 48))) 34 4 (nI (p + 1))) else some (.null, ρ) := by
      rw [bb_56_78, h4, c1, bn_lt (by omega) (by omega), decide_eq_true (by omega), cond_true, bn_inT (show p < 120 by omega) (by decide), bm_gd_t, bn_clamp (by omega), b2, hc_digit X ρ b1, bm_bI_some, bm_cond_bi, h4, bn_inT (show p < 120 by omega) (by decide), bm_gd_t, bn_clamp (by omega), b2, h5, bn_mul, bn_add, bm_up_ni _ _ (by decide), h4, bn_add]
    rw [ex, tk_run, tk_val]
    cases hd : tk_in 48 57 (t p)
    · exact ⟨ρ, rfl, h4, h5, ab_K.rf⟩
    · have h48 : 48 ≤ t p := by
        unfold tk_in at hd
        rw [Bool.and_eq_true, decide_eq_true_eq, decide_eq_true_eq] at hd
        exact hd.1
      rw [bn_sub (by omega), bn_min (by decide) (by omega)]
      have k : ab_K (fun q j => q = 34 ∧ (j = 4 ∨ j = 5)) ρ (bm_up (bm_up ρ 34 5 (nI (min 1000 (v * 10 + t p - 48)))) 34 4 (nI (p + 1))) := (ab_K.rf.up _ ⟨rfl, Or.inr rfl⟩).up _ ⟨rfl, Or.inl rfl⟩
      obtain ⟨τ, r1, r2, r3, r4⟩ := hc_number X i (p + 1) (min 1000 (v * 10 + t p - 48)) _ (by omega) (Nat.min_le_left _ _) (hC.K (k.mono (fun q j z => by unfold tk_J; omega))) (bm_up_at _ _ _ _) (by rw [bm_up_ni _ _ (by decide), bm_up_at])
      exact ⟨τ, r1, r2, r3, k.tr r4⟩
theorem hc_next (X : bm_X) {t : Nat → Nat} {n p : Nat} {σ : bm_M} (hC : tk_C t n σ) (hp : p ≤ n) (h4 : σ 34 4 = nI p) : ∃ τ, bm_ev X 56 0 [.ref 34] [] σ = some (.null, τ) ∧ τ 34 2 = nI (tk_k t n (tk_b t n p)) ∧ τ 34 3 = nI (tk_b t n p) ∧ τ 34 4 = nI (tk_e t n (tk_b t n p)) ∧ τ 34 5 = nI (tk_v t n (tk_b t n p)) ∧ ab_K tk_J σ τ := by
  obtain ⟨c1, c2, c3⟩ := id hC
  have k0 : ab_K tk_J σ (bm_up σ 34 3 (nI p)) := ab_K.rf.up _ ⟨rfl, by decide, by decide⟩
  obtain ⟨s, r1, r2, r3⟩ := hc_blank X (n - p) p (bm_up σ 34 3 (nI p)) (by omega) (hC.K k0) (bm_up_at _ _ _ _)
  rw [bb_56_0, h4, r1]
  have r2 : s 34 3 = nI (tk_b t n p) := r2
  have lb := tk_run_le t 32 32 (n - p) p
  generalize hb : tk_b t n p = b at *
  have hbn : b ≤ n := by
    rw [← hb]
    unfold tk_b
    omega
  have k1 : ab_K tk_J σ (bm_up (bm_up s 34 4 (nI b)) 34 5 (nI 0)) := ((k0.tr r3).up _ ⟨rfl, by decide, by decide⟩).up _ ⟨rfl, by decide, by decide⟩
  have w1 : bm_up (bm_up s 34 4 (nI b)) 34 5 (nI 0) 34 1 = nI n := (hC.K k1).1
  have w3 : bm_up (bm_up s 34 4 (nI b)) 34 5 (nI 0) 34 3 = nI b := by rw [bm_up_ni _ _ (by decide), bm_up_ni _ _ (by decide), r2]
  have w4 : bm_up (bm_up s 34 4 (nI b)) 34 5 (nI 0) 34 4 = nI b := by rw [bm_up_ni _ _ (by decide), bm_up_at]
  have w5 : bm_up (bm_up s 34 4 (nI b)) 34 5 (nI 0) 34 5 = nI 0 := bm_up_at _ _ _ _
  have wC := hC.K k1
  rw [bb_56_23, r2]
  generalize bm_up (bm_up s 34 4 (nI b)) 34 5 (nI 0) = ρ at *
  rw [w3, w1, bn_lt (by omega) (by omega)]
  by_cases e : b < n
  · obtain ⟨b1, b2⟩ := wC.2.2 b e
    rw [decide_eq_true e, cond_true, bn_inT (show b < 120 by omega) (by decide), bm_gd_t, bn_clamp (by omega), b2, hc_letter X ρ b1, bm_bI_some, bm_cond_bi, w3, bn_inT (show b < 120 by omega) (by decide), bm_gd_t, bn_clamp (by omega), b2, hc_digit X ρ b1, bm_bI_some, bm_cond_bi, w3, bn_inT (show b < 120 by omega) (by decide), bm_gd_t, bn_clamp (by omega), b2, bn_eq (by omega) (by decide)]
    cases hl : tk_in 97 122 (t b)
    · cases hd : tk_in 48 57 (t b)
      · rw [cond_false, cond_false]
        have fin : ∀ y : Nat, tk_k t n b = y → (y = 3 ∨ y = 4) → ∃ τ, bm_ev X 56 124 [.ref 34] [.int (nI y), .ref 34] ρ = some (.null, τ) ∧ τ 34 2 = nI (tk_k t n b) ∧ τ 34 3 = nI b ∧ τ 34 4 = nI (tk_e t n b) ∧ τ 34 5 = nI (tk_v t n b) ∧ ab_K tk_J σ τ := by
          intro y hy hy2
          refine ⟨bm_up (bm_up ρ 34 2 (nI y)) 34 4 (nI (b + 1)), ?_, ?_, ?_, ?_, ?_, (k1.up _ ⟨rfl, by decide, by decide⟩).up _ ⟨rfl, by decide, by decide⟩⟩
          · rw [bb_56_124, bm_up_ni _ _ (by decide), w4, bn_add]
          · rw [bm_up_ni _ _ (by decide), bm_up_at, hy]
          · rw [bm_up_ni _ _ (by decide), bm_up_ni _ _ (by decide), w3]
          · unfold tk_e
            rw [bm_up_at, if_neg (by omega), if_neg (by omega), if_neg (by omega)]
          · unfold tk_v
            rw [bm_up_ni _ _ (by decide), bm_up_ni _ _ (by decide), w5, if_neg (by omega)]
        by_cases c : t b = 59
        · rw [decide_eq_true c, cond_true]
          refine fin 3 ?_ (Or.inl rfl)
          unfold tk_k
          rw [if_pos e, hl, hd, if_neg (by decide), if_neg (by decide), if_pos c]
        · rw [decide_eq_false c, cond_false]
          refine fin 4 ?_ (Or.inr rfl)
          unfold tk_k
          rw [if_pos e, hl, hd, if_neg (by decide), if_neg (by decide), if_neg c]
      · rw [cond_false, cond_true]
        have hk : tk_k t n b = 2 := by
          unfold tk_k
          rw [if_pos e, hl, hd, if_neg (by decide), if_pos rfl]
        have k2 : ab_K tk_J σ (bm_up ρ 34 2 (nI 2)) := k1.up _ ⟨rfl, by decide, by decide⟩
        obtain ⟨τ, q1, q2, q3, q4⟩ := hc_number X (n - b) b 0 (bm_up ρ 34 2 (nI 2)) (by omega) (by omega) (hC.K k2) (by rw [bm_up_ni _ _ (by decide), w4]) (by rw [bm_up_ni _ _ (by decide), w5])
        refine ⟨τ, q1, ?_, ?_, ?_, ?_, k2.tr (q4.mono (fun q j z => by unfold tk_J; omega))⟩
        · rw [q4 34 2 (by omega), bm_up_at, hk]
        · rw [q4 34 3 (by omega), bm_up_ni _ _ (by decide), w3]
        · unfold tk_e
          rw [hk, if_neg (by decide), if_pos rfl, q2]
        · unfold tk_v
          rw [hk, if_pos rfl, q3]
    · rw [cond_true]
      have hk : tk_k t n b = 1 := by
        unfold tk_k
        rw [if_pos e, hl, if_pos rfl]
      have k2 : ab_K tk_J σ (bm_up ρ 34 2 (nI 1)) := k1.up _ ⟨rfl, by decide, by decide⟩
      obtain ⟨τ, q1, q2, q3⟩ := hc_word X (n - b) b (bm_up ρ 34 2 (nI 1)) (by omega) (hC.K k2) (by rw [bm_up_ni _ _ (by decide), w4])
      refine ⟨τ, q1, ?_, ?_, ?_, ?_, k2.tr (q3.mono (fun q j z => by unfold tk_J; omega))⟩
      · rw [q3 34 2 (by omega), bm_up_at, hk]
      · rw [q3 34 3 (by omega), bm_up_ni _ _ (by decide), w3]
      · unfold tk_e
        rw [hk, if_pos rfl, q2]
      · unfold tk_v
        rw [hk, if_neg (by decide), q3 34 5 (by omega), bm_up_ni _ _ (by decide), w5]
  · have hk : tk_k t n b = 0 := by
      unfold tk_k
      rw [if_neg e]
    rw [decide_eq_false e, cond_false]
    refine ⟨bm_up ρ 34 2 (nI 0), rfl, ?_, ?_, ?_, ?_, k1.up _ ⟨rfl, by decide, by decide⟩⟩
    · rw [bm_up_at, hk]
    · rw [bm_up_ni _ _ (by decide), w3]
    · unfold tk_e
      rw [hk, if_neg (by decide), if_neg (by decide), if_pos rfl, bm_up_ni _ _ (by decide), w4]
    · unfold tk_v
      rw [hk, if_neg (by decide), bm_up_ni _ _ (by decide), w5]
