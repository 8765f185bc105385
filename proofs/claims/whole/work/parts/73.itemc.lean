def tx_kd (t : Nat → Nat) (n b : Nat) : Nat := bif tk_wd t n b 60 then 0 else bif tk_wd t n b 61 then 1 else bif tk_wd t n b 62 then 2 else bif tk_wd t n b 63 then 3 else bif tk_wd t n b 64 then 4 else bif tk_wd t n b 65 then 5 else bif tk_wd t n b 66 then 6 else 7
def tx_grass (t : Nat → Nat) (n b : Nat) (a : ab_T) : Bool × Nat × ab_T := bif tk_ok t n (tk_nx t n b) 11 then (bif tk_ok t n (tk_nx t n (tk_nx t n b)) 99 then (true, tk_nx t n (tk_nx t n (tk_nx t n b)), ab_set a 1 (tk_v t n (tk_nx t n b)) (tk_v t n (tk_nx t n (tk_nx t n b)))) else (false, tk_nx t n (tk_nx t n b), a)) else (false, tk_nx t n b, a)
def tx_set0 (t : Nat → Nat) (n i hi b : Nat) (a : ab_T) : Bool × Nat × ab_T := bif tk_ok t n (tk_nx t n b) hi then (true, tk_nx t n (tk_nx t n b), ab_set a 0 i (tk_v t n (tk_nx t n b))) else (false, tk_nx t n b, a)
def tx_item (t : Nat → Nat) (n b : Nat) (a : ab_T) : Bool × Nat × ab_T := bif decide (tx_kd t n b < 7) then tx_cow t n (tx_kd t n b) b a else bif tk_wd t n b 71 then tx_grass t n b a else bif tk_wd t n b 72 then tx_set0 t n 3 20 b a else bif tk_wd t n b 73 then tx_set0 t n 4 99 b a else (false, b, a)
theorem hc_kd (X : bm_X) {t : Nat → Nat} {n b : Nat} {σ : bm_M} (h : tk_Tc t n b σ) : bm_ev X 164 0 [.ref 34] [] σ = some (.int (if tx_kd t n b < 7 then nI (tx_kd t n b) else -nI 1), σ) := by
  rw [bb_164_0, hc_iw X h (by decide) (by decide), bm_bI_some, bm_cond_bi, hc_iw X h (by decide) (by decide), bm_bI_some, bm_cond_bi, hc_iw X h (by decide) (by decide), bm_bI_some, bm_cond_bi, hc_iw X h (by decide) (by decide), bm_bI_some, bm_cond_bi, hc_iw X h (by decide) (by decide), bm_bI_some, bm_cond_bi, hc_iw X h (by decide) (by decide), bm_bI_some, bm_cond_bi, hc_iw X h (by decide) (by decide), bm_bI_some, bm_cond_bi]
  unfold tx_kd
  cases tk_wd t n b 60
  · cases tk_wd t n b 61
    · cases tk_wd t n b 62
      · cases tk_wd t n b 63
        · cases tk_wd t n b 64
          · cases tk_wd t n b 65
            · cases tk_wd t n b 66 <;> rfl
            · rfl
          · rfl
        · rfl
      · rfl
    · rfl
  · rfl
theorem hc_grass (X : bm_X) {t : Nat → Nat} {n b : Nat} {a : ab_T} {σ : bm_M} (h : tk_Tc t n b σ) (hH : ab_H 12 σ a) : ∃ τ, bm_ev X 142 0 [.ref 34, .ref 12, .null] [] σ = some (.int (bm_bi (tx_grass t n b a).1), τ) ∧ tx_C t n (tx_grass t n b a) σ τ := by
  obtain ⟨s1, r1, r2, r3⟩ := hc_nu X (hi := 11) h (by decide)
  unfold tx_grass
  rw [bb_142_0, r1, bm_bI_some, bm_cond_bi, bm_bo_0, bm_gd_t]
  cases g1 : tk_ok t n (tk_nx t n b) 11
  · exact ⟨s1, rfl, r2, hH.J r3, tk_J.c r3⟩
  · obtain ⟨s2, q1, q2, q3⟩ := hc_nu X (hi := 99) r2 (by decide)
    rw [cond_true, cond_true, q1, bm_bI_some, bm_cond_bi, bm_gd_t]
    have k2 : ab_K tk_J σ s2 := r3.tr q3
    cases g2 : tk_ok t n (tk_nx t n (tk_nx t n b)) 99
    · exact ⟨s2, rfl, q2, hH.J k2, tk_J.c k2⟩
    · have v1 : tk_v t n (tk_nx t n b) ≤ 11 := by
        unfold tk_ok at g1
        rw [Bool.and_eq_true, decide_eq_true_eq, decide_eq_true_eq] at g1
        exact g1.2
      have e1 : s1 34 5 = nI (tk_v t n (tk_nx t n b)) := r2.2.2.2.2.2
      have e2 : s2 34 5 = nI (tk_v t n (tk_nx t n (tk_nx t n b))) := q2.2.2.2.2.2
      have u1 : ab_H 12 (bm_up s2 13 (tk_v t n (tk_nx t n b)) (nI (tk_v t n (tk_nx t n (tk_nx t n b))))) (ab_set a 1 (tk_v t n (tk_nx t n b)) (tk_v t n (tk_nx t n (tk_nx t n b)))) := (hH.J k2).up 1 _ _
      have u2 : tk_Tc t n (tk_nx t n (tk_nx t n b)) (bm_up s2 13 (tk_v t n (tk_nx t n b)) (nI (tk_v t n (tk_nx t n (tk_nx t n b))))) := q2.K (fun q i hq => bm_up_nk _ _ (by omega))
      obtain ⟨s3, w1, w2, w3⟩ := hc_nx X u2
      refine ⟨s3, ?_, w2, u1.J w3, ((tk_J.c k2).up _ (Or.inl (by omega))).tr (tk_J.c w3)⟩
      rw [cond_true, e1, e2, bn_inT (show tk_v t n (tk_nx t n b) < 12 by omega) (by decide), bm_gd_t, bn_clamp (by omega), w1, bm_bV_some, bm_bo_1, bm_gd_t]
      rfl
theorem hc_grows (X : bm_X) {t : Nat → Nat} {n b : Nat} {a : ab_T} {σ : bm_M} (h : tk_Tc t n b σ) (hH : ab_H 12 σ a) : ∃ τ, bm_ev X 143 0 [.ref 34, .ref 12] [] σ = some (.int (bm_bi (tx_set0 t n 3 20 b a).1), τ) ∧ tx_C t n (tx_set0 t n 3 20 b a) σ τ := by
  obtain ⟨s1, r1, r2, r3⟩ := hc_nu X (hi := 20) h (by decide)
  unfold tx_set0
  rw [bb_143_0, r1, bm_bI_some, bm_cond_bi, bm_bo_0, bm_gd_t]
  cases g1 : tk_ok t n (tk_nx t n b) 20
  · exact ⟨s1, rfl, r2, hH.J r3, tk_J.c r3⟩
  · have e1 : s1 34 5 = nI (tk_v t n (tk_nx t n b)) := r2.2.2.2.2.2
    have u1 : ab_H 12 (bm_up s1 12 3 (nI (tk_v t n (tk_nx t n b)))) (ab_set a 0 3 (tk_v t n (tk_nx t n b))) := (hH.J r3).up 0 _ _
    have u2 : tk_Tc t n (tk_nx t n b) (bm_up s1 12 3 (nI (tk_v t n (tk_nx t n b)))) := r2.K (fun q i hq => bm_up_nk _ _ (by omega))
    obtain ⟨s3, w1, w2, w3⟩ := hc_nx X u2
    refine ⟨s3, ?_, w2, u1.J w3, ((tk_J.c r3).up _ (Or.inl (by omega))).tr (tk_J.c w3)⟩
    rw [cond_true, e1, w1, bm_bV_some, bm_bo_1, bm_gd_t]
    rfl
theorem hc_thun (X : bm_X) {t : Nat → Nat} {n b : Nat} {a : ab_T} {σ : bm_M} (h : tk_Tc t n b σ) (hH : ab_H 12 σ a) : ∃ τ, bm_ev X 144 0 [.ref 34, .ref 12] [] σ = some (.int (bm_bi (tx_set0 t n 4 99 b a).1), τ) ∧ tx_C t n (tx_set0 t n 4 99 b a) σ τ := by
  obtain ⟨s1, r1, r2, r3⟩ := hc_nu X (hi := 99) h (by decide)
  unfold tx_set0
  rw [bb_144_0, r1, bm_bI_some, bm_cond_bi, bm_bo_0, bm_gd_t]
  cases g1 : tk_ok t n (tk_nx t n b) 99
  · exact ⟨s1, rfl, r2, hH.J r3, tk_J.c r3⟩
  · have e1 : s1 34 5 = nI (tk_v t n (tk_nx t n b)) := r2.2.2.2.2.2
    have u1 : ab_H 12 (bm_up s1 12 4 (nI (tk_v t n (tk_nx t n b)))) (ab_set a 0 4 (tk_v t n (tk_nx t n b))) := (hH.J r3).up 0 _ _
    have u2 : tk_Tc t n (tk_nx t n b) (bm_up s1 12 4 (nI (tk_v t n (tk_nx t n b)))) := r2.K (fun q i hq => bm_up_nk _ _ (by omega))
    obtain ⟨s3, w1, w2, w3⟩ := hc_nx X u2
    refine ⟨s3, ?_, w2, u1.J w3, ((tk_J.c r3).up _ (Or.inl (by omega))).tr (tk_J.c w3)⟩
    rw [cond_true, e1, w1, bm_bV_some, bm_bo_1, bm_gd_t]
    rfl
theorem hc_item (X : bm_X) {t : Nat → Nat} {n b : Nat} {a : ab_T} {σ : bm_M} (h : tk_Tc t n b σ) (hH : ab_H 12 σ a) (hG : ab_G a) : ∃ τ, bm_ev X 196 0 [.ref 34, .ref 12, .null] [] σ = some (.int (bm_bi (tx_item t n b a).1), τ) ∧ tx_C t n (tx_item t n b a) σ τ := by
  unfold tx_item
  rw [bb_196_0, hc_kd X h, bm_bI_some]
  by_cases c : tx_kd t n b < 7
  · obtain ⟨τ, r1, r2⟩ := hc_cow X (kd := tx_kd t n b) h hH hG
    refine ⟨τ, ?_, by rw [decide_eq_true c, cond_true]; exact r2⟩
    rw [if_pos c, decide_eq_false (bn_km1 _ (by omega)), cond_false, r1, bm_bI_some, bm_bo_bi, bm_gd_t, decide_eq_true c, cond_true]
  · rw [if_neg c, decide_eq_true rfl, cond_true, decide_eq_false c, cond_false, hc_iw X h (by decide) (by decide), bm_bI_some, bm_cond_bi, hc_iw X h (by decide) (by decide), bm_bI_some, bm_cond_bi, hc_iw X h (by decide) (by decide), bm_bI_some, bm_cond_bi]
    cases tk_wd t n b 71
    · cases tk_wd t n b 72
      · cases tk_wd t n b 73
        · refine ⟨σ, ?_, h, hH, ab_K.rf⟩
          rw [cond_false, cond_false, cond_false, bm_bo_0, bm_gd_t]
          rfl
        · obtain ⟨τ, r1, r2⟩ := hc_thun X h hH
          refine ⟨τ, ?_, r2⟩
          rw [cond_false, cond_false, cond_true, r1, bm_bI_some, bm_cond_bi, bm_bo_0, bm_bo_1, bm_gd_t, bm_gd_t]
          show _ = some (Value.int (bm_bi (tx_set0 t n 4 99 b a).1), τ)
          cases (tx_set0 t n 4 99 b a).1 <;> rfl
      · obtain ⟨τ, r1, r2⟩ := hc_grows X h hH
        refine ⟨τ, ?_, r2⟩
        rw [cond_false, cond_true, r1, bm_bI_some, bm_bo_bi, bm_gd_t]
        rfl
    · obtain ⟨τ, r1, r2⟩ := hc_grass X h hH
      refine ⟨τ, ?_, r2⟩
      rw [cond_true, r1, bm_bI_some, bm_bo_bi, bm_gd_t]
      rfl
