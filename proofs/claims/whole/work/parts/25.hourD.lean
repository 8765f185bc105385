/-! AN HOUR of the class's herd, whole -/
theorem bm_bo_bi' (b : Bool) : bm_bo (bm_bi b) = true := bm_bo_bi b
theorem hc_grow (X : bm_X) {o : Nat} (ho : bm_isH o) {a : ab_T} (hG : ab_G a) (x1 : Int32) : ∀ (n j : Nat) (σ : bm_M), j + n = 12 → ab_H o σ (ab_gr a j) → ∃ τ, bm_ev X 141 18 [.ref o, .int x1, .int (nI j)] [] σ = bm_ev X 141 18 [.ref o, .int x1, .int (nI 12)] [] τ ∧ ab_H o τ (ab_gr a 12) ∧ ab_F o σ τ := by
  intro n
  induction n with
  | zero =>
    intro j σ hj hH
    rw [show j = 12 by omega] at hH ⊢
    exact ⟨σ, rfl, hH, ab_F.rf⟩
  | succ n ih =>
    intro j σ hj hH
    rw [bb_141_18 _ _ _ ho]
    have h1 := hH 1 j (ab_w1 (by omega))
    have h3 := hH 0 3 rfl
    rw [Nat.add_zero] at h3
    have b1 := (hG.gr j).2.2.2.1 j (by omega)
    have b3 := (hG.gr j).1
    have hj' : decide (j < 12) = true := decide_eq_true (by omega)
    simp (disch := omega) only [bn_lt, hj', cond_true, bn_inT, bn_clamp, h1, h3, bm_gd_t, bn_add, bn_min]
    obtain ⟨τ, e1, e2, e3⟩ := ih (j + 1) (bm_up σ (o + 1) j (nI (min 99 (ab_gr a j 1 j + ab_gr a j 0 3)))) (by omega) (hH.up 1 j _)
    exact ⟨τ, e1, e2, (ab_F.rf.up (by decide) _ _).tr e3⟩
theorem hc_hour (X : bm_X) {o : Nat} (ho : bm_isH o) {σ : bm_M} {a : ab_T} (hH : ab_H o σ a) (hG : ab_G a) (hh : a 0 5 < 99999) : ∃ τ, bm_ev X 141 0 [.ref o, .null, .null] [] σ = some (.int (bm_bi (ab_wand a)), τ) ∧ ab_H o τ (ab_hr a) ∧ ab_F o σ τ := by
  rw [bb_141_0 _ _ _ ho]
  have hc := hG.2.2.1
  obtain ⟨τ1, e1, e2, e3⟩ := hc_spends X ho hG (a 0 7) 0 σ (by omega) hH
  have e1 : bm_ev X 141 4 [.ref o, .int (nI 0), .int (nI 0)] [] σ = bm_ev X 141 18 [.ref o, .int (bm_bi (ab_wand a)), .int (nI 0)] [] τ1 := e1
  rw [e1]
  have hG1 := hG.sp (a 0 7) hc
  obtain ⟨τ2, f1, f2, f3⟩ := hc_grow X ho hG1 (bm_bi (ab_wand a)) 12 0 τ1 (by omega) e2
  rw [f1, bb_141_18 _ _ _ ho]
  have h5 := f2 0 5 rfl
  rw [Nat.add_zero, ab_gr_ne _ _ _ (by decide), ab_sp_0] at h5
  have hz : decide (nI 12 < nI 12) = false := by decide
  have hH3 := f2.up 0 5 (a 0 5 + 1)
  rw [Nat.add_zero] at hH3
  have ht : ab_set (ab_gr (ab_sp a (a 0 7)) 12) 0 5 (a 0 5 + 1) = ab_tick (ab_gr (ab_sp a (a 0 7)) 12) := by
    unfold ab_tick
    rw [ab_gr_ne _ _ _ (by decide), ab_sp_0]
  rw [ht] at hH3
  have hF3 : ab_F o σ (bm_up τ2 o 5 (nI (a 0 5 + 1))) := by
    have := (e3.tr f3).up (c := 0) (by decide) 5 (nI (a 0 5 + 1))
    rw [Nat.add_zero] at this
    exact this
  have hm : min 99999 (a 0 5 + 1) = a 0 5 + 1 := by omega
  simp (disch := omega) only [hz, cond_false, h5, bn_add, bn_min, hm, bm_up_at, bn_rem, bn_eq0, bm_bo_bi, bm_gd_t]
  by_cases h6 : (a 0 5 + 1) % 6 = 0
  · have h70 : ab_tick (ab_gr (ab_sp a (a 0 7)) 12) 0 7 = a 0 7 := by
      unfold ab_tick
      rw [ab_set_ni _ _ (by decide), ab_gr_ne _ _ _ (by decide), ab_sp_0]
    obtain ⟨τ4, g1, g2, g3⟩ := hc_milks X ho ((hG1.gr 12).tick) (a 0 7) 0 (bm_up τ2 o 5 (nI (a 0 5 + 1))) .null .null .null .null (by rw [h70]; omega) hH3
    rw [bb_104_0 _ _ _ ho, g1]
    simp only [h6, decide_true, cond_true, bm_bV_some]
    refine ⟨τ4, rfl, ?_, hF3.tr g3⟩
    unfold ab_hr
    rw [if_pos h6]
    rw [h70] at g2
    exact g2
  · simp only [h6, decide_false, cond_false]
    refine ⟨_, rfl, ?_, hF3⟩
    unfold ab_hr
    rw [if_neg h6]
    exact hH3
theorem hc_hours (X : bm_X) {o : Nat} (ho : bm_isH o) {a : ab_T} (hG : ab_G a) {m : Nat} (hm : m ≤ 1000) (hh : a 0 5 + m ≤ 99999) : ∀ (n j : Nat) (σ : bm_M), j + n = m → ab_H o σ (ab_hs a j) → ∃ τ, bm_ev X 153 2 [.ref o, .int (nI m), .int (nI j)] [] σ = some (.null, τ) ∧ ab_H o τ (ab_hs a m) ∧ ab_F o σ τ := by
  intro n
  induction n with
  | zero =>
    intro j σ hj hH
    rw [bb_153_2 _ _ _ ho]
    rw [show j = m by omega] at hH ⊢
    simp (disch := omega) only [bn_lt, Nat.lt_irrefl, decide_false, cond_false]
    exact ⟨σ, rfl, hH, ab_F.rf⟩
  | succ n ih =>
    intro j σ hj hH
    rw [bb_153_2 _ _ _ ho]
    obtain ⟨τ, e1, e2, e3⟩ := hc_hour X ho hH (hG.hs j) (by rw [ab_hs_hour]; omega)
    have hj' : decide (j < m) = true := decide_eq_true (by omega)
    simp (disch := omega) only [bn_lt, hj', cond_true, e1, bm_bI_some, bn_add]
    obtain ⟨τ2, f1, f2, f3⟩ := ih (j + 1) τ (by omega) e2
    exact ⟨τ2, f1, f2, e3.tr f3⟩
theorem hc_pass (X : bm_X) {o : Nat} (ho : bm_isH o) {σ : bm_M} {a : ab_T} (hH : ab_H o σ a) (hG : ab_G a) {m : Nat} (hm : m ≤ 1000) (hh : a 0 5 + m ≤ 99999) : ∃ τ, bm_ev X 153 0 [.ref o, .int (nI m), .null] [] σ = some (.null, τ) ∧ ab_H o τ (ab_hs a m) ∧ ab_F o σ τ := by
  rw [bb_153_0 _ _ _ ho]
  exact hc_hours X ho hG hm hh m 0 σ (by omega) hH
