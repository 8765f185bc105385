def tx_then (r : Bool × Nat × ab_T) (f : Nat → ab_T → Bool × Nat × ab_T) : Bool × Nat × ab_T := bif r.1 then f r.2.1 r.2.2 else r
def tx_muf (t : Nat → Nat) (n k b : Nat) (a : ab_T) : Bool × Nat × ab_T := bif tk_wd t n b 70 then (true, tk_nx t n b, ab_set a 10 k 1) else (true, b, a)
def tx_cow (t : Nat → Nat) (n kd b : Nat) (a : ab_T) : Bool × Nat × ab_T :=
  bif decide (a 0 7 < 8) then tx_then (tx_opt t n 67 5 (a 0 7) 11 (tk_nx t n b) (ab_add a kd 0)) (fun b1 a1 => tx_then (tx_opt t n 68 6 (a 0 7) 11 b1 a1) (fun b2 a2 => tx_then (tx_opt t n 69 7 (a 0 7) 9 b2 a2) (fun b3 a3 => tx_muf t n (a 0 7) b3 a3))) else (false, b, a)
/-- what the class is left with -/
def tx_C (t : Nat → Nat) (n : Nat) (r : Bool × Nat × ab_T) (σ τ : bm_M) : Prop := tk_Tc t n r.2.1 τ ∧ ab_H 12 τ r.2.2 ∧ ab_K tx_Jc σ τ
theorem ab_F.c {σ τ : bm_M} (h : ab_F 12 σ τ) : ab_K tx_Jc σ τ := h.K.mono (fun q i z => Or.inl (by omega))
theorem hc_cow (X : bm_X) {t : Nat → Nat} {n kd b : Nat} {a : ab_T} {σ : bm_M} (h : tk_Tc t n b σ) (hH : ab_H 12 σ a) (hG : ab_G a) : ∃ τ, bm_ev X 183 0 [.ref 34, .ref 12, .int (nI kd), .null] [] σ = some (.int (bm_bi (tx_cow t n kd b a).1), τ) ∧ tx_C t n (tx_cow t n kd b a) σ τ := by
  have hc := hG.2.2.1
  have e7 : σ 12 7 = nI (a 0 7) := hH 0 7 rfl
  unfold tx_cow
  rw [bb_183_0, e7, bn_lt (by omega) (by decide)]
  by_cases c8 : a 0 7 < 8
  · rw [decide_eq_true c8, cond_true, cond_true]
    obtain ⟨s1, r1, r2, r3⟩ := hc_addCow X (Or.inr (Or.inl rfl)) hH hG (kd := kd) (p := 0) (k := 0) c8
    have h1 : tk_Tc t n b s1 := h.K (fun q i hq => by rw [r3 q (by omega)])
    obtain ⟨s2, q1, q2, q3⟩ := hc_nx X h1
    rw [r1, bm_bI_some, q1, bm_bV_some]
    have k2 : ab_K tx_Jc σ s2 := r3.c.tr (tk_J.c q3)
    obtain ⟨s3, p1, p2, p3, p4⟩ := hc_opt X (w := 67) (c := 5) (k := a 0 7) (hi := 11) q2 (r2.J q3) (by decide) (by decide) (by decide) (by decide) c8 c8
    have p1 : bm_ev X 163 0 [.ref 34, .ref 67, .ref 17, .int (nI (a 0 7)), .int (nI 11)] [] s2 = _ := p1
    rw [p1, bm_bI_some, bm_cond_bi, bm_bo_0, bm_gd_t]
    generalize tx_opt t n 67 5 (a 0 7) 11 (tk_nx t n b) (ab_add a kd 0) = R1 at *
    have k3 := k2.tr p4
    unfold tx_then
    cases g1 : R1.1
    · exact ⟨s3, by rw [cond_false, cond_false, g1]; rfl, p2, p3, k3⟩
    rw [cond_true, cond_true]
    try dsimp only
    obtain ⟨s4, y1, y2, y3, y4⟩ := hc_opt X (w := 68) (c := 6) (k := a 0 7) (hi := 11) p2 p3 (by decide) (by decide) (by decide) (by decide) c8 c8
    have y1 : bm_ev X 163 0 [.ref 34, .ref 68, .ref 18, .int (nI (a 0 7)), .int (nI 11)] [] s3 = _ := y1
    rw [y1, bm_bI_some, bm_cond_bi, bm_gd_t]
    generalize tx_opt t n 68 6 (a 0 7) 11 R1.2.1 R1.2.2 = R2 at *
    have k4 := k3.tr y4
    cases g2 : R2.1
    · exact ⟨s4, by rw [cond_false, cond_false, g2]; rfl, y2, y3, k4⟩
    rw [cond_true, cond_true]
    try dsimp only
    obtain ⟨s5, z1, z2, z3, z4⟩ := hc_opt X (w := 69) (c := 7) (k := a 0 7) (hi := 9) y2 y3 (by decide) (by decide) (by decide) (by decide) c8 c8
    have z1 : bm_ev X 163 0 [.ref 34, .ref 69, .ref 19, .int (nI (a 0 7)), .int (nI 9)] [] s4 = _ := z1
    rw [z1, bm_bI_some, bm_cond_bi, bm_gd_t]
    generalize tx_opt t n 69 7 (a 0 7) 9 R2.2.1 R2.2.2 = R3 at *
    have k5 := k4.tr z4
    cases g3 : R3.1
    · exact ⟨s5, by rw [cond_false, cond_false, g3]; rfl, z2, z3, k5⟩
    rw [cond_true, cond_true]
    try dsimp only
    unfold tx_muf
    rw [hc_iw X z2 (by decide) (by decide), bm_bI_some, bm_cond_bi, bm_bo_1, bm_gd_t]
    cases tk_wd t n R3.2.1 70
    · exact ⟨s5, rfl, z2, z3, k5⟩
    · have u1 : ab_H 12 (bm_up s5 22 (a 0 7) (nI 1)) (ab_set R3.2.2 10 (a 0 7) 1) := z3.up 10 _ 1
      have u2 : tk_Tc t n R3.2.1 (bm_up s5 22 (a 0 7) (nI 1)) := z2.K (fun q i hq => bm_up_nk _ _ (by omega))
      obtain ⟨s6, w1, w2, w3⟩ := hc_nx X u2
      refine ⟨s6, ?_, w2, u1.J w3, (k5.up _ (Or.inl (by omega))).tr (tk_J.c w3)⟩
      rw [cond_true, bn_inT c8 (by decide), bm_gd_t, bn_clamp (by omega), w1, bm_bV_some, bm_gd_t]
      rfl
  · rw [decide_eq_false c8, cond_false, cond_false, bm_bo_0, bm_gd_t]
    exact ⟨σ, rfl, h, hH, ab_K.rf⟩
