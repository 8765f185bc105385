theorem op_copy (X : bm_X) (p0 p1 p2 p3 p4 : Int32) : ab_op X 116 138 [.ref 0, .int p0, .int p1, .int p2, .int p3, .int p4] [.ref 45, .int p0, .int p1, .int p2, .int p3, .int p4, .null, .null] := by
  intro T σ hR hT
  obtain ⟨a, ka, kp, tl, h1, h2, h3, h4, h5⟩ := id hR
  have h0 : (0 : Int32).toInt = 0 := by decide
  cases g1 : bm_rg p0 0 3
  · refine ⟨bm_lw 0, bm_tl 0 σ, bm_fo 0 (bm_tl 0 σ), ?_, ?_, hR.tell (by omega) (by decide)⟩
    · rw [bb_116_0, bs_c68', bm_bI_some, bm_cond_bi, g1, cond_false, bs_tell X _ (by decide), bm_bI_some]
    · rw [bb_138_0, bs_m97, bm_bI_some, bm_cond_bi, g1, cond_false, bs_finds X _ (by decide), bm_bI_some]
  cases g2 : bm_rg p2 0 3
  · refine ⟨bm_lw 0, bm_tl 0 σ, bm_fo 0 (bm_tl 0 σ), ?_, ?_, hR.tell (by omega) (by decide)⟩
    · rw [bb_116_0, bs_c68', bm_bI_some, bm_cond_bi, g1, cond_true, bs_c68', bm_bI_some, bm_cond_bi, g2, cond_false, bs_tell X _ (by decide), bm_bI_some]
    · rw [bb_138_0, bs_m97, bm_bI_some, bm_cond_bi, g1, cond_true, bs_m97, bm_bI_some, bm_cond_bi, g2, cond_false, bs_finds X _ (by decide), bm_bI_some]
  obtain ⟨s, hs, -, rfl⟩ := bm_rg_ex (n := 3) g1
  obtain ⟨d, hd, -, rfl⟩ := bm_rg_ex (n := 3) g2
  have hs4 : s < 4 := by omega
  have hd4 : d < 4 := by omega
  obtain ⟨b, z, hb, hz, c1, c2, c3, c4, c5⟩ := h4 s hs4
  obtain ⟨b', z', hb', hz', d1, d2, d3, d4, d5⟩ := h4 d hd4
  have cl : bm_ev X 116 0 [.ref 0, .int (nI s), .int p1, .int (nI d), .int p3, .int p4] [] σ = bif decide (b = 0) then some (.int (bm_lw 5), bm_tl 5 σ) else bif decide (b' = 0) then some (.int (bm_lw 5), bm_tl 5 σ) else bif decide (b = b') then (bif decide (0 ≤ p1.toInt ∧ 0 ≤ p4.toInt ∧ p1.toInt + p4.toInt ≤ z) then (bif decide (0 ≤ p3.toInt ∧ 0 ≤ p4.toInt ∧ p3.toInt + p4.toInt ≤ z') then bm_gd (bm_ac p1 p3 p4 40 40) (some (.int p4, bm_cp σ (37 + s) (37 + d) p1.toNatClampNeg p3.toNatClampNeg p4.toNatClampNeg)) else some (.int (bm_lw 0), bm_tl 0 σ)) else some (.int (bm_lw 0), bm_tl 0 σ)) else some (.int (bm_lw 2), bm_tl 2 σ) := by
    rw [bb_116_0, bs_c68', bm_bI_some, bm_cond_bi, g1, cond_true, bs_c68', bm_bI_some, bm_cond_bi, g2, cond_true, bn_inT hs4 (by decide), bn_inT hd4 (by decide)]
    rw [bm_gd_t, bm_gd_t, bm_gd_t, bm_gd_t, bn_clamp (show s < 2147483648 by omega), bn_clamp (show d < 2147483648 by omega), c1, d1, bn_eq0 (by omega), bn_eq0 (by omega), bn_eq (by omega) (by omega), bs_tell X _ (show 5 < 7 by decide), bm_bI_some, bs_tell X _ (show 2 < 7 by decide), bm_bI_some, hc_27 X hs4 hz c3, bm_bI_some, bm_cond_bi, bs_tell X _ (show 0 < 7 by decide), bm_bI_some, hc_27 X hd4 hz' d3, bm_bI_some, bm_cond_bi, bs_tell X _ (show 0 < 7 by decide), bm_bI_some, ab_a37 hs4, ab_a37 hd4, bm_gd_t, bm_gd_t]
  have ml : ∀ ρ : bm_M, ρ 51 = σ 51 → ρ 52 = σ 52 → bm_ev X 138 0 [.ref 45, .int (nI s), .int p1, .int (nI d), .int p3, .int p4, .null, .null] [] ρ = bif decide (b = 0) then some (.int (bm_lw 5), bm_fo 5 ρ) else bif decide (b' = 0) then some (.int (bm_lw 5), bm_fo 5 ρ) else bif decide (b = b') then (bif decide (0 ≤ p1.toInt ∧ 0 ≤ p4.toInt ∧ p1.toInt + p4.toInt ≤ z) then (bif decide (0 ≤ p3.toInt ∧ 0 ≤ p4.toInt ∧ p3.toInt + p4.toInt ≤ z') then bm_ev X 138 79 [.ref 45, .int (nI s), .int p1, .int (nI d), .int p3, .int p4, .int (nI 1), .int (nI 0)] [] ρ else some (.int (bm_lw 0), bm_fo 0 ρ)) else some (.int (bm_lw 0), bm_fo 0 ρ)) else some (.int (bm_lw 2), bm_fo 2 ρ) := by
    intro ρ e51 e52
    have q69 : bm_ev X 138 69 [.ref 45, .int (nI s), .int p1, .int (nI d), .int p3, .int p4, .null, .null] [] ρ = some (.int (bm_lw 0), bm_fo 0 ρ) := by
      rw [bb_138_69, bb_138_70, decide_eq_true (by decide), cond_true, bs_finds X _ (by decide), bm_bI_some]
    have q70 : bm_ev X 138 70 [.ref 45, .int (nI s), .int p1, .int (nI d), .int p3, .int p4, .null, .null] [.int (nI 1)] ρ = bm_ev X 138 79 [.ref 45, .int (nI s), .int p1, .int (nI d), .int p3, .int p4, .int (nI 1), .int (nI 0)] [] ρ := by
      rw [bb_138_70, decide_eq_false (by decide), cond_false]
    rw [bb_138_0, bs_m97, bm_bI_some, bm_cond_bi, g1, cond_true, bs_m97, bm_bI_some, bm_cond_bi, g2, cond_true, bn_inT hs4 (by decide), bn_inT hd4 (by decide)]
    rw [bm_gd_t, bm_gd_t, bm_gd_t, bm_gd_t, bn_clamp (show s < 2147483648 by omega), bn_clamp (show d < 2147483648 by omega), e51, e52, c2, d2, c4, d4, bn_eq0 (by omega), bn_eq0 (by omega), bn_eq (by omega) (by omega), bs_finds X _ (show 5 < 7 by decide), bm_bI_some, bs_finds X _ (show 2 < 7 by decide), bm_bI_some, q69, q70, bm_gd_t, bm_gd_t, bm_lt_toInt, bm_lt_toInt, bm_lt_toInt, h0, bm_lcmp_gt, bm_lcmp_gt, bl_addI, bl_addI, bm_i2l, bm_i2l, bn_toInt (show z < 2147483648 by omega), bn_toInt (show z' < 2147483648 by omega)]
    cases decide (b = 0)
    · cases decide (b' = 0)
      · cases decide (b = b')
        · rfl
        · rw [cond_false, cond_false, cond_true, cond_false, cond_false, cond_true]
          by_cases k4 : p4.toInt < 0
          · rw [decide_eq_true k4, cond_true, decide_eq_false (show ¬ (0 ≤ p1.toInt ∧ 0 ≤ p4.toInt ∧ p1.toInt + p4.toInt ≤ z) by omega), cond_false]
          rw [decide_eq_false k4, cond_false]
          by_cases k1 : p1.toInt < 0
          · rw [decide_eq_true k1, cond_true, decide_eq_false (show ¬ (0 ≤ p1.toInt ∧ 0 ≤ p4.toInt ∧ p1.toInt + p4.toInt ≤ z) by omega), cond_false]
          rw [decide_eq_false k1, cond_false]
          by_cases k3 : p3.toInt < 0
          · rw [decide_eq_true k3, cond_true, decide_eq_false (show ¬ (0 ≤ p3.toInt ∧ 0 ≤ p4.toInt ∧ p3.toInt + p4.toInt ≤ z') by omega), cond_false]
            cases decide (0 ≤ p1.toInt ∧ 0 ≤ p4.toInt ∧ p1.toInt + p4.toInt ≤ z) <;> rfl
          rw [decide_eq_false k3, cond_false]
          by_cases k5 : (z : Int) < p1.toInt + p4.toInt
          · rw [decide_eq_true k5, cond_true, decide_eq_false (show ¬ (0 ≤ p1.toInt ∧ 0 ≤ p4.toInt ∧ p1.toInt + p4.toInt ≤ z) by omega), cond_false]
          rw [decide_eq_false k5, cond_false, decide_eq_true (show (0 ≤ p1.toInt ∧ 0 ≤ p4.toInt ∧ p1.toInt + p4.toInt ≤ z) by omega), cond_true]
          by_cases k6 : (z' : Int) < p3.toInt + p4.toInt
          · rw [decide_eq_true k6, cond_true, decide_eq_false (show ¬ (0 ≤ p3.toInt ∧ 0 ≤ p4.toInt ∧ p3.toInt + p4.toInt ≤ z') by omega), cond_false]
          rw [decide_eq_false k6, cond_false, decide_eq_true (show (0 ≤ p3.toInt ∧ 0 ≤ p4.toInt ∧ p3.toInt + p4.toInt ≤ z') by omega), cond_true]
      · rfl
    · rfl
  have tlm : ∀ k, k < 7 → bm_ev X 116 0 [.ref 0, .int (nI s), .int p1, .int (nI d), .int p3, .int p4] [] σ = some (.int (bm_lw k), bm_tl k σ) → bm_ev X 138 0 [.ref 45, .int (nI s), .int p1, .int (nI d), .int p3, .int p4, .null, .null] [] (bm_tl k σ) = some (.int (bm_lw k), bm_fo k (bm_tl k σ)) → ∃ (x : Int32) (τ τ' : bm_M), bm_ev X 116 0 [.ref 0, .int (nI s), .int p1, .int (nI d), .int p3, .int p4] [] σ = some (.int x, τ) ∧ bm_ev X 138 0 [.ref 45, .int (nI s), .int p1, .int (nI d), .int p3, .int p4, .null, .null] [] τ = some (.int x, τ') ∧ ab_R (T + 60) τ' := fun k hk e1 e2 => ⟨_, _, _, e1, e2, hR.tell (by omega) hk⟩
  have mt := fun k => ml (bm_tl k σ) (bm_up_ne _ _ _ (by decide)) (bm_up_ne _ _ _ (by decide))
  by_cases e1 : b = 0
  · rw [decide_eq_true e1, cond_true] at cl
    refine tlm 5 (by decide) cl ?_
    rw [mt 5, decide_eq_true e1, cond_true]
  by_cases e2 : b' = 0
  · rw [decide_eq_false e1, cond_false, decide_eq_true e2, cond_true] at cl
    refine tlm 5 (by decide) cl ?_
    rw [mt 5, decide_eq_false e1, cond_false, decide_eq_true e2, cond_true]
  by_cases e3 : b = b'
  case neg =>
    rw [decide_eq_false e1, cond_false, decide_eq_false e2, cond_false, decide_eq_false e3, cond_false] at cl
    refine tlm 2 (by decide) cl ?_
    rw [mt 2, decide_eq_false e1, cond_false, decide_eq_false e2, cond_false, decide_eq_false e3, cond_false]
  by_cases f1 : 0 ≤ p1.toInt ∧ 0 ≤ p4.toInt ∧ p1.toInt + p4.toInt ≤ z
  case neg =>
    rw [decide_eq_false e1, cond_false, decide_eq_false e2, cond_false, decide_eq_true e3, cond_true, decide_eq_false f1, cond_false] at cl
    refine tlm 0 (by decide) cl ?_
    rw [mt 0, decide_eq_false e1, cond_false, decide_eq_false e2, cond_false, decide_eq_true e3, cond_true, decide_eq_false f1, cond_false]
  by_cases f2 : 0 ≤ p3.toInt ∧ 0 ≤ p4.toInt ∧ p3.toInt + p4.toInt ≤ z'
  case neg =>
    rw [decide_eq_false e1, cond_false, decide_eq_false e2, cond_false, decide_eq_true e3, cond_true, decide_eq_true f1, cond_true, decide_eq_false f2, cond_false] at cl
    refine tlm 0 (by decide) cl ?_
    rw [mt 0, decide_eq_false e1, cond_false, decide_eq_false e2, cond_false, decide_eq_true e3, cond_true, decide_eq_true f1, cond_true, decide_eq_false f2, cond_false]
  rw [decide_eq_false e1, cond_false, decide_eq_false e2, cond_false, decide_eq_true e3, cond_true, decide_eq_true f1, cond_true, decide_eq_true f2, cond_true] at cl
  obtain ⟨f, ef, vf, lf⟩ := bn_sp f1.1
  obtain ⟨t, et, vt, lt⟩ := bn_sp f2.1
  obtain ⟨n, en, vn, ln⟩ := bn_sp f1.2.1
  have k1 : f + n ≤ 40 := by omega
  have k2 : t + n ≤ 40 := by omega
  subst ef et en
  have hac : bm_ac (nI f) (nI t) (nI n) 40 40 = true := by
    unfold bm_ac
    rw [bn_lt0 lf, bn_lt0 lt, bn_lt0 ln, bn_clamp lf, bn_clamp lt, bn_clamp ln, decide_eq_true k1, decide_eq_true k2]
    rfl
  rw [hac, bm_gd_t, bn_clamp lf, bn_clamp lt, bn_clamp ln] at cl
  have r4 : ∀ q, q ≠ 37 + d → bm_cp σ (37 + s) (37 + d) f t n q = σ q := fun q hq => if_neg hq
  have r37 : bm_cp σ (37 + s) (37 + d) f t n (37 + d) = va_cpy (σ (37 + s)) (σ (37 + d)) f t n := if_pos rfl
  generalize bm_cp σ (37 + s) (37 + d) f t n = τ at *
  obtain ⟨τ1, s1, s2, s3, s4⟩ := hm_cp1 X hs4 k1 (nI d) (nI t) (.int (nI 1)) n 0 τ (by omega)
  obtain ⟨ρ, w1, w2, w3, w4⟩ := hm_cp2 X hd4 k2 (.int (nI s)) (.int (nI f)) (.int (nI 1)) n 0 τ1 (by omega)
  refine ⟨nI n, τ, ρ, cl, ?_, ab_R.sheets h1 h2 h3 h5 (by omega) (fun q i hq => ?_) (fun x hx => ?_)⟩
  · rw [ml τ (r4 51 (by omega)) (r4 52 (by omega)), decide_eq_false e1, cond_false, decide_eq_false e2, cond_false, decide_eq_true e3, cond_true, decide_eq_true f1, cond_true, decide_eq_true f2, cond_true, s1, w1]
  · have hq' : ¬ ((37 ≤ q ∧ q ≤ 42) ∨ (51 ≤ q ∧ q ≤ 53)) := fun z => hq (Or.inr z)
    have hq2 : q ≠ 54 := fun z => hq (Or.inl (by unfold ab_J; omega))
    rw [w4 q (by omega), s4 q hq2, r4 q (by omega)]
  · obtain ⟨b1, z1, j1, j2, j3, j4, j5, j6, j7⟩ := h4 x hx
    have old : ∀ y, τ1 53 y = σ 53 y := fun y => by rw [s4 53 (by decide), r4 53 (by omega)]
    refine ⟨b1, z1, j1, j2, ?_, ?_, ?_, ?_, fun i hi => ?_⟩
    · rw [w4 42 (by decide), s4 42 (by decide), r4 42 (by omega)]; exact j3
    · rw [w4 51 (by decide), s4 51 (by decide), r4 51 (by omega)]; exact j4
    · rw [w4 41 (by decide), s4 41 (by decide), r4 41 (by omega)]; exact j5
    · rw [w4 52 (by decide), s4 52 (by decide), r4 52 (by omega)]; exact j6
    · rw [w4 (37 + x) (by omega), s4 (37 + x) (by omega)]
      by_cases ex : x = d
      · subst ex
        rw [r37]
        unfold va_cpy
        by_cases ei : t ≤ i ∧ i < t + n
        · rw [if_pos ei]
          have y1 := w2 (i - t) (by omega) (by omega)
          rw [show 40 * x + t + (i - t) = 40 * x + i by omega, s2 (i - t) (by omega) (by omega), r4 53 (by omega), show 40 * s + f + (i - t) = 40 * s + (f + (i - t)) by omega] at y1
          rw [y1]
          exact c5 _ (by omega)
        · rw [if_neg ei, w3 _ (by omega), old]
          exact j7 i hi
      · rw [r4 (37 + x) (by omega), w3 _ (by omega), old]
        exact j7 i hi
