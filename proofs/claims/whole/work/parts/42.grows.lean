theorem hm_allStayl (X : bm_X) {a b : ab_T} (hG : ab_G b) {n : Nat} (hn : n ≤ 1000) (hh : b 0 5 + n < 99999) : ∀ (i j : Nat) (σ : bm_M), j + i = n → ab_S 46 σ (ab_hs b j) → ab_S 48 σ a → ∃ τ, bm_ev X 179 4 [.ref 45, .int (nI n), .int (nI 1), .int (nI j)] [] σ = some (.int (bm_bi (ab_aw b i j)), τ) ∧ ab_S 46 τ a ∧ ab_K ab_JL σ τ
  | 0, j, σ, e, hS, hA => by
    have e2 : j = n := by omega
    subst e2
    obtain ⟨t, f1, f2, f3, f4⟩ := hm_laysBack X hA
    refine ⟨t, ?_, f2, ab_N.L f4⟩
    rw [bb_179_4, bn_lt (by omega) (by omega), decide_eq_false (by omega), cond_false, f1, bm_bV_some, bm_bo_1, bm_gd_t]
    rfl
  | i + 1, j, σ, e, hS, hA => by
    obtain ⟨t, e1, e2, e3, e4⟩ := hm_hour X hS (hG.hs j) (by rw [ab_hs_hour]; omega)
    have hA' : ab_S 48 t a := hA.fr (e3.1 48 (by decide) (by decide))
    rw [bb_179_4, bn_lt (by omega) (by omega), decide_eq_true (by omega), cond_true, decide_eq_false (by decide), cond_false, e1, bm_bV_some, e4, bm_cond_bi, bb_179_17, bb_179_17, bn_add]
    unfold ab_aw
    cases ab_wand (ab_hs b j)
    · rw [cond_false, cond_false]
      obtain ⟨τ, f1, f2, f3⟩ := hm_allStayl X hG hn hh i (j + 1) t (by omega) e2 hA'
      exact ⟨τ, f1, f2, e3.L.tr f3⟩
    · rw [cond_true, cond_true]
      obtain ⟨s, f1, f2, f3, f4⟩ := hm_laysBack X hA'
      refine ⟨s, ?_, f2, e3.L.tr (ab_N.L f4)⟩
      rw [bb_179_4]
      cases decide (nI (j + 1) < nI n)
      · rw [cond_false, f1, bm_bV_some, bm_bo_0, bm_gd_t]
        rfl
      · rw [cond_true, decide_eq_true (by decide), cond_true, f1, bm_bV_some, bm_bo_0, bm_gd_t]
        rfl
theorem op_growsFor (X : bm_X) (v : Int32) : ab_op X 170 193 [.ref 0, .int v, .null] [.ref 45, .int v, .null, .null] := by
  intro T σ hR hT
  obtain ⟨a, ka, kp, tl, h1, h2, h3, h4, h5⟩ := id hR
  obtain ⟨hH, hS, hG, hP, hh⟩ := id h1
  have i1 : ∀ (x : Int32) (σ : bm_M), bm_ev X 24 0 [.int x, .int (nI 40)] [] σ = some (.int (bm_bi (bm_rg x 0 40)), σ) := fun x σ => bs_upN X σ x (by decide)
  cases g2 : bm_rg v 0 40
  · refine ⟨bm_lw 0, bm_tl 0 σ, bm_fo 0 (bm_tl 0 σ), ?_, ?_, hR.tell (by omega) (by decide)⟩
    · rw [bb_170_0, i1, bm_bI_some, bm_cond_bi, g2, cond_false, bs_tell X _ (by decide), bm_bI_some]
    · rw [bb_193_0, bs_m90, bm_bI_some, bm_cond_bi, g2, cond_false, bs_finds X _ (by decide), bm_bI_some]
  obtain ⟨n, hn, -, rfl⟩ := bm_rg_ex (n := 40) g2
  have gj : ∀ j, j ≤ 20 → ab_G (ab_set a 0 3 j) := fun j hj => hG.set (show j ≤ 20 from hj)
  have s5 : ∀ j, ab_set a 0 3 j 0 5 = a 0 5 := fun j => ab_set_ni a _ (by decide)
  refine ab_two h1 h2 h3 h4 h5 (N := 20) (s := ab_sr (fun j => ab_aw (ab_set a 0 3 j) n 0) 21 0) ?_ ?_
  · rw [bb_170_0, i1, bm_bI_some, bm_cond_bi, g2, cond_true]
    exact hc_fst (σ0 := σ) (K := 20) (fun j => ab_aw (ab_set a 0 3 j) n 0) (fun j σ => bm_ev X 170 10 [.ref 0, .int (nI n), .int (nI j)] [] σ) (by
      intro j s hj hF
      obtain ⟨t, e1, e2, e3⟩ := hc_begin X (hF.H1 hH)
      have u3 : ab_H 12 (bm_up t 12 3 (nI j)) (ab_set a 0 3 j) := e2.up 0 3 j
      obtain ⟨τ, f1, f2⟩ := hc_allStayl X (gj j hj) (n := n) (by omega) (by rw [s5]; omega) (.int (nI j)) n 0 _ (by omega) u3
      refine ⟨τ, ?_, fun q hq => ?_⟩
      · show bm_ev X 170 10 _ _ _ = _
        rw [bb_170_10, bn_lt (by decide) (by omega), decide_eq_false (by omega), cond_false, bb_159_0, e1, bm_bV_some, f1, bm_bI_some, bm_cond_bi, bn_add]
      · rw [f2 q hq, bm_up_ne _ _ _ (by omega), e3 q hq, hF q hq]) (by
      intro s
      show bm_ev X 170 10 _ _ _ = _
      rw [bb_170_10, bn_lt (by decide) (by decide), decide_eq_true (by decide), cond_true, bs_tell X _ (by decide), bm_bI_some]) 21 0 σ (by omega) ab_F.rf
  · intro τ s2
    rw [bb_193_0, bs_m90, bm_bI_some, bm_cond_bi, g2, cond_true]
    exact hm_lst0 (a := a) (K := 20) (by decide) (fun j => ab_aw (ab_set a 0 3 j) n 0) (fun y j σ => bm_ev X 193 11 [.ref 45, .int (nI n), .int y, .int (nI j - nI 1)] [] σ) (by
      intro y j ρ hj hS
      obtain ⟨t, l1, l2, l3, l4⟩ := hm_lends X hS
      have u3 : ab_S 46 (bm_up t 46 3 (nI j)) (ab_set a 0 3 j) := l3.up (c := 0) (i := 3) j rfl
      have u4 : ab_S 48 (bm_up t 46 3 (nI j)) a := l2.ne _ _ (by decide)
      obtain ⟨ρ', q1, q2, q3⟩ := hm_allStayl X (gj j hj) (n := n) (by omega) (by rw [s5]; omega) n 0 _ (by omega) u3 u4
      refine ⟨ρ', ?_, q2, ((ab_48.L l4).up _ (Or.inl rfl)).tr q3⟩
      show bm_ev X 193 11 _ _ _ = bm_ev X 193 11 _ _ _
      rw [bn_pred, bb_193_11, bn_lt0 (by omega), cond_false, l1, bm_bV_some, bn_inT (by decide) (by decide), bm_gd_t, bn_clamp (by decide), bb_179_0, q1, bm_bI_some, bm_cond_bi, bb_193_27, bb_193_27]
      cases ab_aw (ab_set a 0 3 j) n 0 <;> rfl) (by
      intro y ρ
      show bm_ev X 193 11 _ _ _ = _
      rw [bb_193_11, decide_eq_true (by decide), cond_true, bs_finds X _ (by decide), bm_bI_some]) s2
