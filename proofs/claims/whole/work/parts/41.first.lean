/-! THE FEWEST WITH WHICH: swingsFor, growsFor -/
theorem ab_sr_ap (P : Nat → Bool) : ∀ j h, ab_sr P (j + 1) h = bif decide (ab_sr P j h < h + j) then ab_sr P j h else bif P (h + j) then h + j else h + j + 1
  | 0, h => by
    show (bif P h then h else h + 1) = bif decide (h < h + 0) then h else bif P (h + 0) then h + 0 else h + 0 + 1
    rw [decide_eq_false (by omega), cond_false]
    rfl
  | j + 1, h => by
    have ih := ab_sr_ap P j (h + 1)
    show (bif P h then h else ab_sr P (j + 1) (h + 1)) = bif decide ((bif P h then h else ab_sr P j (h + 1)) < h + (j + 1)) then (bif P h then h else ab_sr P j (h + 1)) else bif P (h + (j + 1)) then h + (j + 1) else h + (j + 1) + 1
    cases P h
    · rw [cond_false, cond_false, ih, show h + 1 + j = h + (j + 1) by omega]
    · rw [cond_true, cond_true, decide_eq_true (by omega), cond_true]
def ab_dw (P : Nat → Bool) : Nat → Int32 → Int32
  | 0, y => y
  | j + 1, y => ab_dw P j (bif P j then nI j else y)
theorem ab_dw_sr (P : Nat → Bool) : ∀ j y, ab_dw P j y = bif decide (ab_sr P j 0 < j) then nI (ab_sr P j 0) else y
  | 0, y => rfl
  | j + 1, y => by
    rw [ab_dw, ab_dw_sr P j, ab_sr_ap P j 0, Nat.zero_add]
    by_cases e : ab_sr P j 0 < j
    · rw [decide_eq_true e, cond_true, cond_true, decide_eq_true (by omega), cond_true]
    · rw [decide_eq_false e, cond_false, cond_false]
      cases P j
      · rw [cond_false, cond_false, decide_eq_false (by omega), cond_false]
      · rw [cond_true, cond_true, decide_eq_true (by omega), cond_true]
theorem hc_fst {σ0 : bm_M} {K : Nat} (P : Nat → Bool) (f : Nat → bm_M → bm_R) (hf : ∀ j σ, j ≤ K → ab_F 12 σ0 σ → ∃ τ, f j σ = (bif P j then some (.int (nI j), τ) else f (j + 1) τ) ∧ ab_F 12 σ0 τ) (hf1 : ∀ σ, f (K + 1) σ = some (.int (bm_lw 3), bm_tl 3 σ)) : ∀ (i j : Nat) (σ : bm_M), j + i = K + 1 → ab_F 12 σ0 σ → ∃ τ, f j σ = ab_rs K (ab_sr P i j) (bm_tl 3) τ ∧ ab_F 12 σ0 τ
  | 0, j, σ, e, hF => by
    have e2 : j = K + 1 := by omega
    subst e2
    refine ⟨σ, ?_, hF⟩
    rw [hf1]
    unfold ab_rs ab_sr
    rw [decide_eq_false (by omega), cond_false]
  | i + 1, j, σ, e, hF => by
    obtain ⟨t, e1, e2⟩ := hf j σ (by omega) hF
    rw [e1]
    unfold ab_sr
    cases P j
    · rw [cond_false, cond_false]
      exact hc_fst P f hf hf1 i (j + 1) t (by omega) e2
    · refine ⟨t, ?_, e2⟩
      rw [cond_true, cond_true]
      unfold ab_rs
      rw [decide_eq_true (by omega), cond_true]
theorem hm_lst {a : ab_T} {K : Nat} (P : Nat → Bool) (g : Int32 → Nat → bm_M → bm_R) (hg : ∀ y j σ, j ≤ K → ab_S 46 σ a → ∃ τ, g y (j + 1) σ = g (bif P j then nI j else y) j τ ∧ ab_S 46 τ a ∧ ab_K ab_JL σ τ) : ∀ (i : Nat) (y : Int32) (σ : bm_M), i ≤ K + 1 → ab_S 46 σ a → ∃ τ, g y i σ = g (ab_dw P i y) 0 τ ∧ ab_S 46 τ a ∧ ab_K ab_JL σ τ
  | 0, y, σ, e, hS => ⟨σ, rfl, hS, ab_K.rf⟩
  | i + 1, y, σ, e, hS => by
    obtain ⟨t, e1, e2, e3⟩ := hg y i σ (by omega) hS
    obtain ⟨τ, f1, f2, f3⟩ := hm_lst P g hg i (bif P i then nI i else y) t (by omega) e2
    exact ⟨τ, by rw [e1, f1]; rfl, f2, e3.tr f3⟩
theorem hm_lst0 {a : ab_T} {K : Nat} (hK : K < 10000) (P : Nat → Bool) (g : Int32 → Nat → bm_M → bm_R) (hg : ∀ y j σ, j ≤ K → ab_S 46 σ a → ∃ τ, g y (j + 1) σ = g (bif P j then nI j else y) j τ ∧ ab_S 46 τ a ∧ ab_K ab_JL σ τ) (hg1 : ∀ y σ, g y 0 σ = bif decide (y < 0) then some (.int (bm_lw 3), bm_fo 3 σ) else some (.int y, σ)) {σ : bm_M} (hS : ab_S 46 σ a) : ∃ τ, g (-nI 1) (K + 1) σ = ab_rs K (ab_sr P (K + 1) 0) (bm_fo 3) τ ∧ ab_S 46 τ a ∧ ab_K ab_JM σ τ := by
  obtain ⟨τ, f1, f2, f3⟩ := hm_lst P g hg (K + 1) (-nI 1) σ (by omega) hS
  refine ⟨τ, ?_, f2, f3.LM⟩
  rw [f1, hg1, ab_dw_sr]
  unfold ab_rs
  by_cases e : ab_sr P (K + 1) 0 < K + 1
  · rw [decide_eq_true e, cond_true, bn_lt0 (by omega), cond_false, decide_eq_true (by omega), cond_true]
  · rw [decide_eq_false e, cond_false, decide_eq_true (by decide), cond_true, decide_eq_false (by omega), cond_false]
/-- both ways end alike -/
theorem ab_two {X : bm_X} {T : Nat} {σ : bm_M} {a ka : ab_T} {kp : Bool} {tl : Nat} (h1 : ab_CH a T σ) (h2 : ab_CK ka kp T σ) (h3 : ab_CT tl σ) (h4 : ab_CS σ) (h5 : ab_CF σ) {N s c m : Nat} {Lc Lm : List Value} (hc : ∃ τ, bm_ev X c 0 Lc [] σ = ab_rs N s (bm_tl 3) τ ∧ ab_F 12 σ τ) (hm : ∀ τ, ab_S 46 τ a → ∃ ρ, bm_ev X m 0 Lm [] τ = ab_rs N s (bm_fo 3) ρ ∧ ab_S 46 ρ a ∧ ab_K ab_JM τ ρ) : ∃ (x : Int32) (τ τ' : bm_M), bm_ev X c 0 Lc [] σ = some (.int x, τ) ∧ bm_ev X m 0 Lm [] τ = some (.int x, τ') ∧ ab_R (T + 60) τ' := by
  obtain ⟨hH, hS, hG, hP, hh⟩ := id h1
  obtain ⟨τ, r1, r2⟩ := hc
  have s2 : ab_S 46 τ a := hS.fr (r2 46 (by decide))
  unfold ab_rs at r1
  by_cases e : s ≤ N
  · obtain ⟨ρ, m1, m2, m3⟩ := hm τ s2
    unfold ab_rs at m1
    rw [decide_eq_true e, cond_true] at r1 m1
    exact ⟨_, τ, ρ, r1, m1, ab_fin0 h1 h2 h3 h4 h5 (by omega) r2.J m3 m2⟩
  · obtain ⟨ρ, m1, m2, m3⟩ := hm (bm_tl 3 τ) (s2.ne _ _ (by decide))
    unfold ab_rs at m1
    rw [decide_eq_false e, cond_false] at r1 m1
    exact ⟨_, bm_tl 3 τ, bm_fo 3 ρ, r1, m1, ab_finK h1 h2 h3 h4 h5 (by omega) (by decide) r2.J m3 m2⟩
theorem bn_pred (j : Nat) : nI (j + 1) - nI 1 = nI j := by rw [bn_sub (by omega)]; rfl
theorem op_swingsFor (X : bm_X) (p w v : Int32) : ab_op X 169 202 [.ref 0, .int p, .int w, .int v, .null] [.ref 45, .int p, .int w, .int v, .null, .null] := by
  intro T σ hR hT
  obtain ⟨a, ka, kp, tl, h1, h2, h3, h4, h5⟩ := id hR
  obtain ⟨hH, hS, hG, hP, hh⟩ := id h1
  have e7 : σ 1 7 = nI (a 0 7) := hH 0 7 rfl
  have e7m : σ 46 2 = nI (a 0 7) := hS 0 7 rfl
  have hc := hG.2.2.1
  have i1 : ∀ (x : Int32) (σ : bm_M), bm_ev X 24 0 [.int x, .int (nI 40)] [] σ = some (.int (bm_bi (bm_rg x 0 40)), σ) := fun x σ => bs_upN X σ x (by decide)
  have i2 : ∀ (x : Int32) (σ : bm_M), bm_ev X 24 0 [.int x, .int (nI 9999)] [] σ = some (.int (bm_bi (bm_rg x 0 9999)), σ) := fun x σ => bs_upN X σ x (by decide)
  have m2 : ∀ (x : Int32) (σ : bm_M), bm_ev X 32 0 [.long x.toInt64, .null, .long (lN 0), .null, .long (lN 9999), .null] [] σ = some (.int (bm_bi (bm_rg x 0 9999)), σ) := fun x σ => bs_inI X σ x (by decide) (by decide)
  cases g1 : bm_rg p 0 ((a 0 7 : Int) - 1)
  · refine ⟨bm_lw 0, bm_tl 0 σ, bm_fo 0 (bm_tl 0 σ), ?_, ?_, hR.tell (by omega) (by decide)⟩
    · rw [bb_169_0, bs_isCow X e7 hc, bm_bI_some, bm_cond_bi, g1, cond_false, bs_tell X _ (by decide), bm_bI_some]
    · rw [bb_202_0, bs_isCowM X (σ := bm_tl 0 σ) e7m hc, bm_bI_some, bm_cond_bi, g1, cond_false, bs_finds X _ (by decide), bm_bI_some]
  cases g3 : bm_rg w 0 9999
  · refine ⟨bm_lw 0, bm_tl 0 σ, bm_fo 0 (bm_tl 0 σ), ?_, ?_, hR.tell (by omega) (by decide)⟩
    · rw [bb_169_0, bs_isCow X e7 hc, bm_bI_some, bm_cond_bi, g1, cond_true, i2, bm_bI_some, bm_cond_bi, g3, cond_false, bs_tell X _ (by decide), bm_bI_some]
    · rw [bb_202_0, bs_isCowM X (σ := bm_tl 0 σ) e7m hc, bm_bI_some, bm_cond_bi, g1, cond_true, m2, bm_bI_some, bm_cond_bi, g3, cond_false, bs_finds X _ (by decide), bm_bI_some]
  cases g2 : bm_rg v 0 40
  · refine ⟨bm_lw 0, bm_tl 0 σ, bm_fo 0 (bm_tl 0 σ), ?_, ?_, hR.tell (by omega) (by decide)⟩
    · rw [bb_169_0, bs_isCow X e7 hc, bm_bI_some, bm_cond_bi, g1, cond_true, i2, bm_bI_some, bm_cond_bi, g3, cond_true, i1, bm_bI_some, bm_cond_bi, g2, cond_false, bs_tell X _ (by decide), bm_bI_some]
    · rw [bb_202_0, bs_isCowM X (σ := bm_tl 0 σ) e7m hc, bm_bI_some, bm_cond_bi, g1, cond_true, m2, bm_bI_some, bm_cond_bi, g3, cond_true, bs_m90, bm_bI_some, bm_cond_bi, g2, cond_false, bs_finds X _ (by decide), bm_bI_some]
  obtain ⟨k, hk, -, rfl⟩ := bm_rgc_ex g1
  obtain ⟨n, hn, -, rfl⟩ := bm_rg_ex (n := 40) g2
  obtain ⟨x, hx, -, rfl⟩ := bm_rg_ex (n := 9999) g3
  have hk8 : k < 8 := by omega
  have b6 := (hG.2.2.2.2.2 k hk8).2.2.1
  have gj : ∀ j, j ≤ 9 → ab_G (ab_set a (3 + 4) k j) := fun j hj => ab_setG hG (w := 3) (by decide) hj
  have hb : ∀ j, j ≤ 9 → ab_hs (ab_set a (3 + 4) k j) n 2 (a 6 k) ≤ 99999 := fun j hj => ((gj j hj).hs n).2.2.2.2.1 _ (by omega)
  have s6 : ∀ j, ab_set a (3 + 4) k j 6 k = a 6 k := fun j => ab_set_nc a _ (by decide)
  refine ab_two h1 h2 h3 h4 h5 (N := 9) (s := ab_sr (fun j => !decide (ab_hs (ab_set a (3 + 4) k j) n 2 (a 6 k) < x)) 10 0) ?_ ?_
  · rw [bb_169_0, bs_isCow X e7 hc, bm_bI_some, bm_cond_bi, g1, cond_true, i2, bm_bI_some, bm_cond_bi, g3, cond_true, i1, bm_bI_some, bm_cond_bi, g2, cond_true]
    exact hc_fst (σ0 := σ) (K := 9) (fun j => !decide (ab_hs (ab_set a (3 + 4) k j) n 2 (a 6 k) < x)) (fun j σ => bm_ev X 169 18 [.ref 0, .int (nI k), .int (nI x), .int (nI n), .int (nI j)] [] σ) (by
      intro j s hj hF
      obtain ⟨t0, τ, e1, e2, e3, e4, e5⟩ := hc_try X hH hF (c := 3 + 4) (i := k) (v := j) (n := n) (gj j hj) (by omega) (by rw [ab_set5]; omega) (by omega)
      refine ⟨τ, ?_, e5⟩
      have e6 : τ 18 k = nI (a 6 k) := by
        have := e4 6 k (ab_w8 (by decide) (by decide) hk8)
        rw [ab_hs_ne _ 6 k (by omega), s6] at this
        exact this
      have e14 : τ 14 (a 6 k) = nI (ab_hs (ab_set a (3 + 4) k j) n 2 (a 6 k)) := e4 2 _ (ab_w2 (by omega))
      have e3' : bm_ev X 153 0 [.ref 12, .int (nI n), .null] [] (bm_up t0 19 k (nI j)) = some (.null, τ) := e3
      have bj := hb j hj
      show bm_ev X 169 18 _ _ _ = _
      rw [bb_169_18, bn_lt (by decide) (by omega), decide_eq_false (by omega), cond_false, e1, bm_bV_some, bn_inT hk8 (by decide), bm_gd_t, bn_clamp (show k < 2147483648 by omega), e3', bm_bV_some, bm_gd_t, e6, bn_inT (by omega) (by decide), bm_gd_t, bn_clamp (by omega), e14, bn_lt (by omega) (by omega), bn_add]
      cases decide (ab_hs (ab_set a (3 + 4) k j) n 2 (a 6 k) < x) <;> rfl) (by
      intro s
      show bm_ev X 169 18 _ _ _ = _
      rw [bb_169_18, bn_lt (by decide) (by decide), decide_eq_true (by decide), cond_true, bs_tell X _ (by decide), bm_bI_some]) 10 0 σ (by omega) ab_F.rf
  · intro τ s2
    have e8 : τ 46 2 = nI (a 0 7) := s2 0 7 rfl
    rw [bb_202_0, bs_isCowM X e8 hc, bm_bI_some, bm_cond_bi, g1, cond_true, m2, bm_bI_some, bm_cond_bi, g3, cond_true, bs_m90, bm_bI_some, bm_cond_bi, g2, cond_true]
    exact hm_lst0 (a := a) (K := 9) (by decide) (fun j => !decide (ab_hs (ab_set a (3 + 4) k j) n 2 (a 6 k) < x)) (fun y j σ => bm_ev X 202 21 [.ref 45, .int (nI k), .int (nI x), .int (nI n), .int y, .int (nI j - nI 1)] [] σ) (by
      intro y j ρ hj hS
      obtain ⟨t0, s, l1, l2, l3, l4, l5⟩ := hm_try X hS (k := k) (w := 3) j (by decide) hk8
      have it2 := hm_it2 X l3 (gj j hj) hk8
      rw [s6] at it2
      obtain ⟨ρ', q1, q2, q3, q4⟩ := hm_seen X l3 l4 (gj j hj) (n := n) (c := 2) (i := a 6 k) (by omega) (by rw [ab_set5]; omega) (ab_w2 (by omega))
      have q1 : bm_ev X 191 0 [.ref 45, .int (nI (17 + a 6 k)), .int (nI n), .null] [] s = some (.int (nI (ab_hs (ab_set a (3 + 4) k j) n 2 (a 6 k))), ρ') := q1
      refine ⟨ρ', ?_, q2, l5.tr q4⟩
      have bj := hb j hj
      show bm_ev X 202 21 _ _ _ = bm_ev X 202 21 _ _ _
      rw [bn_pred, bb_202_21, bn_lt0 (by omega), cond_false, l1, bm_bV_some, l2, bm_bV_some, it2, bm_bI_some, bn_add, q1, bm_bI_some, bn_lt (by omega) (by omega), bb_202_44, bb_202_44]
      cases decide (ab_hs (ab_set a (3 + 4) k j) n 2 (a 6 k) < x) <;> rfl) (by
      intro y ρ
      show bm_ev X 202 21 _ _ _ = _
      rw [bb_202_21, decide_eq_true (by decide), cond_true, bs_finds X _ (by decide), bm_bI_some]) s2
/-! growsFor -/
/-- none goes to another for want of grass, in hours j to j + i -/
def ab_aw (a : ab_T) : Nat → Nat → Bool
  | 0, _ => true
  | i + 1, j => bif ab_wand (ab_hs a j) then false else ab_aw a i (j + 1)
theorem hc_allStayl (X : bm_X) {b : ab_T} (hG : ab_G b) {n : Nat} (hn : n ≤ 1000) (hh : b 0 5 + n < 99999) (u : Value) : ∀ (i j : Nat) (σ : bm_M), j + i = n → ab_H 12 σ (ab_hs b j) → ∃ τ, bm_ev X 159 8 [.ref 0, u, .int (nI n), .int (nI j)] [] σ = some (.int (bm_bi (ab_aw b i j)), τ) ∧ ab_F 12 σ τ
  | 0, j, σ, e, hH => by
    have e2 : j = n := by omega
    subst e2
    refine ⟨σ, ?_, ab_F.rf⟩
    rw [bb_159_8, bn_lt (by omega) (by omega), decide_eq_false (by omega), cond_false, bm_bo_1]
    rfl
  | i + 1, j, σ, e, hH => by
    obtain ⟨t, e1, e2, e3⟩ := hc_hour X (Or.inr (Or.inl rfl)) hH (hG.hs j) (by rw [ab_hs_hour]; omega)
    rw [bb_159_8, bn_lt (by omega) (by omega), decide_eq_true (by omega), cond_true, e1, bm_bI_some, bm_cond_bi]
    unfold ab_aw
    cases ab_wand (ab_hs b j)
    · rw [cond_false, cond_false, bn_add]
      obtain ⟨τ, f1, f2⟩ := hc_allStayl X hG hn hh u i (j + 1) t (by omega) e2
      exact ⟨τ, f1, e3.tr f2⟩
    · rw [cond_true, cond_true, bm_bo_0]
      exact ⟨t, rfl, e3⟩
