def ab_vm (a : ab_T) (w k n j : Nat) : Nat := ab_sum (ab_hs (ab_set a (w + 4) k j) n 2) 12 % 2147483648
theorem ab_vm_lt (a : ab_T) (w k n j : Nat) : ab_vm a w k n j < 2147483648 := Nat.mod_lt _ (by decide)
theorem ab_setG {a : ab_T} (hG : ab_G a) {w k j : Nat} (hw : w ≤ 6) (hj : j ≤ ab_mo w) : ab_G (ab_set a (w + 4) k j) := by
  rw [Nat.add_comm]
  exact hG.set (ab_mo_ok hw k hj)
theorem ab_set5 (a : ab_T) (w k j : Nat) : ab_set a (w + 4) k j 0 5 = a 0 5 := by
  unfold ab_set
  rw [if_neg (by omega)]
theorem ab_u171 (X : bm_X) (σ : bm_M) (x1 x2 x3 x4 x5 x6 : Int32) (u : Value) : bm_ev X 171 6 [.ref 0, .int x1, .int x2, .int x3, .int x4, .int x5, .int x6, u] [] σ = bm_ev X 171 6 [.ref 0, .int x1, .int x2, .int x3, .int x4, .int x5, .int x6, .null] [] σ := by
  rw [bb_171_6, bb_171_6]
theorem hc_171 (X : bm_X) {σ : bm_M} {a : ab_T} (hH : ab_H 1 σ a) (hG : ab_G a) {w k n : Nat} (hw : w ≤ 6) (hk : k < 8) (hn : n ≤ 1000) (hh : a 0 5 + n ≤ 99999) : ∃ τ, bm_ev X 171 0 [.ref 0, .int (nI k), .int (nI w), .int (nI n), .null, .null, .null, .null] [] σ = some (.int (nI (ab_bm (ab_vm a w k n) (ab_mo w)).1), τ) ∧ ab_F 12 σ τ := by
  rw [bb_171_0]
  have mo := ab_mo_lt w
  have rl : bm_rl X 58 = 7 := rfl
  exact hc_most0 (ab_vm_lt a w k n) (fun x y j σ => bm_ev X 171 6 [.ref 0, .int (nI k), .int (nI w), .int (nI n), .int x, .int y, .int (nI j), .null] [] σ) (by
    intro x y j s hj hF
    have g := ab_setG hG (k := k) hw hj
    obtain ⟨t, τ, e1, e2, e3, e4, e5⟩ := hc_try X hH hF (c := w + 4) (i := k) (v := j) (n := n) g hn (by rw [ab_set5]; exact hh) (by omega)
    refine ⟨τ, ?_, e5⟩
    have e6 : nI (ab_vm a w k n j) = nI (ab_sum (ab_hs (ab_set a (w + 4) k j) n 2) 12) := by
      unfold ab_vm
      rw [Nat.mod_eq_of_lt (ab_sum12 (g.hs n))]
    rw [show 12 + (w + 4) = 12 + 4 + w by omega] at e3
    show bm_ev X 171 6 _ _ _ = _
    rw [bb_171_6, rl, bn_inT (by omega) (by decide), bm_gd_t, bn_clamp (by omega), ab_rv58 X hw, bn_lt (by omega) (by omega), decide_eq_false (by omega), cond_false, e1, bm_bV_some, hc_trait X t (Or.inr (Or.inl rfl)) hw, bm_bA_some, ab_al8 (Or.inr (Or.inl rfl)) hw, bn_inT hk (by decide), bm_gd_t, bn_clamp (by omega), e3, bm_bV_some, hc_milk X (Or.inr (Or.inl rfl)) e4 (g.hs n) (k := 0), bm_bI_some, ← e6, ab_u171 X τ (nI k) (nI w) (nI n) (nI j), ab_u171 X τ (nI k) (nI w) (nI n) x, bn_add]) (by
    intro x y s
    show bm_ev X 171 6 _ _ _ = _
    rw [bb_171_6, rl, bn_inT (by omega) (by decide), bm_gd_t, bn_clamp (by omega), ab_rv58 X hw, bn_lt (by omega) (by omega), decide_eq_true (by omega), cond_true])
/-- what the reference does for one try, where all pails count -/
theorem hm_trym (X : bm_X) {σ : bm_M} {a : ab_T} (hS : ab_S 46 σ a) (hG : ab_G a) {w k n j : Nat} (hw : w ≤ 6) (hk : k < 8) (hj : j ≤ ab_mo w) (hn : n ≤ 1000) (hh : a 0 5 + n ≤ 99999) : ∃ t s τ, bm_ev X 70 0 [.ref 45] [] σ = some (.null, t) ∧ bm_ev X 35 0 [.ref 45, .int (nI k), .int (nI w), .int (nI j)] [] t = some (.null, s) ∧ bm_ev X 192 0 [.ref 45, .int (nI n), .null] [] s = some (.int (nI (ab_vm a w k n j)), τ) ∧ ab_S 46 τ a ∧ ab_K ab_JL σ τ := by
  have g := ab_setG hG (k := k) hw hj
  obtain ⟨t, s, l1, l2, l3, l4, l5⟩ := hm_try X hS (k := k) (w := w) j (by omega) hk
  obtain ⟨τ, m1, m2, m3, m4⟩ := hm_pailsIn X l3 l4 g hn (by rw [ab_set5]; exact hh)
  refine ⟨t, s, τ, l1, l2, ?_, m2, l5.tr m4⟩
  rw [m1]
  unfold ab_vm
  rw [Nat.mod_eq_of_lt (ab_sum12 (g.hs n))]
theorem op_graze (X : bm_X) (p v : Int32) : ab_op X 184 199 [.ref 0, .int p, .int v] [.ref 45, .int p, .int v, .null] := by
  intro T σ hR hT
  obtain ⟨a, ka, kp, tl, h1, h2, h3, h4, h5⟩ := id hR
  obtain ⟨hH, hS, hG, hP, hh⟩ := id h1
  have e7 : σ 1 7 = nI (a 0 7) := hH 0 7 rfl
  have e7m : σ 46 2 = nI (a 0 7) := hS 0 7 rfl
  have hc := hG.2.2.1
  have i1 : ∀ (x : Int32) (σ : bm_M), bm_ev X 24 0 [.int x, .int (nI 40)] [] σ = some (.int (bm_bi (bm_rg x 0 40)), σ) := fun x σ => bs_upN X σ x (by decide)
  cases g1 : bm_rg p 0 ((a 0 7 : Int) - 1)
  · refine ⟨bm_lw 0, bm_tl 0 σ, bm_fo 0 (bm_tl 0 σ), ?_, ?_, hR.tell (by omega) (by decide)⟩
    · rw [bb_184_0, bs_isCow X e7 hc, bm_bI_some, bm_cond_bi, g1, cond_false, bs_tell X _ (by decide), bm_bI_some]
    · rw [bb_199_0, bs_isCowM X (σ := bm_tl 0 σ) e7m hc, bm_bI_some, bm_cond_bi, g1, cond_false, bs_finds X _ (by decide), bm_bI_some]
  cases g2 : bm_rg v 0 40
  · refine ⟨bm_lw 0, bm_tl 0 σ, bm_fo 0 (bm_tl 0 σ), ?_, ?_, hR.tell (by omega) (by decide)⟩
    · rw [bb_184_0, bs_isCow X e7 hc, bm_bI_some, bm_cond_bi, g1, cond_true, i1, bm_bI_some, bm_cond_bi, g2, cond_false, bs_tell X _ (by decide), bm_bI_some]
    · rw [bb_199_0, bs_isCowM X (σ := bm_tl 0 σ) e7m hc, bm_bI_some, bm_cond_bi, g1, cond_true, bs_m90, bm_bI_some, bm_cond_bi, g2, cond_false, bs_finds X _ (by decide), bm_bI_some]
  obtain ⟨k, hk, -, rfl⟩ := bm_rgc_ex g1
  obtain ⟨n, hn, -, rfl⟩ := bm_rg_ex (n := 40) g2
  have hk8 : k < 8 := by omega
  obtain ⟨τ, r1, r2⟩ := hc_171 X hH hG (w := 1) (n := n) (by decide) hk8 (by omega) (by omega)
  have s2 : ab_S 46 τ a := hS.fr (r2 46 (by decide))
  obtain ⟨τ', m1, m2, m3⟩ := hm_most0 X (ab_vm_lt a 1 k n) (K := 11) (fun j σ => bm_ev X 199 15 [.ref 45, .int (nI k), .int (nI n), .int (nI j)] [] σ) (by
    intro j ρ hj hS
    obtain ⟨t, s, ρ', l1, l2, l3, l4, l5⟩ := hm_trym X hS hG (w := 1) (k := k) (n := n) (j := j) (by decide) hk8 hj (by omega) (by omega)
    refine ⟨ρ', ?_, l4, l5⟩
    show bm_ev X 199 15 _ _ _ = _
    rw [bb_199_15, bn_lt (by omega) (by decide), decide_eq_true (by omega), cond_true, l1, bm_bV_some, l2, bm_bV_some, l3, bm_bI_some, bn_add]) (by
    intro ρ
    show bm_ev X 199 15 _ _ _ = _
    rw [bb_199_15, bn_lt (by decide) (by decide), decide_eq_false (by decide), cond_false]) s2
  have e8 : τ 46 2 = nI (a 0 7) := s2 0 7 rfl
  refine ⟨nI (ab_bm (ab_vm a 1 k n) 11).1, τ, τ', ?_, ?_, ab_fin0 h1 h2 h3 h4 h5 (by omega) r2.J m3 m2⟩
  · rw [bb_184_0, bs_isCow X e7 hc, bm_bI_some, bm_cond_bi, g1, cond_true, i1, bm_bI_some, bm_cond_bi, g2, cond_true, r1, bm_bI_some]
    rfl
  · rw [bb_199_0, bs_isCowM X e8 hc, bm_bI_some, bm_cond_bi, g1, cond_true, bs_m90, bm_bI_some, bm_cond_bi, g2, cond_true]
    exact m1
theorem op_kindFor (X : bm_X) (p v : Int32) : ab_op X 185 201 [.ref 0, .int p, .int v] [.ref 45, .int p, .int v, .null] := by
  intro T σ hR hT
  obtain ⟨a, ka, kp, tl, h1, h2, h3, h4, h5⟩ := id hR
  obtain ⟨hH, hS, hG, hP, hh⟩ := id h1
  have e7 : σ 1 7 = nI (a 0 7) := hH 0 7 rfl
  have e7m : σ 46 2 = nI (a 0 7) := hS 0 7 rfl
  have hc := hG.2.2.1
  have i1 : ∀ (x : Int32) (σ : bm_M), bm_ev X 24 0 [.int x, .int (nI 40)] [] σ = some (.int (bm_bi (bm_rg x 0 40)), σ) := fun x σ => bs_upN X σ x (by decide)
  cases g1 : bm_rg p 0 ((a 0 7 : Int) - 1)
  · refine ⟨bm_lw 0, bm_tl 0 σ, bm_fo 0 (bm_tl 0 σ), ?_, ?_, hR.tell (by omega) (by decide)⟩
    · rw [bb_185_0, bs_isCow X e7 hc, bm_bI_some, bm_cond_bi, g1, cond_false, bs_tell X _ (by decide), bm_bI_some]
    · rw [bb_201_0, bs_isCowM X (σ := bm_tl 0 σ) e7m hc, bm_bI_some, bm_cond_bi, g1, cond_false, bs_finds X _ (by decide), bm_bI_some]
  cases g2 : bm_rg v 0 40
  · refine ⟨bm_lw 0, bm_tl 0 σ, bm_fo 0 (bm_tl 0 σ), ?_, ?_, hR.tell (by omega) (by decide)⟩
    · rw [bb_185_0, bs_isCow X e7 hc, bm_bI_some, bm_cond_bi, g1, cond_true, i1, bm_bI_some, bm_cond_bi, g2, cond_false, bs_tell X _ (by decide), bm_bI_some]
    · rw [bb_201_0, bs_isCowM X (σ := bm_tl 0 σ) e7m hc, bm_bI_some, bm_cond_bi, g1, cond_true, bs_m90, bm_bI_some, bm_cond_bi, g2, cond_false, bs_finds X _ (by decide), bm_bI_some]
  obtain ⟨k, hk, -, rfl⟩ := bm_rgc_ex g1
  obtain ⟨n, hn, -, rfl⟩ := bm_rg_ex (n := 40) g2
  have hk8 : k < 8 := by omega
  obtain ⟨τ, r1, r2⟩ := hc_171 X hH hG (w := 0) (n := n) (by decide) hk8 (by omega) (by omega)
  have s2 : ab_S 46 τ a := hS.fr (r2 46 (by decide))
  obtain ⟨τ', m1, m2, m3⟩ := hm_most0 X (ab_vm_lt a 0 k n) (K := 6) (fun j σ => bm_ev X 201 15 [.ref 45, .int (nI k), .int (nI n), .int (nI j)] [] σ) (by
    intro j ρ hj hS
    obtain ⟨t, s, ρ', l1, l2, l3, l4, l5⟩ := hm_trym X hS hG (w := 0) (k := k) (n := n) (j := j) (by decide) hk8 hj (by omega) (by omega)
    refine ⟨ρ', ?_, l4, l5⟩
    show bm_ev X 201 15 _ _ _ = _
    rw [bb_201_15, bn_lt (by decide) (by omega), decide_eq_false (by omega), cond_false, l1, bm_bV_some, l2, bm_bV_some, l3, bm_bI_some, bn_add]) (by
    intro ρ
    show bm_ev X 201 15 _ _ _ = _
    rw [bb_201_15, bn_lt (by decide) (by decide), decide_eq_true (by decide), cond_true]) s2
  have e8 : τ 46 2 = nI (a 0 7) := s2 0 7 rfl
  refine ⟨nI (ab_bm (ab_vm a 0 k n) 6).1, τ, τ', ?_, ?_, ab_fin0 h1 h2 h3 h4 h5 (by omega) r2.J m3 m2⟩
  · rw [bb_185_0, bs_isCow X e7 hc, bm_bI_some, bm_cond_bi, g1, cond_true, i1, bm_bI_some, bm_cond_bi, g2, cond_true, r1, bm_bI_some]
    rfl
  · rw [bb_201_0, bs_isCowM X e8 hc, bm_bI_some, bm_cond_bi, g1, cond_true, bs_m90, bm_bI_some, bm_cond_bi, g2, cond_true]
    exact m1
def ab_vt (a : ab_T) (k t n j : Nat) : Nat := ab_hs (ab_set a (2 + 4) k j) n 2 t % 2147483648
theorem ab_vt_lt (a : ab_T) (k t n j : Nat) : ab_vt a k t n j < 2147483648 := Nat.mod_lt _ (by decide)
theorem op_toneFor (X : bm_X) (p w v : Int32) : ab_op X 168 200 [.ref 0, .int p, .int w, .int v, .null, .null, .null] [.ref 45, .int p, .int w, .int v, .null] := by
  intro T σ hR hT
  obtain ⟨a, ka, kp, tl, h1, h2, h3, h4, h5⟩ := id hR
  obtain ⟨hH, hS, hG, hP, hh⟩ := id h1
  have e7 : σ 1 7 = nI (a 0 7) := hH 0 7 rfl
  have e7m : σ 46 2 = nI (a 0 7) := hS 0 7 rfl
  have hc := hG.2.2.1
  have i1 : ∀ (x : Int32) (σ : bm_M), bm_ev X 24 0 [.int x, .int (nI 40)] [] σ = some (.int (bm_bi (bm_rg x 0 40)), σ) := fun x σ => bs_upN X σ x (by decide)
  cases g1 : bm_rg p 0 ((a 0 7 : Int) - 1)
  · refine ⟨bm_lw 0, bm_tl 0 σ, bm_fo 0 (bm_tl 0 σ), ?_, ?_, hR.tell (by omega) (by decide)⟩
    · rw [bb_168_0, bs_isCow X e7 hc, bm_bI_some, bm_cond_bi, g1, cond_false, bs_tell X _ (by decide), bm_bI_some]
    · rw [bb_200_0, bs_isCowM X (σ := bm_tl 0 σ) e7m hc, bm_bI_some, bm_cond_bi, g1, cond_false, bs_finds X _ (by decide), bm_bI_some]
  cases g3 : bm_rg w 0 11
  · refine ⟨bm_lw 0, bm_tl 0 σ, bm_fo 0 (bm_tl 0 σ), ?_, ?_, hR.tell (by omega) (by decide)⟩
    · rw [bb_168_0, bs_isCow X e7 hc, bm_bI_some, bm_cond_bi, g1, cond_true, bs_c66, bm_bI_some, bm_cond_bi, g3, cond_false, bs_tell X _ (by decide), bm_bI_some]
    · rw [bb_200_0, bs_isCowM X (σ := bm_tl 0 σ) e7m hc, bm_bI_some, bm_cond_bi, g1, cond_true, bs_m73, bm_bI_some, bm_cond_bi, g3, cond_false, bs_finds X _ (by decide), bm_bI_some]
  cases g2 : bm_rg v 0 40
  · refine ⟨bm_lw 0, bm_tl 0 σ, bm_fo 0 (bm_tl 0 σ), ?_, ?_, hR.tell (by omega) (by decide)⟩
    · rw [bb_168_0, bs_isCow X e7 hc, bm_bI_some, bm_cond_bi, g1, cond_true, bs_c66, bm_bI_some, bm_cond_bi, g3, cond_true, i1, bm_bI_some, bm_cond_bi, g2, cond_false, bs_tell X _ (by decide), bm_bI_some]
    · rw [bb_200_0, bs_isCowM X (σ := bm_tl 0 σ) e7m hc, bm_bI_some, bm_cond_bi, g1, cond_true, bs_m73, bm_bI_some, bm_cond_bi, g3, cond_true, bs_m90, bm_bI_some, bm_cond_bi, g2, cond_false, bs_finds X _ (by decide), bm_bI_some]
  obtain ⟨k, hk, -, rfl⟩ := bm_rgc_ex g1
  obtain ⟨n, hn, -, rfl⟩ := bm_rg_ex (n := 40) g2
  obtain ⟨t, ht, -, rfl⟩ := bm_rg_ex (n := 11) g3
  have hk8 : k < 8 := by omega
  have vj : ∀ j, j ≤ 11 → ab_vt a k t n j = ab_hs (ab_set a (2 + 4) k j) n 2 t := by
    intro j hj
    have := ((ab_setG hG (w := 2) (k := k) (by decide) hj).hs n).2.2.2.2.1 t (by omega)
    unfold ab_vt
    rw [Nat.mod_eq_of_lt (by omega)]
  obtain ⟨τ, r1, r2⟩ := hc_most0 (σ0 := σ) (ab_vt_lt a k t n) (K := 11) (fun x y j σ => bm_ev X 168 21 [.ref 0, .int (nI k), .int (nI t), .int (nI n), .int x, .int y, .int (nI j)] [] σ) (by
    intro x y j s hj hF
    have g := ab_setG hG (w := 2) (k := k) (by decide) hj
    obtain ⟨t0, τ, e1, e2, e3, e4, e5⟩ := hc_try X hH hF (c := 2 + 4) (i := k) (v := j) (n := n) g (by omega) (by rw [ab_set5]; omega) (by omega)
    refine ⟨τ, ?_, e5⟩
    have e6 : τ 14 t = nI (ab_hs (ab_set a (2 + 4) k j) n 2 t) := e4 2 t (ab_w2 (by omega))
    have e3' : bm_ev X 153 0 [.ref 12, .int (nI n), .null] [] (bm_up t0 18 k (nI j)) = some (.null, τ) := e3
    show bm_ev X 168 21 _ _ _ = _
    rw [bb_168_21, bn_lt (by omega) (by decide), decide_eq_true (by omega), cond_true, e1, bm_bV_some, bn_inT hk8 (by decide), bm_gd_t, bn_clamp (by omega), e3', bm_bV_some, bn_inT (by omega) (by decide), bm_gd_t, bm_gd_t, bn_clamp (by omega), e6, vj j hj, bn_add]) (by
    intro x y s
    show bm_ev X 168 21 _ _ _ = _
    rw [bb_168_21, bn_lt (by decide) (by decide), decide_eq_false (by decide), cond_false])
  have s2 : ab_S 46 τ a := hS.fr (r2 46 (by decide))
  obtain ⟨τ', m1, m2, m3⟩ := hm_most0 X (ab_vt_lt a k t n) (K := 11) (fun j σ => bm_ev X 200 18 [.ref 45, .int (nI k), .int (nI t), .int (nI n), .int (nI j)] [] σ) (by
    intro j ρ hj hS
    have g := ab_setG hG (w := 2) (k := k) (by decide) hj
    obtain ⟨t0, s, l1, l2, l3, l4, l5⟩ := hm_try X hS (k := k) (w := 2) j (by decide) hk8
    obtain ⟨ρ', m1, m2, m3, m4⟩ := hm_seen X l3 l4 g (n := n) (c := 2) (i := t) (by omega) (by rw [ab_set5]; omega) (ab_w2 (by omega))
    have m1 : bm_ev X 191 0 [.ref 45, .int (nI (17 + t)), .int (nI n), .null] [] s = some (.int (nI (ab_hs (ab_set a (2 + 4) k j) n 2 t)), ρ') := m1
    refine ⟨ρ', ?_, m2, l5.tr m4⟩
    show bm_ev X 200 18 _ _ _ = _
    rw [bb_200_18, bn_lt (by omega) (by decide), decide_eq_true (by omega), cond_true, l1, bm_bV_some, l2, bm_bV_some, bn_add, m1, bm_bI_some, vj j hj, bn_add]) (by
    intro ρ
    show bm_ev X 200 18 _ _ _ = _
    rw [bb_200_18, bn_lt (by decide) (by decide), decide_eq_false (by decide), cond_false]) s2
  have e8 : τ 46 2 = nI (a 0 7) := s2 0 7 rfl
  refine ⟨nI (ab_bm (ab_vt a k t n) 11).1, τ, τ', ?_, ?_, ab_fin0 h1 h2 h3 h4 h5 (by omega) r2.J m3 m2⟩
  · rw [bb_168_0, bs_isCow X e7 hc, bm_bI_some, bm_cond_bi, g1, cond_true, bs_c66, bm_bI_some, bm_cond_bi, g3, cond_true, i1, bm_bI_some, bm_cond_bi, g2, cond_true]
    exact r1
  · rw [bb_200_0, bs_isCowM X e8 hc, bm_bI_some, bm_cond_bi, g1, cond_true, bs_m73, bm_bI_some, bm_cond_bi, g3, cond_true, bs_m90, bm_bI_some, bm_cond_bi, g2, cond_true]
    exact m1
