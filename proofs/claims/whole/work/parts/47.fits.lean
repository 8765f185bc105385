theorem bs_c68' (X : bm_X) (σ : bm_M) (x : Int32) : bm_ev X 68 0 [.int x] [] σ = some (.int (bm_bi (bm_rg x 0 3)), σ) := by
  have i1 : bm_ev X 24 0 [.int x, .int (nI 3)] [] σ = some (.int (bm_bi (bm_rg x 0 3)), σ) := bs_upN X σ x (by decide)
  rw [bb_68_0, i1, bm_bI_some, bm_bo_bi, bm_gd_t]
theorem bs_lacks0 (X : bm_X) (σ : bm_M) {p : Int32} (g : bm_rg p 0 3 = false) : bm_ev X 137 0 [.ref 45, .int p] [] σ = some (.int (nI 0), σ) := by
  rw [bb_137_0, bs_m97, bm_bI_some, bm_cond_bi, g, cond_false]
theorem bs_lacks1 (X : bm_X) (σ : bm_M) {s b : Nat} (hs : s ≤ 3) (hb : b < 64) (h : σ 51 s = nI b) : bm_ev X 137 0 [.ref 45, .int (nI s)] [] σ = bif decide (b = 0) then some (.int (nI 5), σ) else some (.int (-nI 1), σ) := by
  have g : bm_rg (nI s) 0 3 = true := by
    rw [bm_rg_nI (by omega)]
    exact decide_eq_true (by omega)
  rw [bb_137_0, bs_m97, bm_bI_some, bm_cond_bi, g, cond_true, bn_inT (by omega) (by decide), bm_gd_t, bn_clamp (by omega), h, bn_eq0 (by omega)]
theorem op_fits (X : bm_X) (p w : Int32) : ab_op X 188 205 [.ref 0, .int p, .int w, .null, .null] [.ref 45, .int p, .int w, .null, .null, .null] := by
  intro T σ hR hT
  obtain ⟨a, ka, kp, tl, h1, h2, h3, h4, h5⟩ := id hR
  obtain ⟨hH, hS, hG, hP, hh⟩ := id h1
  have e7 : σ 1 7 = nI (a 0 7) := hH 0 7 rfl
  have hc := hG.2.2.1
  cases g1 : bm_rg p 0 3
  · refine ⟨bm_lw 0, bm_tl 0 σ, bm_fo 0 (bm_tl 0 σ), ?_, ?_, hR.tell (by omega) (by decide)⟩
    · rw [bb_188_0, bs_c68', bm_bI_some, bm_cond_bi, g1, cond_false, bs_tell X _ (by decide), bm_bI_some]
    · rw [bb_205_0, bs_lacks0 X _ g1, bm_bI_some, bn_lt0 (by decide), cond_false, bs_finds X _ (by decide), bm_bI_some]
  obtain ⟨s, hs, -, rfl⟩ := bm_rg_ex (n := 3) g1
  obtain ⟨bits, z, hb, hz, c1, c2, c3, c4, c5⟩ := h4 s (by omega)
  have hb64 : bits < 64 := by omega
  by_cases e0 : bits = 0
  · have q : bm_tl 5 σ 51 s = nI bits := by
      rw [← c2]
      exact bm_up_nk _ _ (by decide)
    refine ⟨bm_lw 5, bm_tl 5 σ, bm_fo 5 (bm_tl 5 σ), ?_, ?_, hR.tell (by omega) (by decide)⟩
    · rw [bb_188_0, bs_c68', bm_bI_some, bm_cond_bi, g1, cond_true, bn_inT (by omega) (by decide), bm_gd_t, bn_clamp (by omega), c1, bn_eq0 (by omega), decide_eq_true e0, cond_true, bs_tell X _ (by decide), bm_bI_some]
    · rw [bb_205_0, bs_lacks1 X _ hs hb64 q, decide_eq_true e0, cond_true, bm_bI_some, bn_lt0 (by decide), cond_false, bs_finds X _ (by decide), bm_bI_some]
  cases g3 : bm_rg w 0 11
  · have q : bm_tl 0 σ 51 s = nI bits := by
      rw [← c2]
      exact bm_up_nk _ _ (by decide)
    refine ⟨bm_lw 0, bm_tl 0 σ, bm_fo 0 (bm_tl 0 σ), ?_, ?_, hR.tell (by omega) (by decide)⟩
    · rw [bb_188_0, bs_c68', bm_bI_some, bm_cond_bi, g1, cond_true, bn_inT (by omega) (by decide), bm_gd_t, bn_clamp (by omega), c1, bn_eq0 (by omega), decide_eq_false e0, cond_false, bs_c66, bm_bI_some, bm_cond_bi, g3, cond_false, bs_tell X _ (by decide), bm_bI_some]
    · rw [bb_205_0, bs_lacks1 X _ hs hb64 q, decide_eq_false e0, cond_false, bm_bI_some, decide_eq_true (by decide), cond_true, bs_m73, bm_bI_some, bm_cond_bi, g3, cond_false, bs_finds X _ (by decide), bm_bI_some]
  obtain ⟨t, ht, -, rfl⟩ := bm_rg_ex (n := 11) g3
  have ok1 : ∀ (j v : Nat), v ≤ 1 → ab_ok 10 j v := fun j v h => h
  have gj : ∀ j, ab_G (ab_set a (6 + 4) j (1 - a 10 j)) := fun j => hG.set (c := 10) (ok1 j _ (by omega))
  have s5 : ∀ j v, ab_set a (6 + 4) j v 0 5 = a 0 5 := fun j v => ab_set5 a 6 j v
  have b10 : ∀ j, j < 8 → a 10 j ≤ 1 := fun j hj => (hG.2.2.2.2.2 j hj).2.2.2.2.2.2
  have zz : 6 * z ≤ 240 := by omega
  have cl : ∃ τ, bm_ev X 188 0 [.ref 0, .int (nI s), .int (nI t), .null, .null] [] σ = some (.int (ab_acc (fun j => ab_ast (σ (37 + s)) (ab_set a (6 + 4) j (1 - a 10 j)) 6 2 t z 0) (a 0 7)), τ) ∧ ab_F 12 σ τ := by
    rw [bb_188_0, bs_c68', bm_bI_some, bm_cond_bi, g1, cond_true, bn_inT (by omega) (by decide), bm_gd_t, bn_clamp (by omega), c1, bn_eq0 (by omega), decide_eq_false e0, cond_false, bs_c66, bm_bI_some, bm_cond_bi, g3, cond_true]
    exact hc_set (σ0 := σ) (K := a 0 7) (fun j => ab_ast (σ (37 + s)) (ab_set a (6 + 4) j (1 - a 10 j)) 6 2 t z 0) (fun x j σ => bm_ev X 188 27 [.ref 0, .int (nI s), .int (nI t), .int x, .int (nI j)] [] σ) (by
      intro x j ρ hj hF
      have r7 : ρ 1 7 = nI (a 0 7) := by rw [hF 1 (by decide)]; exact e7
      obtain ⟨t0, q1, q2, q3⟩ := hc_begin X (hF.H1 hH)
      have bj := b10 j (by omega)
      have ej : t0 22 j = nI (a 10 j) := q2 10 j (ab_w8 (by decide) (by decide) (by omega))
      have u1 : ab_H 12 (bm_up t0 22 j (nI (1 - a 10 j))) (ab_set a (6 + 4) j (1 - a 10 j)) := q2.up 10 j _
      have uF : ab_F 12 σ (bm_up t0 22 j (nI (1 - a 10 j))) := fun q hq => by rw [bm_up_ne _ _ _ (by omega), q3 q hq, hF q hq]
      obtain ⟨τ, r1, r2⟩ := hc_told X (gj j) (s := s) (z := z) (st := 6) (c := 2) (x := t) (sh := σ (37 + s)) (by omega) hz (by decide) (by rw [s5]; omega) (ab_w2 (by omega)) (show t < 12 by omega) (by rw [uF 41 (by decide)]; exact c3) (fun i _ => by rw [uF (37 + s) (by omega)]) u1
      have r1 : bm_ev X 174 0 [.ref 0, .int (nI s), .ref 14, .int (nI t), .int (nI 6), .null, .null] [] (bm_up t0 22 j (nI (1 - a 10 j))) = _ := r1
      refine ⟨τ, ?_, uF.tr r2⟩
      show bm_ev X 188 27 _ _ _ = bm_ev X 188 27 _ _ _
      rw [bb_188_27, r7, bn_lt (by omega) (by omega), decide_eq_true hj, cond_true, q1, bm_bV_some, bn_inT (by omega) (by decide), bm_gd_t, bm_gd_t, bn_clamp (by omega), ej, bn_sub (by omega), r1, bm_bI_some, bm_cond_bi, bn_add]
      cases ab_ast (σ (37 + s)) (ab_set a (6 + 4) j (1 - a 10 j)) 6 2 t z 0 <;> rfl) (by
      intro x ρ hF
      have r7 : ρ 1 7 = nI (a 0 7) := by rw [hF 1 (by decide)]; exact e7
      show bm_ev X 188 27 _ _ _ = _
      rw [bb_188_27, r7, bn_lt (by omega) (by omega), decide_eq_false (by omega), cond_false]) (a 0 7) 0 σ (by omega) ab_F.rf
  obtain ⟨τ, k1, k2⟩ := cl
  have s2 : ab_S 46 τ a := hS.fr (k2 46 (by decide))
  have ml : ∃ ρ, bm_ev X 205 0 [.ref 45, .int (nI s), .int (nI t), .null, .null, .null] [] τ = some (.int (ab_acc (fun j => ab_ast (σ (37 + s)) (ab_set a (6 + 4) j (1 - a 10 j)) 6 2 t z 0) (a 0 7)), ρ) ∧ ab_S 46 ρ a ∧ ab_K ab_JL τ ρ := by
    have q : τ 51 s = nI bits := by rw [k2 51 (by decide)]; exact c2
    rw [bb_205_0, bs_lacks1 X _ hs hb64 q, decide_eq_false e0, cond_false, bm_bI_some, decide_eq_true (by decide), cond_true, bs_m73, bm_bI_some, bm_cond_bi, g3, cond_true]
    exact hm_set (a := a) (K := a 0 7) (Z := fun ρ => ρ 52 s = nI z ∧ ∀ i, i < 40 → ρ 53 (40 * s + i) = σ (37 + s) i) (fun j => ab_ast (σ (37 + s)) (ab_set a (6 + 4) j (1 - a 10 j)) 6 2 t z 0) (fun x j σ => bm_ev X 205 21 [.ref 45, .int (nI s), .int (nI t), .int (-nI 1), .int x, .int (nI j)] [] σ) (by
      intro ρ ρ' hz hk
      have n52 : ¬ ab_JL 52 s := by unfold ab_JL; omega
      have n53 : ∀ i, ¬ ab_JL 53 i := fun i => by unfold ab_JL; omega
      exact ⟨by rw [hk 52 s n52]; exact hz.1, fun i hi => by rw [hk 53 _ (n53 _)]; exact hz.2 i hi⟩) (by
      intro x j ρ hj hS hZ
      have r7 : ρ 46 2 = nI (a 0 7) := hS 0 7 rfl
      obtain ⟨t0, l1, l2, l3, l4⟩ := hm_lends X hS
      have it := hm_it6 X l3 hG (k := j) (by omega)
      obtain ⟨t1, m1, m2, m3⟩ := hm_setsw X l3 (k := j) (w := 6) (1 - a 10 j) (by decide) (by omega)
      have bj := b10 j (by omega)
      have u4 : ab_S 48 t1 a := l2.fr (m3 48 (by decide))
      obtain ⟨τ', r1, r2, r3⟩ := hm_isSo X (a := a) (gj j) (s := s) (z := z) (st := 6) (c := 2) (x := t) (sh := σ (37 + s)) (by omega) hz (by decide) (by rw [s5]; omega) (ab_w2 (by omega)) (by rw [m3 52 (by decide), l4 52 (by decide)]; exact hZ.1) (fun i hi => by rw [m3 53 (by decide), l4 53 (by decide)]; exact hZ.2 i hi) m2 u4
      have r1 : bm_ev X 194 0 [.ref 45, .int (nI s), .int (nI (17 + t)), .int (nI 6), .null, .null, .null] [] t1 = _ := r1
      refine ⟨τ', ?_, r2, ((ab_48.L l4).tr (ab_N.L m3)).tr r3⟩
      show bm_ev X 205 21 _ _ _ = bm_ev X 205 21 _ _ _
      rw [bb_205_21, bn_inT (by decide) (by decide), bm_gd_t, bn_clamp (by decide), r7, bn_lt (by omega) (by omega), decide_eq_true hj, cond_true, l1, bm_bV_some, it, bm_bI_some, bn_sub (by omega), m1, bm_bV_some, bn_add, r1, bm_bI_some, bm_cond_bi, bb_205_53, bb_205_53, bn_or0, bn_add]
      cases ab_ast (σ (37 + s)) (ab_set a (6 + 4) j (1 - a 10 j)) 6 2 t z 0 <;> rfl) (by
      intro x ρ hS
      have r7 : ρ 46 2 = nI (a 0 7) := hS 0 7 rfl
      show bm_ev X 205 21 _ _ _ = _
      rw [bb_205_21, bn_inT (by decide) (by decide), bm_gd_t, bn_clamp (by decide), r7, bn_lt (by omega) (by omega), decide_eq_false (by omega), cond_false]) (a 0 7) 0 τ (by omega) s2 ⟨by rw [k2 52 (by decide)]; exact c4, fun i hi => by rw [k2 53 (by decide)]; exact (c5 i hi).symm⟩
  obtain ⟨ρ, q1, q2, q3⟩ := ml
  exact ⟨_, τ, ρ, k1, q1, ab_fin0 h1 h2 h3 h4 h5 (by omega) k2.J q3.LM q2⟩
theorem op_kinds (X : bm_X) (p w : Int32) : ab_op X 189 206 [.ref 0, .int p, .int w, .null, .null] [.ref 45, .int p, .int w, .null, .null, .null] := by
  intro T σ hR hT
  obtain ⟨a, ka, kp, tl, h1, h2, h3, h4, h5⟩ := id hR
  obtain ⟨hH, hS, hG, hP, hh⟩ := id h1
  have e7 : σ 1 7 = nI (a 0 7) := hH 0 7 rfl
  have e7m : σ 46 2 = nI (a 0 7) := hS 0 7 rfl
  have hc := hG.2.2.1
  cases g1 : bm_rg p 0 3
  · refine ⟨bm_lw 0, bm_tl 0 σ, bm_fo 0 (bm_tl 0 σ), ?_, ?_, hR.tell (by omega) (by decide)⟩
    · rw [bb_189_0, bs_c68', bm_bI_some, bm_cond_bi, g1, cond_false, bs_tell X _ (by decide), bm_bI_some]
    · rw [bb_206_0, bs_lacks0 X _ g1, bm_bI_some, bn_lt0 (by decide), cond_false, bs_finds X _ (by decide), bm_bI_some]
  obtain ⟨s, hs, -, rfl⟩ := bm_rg_ex (n := 3) g1
  obtain ⟨bits, z, hb, hz, c1, c2, c3, c4, c5⟩ := h4 s (by omega)
  have hb64 : bits < 64 := by omega
  by_cases e0 : bits = 0
  · have q : bm_tl 5 σ 51 s = nI bits := by
      rw [← c2]
      exact bm_up_nk _ _ (by decide)
    refine ⟨bm_lw 5, bm_tl 5 σ, bm_fo 5 (bm_tl 5 σ), ?_, ?_, hR.tell (by omega) (by decide)⟩
    · rw [bb_189_0, bs_c68', bm_bI_some, bm_cond_bi, g1, cond_true, bn_inT (by omega) (by decide), bm_gd_t, bn_clamp (by omega), c1, bn_eq0 (by omega), decide_eq_true e0, cond_true, bs_tell X _ (by decide), bm_bI_some]
    · rw [bb_206_0, bs_lacks1 X _ hs hb64 q, decide_eq_true e0, cond_true, bm_bI_some, bn_lt0 (by decide), cond_false, bs_finds X _ (by decide), bm_bI_some]
  cases g3 : bm_rg w 0 ((a 0 7 : Int) - 1)
  · have q : bm_tl 0 σ 51 s = nI bits := by
      rw [← c2]
      exact bm_up_nk _ _ (by decide)
    refine ⟨bm_lw 0, bm_tl 0 σ, bm_fo 0 (bm_tl 0 σ), ?_, ?_, hR.tell (by omega) (by decide)⟩
    · rw [bb_189_0, bs_c68', bm_bI_some, bm_cond_bi, g1, cond_true, bn_inT (by omega) (by decide), bm_gd_t, bn_clamp (by omega), c1, bn_eq0 (by omega), decide_eq_false e0, cond_false, bs_isCow X e7 hc, bm_bI_some, bm_cond_bi, g3, cond_false, bs_tell X _ (by decide), bm_bI_some]
    · rw [bb_206_0, bs_lacks1 X _ hs hb64 q, decide_eq_false e0, cond_false, bm_bI_some, decide_eq_true (by decide), cond_true, bs_isCowM X (σ := bm_tl 0 σ) e7m hc, bm_bI_some, bm_cond_bi, g3, cond_false, bs_finds X _ (by decide), bm_bI_some]
  obtain ⟨k, hk, -, rfl⟩ := bm_rgc_ex g3
  have hk8 : k < 8 := by omega
  have gj : ∀ j, j < 7 → ab_G (ab_set a (0 + 4) k j) := fun j hj => ab_setG hG (w := 0) (by decide) (show j ≤ 6 by omega)
  have s5 : ∀ j v, ab_set a (0 + 4) j v 0 5 = a 0 5 := fun j v => ab_set5 a 0 j v
  have hwd : ab_wd 9 k = true := ab_w8 (by decide) (by decide) hk8
  have cl : ∃ τ, bm_ev X 189 0 [.ref 0, .int (nI s), .int (nI k), .null, .null] [] σ = some (.int (ab_acc (fun j => ab_ast (σ (37 + s)) (ab_set a (0 + 4) k j) 1 9 k z 0) 7), τ) ∧ ab_F 12 σ τ := by
    rw [bb_189_0, bs_c68', bm_bI_some, bm_cond_bi, g1, cond_true, bn_inT (by omega) (by decide), bm_gd_t, bn_clamp (by omega), c1, bn_eq0 (by omega), decide_eq_false e0, cond_false, bs_isCow X e7 hc, bm_bI_some, bm_cond_bi, g3, cond_true]
    exact hc_set (σ0 := σ) (K := 7) (fun j => ab_ast (σ (37 + s)) (ab_set a (0 + 4) k j) 1 9 k z 0) (fun x j σ => bm_ev X 189 28 [.ref 0, .int (nI s), .int (nI k), .int x, .int (nI j)] [] σ) (by
      intro x j ρ hj hF
      obtain ⟨t0, q1, q2, q3⟩ := hc_begin X (hF.H1 hH)
      have u1 : ab_H 12 (bm_up t0 16 k (nI j)) (ab_set a (0 + 4) k j) := q2.up 4 k _
      have uF : ab_F 12 σ (bm_up t0 16 k (nI j)) := fun q hq => by rw [bm_up_ne _ _ _ (by omega), q3 q hq, hF q hq]
      obtain ⟨τ, r1, r2⟩ := hc_told X (gj j hj) (s := s) (z := z) (st := 1) (c := 9) (x := k) (sh := σ (37 + s)) (by omega) hz (by decide) (by rw [s5]; omega) hwd (show k < 8 from hk8) (by rw [uF 41 (by decide)]; exact c3) (fun i _ => by rw [uF (37 + s) (by omega)]) u1
      have r1 : bm_ev X 174 0 [.ref 0, .int (nI s), .ref 21, .int (nI k), .int (nI 1), .null, .null] [] (bm_up t0 16 k (nI j)) = _ := r1
      refine ⟨τ, ?_, uF.tr r2⟩
      show bm_ev X 189 28 _ _ _ = bm_ev X 189 28 _ _ _
      rw [bb_189_28, bn_lt (by omega) (by decide), decide_eq_true hj, cond_true, q1, bm_bV_some, bn_inT hk8 (by decide), bm_gd_t, bn_clamp (by omega), r1, bm_bI_some, bm_cond_bi, bn_add]
      cases ab_ast (σ (37 + s)) (ab_set a (0 + 4) k j) 1 9 k z 0 <;> rfl) (by
      intro x ρ hF
      show bm_ev X 189 28 _ _ _ = _
      rw [bb_189_28, bn_lt (by decide) (by decide), decide_eq_false (by decide), cond_false]) 7 0 σ (by omega) ab_F.rf
  obtain ⟨τ, k1, k2⟩ := cl
  have s2 : ab_S 46 τ a := hS.fr (k2 46 (by decide))
  have e8 : τ 46 2 = nI (a 0 7) := s2 0 7 rfl
  have hly : ab_ly 9 k = 29 + 7 * k + 5 := by
    unfold ab_ly
    split <;> omega
  have ml : ∃ ρ, bm_ev X 206 0 [.ref 45, .int (nI s), .int (nI k), .null, .null, .null] [] τ = some (.int (ab_acc (fun j => ab_ast (σ (37 + s)) (ab_set a (0 + 4) k j) 1 9 k z 0) 7), ρ) ∧ ab_S 46 ρ a ∧ ab_K ab_JL τ ρ := by
    have q : τ 51 s = nI bits := by rw [k2 51 (by decide)]; exact c2
    rw [bb_206_0, bs_lacks1 X _ hs hb64 q, decide_eq_false e0, cond_false, bm_bI_some, decide_eq_true (by decide), cond_true, bs_isCowM X e8 hc, bm_bI_some, bm_cond_bi, g3, cond_true]
    exact hm_set (a := a) (K := 7) (Z := fun ρ => ρ 52 s = nI z ∧ ∀ i, i < 40 → ρ 53 (40 * s + i) = σ (37 + s) i) (fun j => ab_ast (σ (37 + s)) (ab_set a (0 + 4) k j) 1 9 k z 0) (fun x j σ => bm_ev X 206 22 [.ref 45, .int (nI s), .int (nI k), .int (-nI 1), .int x, .int (nI j)] [] σ) (by
      intro ρ ρ' hz hk
      have n52 : ¬ ab_JL 52 s := by unfold ab_JL; omega
      have n53 : ∀ i, ¬ ab_JL 53 i := fun i => by unfold ab_JL; omega
      exact ⟨by rw [hk 52 s n52]; exact hz.1, fun i hi => by rw [hk 53 _ (n53 _)]; exact hz.2 i hi⟩) (by
      intro x j ρ hj hS hZ
      obtain ⟨t0, t1, l1, l2, l3, l4, l5⟩ := hm_try X hS (k := k) (w := 0) j (by decide) hk8
      have n52 : ¬ ab_JL 52 s := by unfold ab_JL; omega
      have n53 : ∀ i, ¬ ab_JL 53 i := fun i => by unfold ab_JL; omega
      obtain ⟨τ', r1, r2, r3⟩ := hm_isSo X (a := a) (gj j hj) (s := s) (z := z) (st := 1) (c := 9) (x := k) (sh := σ (37 + s)) (by omega) hz (by decide) (by rw [s5]; omega) hwd (by rw [l5 52 s n52]; exact hZ.1) (fun i hi => by rw [l5 53 _ (n53 _)]; exact hZ.2 i hi) l3 l4
      rw [hly] at r1
      refine ⟨τ', ?_, r2, l5.tr r3⟩
      show bm_ev X 206 22 _ _ _ = bm_ev X 206 22 _ _ _
      rw [bb_206_22, bn_lt (by decide) (by omega), decide_eq_false (by omega), cond_false, l1, bm_bV_some, l2, bm_bV_some, bn_mul, bn_add, bn_add, r1, bm_bI_some, bm_cond_bi, bb_206_50, bb_206_50, bn_or0, bn_add]
      cases ab_ast (σ (37 + s)) (ab_set a (0 + 4) k j) 1 9 k z 0 <;> rfl) (by
      intro x ρ hS
      show bm_ev X 206 22 _ _ _ = _
      rw [bb_206_22, bn_lt (by decide) (by decide), decide_eq_true (by decide), cond_true]) 7 0 τ (by omega) s2 ⟨by rw [k2 52 (by decide)]; exact c4, fun i hi => by rw [k2 53 (by decide)]; exact (c5 i hi).symm⟩
  obtain ⟨ρ, q1, q2, q3⟩ := ml
  exact ⟨_, τ, ρ, k1, q1, ab_fin0 h1 h2 h3 h4 h5 (by omega) k2.J q3.LM q2⟩
