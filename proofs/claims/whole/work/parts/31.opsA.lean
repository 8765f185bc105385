/-! grass, pasture, weather, pail, pour -/
theorem ab_P.set {a : ab_T} (h : ab_P a) {c i : Nat} (v : Nat) (h3 : c ≠ 3) (h7 : ¬ (c = 0 ∧ i = 7)) : ab_P (ab_set a c i v) := fun j hj => by
  rw [ab_set_nc a v (fun q => h3 q.symm), ab_set_ne a v (fun q => h7 ⟨q.1.symm, q.2.symm⟩)]
  exact h j hj
theorem ab_R.set {T T' : Nat} {σ : bm_M} {a ka : ab_T} {kp : Bool} {tl : Nat} (h1 : ab_CH a T σ) (h2 : ab_CK ka kp T σ) (h3 : ab_CT tl σ) (h4 : ab_CS σ) (h5 : ab_CF σ) (hT : T ≤ T') {c i : Nat} (v : Nat) (hw : ab_wd c i = true) (hv : ab_ok c i v) (n3 : c ≠ 3) (n7 : ¬ (c = 0 ∧ i = 7)) (n5 : ¬ (c = 0 ∧ i = 5)) : ab_R T' (bm_up (bm_up σ (1 + c) i (nI v)) 46 (ab_ly c i) (nI v)) := by
  obtain ⟨hH, hS, hG, hP, hh⟩ := h1
  have hc := (ab_wd_lt hw).1
  refine ab_R.herd (a' := ab_set a c i v) h2 h3 h4 h5 hT ((ab_K.rf.up _ (Or.inr (Or.inl (by omega)))).up _ (Or.inr (Or.inr rfl))) ⟨(hH.up c i v).ne _ _ (by omega), ?_, hG.set hv, hP.set v n3 n7, ?_⟩
  · exact (hS.ne _ _ (by omega)).up v hw
  · rw [ab_set_ne a v (fun q => n5 ⟨q.1.symm, q.2.symm⟩)]
    omega
theorem bs_becomes (X : bm_X) (σ : bm_M) {k : Nat} (v : Int32) (hk : k < 95) : bm_ev X 36 0 [.ref 45, .int (nI k), .int v, .null] [] σ = some (.int (σ 46 k), bm_up σ 46 k v) := by
  rw [bb_36_0]
  simp (disch := omega) only [bn_inT, bn_clamp, bm_gd_t]
theorem op_grass (X : bm_X) (p v : Int32) : ab_op X 106 123 [.ref 0, .int p, .int v, .null] [.ref 45, .int p, .int v] := by
  intro T σ hR hT
  obtain ⟨a, ka, kp, tl, h1, h2, h3, h4, h5⟩ := id hR
  obtain ⟨hH, hS, hG, hP, hh⟩ := id h1
  rw [bb_106_0]
  simp only [bb_123_0, bs_c65, bs_m73, bs_m74, bm_bI_some, bm_cond_bi, bs_upN X _ _ (show 99 < 2147483648 by decide), bs_tell X _ (show 0 < 7 by decide), bs_finds X _ (show 0 < 7 by decide)]
  cases g1 : bm_rg p 0 11
  · exact ⟨_, _, _, rfl, rfl, hR.tell (by omega) (by decide)⟩
  · have g2e : bm_rg v 0 ((99 : Nat) : Int) = bm_rg v 0 99 := rfl
    rw [g2e]
    cases g2 : bm_rg v 0 99
    · exact ⟨_, _, _, rfl, rfl, hR.tell (by omega) (by decide)⟩
    · obtain ⟨j, hj, -, rfl⟩ := bm_rg_ex (n := 11) g1
      obtain ⟨w, hw, -, rfl⟩ := bm_rg_ex (n := 99) g2
      have e1 : σ 2 j = nI (a 1 j) := hH 1 j (ab_w1 (by omega))
      have e2 : σ 46 (5 + j) = nI (a 1 j) := hS 1 j (ab_w1 (by omega))
      simp (disch := omega) only [cond_true, bn_inT, bn_clamp, bm_gd_t, bn_add, bs_becomes, bm_bI_some]
      refine ⟨_, _, _, rfl, ?_, ab_R.set h1 h2 h3 h4 h5 (by omega) (c := 1) (i := j) w (ab_w1 (by omega)) hw (by decide) (by omega) (by omega)⟩
      rw [bm_up_nk _ _ (by decide), e1, e2]
      rfl
theorem op_pasture (X : bm_X) (p v : Int32) : ab_op X 107 124 [.ref 0, .int p, .int v] [.ref 45, .int p, .int v] := by
  intro T σ hR hT
  obtain ⟨a, ka, kp, tl, h1, h2, h3, h4, h5⟩ := id hR
  obtain ⟨hH, hS, hG, hP, hh⟩ := id h1
  have i1 : ∀ (x : Int32) (σ : bm_M), bm_ev X 24 0 [.int x, .int (nI 1)] [] σ = some (.int (bm_bi (bm_rg x 0 1)), σ) := fun x σ => bs_upN X σ x (by decide)
  have m1 : ∀ (x : Int32) (σ : bm_M), bm_ev X 32 0 [.long x.toInt64, .null, .long (lN 0), .null, .long (lN 1), .null] [] σ = some (.int (bm_bi (bm_rg x 0 1)), σ) := fun x σ => bs_inI X σ x (by decide) (by decide)
  rw [bb_107_0]
  simp only [bb_124_0, bs_c65, bs_m73, bm_bI_some, bm_cond_bi, i1, m1, bs_tell X _ (show 0 < 7 by decide), bs_finds X _ (show 0 < 7 by decide)]
  cases g1 : bm_rg p 0 11
  · exact ⟨_, _, _, rfl, rfl, hR.tell (by omega) (by decide)⟩
  · cases g2 : bm_rg v 0 1
    · exact ⟨_, _, _, rfl, rfl, hR.tell (by omega) (by decide)⟩
    · obtain ⟨j, hj, -, rfl⟩ := bm_rg_ex (n := 11) g1
      have e1 : σ 2 j = nI (a 1 j) := hH 1 j (ab_w1 (by omega))
      have e2 : σ 46 (5 + j) = nI (a 1 j) := hS 1 j (ab_w1 (by omega))
      have e3 := hc_cowsOn X (Or.inl rfl) hH hG (k := j) (by omega)
      have e4 := hm_cowsOn X hS hG (k := j) (by omega)
      simp only [cond_true]
      by_cases e : v = 0
      · have hv : decide (v = 0) = true := decide_eq_true e
        simp only [hv, cond_true]
        refine ⟨nI (a 1 j), σ, σ, ?_, ?_, hR.junk (by omega) ab_K.rf⟩
        · rw [bn_inT (by omega) (by decide), bn_clamp (by omega), bm_gd_t, e1]
        · rw [bn_add, bn_inT (by omega) (by decide), bn_clamp (by omega), bm_gd_t, e2]
      · have hv : decide (v = 0) = false := decide_eq_false e
        simp only [hv, cond_false]
        refine ⟨ab_or (ab_con a j) (a 0 7), σ, σ, ?_, ?_, hR.junk (by omega) ab_K.rf⟩
        · rw [e3, bm_bI_some]
        · rw [e4, bm_bI_some]
theorem op_weather (X : bm_X) (p v : Int32) : ab_op X 57 83 [.ref 0, .int p, .int v, .null] [.ref 45, .int p, .int v] := by
  intro T σ hR hT
  obtain ⟨a, ka, kp, tl, h1, h2, h3, h4, h5⟩ := id hR
  obtain ⟨hH, hS, hG, hP, hh⟩ := id h1
  have i1 : ∀ (x : Int32) (σ : bm_M), bm_ev X 24 0 [.int x, .int (nI 1)] [] σ = some (.int (bm_bi (bm_rg x 0 1)), σ) := fun x σ => bs_upN X σ x (by decide)
  have i20 : ∀ (x : Int32) (σ : bm_M), bm_ev X 24 0 [.int x, .int (nI 20)] [] σ = some (.int (bm_bi (bm_rg x 0 20)), σ) := fun x σ => bs_upN X σ x (by decide)
  have i99 : ∀ (x : Int32) (σ : bm_M), bm_ev X 24 0 [.int x, .int (nI 99)] [] σ = some (.int (bm_bi (bm_rg x 0 99)), σ) := fun x σ => bs_upN X σ x (by decide)
  have m1 : ∀ (x : Int32) (σ : bm_M), bm_ev X 32 0 [.long x.toInt64, .null, .long (lN 0), .null, .long (lN 1), .null] [] σ = some (.int (bm_bi (bm_rg x 0 1)), σ) := fun x σ => bs_inI X σ x (by decide) (by decide)
  have m20 : ∀ (x : Int32) (σ : bm_M), bm_ev X 32 0 [.long x.toInt64, .null, .long (lN 0), .null, .long (lN 20), .null] [] σ = some (.int (bm_bi (bm_rg x 0 20)), σ) := fun x σ => bs_inI X σ x (by decide) (by decide)
  have m99 : ∀ (x : Int32) (σ : bm_M), bm_ev X 32 0 [.long x.toInt64, .null, .long (lN 0), .null, .long (lN 99), .null] [] σ = some (.int (bm_bi (bm_rg x 0 99)), σ) := fun x σ => bs_inI X σ x (by decide) (by decide)
  rw [bb_57_0]
  simp only [bb_57_10, bb_83_0, bb_83_14, i1, i20, i99, m1, m20, m99, bm_bI_some, bm_cond_bi, bs_tell X _ (show 0 < 7 by decide), bs_finds X _ (show 0 < 7 by decide)]
  cases g1 : bm_rg p 0 1
  · exact ⟨_, _, _, rfl, rfl, hR.tell (by omega) (by decide)⟩
  · simp only [cond_true]
    by_cases e : p = 0
    · subst e
      cases g2 : bm_rg v 0 20
      · exact ⟨_, _, _, rfl, rfl, hR.tell (by omega) (by decide)⟩
      · obtain ⟨w, hw, -, rfl⟩ := bm_rg_ex (n := 20) g2
        refine ⟨_, _, _, rfl, ?_, ab_R.set h1 h2 h3 h4 h5 (by omega) (c := 0) (i := 3) w rfl hw (by decide) (by omega) (by omega)⟩
        have e1 : σ 1 3 = nI (a 0 3) := hH 0 3 rfl
        have e2 : σ 46 3 = nI (a 0 3) := hS 0 3 rfl
        simp (disch := omega) only [decide_true, cond_true, bs_becomes, bm_bI_some]
        rw [bm_up_nk _ _ (by decide), e1, e2]
        rfl
    · have hp : decide (p = 0) = false := decide_eq_false e
      simp only [hp, cond_false]
      cases g2 : bm_rg v 0 99
      · exact ⟨_, _, _, rfl, rfl, hR.tell (by omega) (by decide)⟩
      · obtain ⟨w, hw, -, rfl⟩ := bm_rg_ex (n := 99) g2
        refine ⟨_, _, _, rfl, ?_, ab_R.set h1 h2 h3 h4 h5 (by omega) (c := 0) (i := 4) w rfl hw (by decide) (by omega) (by omega)⟩
        have e1 : σ 1 4 = nI (a 0 4) := hH 0 4 rfl
        have e2 : σ 46 4 = nI (a 0 4) := hS 0 4 rfl
        simp (disch := omega) only [cond_true, bs_becomes, bm_bI_some]
        rw [bm_up_nk _ _ (by decide), e1, e2]
        rfl
theorem op_pail (X : bm_X) (p : Int32) : ab_op X 108 125 [.ref 0, .int p] [.ref 45, .int p] := by
  intro T σ hR hT
  obtain ⟨a, ka, kp, tl, h1, h2, h3, h4, h5⟩ := id hR
  obtain ⟨hH, hS, hG, hP, hh⟩ := id h1
  rw [bb_108_0]
  simp only [bb_125_0, bs_c66, bs_m73, bm_bI_some, bm_cond_bi, bs_tell X _ (show 0 < 7 by decide), bs_finds X _ (show 0 < 7 by decide)]
  cases g1 : bm_rg p 0 11
  · exact ⟨_, _, _, rfl, rfl, hR.tell (by omega) (by decide)⟩
  · obtain ⟨j, hj, -, rfl⟩ := bm_rg_ex (n := 11) g1
    have e1 : σ 3 j = nI (a 2 j) := hH 2 j (ab_w2 (by omega))
    have e2 : σ 46 (17 + j) = nI (a 2 j) := hS 2 j (ab_w2 (by omega))
    simp (disch := omega) only [cond_true, bn_inT, bn_clamp, bm_gd_t, bn_add, e1]
    refine ⟨_, _, _, rfl, ?_, hR.junk (by omega) ab_K.rf⟩
    rw [e2]
theorem op_pour (X : bm_X) (p : Int32) : ab_op X 109 126 [.ref 0, .int p, .null] [.ref 45, .int p] := by
  intro T σ hR hT
  obtain ⟨a, ka, kp, tl, h1, h2, h3, h4, h5⟩ := id hR
  obtain ⟨hH, hS, hG, hP, hh⟩ := id h1
  rw [bb_109_0]
  simp only [bb_126_0, bs_c66, bs_m73, bm_bI_some, bm_cond_bi, bs_tell X _ (show 0 < 7 by decide), bs_finds X _ (show 0 < 7 by decide)]
  cases g1 : bm_rg p 0 11
  · exact ⟨_, _, _, rfl, rfl, hR.tell (by omega) (by decide)⟩
  · obtain ⟨j, hj, -, rfl⟩ := bm_rg_ex (n := 11) g1
    have e1 : σ 3 j = nI (a 2 j) := hH 2 j (ab_w2 (by omega))
    have e2 : σ 46 (17 + j) = nI (a 2 j) := hS 2 j (ab_w2 (by omega))
    simp (disch := omega) only [cond_true, bn_inT, bn_clamp, bm_gd_t, bn_add, bs_becomes, bm_bI_some]
    refine ⟨_, _, _, rfl, ?_, ab_R.set h1 h2 h3 h4 h5 (by omega) (c := 2) (i := j) 0 (ab_w2 (by omega)) (Nat.zero_le _) (by decide) (by omega) (by omega)⟩
    rw [bm_up_nk _ _ (by decide), e1, e2]
    rfl
