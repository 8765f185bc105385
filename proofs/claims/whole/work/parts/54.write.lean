/-! write, judge, load -/
theorem bm_rgz {x : Int32} {z : Nat} (hz : z ≤ 1000) (A B : bm_R) : cond (decide (x < 0)) B (cond (decide (x < nI z)) A B) = cond (bm_rg x 0 ((z : Int) - 1)) A B := by
  have h0 : (0 : Int32).toInt = 0 := by decide
  rw [bm_lt_toInt, bm_lt_toInt, h0, bn_toInt (show z < 2147483648 by omega)]
  unfold bm_rg
  by_cases h1 : x.toInt < 0
  · have : ¬ (0 : Int) ≤ x.toInt := by omega
    simp [h1, this]
  · have e1 : (0 : Int) ≤ x.toInt := by omega
    by_cases h2 : x.toInt < (z : Int)
    · have : x.toInt ≤ (z : Int) - 1 := by omega
      simp [h1, h2, e1, this]
    · have : ¬ x.toInt ≤ (z : Int) - 1 := by omega
      simp [h1, h2, e1, this]
theorem op_write (X : bm_X) (p w v : Int32) : ab_op X 115 149 [.ref 0, .int p, .int w, .int v] [.ref 45, .int p, .int w, .int v, .null] := by
  intro T σ hR hT
  obtain ⟨a, ka, kp, tl, h1, h2, h3, h4, h5⟩ := id hR
  cases g1 : bm_rg p 0 3
  · refine ⟨bm_lw 0, bm_tl 0 σ, bm_fo 0 (bm_tl 0 σ), ?_, ?_, hR.tell (by omega) (by decide)⟩
    · rw [bb_115_0, bs_c68', bm_bI_some, bm_cond_bi, g1, cond_false, bs_tell X _ (by decide), bm_bI_some]
    · rw [bb_149_0, bs_lacks0 X _ g1, bm_bI_some, bn_lt0 (by decide), cond_false, bs_finds X _ (by decide), bm_bI_some]
  obtain ⟨s, hs, -, rfl⟩ := bm_rg_ex (n := 3) g1
  have hs4 : s < 4 := by omega
  obtain ⟨b, z, hb, hz, c1, c2, c3, c4, c5⟩ := h4 s hs4
  have hb64 : b < 64 := by omega
  by_cases e0 : b = 0
  · have q : bm_tl 5 σ 51 s = nI b := by
      rw [← c2]
      exact bm_up_nk _ _ (by decide)
    refine ⟨bm_lw 5, bm_tl 5 σ, bm_fo 5 (bm_tl 5 σ), ?_, ?_, hR.tell (by omega) (by decide)⟩
    · rw [bb_115_0, bs_c68', bm_bI_some, bm_cond_bi, g1, cond_true, bn_inT hs4 (by decide), bm_gd_t, bn_clamp (by omega), c1, bn_eq0 (by omega), decide_eq_true e0, cond_true, bs_tell X _ (by decide), bm_bI_some]
    · rw [bb_149_0, bs_lacks1 X _ hs hb64 q, decide_eq_true e0, cond_true, bm_bI_some, bn_lt0 (by decide), cond_false, bs_finds X _ (by decide), bm_bI_some]
  have mz : ∀ ρ : bm_M, bm_ev X 32 0 [.long w.toInt64, .null, .long (lN 0), .null, .long (nI z - nI 1).toInt64, .null] [] ρ = some (.int (bm_bi (bm_rg w 0 ((z : Int) - 1))), ρ) := by
    intro ρ
    rw [bs_in, bm_i2l, bm_i2l, bl_toInt (by decide), bn_sub_toInt (by omega) (by decide)]
    rfl
  cases g2 : bm_rg w 0 ((z : Int) - 1)
  · have q : bm_tl 0 σ 51 s = nI b := by
      rw [← c2]
      exact bm_up_nk _ _ (by decide)
    have q2 : bm_tl 0 σ 52 s = nI z := by
      rw [← c4]
      exact bm_up_nk _ _ (by decide)
    refine ⟨bm_lw 0, bm_tl 0 σ, bm_fo 0 (bm_tl 0 σ), ?_, ?_, hR.tell (by omega) (by decide)⟩
    · rw [bb_115_0, bs_c68', bm_bI_some, bm_cond_bi, g1, cond_true, bn_inT hs4 (by decide), bm_gd_t, bm_gd_t, bm_gd_t, bm_gd_t, bn_clamp (by omega), c1, bn_eq0 (by omega), decide_eq_false e0, cond_false, bs_tell X _ (by decide), bm_bI_some, c3, bm_rgz (by omega), g2, cond_false]
    · rw [bb_149_0, bs_lacks1 X _ hs hb64 q, decide_eq_false e0, cond_false, bm_bI_some, decide_eq_true (by decide), cond_true, bn_inT hs4 (by decide), bm_gd_t, bn_clamp (by omega), q2, mz, bm_bI_some, bm_cond_bi, g2, cond_false, bs_finds X _ (by decide), bm_bI_some]
  obtain ⟨i, hi, -, rfl⟩ := bm_rgc_ex g2
  obtain ⟨x, hx⟩ : ∃ x : Int32, x = (bif decide (nI b = nI 8) then v.toInt8.toInt32 else bif decide (nI b = nI 16) then v.toInt16.toInt32 else v) := ⟨_, rfl⟩
  refine ⟨nI 1, bm_up σ (37 + s) i x, bm_up (bm_up σ (37 + s) i x) 53 (40 * s + i) x, ?_, ?_, ab_R.sheets h1 h2 h3 h5 (by omega) (fun q j hq => ?_) (fun t ht => ?_)⟩
  · have e28 : bm_ev X 28 0 [.int v, .int (nI b)] [] σ = some (.int x, σ) := by
      rw [bb_28_0, hx]
      cases decide (nI b = nI 8) <;> cases decide (nI b = nI 16) <;> rfl
    rw [bb_115_0, bs_c68', bm_bI_some, bm_cond_bi, g1, cond_true, bn_inT hs4 (by decide), bm_gd_t, bm_gd_t, bm_gd_t, bm_gd_t, bn_clamp (show s < 2147483648 by omega), c1, bn_eq0 (by omega), decide_eq_false e0, cond_false, bs_tell X _ (by decide), bm_bI_some, c3, bm_rgz (by omega), g2, cond_true, e28, bm_bI_some, ab_a37 hs4, bn_inT (by omega) (by decide), bm_gd_t, bn_clamp (by omega)]
  · have q : bm_up σ (37 + s) i x 51 s = nI b := by
      rw [← c2]
      exact bm_up_nk _ _ (by omega)
    have q2 : bm_up σ (37 + s) i x 52 s = nI z := by
      rw [← c4]
      exact bm_up_nk _ _ (by omega)
    rw [bb_149_0, bs_lacks1 X _ hs hb64 q, decide_eq_false e0, cond_false, bm_bI_some, decide_eq_true (by decide), cond_true, bn_inT hs4 (by decide), bm_gd_t, bn_clamp (show s < 2147483648 by omega), q2, mz, bm_bI_some, bm_cond_bi, g2, cond_true, bm_gd_t, bm_gd_t, q, bn_mul, bn_add, bn_inT (by omega) (by decide), bm_gd_t, bm_gd_t, bm_gd_t, bn_clamp (by omega), hx]
    cases decide (nI b = nI 8) <;> cases decide (nI b = nI 16) <;> rfl
  · have hq' : ¬ ((37 ≤ q ∧ q ≤ 42) ∨ (51 ≤ q ∧ q ≤ 53)) := fun z => hq (Or.inr z)
    rw [bm_up_ne _ _ _ (by omega), bm_up_ne _ _ _ (by omega)]
  · obtain ⟨b', z', d1, d2, d3, d4, d5, d6, d7⟩ := h4 t ht
    refine ⟨b', z', d1, d2, ?_, ?_, ?_, ?_, fun j hj => ?_⟩
    · rw [bm_up_nk _ _ (by decide), bm_up_nk _ _ (by omega)]; exact d3
    · rw [bm_up_nk _ _ (by decide), bm_up_nk _ _ (by omega)]; exact d4
    · rw [bm_up_nk _ _ (by decide), bm_up_nk _ _ (by omega)]; exact d5
    · rw [bm_up_nk _ _ (by decide), bm_up_nk _ _ (by omega)]; exact d6
    · by_cases e : t = s
      · subst e
        by_cases ej : j = i
        · subst ej
          rw [bm_up_at, bm_up_nk _ _ (by omega), bm_up_at]
        · rw [bm_up_nk _ _ (by omega), bm_up_ni _ _ ej, bm_up_ni _ _ (by omega), bm_up_nk _ _ (by omega)]
          exact d7 j hj
      · rw [bm_up_nk _ _ (by omega), bm_up_nk _ _ (by omega), bm_up_ni _ _ (by omega), bm_up_nk _ _ (by omega)]
        exact d7 j hj
def ab_jd (sh : Nat → Int32) (a : ab_T) : Nat → Nat → Nat
  | 0, _ => 0
  | i + 1, j => bif decide (j < 12) then (bif decide (sh j = nI (a 2 j)) then ab_jd sh a i (j + 1) else j + 1) else j + 1
theorem op_judge (X : bm_X) (p : Int32) : ab_op X 118 151 [.ref 0, .int p, .null] [.ref 45, .int p, .null, .null] := by
  intro T σ hR hT
  obtain ⟨a, ka, kp, tl, h1, h2, h3, h4, h5⟩ := id hR
  obtain ⟨hH, hS, hG, hP, hh⟩ := id h1
  cases g1 : bm_rg p 0 3
  · refine ⟨bm_lw 0, bm_tl 0 σ, bm_fo 0 (bm_tl 0 σ), ?_, ?_, hR.tell (by omega) (by decide)⟩
    · rw [bb_118_0, bs_c68', bm_bI_some, bm_cond_bi, g1, cond_false, bs_tell X _ (by decide), bm_bI_some]
    · rw [bb_151_0, bs_lacks0 X _ g1, bm_bI_some, bn_lt0 (by decide), cond_false, bs_finds X _ (by decide), bm_bI_some]
  obtain ⟨s, hs, -, rfl⟩ := bm_rg_ex (n := 3) g1
  have hs4 : s < 4 := by omega
  obtain ⟨b, z, hb, hz, c1, c2, c3, c4, c5⟩ := h4 s hs4
  have hb64 : b < 64 := by omega
  by_cases e0 : b = 0
  · have q : bm_tl 5 σ 51 s = nI b := by
      rw [← c2]
      exact bm_up_nk _ _ (by decide)
    refine ⟨bm_lw 5, bm_tl 5 σ, bm_fo 5 (bm_tl 5 σ), ?_, ?_, hR.tell (by omega) (by decide)⟩
    · rw [bb_118_0, bs_c68', bm_bI_some, bm_cond_bi, g1, cond_true, bn_inT hs4 (by decide), bm_gd_t, bn_clamp (by omega), c1, bn_eq0 (by omega), decide_eq_true e0, cond_true, bs_tell X _ (by decide), bm_bI_some]
    · rw [bb_151_0, bs_lacks1 X _ hs hb64 q, decide_eq_true e0, cond_true, bm_bI_some, bn_lt0 (by decide), cond_false, bs_finds X _ (by decide), bm_bI_some]
  have cl : ∀ i j, j + i = z → bm_ev X 118 18 [.ref 0, .int (nI s), .int (nI j)] [] σ = some (.int (nI (ab_jd (σ (37 + s)) a i j)), σ) := by
    intro i
    induction i with
    | zero =>
      intro j e
      rw [bb_118_18, bn_inT hs4 (by decide), bm_gd_t, bn_clamp (by omega), c3, bn_lt (by omega) (by omega), decide_eq_false (by omega), cond_false]
      rfl
    | succ i ih =>
      intro j e
      rw [bb_118_18, bn_inT hs4 (by decide), bm_gd_t, bn_clamp (show s < 2147483648 by omega), c3, bn_lt (by omega) (by omega), decide_eq_true (by omega), cond_true, bn_lt (by omega) (by decide), bm_gd_t, ab_a37 hs4, bn_inT (by omega) (by decide), bm_gd_t, bn_clamp (show j < 2147483648 by omega), bn_add, bn_add, ih (j + 1) (by omega)]
      rw [ab_jd]
      by_cases c : j < 12
      · have e3 : σ 3 j = nI (a 2 j) := hH 2 j (ab_w2 c)
        rw [decide_eq_true c, cond_true, cond_true, bn_inT c (by decide), bm_gd_t, e3, Nat.add_comm 1 j]
        cases decide (σ (37 + s) j = nI (a 2 j)) <;> rfl
      · rw [decide_eq_false c, cond_false, cond_false, Nat.add_comm 1 j]
  have ml : ∀ i j u, j + i = z → bm_ev X 151 12 [.ref 45, .int (nI s), u, .int (nI j)] [] σ = some (.int (nI (ab_jd (σ (37 + s)) a i j)), σ) := by
    intro i
    induction i with
    | zero =>
      intro j u e
      rw [bb_151_12, bn_inT hs4 (by decide), bm_gd_t, bn_clamp (by omega), c4, bn_lt (by omega) (by omega), decide_eq_false (by omega), cond_false, bb_151_38, bn_inT hs4 (by decide), bm_gd_t, bn_clamp (by omega), c4, bn_eq (by omega) (by omega), decide_eq_true (by omega), cond_true]
      rfl
    | succ i ih =>
      intro j u e
      have e38 : bm_ev X 151 38 [.ref 45, .int (nI s), u, .int (nI j)] [] σ = some (.int (nI (j + 1)), σ) := by
        rw [bb_151_38, bn_inT hs4 (by decide), bm_gd_t, bn_clamp (by omega), c4, bn_eq (by omega) (by omega), decide_eq_false (by omega), cond_false, bn_add]
      rw [bb_151_12, bn_inT hs4 (by decide), bm_gd_t, bn_clamp (show s < 2147483648 by omega), c4, bn_lt (by omega) (by omega), decide_eq_true (by omega), cond_true, bn_lt (by omega) (by decide), e38, bn_mul, bn_add, bn_add, bn_inT (show 40 * s + j < 160 by omega) (by decide), bn_clamp (show 40 * s + j < 2147483648 by omega), bn_add, ih (j + 1) u (by omega), ← c5 j (by omega)]
      rw [ab_jd]
      by_cases c : j < 12
      · have e3 : σ 46 (17 + j) = nI (a 2 j) := hS 2 j (ab_w2 c)
        have ecm : decide (nI (a 2 j) = σ (37 + s) j) = decide (σ (37 + s) j = nI (a 2 j)) := decide_eq_decide.mpr ⟨Eq.symm, Eq.symm⟩
        rw [decide_eq_true c, cond_true, cond_true, bn_inT (by omega) (by decide), bm_gd_t, bm_gd_t, bn_clamp (by omega), e3, ecm]
        cases decide (σ (37 + s) j = nI (a 2 j)) <;> rfl
      · rw [decide_eq_false c, cond_false, cond_false]
  refine ⟨nI (ab_jd (σ (37 + s)) a z 0), σ, σ, ?_, ?_, hR.junk (by omega) ab_K.rf⟩
  · rw [bb_118_0, bs_c68', bm_bI_some, bm_cond_bi, g1, cond_true, bn_inT hs4 (by decide), bm_gd_t, bn_clamp (by omega), c1, bn_eq0 (by omega), decide_eq_false e0, cond_false]
    exact cl z 0 (by omega)
  · rw [bb_151_0, bs_lacks1 X _ hs hb64 c2, decide_eq_false e0, cond_false, bm_bI_some, decide_eq_true (by decide), cond_true]
    exact ml z 0 _ (by omega)
