/-! change, now, hold, as, status, count, pair -/
/-- the most that a trait may be -/
def ab_mo (w : Nat) : Nat := match w with
  | 0 => 6
  | 1 => 11
  | 2 => 11
  | 3 => 9
  | 4 => 999
  | 5 => 9999
  | _ => 1
theorem ab_rv58 (X : bm_X) {w : Nat} (hw : w ≤ 6) : bm_rv X 58 w = nI (ab_mo w) := by
  rcases (show w = 0 ∨ w = 1 ∨ w = 2 ∨ w = 3 ∨ w = 4 ∨ w = 5 ∨ w = 6 by omega) with rfl | rfl | rfl | rfl | rfl | rfl | rfl <;> rfl
theorem ab_mo_lt (w : Nat) : ab_mo w < 10000 := by
  unfold ab_mo
  split <;> decide
theorem ab_mo_ok {w v : Nat} (hw : w ≤ 6) (i : Nat) (h : v ≤ ab_mo w) : ab_ok (4 + w) i v := by
  rcases (show w = 0 ∨ w = 1 ∨ w = 2 ∨ w = 3 ∨ w = 4 ∨ w = 5 ∨ w = 6 by omega) with rfl | rfl | rfl | rfl | rfl | rfl | rfl <;> exact h
theorem bs_mayBe (X : bm_X) (σ : bm_M) (p v : Int32) : bm_ev X 128 0 [.int p, .int v] [] σ = some (.int (bm_bi (bm_rg p 0 6 && bm_rg v 0 (ab_mo p.toNatClampNeg))), σ) := by
  have m9 : ∀ (x : Int32) (σ : bm_M), bm_ev X 32 0 [.long x.toInt64, .null, .long (lN 0), .null, .long (lN 9), .null] [] σ = some (.int (bm_bi (bm_rg x 0 9)), σ) := fun x σ => bs_inI X σ x (by decide) (by decide)
  have m999 : ∀ (x : Int32) (σ : bm_M), bm_ev X 32 0 [.long x.toInt64, .null, .long (lN 0), .null, .long (lN 999), .null] [] σ = some (.int (bm_bi (bm_rg x 0 999)), σ) := fun x σ => bs_inI X σ x (by decide) (by decide)
  have m9999 : ∀ (x : Int32) (σ : bm_M), bm_ev X 32 0 [.long x.toInt64, .null, .long (lN 0), .null, .long (lN 9999), .null] [] σ = some (.int (bm_bi (bm_rg x 0 9999)), σ) := fun x σ => bs_inI X σ x (by decide) (by decide)
  have m1 : ∀ (x : Int32) (σ : bm_M), bm_ev X 32 0 [.long x.toInt64, .null, .long (lN 0), .null, .long (lN 1), .null] [] σ = some (.int (bm_bi (bm_rg x 0 1)), σ) := fun x σ => bs_inI X σ x (by decide) (by decide)
  rw [bb_128_0]
  simp only [bs_m76, bs_m73, m9, m999, m9999, m1, bm_bI_some, bm_bo_bi, bm_gd_t, bm_cond_bi, bm_bo_0, bm_bo_1]
  cases g : bm_rg p 0 6
  · have hne : ∀ w : Nat, w ≤ 6 → decide (p = nI w) = false := by
      intro w hw
      apply decide_eq_false
      rintro rfl
      rw [bm_rg_nI (by omega)] at g
      have := of_decide_eq_false g
      omega
    rw [hne 0 (by decide), hne 1 (by decide), hne 2 (by decide), hne 3 (by decide), hne 4 (by decide), hne 5 (by decide), hne 6 (by decide)]
    rfl
  · obtain ⟨w, hw, hw2, rfl⟩ := bm_rg_ex (n := 6) g
    rw [bn_clamp hw2]
    rcases (show w = 0 ∨ w = 1 ∨ w = 2 ∨ w = 3 ∨ w = 4 ∨ w = 5 ∨ w = 6 by omega) with rfl | rfl | rfl | rfl | rfl | rfl | rfl
    · rw [bn_same]; rfl
    · rw [bn_ne (by decide) (by decide) (by decide), bn_same]; rfl
    · rw [bn_ne (by decide) (by decide) (by decide), bn_ne (by decide) (by decide) (by decide), bn_same]; rfl
    · rw [bn_ne (by decide) (by decide) (by decide), bn_ne (by decide) (by decide) (by decide), bn_ne (by decide) (by decide) (by decide), bn_same]; rfl
    · rw [bn_ne (by decide) (by decide) (by decide), bn_ne (by decide) (by decide) (by decide), bn_ne (by decide) (by decide) (by decide), bn_ne (by decide) (by decide) (by decide), bn_same]; rfl
    · rw [bn_ne (by decide) (by decide) (by decide), bn_ne (by decide) (by decide) (by decide), bn_ne (by decide) (by decide) (by decide), bn_ne (by decide) (by decide) (by decide), bn_ne (by decide) (by decide) (by decide), bn_same]; rfl
    · rw [bn_ne (by decide) (by decide) (by decide), bn_ne (by decide) (by decide) (by decide), bn_ne (by decide) (by decide) (by decide), bn_ne (by decide) (by decide) (by decide), bn_ne (by decide) (by decide) (by decide), bn_ne (by decide) (by decide) (by decide), bn_same]
      have e : bm_rg v 0 ((ab_mo 6 : Nat) : Int) = bm_rg v 0 1 := rfl
      rw [e]
      cases bm_rg v 0 1 <;> rfl
/-- a class's test of 0 to n - 1 -/
theorem bm_rg0 (x : Int32) {n : Nat} (hn : n < 2147483647) (A B : bm_R) : cond (decide (x < 0)) B (cond (decide (x < nI (n + 1))) A B) = cond (bm_rg x 0 n) A B := by
  have h0 : (0 : Int32).toInt = 0 := by decide
  rw [bm_lt_toInt, bm_lt_toInt, h0, bn_toInt (show n + 1 < 2147483648 by omega)]
  unfold bm_rg
  by_cases h1 : x.toInt < 0
  · have : ¬ (0 : Int) ≤ x.toInt := by omega
    simp [h1, this]
  · have e1 : (0 : Int) ≤ x.toInt := by omega
    by_cases h2 : x.toInt ≤ (n : Int)
    · have : x.toInt < (n : Int) + 1 := by omega
      simp [h1, h2, e1, this]
    · have : ¬ x.toInt < (n : Int) + 1 := by omega
      simp [h1, h2, e1, this]
theorem op_change (X : bm_X) (p w v : Int32) : ab_op X 58 146 [.ref 0, .int p, .int w, .int v, .null, .null] [.ref 45, .int p, .int w, .int v] := by
  intro T σ hR hT
  obtain ⟨a, ka, kp, tl, h1, h2, h3, h4, h5⟩ := id hR
  obtain ⟨hH, hS, hG, hP, hh⟩ := id h1
  have e7 : σ 1 7 = nI (a 0 7) := hH 0 7 rfl
  have e7m : σ 46 2 = nI (a 0 7) := hS 0 7 rfl
  have hc := hG.2.2.1
  have hb : ∀ A B : bm_R, cond (decide (w < 0)) B (cond (decide (w < nI (bm_rl X 58))) A B) = cond (bm_rg w 0 6) A B := fun A B => bm_rg0 w (n := 6) (by decide) A B
  have mt : bm_ev X 146 0 [.ref 45, .int p, .int w, .int v] [] (bm_tl 0 σ) = cond (bm_rg p 0 ((a 0 7 : Int) - 1)) (cond (bm_rg w 0 6 && bm_rg v 0 (ab_mo w.toNatClampNeg)) (bm_bI (bm_ev X 36 0 [.ref 45, .int (nI 29 + nI 7 * p + w), .int v, .null] [] (bm_tl 0 σ)) (fun v10 t9 => some (.int v10, t9))) (some (.int (bm_lw 0), bm_fo 0 (bm_tl 0 σ)))) (some (.int (bm_lw 0), bm_fo 0 (bm_tl 0 σ))) := by
    rw [bb_146_0, bs_isCowM X (σ := bm_tl 0 σ) e7m hc, bm_bI_some, bm_cond_bi, bs_mayBe, bm_bI_some, bm_cond_bi, bs_finds X _ (show 0 < 7 by decide), bm_bI_some]
  rw [bb_58_0]
  simp only [bs_isCow X e7 hc, bm_bI_some, bm_cond_bi, bs_tell X _ (show 0 < 7 by decide), hb]
  cases g1 : bm_rg p 0 ((a 0 7 : Int) - 1)
  · rw [g1, cond_false] at mt
    exact ⟨_, _, _, rfl, mt, hR.tell (by omega) (by decide)⟩
  · rw [g1, cond_true] at mt
    cases g2 : bm_rg w 0 6
    · rw [g2, Bool.false_and, cond_false] at mt
      exact ⟨_, _, _, rfl, mt, hR.tell (by omega) (by decide)⟩
    · obtain ⟨k, hk, -, rfl⟩ := bm_rgc_ex g1
      obtain ⟨x, hx, hx2, rfl⟩ := bm_rg_ex (n := 6) g2
      have hk8 : k < 8 := by omega
      have mo := ab_mo_lt x
      rw [g2, Bool.true_and, bn_clamp hx2] at mt
      simp only [cond_true]
      rw [show bm_rl X 58 = 7 from rfl, bn_inT (by omega) (by decide), bm_gd_t, bn_clamp hx2, ab_rv58 X hx, bs_upN X _ _ (by omega), bm_bI_some, bm_cond_bi]
      cases g3 : bm_rg v 0 (ab_mo x)
      · rw [g3, cond_false] at mt
        exact ⟨_, _, _, rfl, mt, hR.tell (by omega) (by decide)⟩
      · obtain ⟨y, hy, -, rfl⟩ := bm_rg_ex (n := ab_mo x) g3
        have hwd : ab_wd (4 + x) k = true := ab_w8 (by omega) (by omega) hk8
        have hly : ab_ly (4 + x) k = 29 + 7 * k + x := by
          unfold ab_ly
          split <;> omega
        have sR := ab_R.set h1 h2 h3 h4 h5 (T' := T + 60) (by omega) (c := 4 + x) (i := k) y hwd (ab_mo_ok hx k hy) (by omega) (by omega) (by omega)
        rw [hly, show 1 + (4 + x) = 1 + 4 + x by omega] at sR
        refine ⟨nI (a (4 + x) k), bm_up σ (1 + 4 + x) k (nI y), _, ?_, ?_, sR⟩
        · rw [cond_true, hc_trait X σ (Or.inl rfl) hx, bm_bA_some, ab_al8 (Or.inl rfl) hx, bn_inT hk8 (by decide), bm_gd_t, bm_gd_t, bn_clamp (by omega), hH.tr hx hk8]
        · have e8 : bm_up σ (1 + 4 + x) k (nI y) 46 2 = nI (a 0 7) := by rw [bm_up_nk _ _ (by omega)]; exact e7m
          rw [bb_146_0, bs_isCowM X e8 hc, bm_bI_some, bm_cond_bi, g1, cond_true, bs_mayBe, bm_bI_some, bm_cond_bi, g2, bn_clamp hx2, g3, Bool.true_and, cond_true, bn_mul, bn_add, bn_add, bs_becomes X _ _ (by omega), bm_bI_some, bm_up_nk _ _ (by omega)]
          have := hS (4 + x) k hwd
          rw [hly] at this
          rw [this]
theorem op_now (X : bm_X) (p : Int32) : ab_op X 59 130 [.ref 0, .int p] [.ref 45, .int p] := by
  intro T σ hR hT
  obtain ⟨a, ka, kp, tl, h1, h2, h3, h4, h5⟩ := id hR
  obtain ⟨hH, hS, hG, hP, hh⟩ := id h1
  have e5 : σ 1 5 = nI (a 0 5) := hH 0 5 rfl
  have e5m : σ 46 0 = nI (a 0 5) := hS 0 5 rfl
  have fin : ∀ x : Int32, bm_ev X 59 0 [.ref 0, .int p] [] σ = some (.int x, σ) → bm_ev X 130 0 [.ref 45, .int p] [] σ = some (.int x, σ) → ∃ (x : Int32) (τ τ' : bm_M), bm_ev X 59 0 [.ref 0, .int p] [] σ = some (.int x, τ) ∧ bm_ev X 130 0 [.ref 45, .int p] [] τ = some (.int x, τ') ∧ ab_R (T + 60) τ' := fun x q1 q2 => ⟨x, σ, σ, q1, q2, hR.junk (by omega) ab_K.rf⟩
  by_cases c0 : p = nI 0
  · refine fin (nI (a 0 5)) ?_ ?_
    · rw [bb_59_0, decide_eq_true c0, cond_true, e5]
    · rw [bb_130_0, decide_eq_true c0, cond_true, bn_inT (by decide) (by decide), bm_gd_t, bn_clamp (by decide), e5m]
  by_cases c1 : p = nI 1
  · refine fin (nI (ab_sum (a 2) 12)) ?_ ?_
    · rw [bb_59_0, decide_eq_false c0, cond_false, decide_eq_true c1, cond_true, hc_milk X (Or.inl rfl) hH hG (k := 0), bm_bI_some]
    · rw [bb_130_0, decide_eq_false c0, cond_false, decide_eq_true c1, cond_true, hm_pails X hS hG (k := 0), bm_bI_some]
  by_cases c2 : p = nI 2
  · refine fin (nI (ab_sum (a 9) (a 0 7))) ?_ ?_
    · rw [bb_59_0, decide_eq_false c0, cond_false, decide_eq_false c1, cond_false, decide_eq_true c2, cond_true, hc_rungs X (Or.inl rfl) hH hG (k := 0), bm_bI_some]
    · rw [bb_130_0, decide_eq_false c0, cond_false, decide_eq_false c1, cond_false, decide_eq_true c2, cond_true, hm_rungs X hS hG (k := 0), bm_bI_some]
  by_cases c3 : p = nI 3
  · refine fin (ab_or (ab_muf a) (a 0 7)) ?_ ?_
    · rw [bb_59_0, decide_eq_false c0, cond_false, decide_eq_false c1, cond_false, decide_eq_false c2, cond_false, decide_eq_true c3, cond_true, hc_muffled X (Or.inl rfl) hH hG (k := 0), bm_bI_some]
    · rw [bb_130_0, decide_eq_false c0, cond_false, decide_eq_false c1, cond_false, decide_eq_false c2, cond_false, decide_eq_true c3, cond_true, hm_muffled X hS hG (k := 0), bm_bI_some]
  by_cases c4 : p = nI 4
  · refine fin (nI (ab_sum (a 1) 12)) ?_ ?_
    · rw [bb_59_0, decide_eq_false c0, cond_false, decide_eq_false c1, cond_false, decide_eq_false c2, cond_false, decide_eq_false c3, cond_false, decide_eq_true c4, cond_true, hc_green X (Or.inl rfl) hH hG (k := 0), bm_bI_some]
    · rw [bb_130_0, decide_eq_false c0, cond_false, decide_eq_false c1, cond_false, decide_eq_false c2, cond_false, decide_eq_false c3, cond_false, decide_eq_true c4, cond_true, hm_green X hS hG (k := 0), bm_bI_some]
  by_cases c5 : p = nI 5
  · refine fin (ab_or (ab_grz a) (a 0 7)) ?_ ?_
    · rw [bb_59_0, decide_eq_false c0, cond_false, decide_eq_false c1, cond_false, decide_eq_false c2, cond_false, decide_eq_false c3, cond_false, decide_eq_false c4, cond_false, decide_eq_true c5, cond_true, hc_grazed X (Or.inl rfl) hH hG (k := 0), bm_bI_some]
    · rw [bb_130_0, decide_eq_false c0, cond_false, decide_eq_false c1, cond_false, decide_eq_false c2, cond_false, decide_eq_false c3, cond_false, decide_eq_false c4, cond_false, decide_eq_true c5, cond_true, hm_grazed X hS hG (k := 0), bm_bI_some]
  by_cases c6 : p = nI 6
  · refine fin (ab_or (ab_fld a) 12) ?_ ?_
    · rw [bb_59_0, decide_eq_false c0, cond_false, decide_eq_false c1, cond_false, decide_eq_false c2, cond_false, decide_eq_false c3, cond_false, decide_eq_false c4, cond_false, decide_eq_false c5, cond_false, decide_eq_true c6, cond_true, hc_filled X (Or.inl rfl) hH hG (k := 0), bm_bI_some]
    · rw [bb_130_0, decide_eq_false c0, cond_false, decide_eq_false c1, cond_false, decide_eq_false c2, cond_false, decide_eq_false c3, cond_false, decide_eq_false c4, cond_false, decide_eq_false c5, cond_false, decide_eq_true c6, cond_true, hm_filled X hS hG (k := 0), bm_bI_some]
  refine ⟨bm_lw 0, bm_tl 0 σ, bm_fo 0 (bm_tl 0 σ), ?_, ?_, hR.tell (by omega) (by decide)⟩
  · rw [bb_59_0, decide_eq_false c0, cond_false, decide_eq_false c1, cond_false, decide_eq_false c2, cond_false, decide_eq_false c3, cond_false, decide_eq_false c4, cond_false, decide_eq_false c5, cond_false, decide_eq_false c6, cond_false, bs_tell X _ (by decide), bm_bI_some]
  · rw [bb_130_0, decide_eq_false c0, cond_false, decide_eq_false c1, cond_false, decide_eq_false c2, cond_false, decide_eq_false c3, cond_false, decide_eq_false c4, cond_false, decide_eq_false c5, cond_false, decide_eq_false c6, cond_false, bs_finds X _ (by decide), bm_bI_some]
