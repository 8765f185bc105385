/-! WORDS: lengths and letters -/
def tw_l (w : Nat) : Nat := bm_nth bm_rls (w + 20)
def tw_c (w i : Nat) : Nat := (bm_nth32 (bm_nthL bm_rvs (w + 20)) i).toNatClampNeg
theorem tw_facts : ∀ k, k < 15 → 1 ≤ tw_l (60 + k) ∧ tw_l (60 + k) ≤ 9 ∧ ∀ i, i < tw_l (60 + k) → tw_c (60 + k) i < 128 ∧ (k < 14 → 97 ≤ tw_c (60 + k) i ∧ tw_c (60 + k) i ≤ 122) ∧ (((bm_nth32 (bm_nthL bm_rvs (60 + k + 20)) i) &&& (nI 255)).toUInt32 % 65536).toInt32 = nI (tw_c (60 + k) i) := by decide +kernel
theorem bn_shr0 : ∀ l, l < 16 → bm_shr (nI l) (nI 0) = nI l := by decide
theorem tw_rl (X : bm_X) {w : Nat} (h : 60 ≤ w) : bm_rl X (w + 20) = tw_l w := by
  unfold bm_rl
  split
  · omega
  · rfl
theorem tw_rv (X : bm_X) {w : Nat} (h : 60 ≤ w) (i : Nat) : bm_rv X (w + 20) i = bm_nth32 (bm_nthL bm_rvs (w + 20)) i := by
  unfold bm_rv
  split
  · omega
  · rfl
theorem tw_st {w : Nat} (h : 60 ≤ w) (h' : w ≤ 74) : bm_st w = true := by
  unfold bm_st
  rw [Bool.and_eq_true, Nat.ble_eq, Nat.ble_eq]
  omega
theorem tw_sv {w : Nat} (h : 60 ≤ w) (h' : w ≤ 74) : bm_sv (w + 20) = true := by
  unfold bm_sv
  rw [Bool.and_eq_true, Nat.ble_eq, Nat.ble_eq]
  omega
theorem hs_len (X : bm_X) (σ : bm_M) {w : Nat} (h : 60 ≤ w) (h' : w ≤ 74) : bm_ev X 102 0 [.ref w] [] σ = some (.int (nI (tw_l w)), σ) := by
  obtain ⟨k, rfl⟩ : ∃ k, w = 60 + k := ⟨w - 60, by omega⟩
  have f := tw_facts k (by omega)
  rw [bb_102_0, tw_st h h', tw_sv h h', bm_gd_t, bm_gd_t, bm_gd_t, bb_49_0, tw_st h h', decide_eq_false (by decide), cond_false, bm_gd_t, show bm_by (nI 0) = true by decide, bm_gd_t, bm_bI_some, tw_rl X h, bn_shr0 _ (by omega)]
theorem hs_chr (X : bm_X) (σ : bm_M) {w i : Nat} (h : 60 ≤ w) (h' : w ≤ 74) (hi : i < tw_l w) : bm_ev X 152 0 [.ref w, .int (nI i)] [] σ = some (.int (nI (tw_c w i)), σ) := by
  obtain ⟨k, rfl⟩ : ∃ k, w = 60 + k := ⟨w - 60, by omega⟩
  obtain ⟨f1, f2, f3⟩ := tw_facts k (by omega)
  obtain ⟨q1, -, q2⟩ := f3 i hi
  have hch : bm_ch (nI (tw_c (60 + k) i)) = true := by
    unfold bm_ch
    rw [bn_lt0 (by omega), show (65536 : Int32) = nI 65536 by decide, bn_lt (by omega) (by decide), decide_eq_true (by omega)]
    rfl
  have e51 : bm_ev X 51 0 [.int (nI i), .int (nI (tw_l (60 + k))), .retAddr 0] [] σ = some (.int (nI i), σ) := by
    rw [bb_51_0, bn_lt0 (by omega), cond_false, bn_lt (by omega) (by omega), decide_eq_true hi, cond_true]
  have hin : bm_in (nI i) (tw_l (60 + k)) = true := by
    rw [bn_in (by omega)]
    exact decide_eq_true hi
  have e140 : bm_ev X 140 0 [.ref (60 + k + 20), .int (nI i)] [] σ = some (.int (nI (tw_c (60 + k) i)), σ) := by
    rw [bb_140_0, tw_sv h h', bm_gd_t, tw_rl X h, bb_101_0, e51, bm_bI_some, bm_bV_some, hin, Bool.and_self, bm_gd_t, tw_rv X h, bn_clamp (by omega), q2, hch, bm_gd_t]
  rw [bb_152_0, tw_st h h', bm_gd_t, bb_50_0, tw_st h h', decide_eq_false (show ¬ nI 1 = 0 by decide), cond_false, bm_gd_t, decide_eq_true (show nI 0 = 0 by decide), cond_true, bm_bo_1, bm_gd_t, bm_bI_some, decide_eq_false (show ¬ nI 1 = 0 by decide), cond_false, bm_gd_t, e140, bm_bI_some, hch, bm_gd_t]
