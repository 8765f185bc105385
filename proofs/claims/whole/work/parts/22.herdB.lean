/-! the class's herd: what it tells -/
theorem hc_othersWith (X : bm_X) {o : Nat} (ho : bm_isH o) {σ : bm_M} {a : ab_T} (hH : ab_H o σ a) (hG : ab_G a) {k : Nat} (hk : k < a 0 7) : bm_ev X 2 0 [.ref o, .int (nI k), .null, .null] [] σ = some (.int (nI (ab_oth a k (a 0 7))), σ) := by
  rw [bb_2_0 _ _ _ ho]
  have hc := hG.2.2.1
  have := hc_others X ho hH hG (k := k) (by omega) (a 0 7) 0 (by omega)
  rw [show (-nI 1 : Int32) = nI (ab_cnt a k 0) - nI 1 from rfl, this, ab_cnt_oth, if_pos hk, bn_sub (by omega)]
  rfl
set_option maxHeartbeats 2000000 in
theorem hc_rings (X : bm_X) {o : Nat} (ho : bm_isH o) {σ : bm_M} {a : ab_T} (hH : ab_H o σ a) (hG : ab_G a) {k : Nat} (hk : k < a 0 7) : bm_ev X 53 0 [.ref o, .int (nI k), .null] [] σ = some (.int (nI (ab_rings a k)), σ) := by
  rw [bb_53_0 _ _ _ ho]
  have hc := hG.2.2.1
  have hk8 : k < 8 := by omega
  obtain ⟨b4, b5, b6, b7, b8, b9, b10⟩ := hG.2.2.2.2.2 k hk8
  have h4 := hH 4 k (ab_w8 (by decide) (by decide) hk8)
  have h5 := hH 5 k (ab_w8 (by decide) (by decide) hk8)
  have h7 := hH 7 k (ab_w8 (by decide) (by decide) hk8)
  have h8 := hH 8 k (ab_w8 (by decide) (by decide) hk8)
  have h1 := hH 1 (a 5 k) (ab_w1 (by omega))
  have b1 := hG.2.2.2.1 (a 5 k) (by omega)
  have ht := hH 0 4 rfl
  rw [Nat.add_zero] at ht
  have bt := hG.2.1
  have hoth := hc_othersWith X ho hH hG hk
  have bo := ab_oth_le a k (a 0 7)
  simp (disch := omega) only [bn_inT, bn_clamp, h4, h5, h7, h8, h1, ht, bm_gd_t, bn_eq, bn_div, bn_add, hoth, bm_bI_some, bn_max0]
  rcases (show a 4 k = 0 ∨ a 4 k = 1 ∨ a 4 k = 2 ∨ a 4 k = 3 ∨ a 4 k = 4 ∨ a 4 k = 5 ∨ a 4 k = 6 by omega) with h | h | h | h | h | h | h <;> simp [h, ab_rings, ab_plain]
theorem hc_eats (X : bm_X) {o : Nat} (ho : bm_isH o) {σ : bm_M} {a : ab_T} (hH : ab_H o σ a) (hG : ab_G a) {k : Nat} (hk : k < 8) : bm_ev X 3 0 [.ref o, .int (nI k)] [] σ = some (.int (nI (ab_eats a k)), σ) := by
  rw [bb_3_0 _ _ _ ho]
  obtain ⟨b4, -⟩ := hG.2.2.2.2.2 k hk
  have h4 := hH 4 k (ab_w8 (by decide) (by decide) hk)
  simp (disch := omega) only [bn_inT, bn_clamp, h4, bm_gd_t]
  rcases (show a 4 k = 0 ∨ a 4 k = 1 ∨ a 4 k = 2 ∨ a 4 k = 3 ∨ a 4 k = 4 ∨ a 4 k = 5 ∨ a 4 k = 6 by omega) with h | h | h | h | h | h | h <;> (rw [h, ab_eats, h]; rfl)
set_option maxHeartbeats 2000000 in
theorem hc_gives (X : bm_X) {o : Nat} (ho : bm_isH o) {σ : bm_M} {a : ab_T} (hH : ab_H o σ a) (hG : ab_G a) {k : Nat} (hk : k < 8) : bm_ev X 54 0 [.ref o, .int (nI k), .null, .null] [] σ = some (.int (nI (ab_gives a k)), σ) := by
  rw [bb_54_0 _ _ _ ho]
  obtain ⟨b4, b5, b6, b7, b8, b9, b10⟩ := hG.2.2.2.2.2 k hk
  have h4 := hH 4 k (ab_w8 (by decide) (by decide) hk)
  have h9 := hH 9 k (ab_w8 (by decide) (by decide) hk)
  simp (disch := omega) only [bn_inT, bn_clamp, h4, h9, bm_gd_t, bn_eq, bn_div, bn_add, bn_max0]
  rcases (show a 4 k = 0 ∨ a 4 k = 1 ∨ a 4 k = 2 ∨ a 4 k = 3 ∨ a 4 k = 4 ∨ a 4 k = 5 ∨ a 4 k = 6 by omega) with h | h | h | h | h | h | h <;> simp [h, ab_gives]
/-- who stands beside, as it is told -/
def ab_bv (a : ab_T) (k : Nat) : Int32 := if ab_bes a k 0 (a 0 7) < a 0 7 then nI (ab_bes a k 0 (a 0 7)) else -nI 1
