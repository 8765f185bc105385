/-! THE REFERENCE's herd -/
def ab_N (σ τ : bm_M) : Prop := ∀ q, q ≠ 46 → τ q = σ q
theorem ab_N.rf {σ : bm_M} : ab_N σ σ := fun _ _ => rfl
theorem ab_N.tr {σ τ ρ : bm_M} (h : ab_N σ τ) (h' : ab_N τ ρ) : ab_N σ ρ := fun q hq => (h' q hq).trans (h q hq)
theorem ab_N.up {σ τ : bm_M} (h : ab_N σ τ) (i : Nat) (v : Int32) : ab_N σ (bm_up τ 46 i v) := fun q hq => by
  rw [bm_up_ne τ i v hq]
  exact h q hq
theorem hm_itsw (X : bm_X) {σ : bm_M} {a : ab_T} (hS : ab_S 46 σ a) (hG : ab_G a) {k : Nat} {w : Nat} (hw : w < 7) (hk : k < 8) : bm_ev X 34 0 [.ref 45, .int (nI k), .int (nI w)] [] σ = some (.int (nI (a (w + 4) k)), σ) := by
  rw [bb_34_0]
  have h := hS (w + 4) k (ab_w8 (by omega) (by omega) hk)
  have hl : ab_ly (w + 4) k = 29 + 7 * k + w := by
    unfold ab_ly
    split <;> omega
  rw [hl] at h
  simp (disch := omega) only [bn_mul, bn_add, bn_inT, bn_clamp, h, bm_gd_t]
theorem hm_it0 (X : bm_X) {σ : bm_M} {a : ab_T} (hS : ab_S 46 σ a) (hG : ab_G a) {k : Nat} (hk : k < 8) : bm_ev X 34 0 [.ref 45, .int (nI k), .int (nI 0)] [] σ = some (.int (nI (a 4 k)), σ) := hm_itsw X hS hG (by decide) hk
theorem hm_it1 (X : bm_X) {σ : bm_M} {a : ab_T} (hS : ab_S 46 σ a) (hG : ab_G a) {k : Nat} (hk : k < 8) : bm_ev X 34 0 [.ref 45, .int (nI k), .int (nI 1)] [] σ = some (.int (nI (a 5 k)), σ) := hm_itsw X hS hG (by decide) hk
theorem hm_it2 (X : bm_X) {σ : bm_M} {a : ab_T} (hS : ab_S 46 σ a) (hG : ab_G a) {k : Nat} (hk : k < 8) : bm_ev X 34 0 [.ref 45, .int (nI k), .int (nI 2)] [] σ = some (.int (nI (a 6 k)), σ) := hm_itsw X hS hG (by decide) hk
theorem hm_it3 (X : bm_X) {σ : bm_M} {a : ab_T} (hS : ab_S 46 σ a) (hG : ab_G a) {k : Nat} (hk : k < 8) : bm_ev X 34 0 [.ref 45, .int (nI k), .int (nI 3)] [] σ = some (.int (nI (a 7 k)), σ) := hm_itsw X hS hG (by decide) hk
theorem hm_it4 (X : bm_X) {σ : bm_M} {a : ab_T} (hS : ab_S 46 σ a) (hG : ab_G a) {k : Nat} (hk : k < 8) : bm_ev X 34 0 [.ref 45, .int (nI k), .int (nI 4)] [] σ = some (.int (nI (a 8 k)), σ) := hm_itsw X hS hG (by decide) hk
theorem hm_it5 (X : bm_X) {σ : bm_M} {a : ab_T} (hS : ab_S 46 σ a) (hG : ab_G a) {k : Nat} (hk : k < 8) : bm_ev X 34 0 [.ref 45, .int (nI k), .int (nI 5)] [] σ = some (.int (nI (a 9 k)), σ) := hm_itsw X hS hG (by decide) hk
theorem hm_it6 (X : bm_X) {σ : bm_M} {a : ab_T} (hS : ab_S 46 σ a) (hG : ab_G a) {k : Nat} (hk : k < 8) : bm_ev X 34 0 [.ref 45, .int (nI k), .int (nI 6)] [] σ = some (.int (nI (a 10 k)), σ) := hm_itsw X hS hG (by decide) hk
theorem hm_setsw (X : bm_X) {σ : bm_M} {a : ab_T} (hS : ab_S 46 σ a) {k w : Nat} (v : Nat) (hw : w < 7) (hk : k < 8) : ∃ τ, bm_ev X 35 0 [.ref 45, .int (nI k), .int (nI w), .int (nI v)] [] σ = some (.null, τ) ∧ ab_S 46 τ (ab_set a (w + 4) k v) ∧ ab_N σ τ := by
  rw [bb_35_0]
  have h := hS.up v (c := w + 4) (i := k) (ab_w8 (by omega) (by omega) hk)
  have hl : ab_ly (w + 4) k = 29 + 7 * k + w := by
    unfold ab_ly
    split <;> omega
  rw [hl] at h
  simp (disch := omega) only [bn_mul, bn_add, bn_inT, bn_clamp, bm_gd_t]
  exact ⟨_, rfl, h, ab_N.rf.up _ _⟩
theorem hm_othl (X : bm_X) {σ : bm_M} {a : ab_T} (hS : ab_S 46 σ a) (hG : ab_G a) {k : Nat} (hk : k < 8) : ∀ (n j : Nat), j + n = a 0 7 → bm_ev X 77 4 [.ref 45, .int (nI k), .int (nI (ab_oth a k j)), .int (nI j)] [] σ = some (.int (nI (ab_oth a k (a 0 7))), σ) := by
  intro n
  induction n with
  | zero =>
    intro j hj
    rw [bb_77_4]
    have h7 : σ 46 2 = nI (a 0 7) := hS 0 7 rfl
    have hc := hG.2.2.1
    rw [show j = a 0 7 by omega]
    simp (disch := omega) only [bn_inT, bn_clamp, h7, bm_gd_t, bn_lt, Nat.lt_irrefl, decide_false, cond_false]
  | succ n ih =>
    intro j hj
    rw [bb_77_4]
    have h7 : σ 46 2 = nI (a 0 7) := hS 0 7 rfl
    have hc := hG.2.2.1
    have hj8 : j < 8 := by omega
    obtain ⟨-, b5, -⟩ := hG.2.2.2.2.2 j hj8
    obtain ⟨-, c5, -⟩ := hG.2.2.2.2.2 k hk
    have hj' : decide (j < a 0 7) = true := decide_eq_true (by omega)
    simp (disch := omega) only [bn_inT, bn_clamp, h7, bm_gd_t, bn_lt, hj', cond_true, hm_it1 X hS hG hj8, hm_it1 X hS hG hk, bm_bI_some, bn_eq, bb_77_25, bb_77_26, bn_add]
    have := ih (j + 1) (by omega)
    simp only [ab_oth] at this
    by_cases e : j = k
    · simp [e] at this ⊢
      exact this
    · by_cases e2 : a 5 j = a 5 k
      · simp [e, e2] at this ⊢
        exact this
      · simp [e, e2] at this ⊢
        exact this
theorem hm_others (X : bm_X) {σ : bm_M} {a : ab_T} (hS : ab_S 46 σ a) (hG : ab_G a) {k : Nat} (hk : k < 8) : bm_ev X 77 0 [.ref 45, .int (nI k), .null, .null] [] σ = some (.int (nI (ab_oth a k (a 0 7))), σ) := by
  rw [bb_77_0]
  exact hm_othl X hS hG hk (a 0 7) 0 (by omega)
set_option maxHeartbeats 2000000 in
theorem hm_rings (X : bm_X) {σ : bm_M} {a : ab_T} (hS : ab_S 46 σ a) (hG : ab_G a) {k : Nat} (hk : k < 8) : bm_ev X 122 0 [.ref 45, .int (nI k), .null, .null] [] σ = some (.int (nI (ab_rings a k)), σ) := by
  rw [bb_122_0]
  have hc := hG.2.2.1
  obtain ⟨b4, b5, b6, b7, b8, b9, b10⟩ := hG.2.2.2.2.2 k hk
  have h1 : σ 46 (5 + a 5 k) = nI (a 1 (a 5 k)) := hS 1 (a 5 k) (ab_w1 (by omega))
  have b1 := hG.2.2.2.1 (a 5 k) (by omega)
  have ht : σ 46 4 = nI (a 0 4) := hS 0 4 rfl
  have bt := hG.2.1
  have bo := ab_oth_le a k (a 0 7)
  simp (disch := omega) only [hm_it0 X hS hG hk, hm_it1 X hS hG hk, hm_it3 X hS hG hk, hm_it4 X hS hG hk, hm_others X hS hG hk, bm_bI_some, bn_add, bn_inT, bn_clamp, h1, ht, bm_gd_t, bn_eq, bn_div, bn_max0]
  rcases (show a 4 k = 0 ∨ a 4 k = 1 ∨ a 4 k = 2 ∨ a 4 k = 3 ∨ a 4 k = 4 ∨ a 4 k = 5 ∨ a 4 k = 6 by omega) with h | h | h | h | h | h | h <;> simp [h, ab_rings, ab_plain]
theorem hm_eats (X : bm_X) {σ : bm_M} {a : ab_T} (hS : ab_S 46 σ a) (hG : ab_G a) {k : Nat} (hk : k < 8) : bm_ev X 78 0 [.ref 45, .int (nI k)] [] σ = some (.int (nI (ab_eats a k)), σ) := by
  rw [bb_78_0]
  obtain ⟨b4, -⟩ := hG.2.2.2.2.2 k hk
  simp (disch := omega) only [hm_it0 X hS hG hk, bm_bI_some, bn_eq]
  rcases (show a 4 k = 0 ∨ a 4 k = 1 ∨ a 4 k = 2 ∨ a 4 k = 3 ∨ a 4 k = 4 ∨ a 4 k = 5 ∨ a 4 k = 6 by omega) with h | h | h | h | h | h | h <;> simp [h, ab_eats]
set_option maxHeartbeats 2000000 in
theorem hm_gives (X : bm_X) {σ : bm_M} {a : ab_T} (hS : ab_S 46 σ a) (hG : ab_G a) {k : Nat} (hk : k < 8) : bm_ev X 79 0 [.ref 45, .int (nI k), .null, .null, .null] [] σ = some (.int (nI (ab_gives a k)), σ) := by
  rw [bb_79_0]
  obtain ⟨b4, b5, b6, b7, b8, b9, b10⟩ := hG.2.2.2.2.2 k hk
  simp (disch := omega) only [hm_it0 X hS hG hk, hm_it5 X hS hG hk, bm_bI_some, bn_eq, bn_div, bn_add, bn_max0]
  rcases (show a 4 k = 0 ∨ a 4 k = 1 ∨ a 4 k = 2 ∨ a 4 k = 3 ∨ a 4 k = 4 ∨ a 4 k = 5 ∨ a 4 k = 6 by omega) with h | h | h | h | h | h | h <;> simp [h, ab_gives]
/-- downwards: what is kept when those from m on are seen -/
def ab_dn (a : ab_T) (k m : Nat) : Int32 := if ab_bes a k m (a 0 7 - m) < a 0 7 then nI (ab_bes a k m (a 0 7 - m)) else -nI 1
theorem hm_besl (X : bm_X) {σ : bm_M} {a : ab_T} (hS : ab_S 46 σ a) (hG : ab_G a) {k : Nat} (hk : k < 8) : ∀ m, m ≤ a 0 7 → bm_ev X 80 9 [.ref 45, .int (nI k), .int (ab_dn a k m), .int (nI m - nI 1)] [] σ = some (.int (ab_dn a k 0), σ) := by
  intro m
  induction m with
  | zero =>
    intro _
    rw [bb_80_9, show (nI 0 - nI 1 : Int32) = -nI 1 from by decide, show decide ((-nI 1 : Int32) < 0) = true from by decide]
    rfl
  | succ m ih =>
    intro hm
    have hc := hG.2.2.1
    have hm8 : m < 8 := by omega
    rw [bb_80_9, bn_sub (by omega), Nat.add_sub_cancel]
    obtain ⟨-, b5, b6, -⟩ := hG.2.2.2.2.2 m hm8
    obtain ⟨-, c5, c6, -⟩ := hG.2.2.2.2.2 k hk
    simp (disch := omega) only [bn_lt0, cond_false, hm_it1 X hS hG hm8, hm_it1 X hS hG hk, hm_it2 X hS hG hm8, hm_it2 X hS hG hk, bm_bI_some, bn_eq, bb_80_31, bb_80_32]
    have := ih (by omega)
    have hd : ab_dn a k m = if a 5 m = a 5 k ∧ ¬ a 6 m = a 6 k then nI m else ab_dn a k (m + 1) := by
      unfold ab_dn
      rw [show a 0 7 - m = (a 0 7 - (m + 1)) + 1 by omega, ab_bes]
      by_cases e : a 5 m = a 5 k ∧ ¬ a 6 m = a 6 k
      · rw [if_pos e, if_pos e, if_pos (by omega)]
      · rw [if_neg e, if_neg e]
    rw [hd] at this
    by_cases e1 : a 5 m = a 5 k
    · by_cases e2 : a 6 m = a 6 k
      · simp [e1, e2] at this ⊢
        exact this
      · simp [e1, e2] at this ⊢
        exact this
    · simp [e1] at this ⊢
      exact this
theorem hm_beside (X : bm_X) {σ : bm_M} {a : ab_T} (hS : ab_S 46 σ a) (hG : ab_G a) {k : Nat} (hk : k < 8) : bm_ev X 80 0 [.ref 45, .int (nI k), .null, .null] [] σ = some (.int (if ab_b a k < a 0 7 then nI (ab_b a k) else -nI 1), σ) := by
  rw [bb_80_0]
  have h7 : σ 46 2 = nI (a 0 7) := hS 0 7 rfl
  have hc := hG.2.2.1
  simp (disch := omega) only [bn_inT, bn_clamp, h7, bm_gd_t]
  have := hm_besl X hS hG hk (a 0 7) (Nat.le_refl _)
  have hd : ab_dn a k (a 0 7) = -nI 1 := by
    unfold ab_dn
    rw [Nat.sub_self, ab_bes, if_neg (by omega)]
  rw [hd] at this
  rw [this]
  rfl
theorem hm_goesOn (X : bm_X) {σ : bm_M} {a : ab_T} (hS : ab_S 46 σ a) (hG : ab_G a) {k : Nat} (hk : k < 8) : ∃ τ, bm_ev X 84 0 [.ref 45, .int (nI k)] [] σ = some (.null, τ) ∧ ab_S 46 τ (ab_wan a k) ∧ ab_N σ τ := by
  rw [bb_84_0]
  obtain ⟨-, b5, -⟩ := hG.2.2.2.2.2 k hk
  obtain ⟨τ, e1, e2, e3⟩ := hm_setsw X hS (k := k) (w := 1) ((a 5 k + 1) % 12) (by decide) hk
  simp (disch := omega) only [hm_it1 X hS hG hk, bm_bI_some, bn_add, bn_rem, e1, bm_bV_some]
  exact ⟨τ, rfl, e2, e3⟩
theorem hm_fills (X : bm_X) {σ : bm_M} {a : ab_T} (hS : ab_S 46 σ a) (hG : ab_G a) {k : Nat} {v : Nat} (hk : k < 12) (hv : v < 100000) : ∃ τ, bm_ev X 85 0 [.ref 45, .int (nI k), .int (nI v)] [] σ = some (.null, τ) ∧ ab_S 46 τ (ab_fill a k v) ∧ ab_N σ τ := by
  rw [bb_85_0]
  have h2 : σ 46 (17 + k) = nI (a 2 k) := hS 2 k (ab_w2 hk)
  have b2 := hG.2.2.2.2.1 k hk
  have hu := hS.up (c := 2) (i := k) (min 99999 (a 2 k + v)) (ab_w2 hk)
  have hu : ab_S 46 (bm_up σ 46 (17 + k) (nI (min 99999 (a 2 k + v)))) (ab_fill a k v) := hu
  simp (disch := omega) only [bn_add, bn_inT, bn_clamp, h2, bm_gd_t, bn_min]
  exact ⟨_, rfl, hu, ab_N.rf.up _ _⟩
