/-! AN HOUR of the reference -/
def ab_E (σ τ : bm_M) : Prop := (∀ q, q ≠ 46 → q ≠ 45 → τ q = σ q) ∧ ∀ i, i ≠ 5 → τ 45 i = σ 45 i
theorem ab_E.rf {σ : bm_M} : ab_E σ σ := ⟨fun _ _ _ => rfl, fun _ _ => rfl⟩
theorem ab_E.tr {σ τ ρ : bm_M} (h : ab_E σ τ) (h' : ab_E τ ρ) : ab_E σ ρ := ⟨fun q h1 h2 => (h'.1 q h1 h2).trans (h.1 q h1 h2), fun i hi => (h'.2 i hi).trans (h.2 i hi)⟩
theorem ab_N.E {σ τ : bm_M} (h : ab_N σ τ) : ab_E σ τ := ⟨fun q h1 _ => h q h1, fun i _ => by rw [h 45 (by decide)]⟩
theorem ab_E.go {σ τ : bm_M} (h : ab_E σ τ) (v : Int32) : ab_E σ (bm_up τ 45 5 v) := ⟨fun q h1 h2 => by rw [bm_up_ne τ 5 v h2]; exact h.1 q h1 h2, fun i hi => by rw [bm_up_ni τ v hi]; exact h.2 i hi⟩
theorem hm_wear (X : bm_X) {σ : bm_M} {a : ab_T} (hS : ab_S 46 σ a) (hG : ab_G a) {k : Nat} (hk : k < 8) (u2 u3 u4 : Value) : ∃ τ, bm_ev X 147 60 [.ref 45, .int (nI k), u2, u3, u4] [] σ = some (.null, τ) ∧ ab_S 46 τ (ab_wea a k) ∧ ab_N σ τ := by
  rw [bb_147_60]
  obtain ⟨-, -, -, -, b8, -⟩ := hG.2.2.2.2.2 k hk
  obtain ⟨τ, e1, e2, e3⟩ := hm_setsw X hS (k := k) (w := 4) (min 999 (a 8 k + 1)) (by decide) hk
  simp (disch := omega) only [hm_it4 X hS hG hk, bm_bI_some, bn_add, bn_min, e1, bm_bV_some]
  exact ⟨τ, rfl, e2, e3⟩
theorem hm_eatgo (X : bm_X) {σ : bm_M} {a : ab_T} (hS : ab_S 46 σ a) (hG : ab_G a) {k : Nat} (hk : k < 8) (u2 u3 u4 : Value) {g : Bool} (hg : σ 45 5 = bm_bi g) : ∃ τ, bm_ev X 147 19 [.ref 45, .int (nI k), u2, u3, u4] [] σ = some (.null, τ) ∧ ab_S 46 τ (ab_wea (if ab_sh a k = true then ab_wan (ab_sp2 a k) k else ab_sp2 a k) k) ∧ ab_E σ τ ∧ τ 45 5 = bm_bi (g || ab_sh a k) := by
  rw [bb_147_19]
  obtain ⟨-, b5, -⟩ := hG.2.2.2.2.2 k hk
  have h1 : σ 46 (5 + a 5 k) = nI (a 1 (a 5 k)) := hS 1 (a 5 k) (ab_w1 (by omega))
  have b1 := hG.2.2.2.1 (a 5 k) (by omega)
  have be := ab_eats_le a k
  have hu : ab_S 46 (bm_up σ 46 (5 + a 5 k) (nI (a 1 (a 5 k) - ab_eats a k))) (ab_sp2 a k) := hS.up (c := 1) (i := a 5 k) (a 1 (a 5 k) - ab_eats a k) (ab_w1 (by omega))
  have hG2 := hG.sp2 hk
  have hz1 : decide (nI 1 = 0) = false := by decide
  have hz0 : decide (nI 0 = 0) = true := by decide
  simp (disch := omega) only [hm_it1 X hS hG hk, hm_eats X hS hG hk, bm_bI_some, bn_add, bn_inT, bn_clamp, h1, bm_gd_t, bn_lt, bb_147_39, bn_max0, hz1, hz0, cond_true, cond_false, bm_bo_1]
  have hF2 : ab_N σ (bm_up σ 46 (5 + a 5 k) (nI (a 1 (a 5 k) - ab_eats a k))) := ab_N.rf.up _ _
  by_cases hs : ab_sh a k = true
  · have hs' : decide (a 1 (a 5 k) < ab_eats a k) = true := hs
    obtain ⟨τ, e1, e2, e3⟩ := hm_goesOn X hu hG2 hk
    simp only [hs', cond_true, e1, bm_bV_some, hs, if_true]
    obtain ⟨τ2, f1, f2, f3⟩ := hm_wear X (e2.ne 5 (nI 1) (show 46 ≠ 45 by decide)) (hG2.wan k) hk (.int (nI (5 + a 5 k))) (.int (nI (ab_eats a k))) (.int (nI 1))
    refine ⟨τ2, f1, f2, (((hF2.tr e3).E).go (nI 1)).tr f3.E, ?_⟩
    rw [f3 45 (by decide), bm_up_at]
    simp [bm_bi]
  · have hs' : decide (a 1 (a 5 k) < ab_eats a k) = false := by simpa [ab_sh] using hs
    have hs2 : ab_sh a k = false := by simpa using hs
    simp only [hs', cond_false, hs2, Bool.false_eq_true, if_false]
    obtain ⟨τ2, f1, f2, f3⟩ := hm_wear X hu hG2 hk (.int (nI (5 + a 5 k))) (.int (nI (ab_eats a k))) (.int (nI 0))
    refine ⟨τ2, f1, f2, (hF2.tr f3).E, ?_⟩
    rw [f3 45 (by decide), hF2 45 (by decide), hg]
    simp
theorem hm_spend1 (X : bm_X) {σ : bm_M} {a : ab_T} (hS : ab_S 46 σ a) (hG : ab_G a) {k : Nat} (hk : k < 8) {g : Bool} (hg : σ 45 5 = bm_bi g) : ∃ τ, bm_ev X 147 0 [.ref 45, .int (nI k), .null, .null, .null] [] σ = some (.null, τ) ∧ ab_S 46 τ (ab_spend a k) ∧ ab_E σ τ ∧ τ 45 5 = bm_bi (g || ab_sh a k) := by
  rw [bb_147_0]
  obtain ⟨-, -, -, -, -, b9, b10⟩ := hG.2.2.2.2.2 k hk
  have br := ab_rings_le hG hk
  by_cases e : a 10 k = 0
  · have hs1 : ab_sp1 a k = ab_set a 9 k (min 9999 (a 9 k + ab_rings a k)) := if_pos e
    obtain ⟨τ, e1, e2, e3⟩ := hm_setsw X hS (k := k) (w := 5) (min 9999 (a 9 k + ab_rings a k)) (by decide) hk
    have e2 : ab_S 46 τ (ab_set a 9 k (min 9999 (a 9 k + ab_rings a k))) := e2
    rw [← hs1] at e2
    simp (disch := omega) only [hm_it6 X hS hG hk, hm_it5 X hS hG hk, hm_rings X hS hG hk, bm_bI_some, bn_eq0, e, decide_true, cond_true, bn_add, bn_min, e1, bm_bV_some]
    obtain ⟨τ2, f1, f2, f3, f4⟩ := hm_eatgo X e2 (hG.sp1 k) hk .null .null .null (g := g) (by rw [e3 45 (by decide)]; exact hg)
    rw [ab_sh_sp1] at f2 f4
    exact ⟨τ2, f1, f2, e3.E.tr f3, f4⟩
  · have hs1 : ab_sp1 a k = a := if_neg e
    simp (disch := omega) only [hm_it6 X hS hG hk, bm_bI_some, bn_eq0, e, decide_false, cond_false]
    obtain ⟨τ2, f1, f2, f3, f4⟩ := hm_eatgo X hS hG hk .null .null .null hg
    refine ⟨τ2, f1, ?_, f3, f4⟩
    unfold ab_spend
    rw [hs1]
    exact f2
theorem hm_spends (X : bm_X) {a : ab_T} (hG : ab_G a) : ∀ (n j : Nat) (σ : bm_M), j + n = a 0 7 → ab_S 46 σ (ab_sp a j) → σ 45 5 = bm_bi (ab_wn a j) → ∃ τ, bm_ev X 160 5 [.ref 45, .int (nI j)] [] σ = bm_ev X 160 18 [.ref 45, .int (nI 0)] [] τ ∧ ab_S 46 τ (ab_sp a (a 0 7)) ∧ ab_E σ τ ∧ τ 45 5 = bm_bi (ab_wand a) := by
  intro n
  induction n with
  | zero =>
    intro j σ hj hS hg
    rw [bb_160_5]
    have h7 : σ 46 2 = nI (ab_sp a j 0 7) := hS 0 7 rfl
    rw [ab_sp_0] at h7
    have hc := hG.2.2.1
    rw [show j = a 0 7 by omega] at hS hg ⊢
    simp (disch := omega) only [bn_inT, bn_clamp, h7, bm_gd_t, bn_lt, Nat.lt_irrefl, decide_false, cond_false]
    exact ⟨σ, rfl, hS, ab_E.rf, hg⟩
  | succ n ih =>
    intro j σ hj hS hg
    rw [bb_160_5]
    have h7 : σ 46 2 = nI (ab_sp a j 0 7) := hS 0 7 rfl
    rw [ab_sp_0] at h7
    have hc := hG.2.2.1
    have hj' : decide (j < a 0 7) = true := decide_eq_true (by omega)
    obtain ⟨τ, e1, e2, e3, e4⟩ := hm_spend1 X hS (hG.sp j (by omega)) (k := j) (by omega) hg
    simp (disch := omega) only [bn_inT, bn_clamp, h7, bm_gd_t, bn_lt, hj', cond_true, e1, bm_bV_some, bn_add]
    obtain ⟨τ2, f1, f2, f3, f4⟩ := ih (j + 1) τ (by omega) e2 e4
    exact ⟨τ2, f1, f2, e3.tr f3, f4⟩
theorem hm_grow (X : bm_X) {a : ab_T} (hG : ab_G a) : ∀ (n j : Nat) (σ : bm_M), j + n = 12 → ab_S 46 σ (ab_gr a j) → ∃ τ, bm_ev X 160 18 [.ref 45, .int (nI j)] [] σ = bm_ev X 160 18 [.ref 45, .int (nI 12)] [] τ ∧ ab_S 46 τ (ab_gr a 12) ∧ ab_N σ τ := by
  intro n
  induction n with
  | zero =>
    intro j σ hj hS
    rw [show j = 12 by omega] at hS ⊢
    exact ⟨σ, rfl, hS, ab_N.rf⟩
  | succ n ih =>
    intro j σ hj hS
    rw [bb_160_18]
    have h1 : σ 46 (5 + j) = nI (ab_gr a j 1 j) := hS 1 j (ab_w1 (by omega))
    have h3 : σ 46 3 = nI (ab_gr a j 0 3) := hS 0 3 rfl
    have b1 := (hG.gr j).2.2.2.1 j (by omega)
    have b3 := (hG.gr j).1
    have hj' : decide (j < 12) = true := decide_eq_true (by omega)
    simp (disch := omega) only [bn_lt, hj', cond_true, bn_add, bn_inT, bn_clamp, h1, h3, bm_gd_t, bn_min]
    obtain ⟨τ, e1, e2, e3⟩ := ih (j + 1) (bm_up σ 46 (5 + j) (nI (min 99 (ab_gr a j 1 j + ab_gr a j 0 3)))) (by omega) (hS.up (c := 1) (i := j) _ (ab_w1 (by omega)))
    exact ⟨τ, e1, e2, (ab_N.rf.up _ _).tr e3⟩
theorem bn_m1_lt : decide ((-nI 1 : Int32) < 0) = true := by decide
theorem hm_milk1 (X : bm_X) {σ : bm_M} {a : ab_T} (hS : ab_S 46 σ a) (hG : ab_G a) {k : Nat} (hk : k < 8) : ∃ τ, bm_ev X 129 0 [.ref 45, .int (nI k), .null, .null, .null, .null] [] σ = some (.null, τ) ∧ ab_S 46 τ (ab_mk1 a k) ∧ ab_N σ τ := by
  rw [bb_129_0]
  have ht : σ 46 4 = nI (a 0 4) := hS 0 4 rfl
  have hc := hG.2.2.1
  have bt := hG.2.1
  have bg := ab_gives_le hG hk
  have hgm : ab_gives a k * a 0 4 ≤ 3752 * 99 := Nat.mul_le_mul bg bt
  have hgl : ab_gives a k * a 0 4 / 100 ≤ ab_gives a k := by
    have : ab_gives a k * a 0 4 ≤ ab_gives a k * 100 := Nat.mul_le_mul_left _ (by omega)
    omega
  have hl : ab_left a k ≤ 3752 := by unfold ab_left; omega
  obtain ⟨-, c5, c6, -⟩ := hG.2.2.2.2.2 k hk
  simp (disch := omega) only [hm_gives X hS hG hk, hm_beside X hS hG hk, bm_bI_some, bn_inT, bn_clamp, bm_gd_t, ht, bn_mul, bn_div, bn_sub]
  have hlw : ab_gives a k - ab_gives a k * a 0 4 / 100 = ab_left a k := rfl
  simp only [hlw]
  by_cases hbes : ab_b a k < a 0 7
  · have hb8 : ab_b a k < 8 := by omega
    obtain ⟨-, d5, d6, -⟩ := hG.2.2.2.2.2 _ hb8
    obtain ⟨τ1, g1, g2, g3⟩ := hm_fills X hS hG (k := (a 6 k + a 6 (ab_b a k)) % 12) (v := ab_left a k / 3) (by omega) (by omega)
    simp (disch := omega) only [hbes, if_true, bn_lt0, cond_false, bb_129_26, hm_it2 X hS hG hk, hm_it2 X hS hG hb8, bm_bI_some, bn_add, bn_rem, g1, bm_bV_some]
    rw [bb_129_43]
    have h6s : ab_fill a ((a 6 k + a 6 (ab_b a k)) % 12) (ab_left a k / 3) 6 k = a 6 k := ab_set_nc _ _ (by decide)
    have i2 := hm_it2 X g2 (hG.fill _ _) hk
    rw [h6s] at i2
    obtain ⟨τ2, k1, k2, k3⟩ := hm_fills X g2 (hG.fill _ _) (k := a 6 k) (v := ab_left a k - ab_left a k / 3) (by omega) (by omega)
    obtain ⟨τ3, l1, l2, l3⟩ := hm_setsw X k2 (k := k) (w := 5) 0 (by decide) hk
    simp (disch := omega) only [i2, bm_bI_some, bn_sub, k1, bm_bV_some, l1]
    refine ⟨τ3, rfl, ?_, (g3.tr k3).tr l3⟩
    unfold ab_mk1
    rw [if_pos hbes]
    exact l2
  · simp (disch := omega) only [hbes, if_false, bn_m1_lt, cond_true, bb_129_26]
    rw [bb_129_43]
    obtain ⟨τ2, k1, k2, k3⟩ := hm_fills X hS hG (k := a 6 k) (v := ab_left a k) (by omega) (by omega)
    obtain ⟨τ3, l1, l2, l3⟩ := hm_setsw X k2 (k := k) (w := 5) 0 (by decide) hk
    simp (disch := omega) only [hm_it2 X hS hG hk, bm_bI_some, bn_sub, Nat.sub_zero, k1, bm_bV_some, l1]
    refine ⟨τ3, rfl, ?_, k3.tr l3⟩
    unfold ab_mk1
    rw [if_neg hbes]
    exact l2
theorem hm_milks (X : bm_X) {a : ab_T} (hG : ab_G a) (h6 : a 0 5 % 6 = 0) (hh : a 0 5 < 1000000) : ∀ (n j : Nat) (σ : bm_M), j + n = a 0 7 → ab_S 46 σ (ab_mk a j) → ∃ τ, bm_ev X 160 52 [.ref 45, .int (nI j)] [] σ = some (.null, τ) ∧ ab_S 46 τ (ab_mk a (a 0 7)) ∧ ab_N σ τ := by
  intro n
  induction n with
  | zero =>
    intro j σ hj hS
    rw [bb_160_52]
    have h7 : σ 46 2 = nI (ab_mk a j 0 7) := hS 0 7 rfl
    rw [ab_mk_ne _ _ _ (by decide) (by decide)] at h7
    have hc := hG.2.2.1
    rw [show j = a 0 7 by omega] at hS ⊢
    simp (disch := omega) only [bn_inT, bn_clamp, h7, bm_gd_t, bn_lt, Nat.lt_irrefl, decide_false, cond_false]
    exact ⟨σ, rfl, hS, ab_N.rf⟩
  | succ n ih =>
    intro j σ hj hS
    rw [bb_160_52]
    have h7 : σ 46 2 = nI (ab_mk a j 0 7) := hS 0 7 rfl
    rw [ab_mk_ne _ _ _ (by decide) (by decide)] at h7
    have h5 : σ 46 0 = nI (ab_mk a j 0 5) := hS 0 5 rfl
    rw [ab_mk_ne _ _ _ (by decide) (by decide)] at h5
    have hc := hG.2.2.1
    have hj' : decide (j < a 0 7) = true := decide_eq_true (by omega)
    obtain ⟨τ, e1, e2, e3⟩ := hm_milk1 X hS (hG.mk j) (k := j) (by omega)
    simp (disch := omega) only [bn_inT, bn_clamp, h7, h5, bm_gd_t, bn_lt, hj', cond_true, bn_rem, bn_eq0, h6, decide_true, e1, bm_bV_some, bn_add]
    obtain ⟨τ2, f1, f2, f3⟩ := ih (j + 1) τ (by omega) e2
    exact ⟨τ2, f1, f2, e3.tr f3⟩
theorem hm_hour (X : bm_X) {σ : bm_M} {a : ab_T} (hS : ab_S 46 σ a) (hG : ab_G a) (hh : a 0 5 < 999999) : ∃ τ, bm_ev X 160 0 [.ref 45, .null] [] σ = some (.null, τ) ∧ ab_S 46 τ (ab_hr a) ∧ ab_E σ τ ∧ τ 45 5 = bm_bi (ab_wand a) := by
  rw [bb_160_0, bm_bo_0, bm_gd_t]
  have hc := hG.2.2.1
  obtain ⟨τ1, e1, e2, e3, e4⟩ := hm_spends X hG (a 0 7) 0 (bm_up σ 45 5 (nI 0)) (by omega) (hS.ne 5 (nI 0) (by decide)) (by rw [bm_up_at]; rfl)
  rw [e1]
  have hG1 := hG.sp (a 0 7) hc
  obtain ⟨τ2, f1, f2, f3⟩ := hm_grow X hG1 12 0 τ1 (by omega) e2
  rw [f1, bb_160_18]
  have h5 : τ2 46 0 = nI (ab_gr (ab_sp a (a 0 7)) 12 0 5) := f2 0 5 rfl
  rw [ab_gr_ne _ _ _ (by decide), ab_sp_0] at h5
  have hz : decide (nI 12 < nI 12) = false := by decide
  have ht : ab_set (ab_gr (ab_sp a (a 0 7)) 12) 0 5 (a 0 5 + 1) = ab_tick (ab_gr (ab_sp a (a 0 7)) 12) := by
    unfold ab_tick
    rw [ab_gr_ne _ _ _ (by decide), ab_sp_0]
  have hS3 : ab_S 46 (bm_up τ2 46 0 (nI (a 0 5 + 1))) (ab_tick (ab_gr (ab_sp a (a 0 7)) 12)) := by
    rw [← ht]
    exact f2.up (c := 0) (i := 5) (a 0 5 + 1) rfl
  have hE3 : ab_E σ (bm_up τ2 46 0 (nI (a 0 5 + 1))) := ((ab_E.rf.go _).tr e3).tr (f3.up _ _).E
  have hg3 : bm_up τ2 46 0 (nI (a 0 5 + 1)) 45 5 = bm_bi (ab_wand a) := by
    rw [bm_up_nk _ _ (by decide), f3 45 (by decide)]
    exact e4
  simp (disch := omega) only [hz, cond_false, bn_inT, bn_clamp, bm_gd_t, h5, bn_add]
  have h50 : ab_tick (ab_gr (ab_sp a (a 0 7)) 12) 0 5 = a 0 5 + 1 := by rw [← ht, ab_set_self]
  have h70 : ab_tick (ab_gr (ab_sp a (a 0 7)) 12) 0 7 = a 0 7 := by
    unfold ab_tick
    rw [ab_set_ni _ _ (by decide), ab_gr_ne _ _ _ (by decide), ab_sp_0]
  by_cases h6 : (a 0 5 + 1) % 6 = 0
  · obtain ⟨τ4, g1, g2, g3⟩ := hm_milks X ((hG1.gr 12).tick) (by rw [h50]; exact h6) (by rw [h50]; omega) (a 0 7) 0 _ (by rw [h70]; omega) hS3
    refine ⟨τ4, g1, ?_, hE3.tr g3.E, by rw [g3 45 (by decide)]; exact hg3⟩
    unfold ab_hr
    rw [if_pos h6]
    rw [h70] at g2
    exact g2
  · refine ⟨_, ?_, ?_, hE3, hg3⟩
    · rw [bb_160_52]
      have h7 : bm_up τ2 46 0 (nI (a 0 5 + 1)) 46 2 = nI (a 0 7) := by
        have := hS3 0 7 rfl
        rw [h70] at this
        exact this
      have h5' : bm_up τ2 46 0 (nI (a 0 5 + 1)) 46 0 = nI (a 0 5 + 1) := bm_up_at _ _ _ _
      simp (disch := omega) only [bn_inT, bn_clamp, h7, h5', bm_gd_t, bn_lt, bn_rem, bn_eq0, h6, decide_false, cond_false]
      cases decide (0 < a 0 7) <;> rfl
    · unfold ab_hr
      rw [if_neg h6]
      exact hS3
theorem hm_hoursl (X : bm_X) {a : ab_T} (hG : ab_G a) {m : Nat} (hm : m ≤ 1000) (hh : a 0 5 + m ≤ 99999) : ∀ (n j : Nat) (σ : bm_M), j + n = m → ab_S 46 σ (ab_hs a j) → ∃ τ, bm_ev X 175 2 [.ref 45, .int (nI m), .int (nI j)] [] σ = some (.null, τ) ∧ ab_S 46 τ (ab_hs a m) ∧ ab_E σ τ := by
  intro n
  induction n with
  | zero =>
    intro j σ hj hS
    rw [bb_175_2]
    rw [show j = m by omega] at hS ⊢
    simp (disch := omega) only [bn_lt, Nat.lt_irrefl, decide_false, cond_false]
    exact ⟨σ, rfl, hS, ab_E.rf⟩
  | succ n ih =>
    intro j σ hj hS
    rw [bb_175_2]
    obtain ⟨τ, e1, e2, e3, -⟩ := hm_hour X hS (hG.hs j) (by rw [ab_hs_hour]; omega)
    have hj' : decide (j < m) = true := decide_eq_true (by omega)
    simp (disch := omega) only [bn_lt, hj', cond_true, e1, bm_bV_some, bn_add]
    obtain ⟨τ2, f1, f2, f3⟩ := ih (j + 1) τ (by omega) e2
    exact ⟨τ2, f1, f2, e3.tr f3⟩
theorem hm_hours (X : bm_X) {σ : bm_M} {a : ab_T} (hS : ab_S 46 σ a) (hG : ab_G a) {m : Nat} (hm : m ≤ 1000) (hh : a 0 5 + m ≤ 99999) : ∃ τ, bm_ev X 175 0 [.ref 45, .int (nI m), .null] [] σ = some (.null, τ) ∧ ab_S 46 τ (ab_hs a m) ∧ ab_E σ τ := by
  rw [bb_175_0]
  exact hm_hoursl X hG hm hh m 0 σ (by omega) hS
