/-! AN HOUR of the class's herd -/
theorem hc_bes (X : bm_X) {o : Nat} (ho : bm_isH o) {σ : bm_M} {a : ab_T} (hH : ab_H o σ a) (hG : ab_G a) {k : Nat} (hk : k < 8) : ∀ (n j : Nat), j + n = a 0 7 → bm_ev X 4 2 [.ref o, .int (nI k), .int (nI j)] [] σ = some (.int (if ab_bes a k j n < a 0 7 then nI (ab_bes a k j n) else -nI 1), σ) := by
  intro n
  induction n with
  | zero =>
    intro j hj
    rw [bb_4_2 _ _ _ ho]
    have h7 := hH 0 7 rfl
    rw [Nat.add_zero] at h7
    have hc := hG.2.2.1
    simp (disch := omega) only [h7, bn_lt, ab_bes]
    rw [show j = a 0 7 by omega]
    simp
  | succ n ih =>
    intro j hj
    rw [bb_4_2 _ _ _ ho]
    have h7 := hH 0 7 rfl
    rw [Nat.add_zero] at h7
    have hc := hG.2.2.1
    have hj8 : j < 8 := by omega
    have h5 := hH 5 j (ab_w8 (by decide) (by decide) hj8)
    have h5k := hH 5 k (ab_w8 (by decide) (by decide) hk)
    have h6 := hH 6 j (ab_w8 (by decide) (by decide) hj8)
    have h6k := hH 6 k (ab_w8 (by decide) (by decide) hk)
    obtain ⟨-, b5, b6, -⟩ := hG.2.2.2.2.2 j hj8
    obtain ⟨-, c5, c6, -⟩ := hG.2.2.2.2.2 k hk
    simp (disch := omega) only [h7, bn_lt, bn_inT, bn_clamp, h5, h5k, h6, h6k, bm_gd_t, bn_eq, bn_add]
    have hj' : decide (j < a 0 7) = true := decide_eq_true (by omega)
    rw [hj', ih (j + 1) (by omega)]
    simp only [ab_bes, cond_true]
    by_cases e : a 5 j = a 5 k
    · by_cases e2 : a 6 j = a 6 k
      · simp [e, e2]
      · simp [e, e2, show j < a 0 7 by omega]
    · simp [e]
theorem hc_beside (X : bm_X) {o : Nat} (ho : bm_isH o) {σ : bm_M} {a : ab_T} (hH : ab_H o σ a) (hG : ab_G a) {k : Nat} (hk : k < 8) : bm_ev X 4 0 [.ref o, .int (nI k), .null] [] σ = some (.int (if ab_b a k < a 0 7 then nI (ab_b a k) else -nI 1), σ) := by
  rw [bb_4_0 _ _ _ ho]
  exact hc_bes X ho hH hG hk _ 0 (by omega)
theorem hc_third (X : bm_X) {o : Nat} (ho : bm_isH o) {σ : bm_M} {a : ab_T} (hH : ab_H o σ a) (hG : ab_G a) {k : Nat} {j : Nat} (hk : k < 8) (hj : j < 8) : bm_ev X 5 0 [.ref o, .int (nI k), .int (nI j)] [] σ = some (.int (nI ((a 6 k + a 6 j) % 12)), σ) := by
  rw [bb_5_0 _ _ _ ho]
  have h6 := hH 6 j (ab_w8 (by decide) (by decide) hj)
  have h6k := hH 6 k (ab_w8 (by decide) (by decide) hk)
  obtain ⟨-, b5, b6, -⟩ := hG.2.2.2.2.2 j hj
  obtain ⟨-, c5, c6, -⟩ := hG.2.2.2.2.2 k hk
  simp (disch := omega) only [bn_inT, bn_clamp, h6, h6k, bm_gd_t, bn_add, bn_rem]
theorem hc_wander (X : bm_X) {o : Nat} (ho : bm_isH o) {σ : bm_M} {a : ab_T} (hH : ab_H o σ a) (hG : ab_G a) {k : Nat} (hk : k < 8) : ∃ τ, bm_ev X 6 0 [.ref o, .int (nI k)] [] σ = some (.null, τ) ∧ ab_H o τ (ab_wan a k) ∧ ab_F o σ τ := by
  rw [bb_6_0 _ _ _ ho]
  have h5 := hH 5 k (ab_w8 (by decide) (by decide) hk)
  obtain ⟨-, b5, -⟩ := hG.2.2.2.2.2 k hk
  simp (disch := omega) only [bn_inT, bn_clamp, h5, bm_gd_t, bn_add, bn_rem]
  exact ⟨_, rfl, hH.up 5 k _, ab_F.rf.up (by decide) _ _⟩
theorem hc_fill (X : bm_X) {o : Nat} (ho : bm_isH o) {σ : bm_M} {a : ab_T} (hH : ab_H o σ a) (hG : ab_G a) {k : Nat} {v : Nat} (hk : k < 12) (hv : v < 100000) : ∃ τ, bm_ev X 55 0 [.ref o, .int (nI k), .int (nI v)] [] σ = some (.null, τ) ∧ ab_H o τ (ab_fill a k v) ∧ ab_F o σ τ := by
  rw [bb_55_0 _ _ _ ho]
  have h2 := hH 2 k (ab_w2 hk)
  have b2 := hG.2.2.2.2.1 k hk
  simp (disch := omega) only [bn_inT, bn_clamp, h2, bm_gd_t, bn_add, bn_min]
  exact ⟨_, rfl, hH.up 2 k _, ab_F.rf.up (by decide) _ _⟩
theorem hc_wear (X : bm_X) {o : Nat} (ho : bm_isH o) {σ : bm_M} {a : ab_T} (hH : ab_H o σ a) (hG : ab_G a) {k : Nat} (hk : k < 8) (u : Value) {x3 : Int32} {b : Bool} (hb : decide (x3 < 0) = b) : ∃ τ, bm_ev X 103 45 [.ref o, .int (nI k), u, .int x3] [] σ = some (.int (bm_bi b), τ) ∧ ab_H o τ (ab_wea a k) ∧ ab_F o σ τ := by
  rw [bb_103_45 _ _ _ ho]
  have h8 := hH 8 k (ab_w8 (by decide) (by decide) hk)
  obtain ⟨-, -, -, -, b8, -⟩ := hG.2.2.2.2.2 k hk
  simp (disch := omega) only [bn_inT, bn_clamp, h8, bm_gd_t, bn_add, bn_min, hb, bm_bo_0, bm_bo_1]
  refine ⟨_, ?_, hH.up 8 k _, ab_F.rf.up (by decide) _ _⟩
  cases b <;> rfl
theorem hc_eatgo (X : bm_X) {o : Nat} (ho : bm_isH o) {σ : bm_M} {a : ab_T} (hH : ab_H o σ a) (hG : ab_G a) {k : Nat} (hk : k < 8) (u u' : Value) : ∃ τ, bm_ev X 103 19 [.ref o, .int (nI k), u, u'] [] σ = some (.int (bm_bi (ab_sh a k)), τ) ∧ ab_H o τ (ab_wea (if ab_sh a k = true then ab_wan (ab_sp2 a k) k else ab_sp2 a k) k) ∧ ab_F o σ τ := by
  rw [bb_103_19 _ _ _ ho]
  have h5 := hH 5 k (ab_w8 (by decide) (by decide) hk)
  obtain ⟨-, b5, -⟩ := hG.2.2.2.2.2 k hk
  have h1 := hH 1 (a 5 k) (ab_w1 (by omega))
  have b1 := hG.2.2.2.1 (a 5 k) (by omega)
  have be := ab_eats_le a k
  have he := hc_eats X ho hH hG hk
  simp (disch := omega) only [bn_inT, bn_clamp, h5, h1, bm_gd_t, he, bm_bI_some, bn_sub_lt0, bn_max0]
  have hH2 := hH.up 1 (a 5 k) (a 1 (a 5 k) - ab_eats a k)
  have hG2 := hG.sp2 hk
  have hF2 : ab_F o σ (bm_up σ (o + 1) (a 5 k) (nI (a 1 (a 5 k) - ab_eats a k))) := ab_F.rf.up (by decide) _ _
  have hb : decide (nI (a 1 (a 5 k)) - nI (ab_eats a k) < 0) = ab_sh a k := bn_sub_lt0 (by omega) (by omega)
  by_cases hs : ab_sh a k = true
  · have hs' : decide (a 1 (a 5 k) < ab_eats a k) = true := hs
    obtain ⟨τ, e1, e2, e3⟩ := hc_wander X ho hH2 hG2 hk
    simp only [hs', cond_true, e1, bm_bV_some, hs, if_true]
    obtain ⟨τ2, f1, f2, f3⟩ := hc_wear X ho e2 (hG2.wan k) hk (.int (nI (a 5 k))) hb
    rw [hs] at f1
    exact ⟨τ2, f1, f2, (hF2.tr e3).tr f3⟩
  · have hs' : decide (a 1 (a 5 k) < ab_eats a k) = false := by simpa [ab_sh] using hs
    have hs2 : ab_sh a k = false := by simpa using hs
    simp only [hs', cond_false, hs2, Bool.false_eq_true, if_false]
    obtain ⟨τ2, f1, f2, f3⟩ := hc_wear X ho hH2 hG2 hk (.int (nI (a 5 k))) hb
    rw [hs2] at f1
    exact ⟨τ2, f1, f2, hF2.tr f3⟩
theorem ab_sh_sp1 (a : ab_T) (k : Nat) : ab_sh (ab_sp1 a k) k = ab_sh a k := by
  unfold ab_sh
  rw [ab_eats_sp1, ab_sp1_ne a k 5 k (by decide), ab_sp1_ne a k 1 _ (by decide)]
theorem hc_ringEat (X : bm_X) {o : Nat} (ho : bm_isH o) {σ : bm_M} {a : ab_T} (hH : ab_H o σ a) (hG : ab_G a) {k : Nat} (hk : k < a 0 7) : ∃ τ, bm_ev X 103 0 [.ref o, .int (nI k), .null, .null] [] σ = some (.int (bm_bi (ab_sh a k)), τ) ∧ ab_H o τ (ab_spend a k) ∧ ab_F o σ τ := by
  rw [bb_103_0 _ _ _ ho]
  have hc := hG.2.2.1
  have hk8 : k < 8 := by omega
  have h10 := hH 10 k (ab_w8 (by decide) (by decide) hk8)
  have h9 := hH 9 k (ab_w8 (by decide) (by decide) hk8)
  obtain ⟨-, -, -, -, -, b9, b10⟩ := hG.2.2.2.2.2 k hk8
  have hr := hc_rings X ho hH hG hk
  have br := ab_rings_le hG hk8
  simp (disch := omega) only [bn_inT, bn_clamp, h10, h9, bm_gd_t, hr, bm_bI_some, bn_eq0, bn_add, bn_min]
  by_cases e : a 10 k = 0
  · have hs1 : ab_sp1 a k = ab_set a 9 k (min 9999 (a 9 k + ab_rings a k)) := if_pos e
    simp only [e, decide_true, cond_true]
    have hH2 := hH.up 9 k (min 9999 (a 9 k + ab_rings a k))
    rw [← hs1] at hH2
    obtain ⟨τ, f1, f2, f3⟩ := hc_eatgo X ho hH2 (hG.sp1 k) hk8 .null .null
    rw [ab_sh_sp1] at f1 f2
    exact ⟨τ, f1, f2, (ab_F.rf.up (by decide) _ _).tr f3⟩
  · have hs1 : ab_sp1 a k = a := if_neg e
    simp only [e, decide_false, cond_false]
    obtain ⟨τ, f1, f2, f3⟩ := hc_eatgo X ho hH hG hk8 .null .null
    refine ⟨τ, f1, ?_, f3⟩
    unfold ab_spend
    rw [hs1]
    exact f2
theorem hc_spends (X : bm_X) {o : Nat} (ho : bm_isH o) {a : ab_T} (hG : ab_G a) : ∀ (n j : Nat) (σ : bm_M), j + n = a 0 7 → ab_H o σ (ab_sp a j) → ∃ τ, bm_ev X 141 4 [.ref o, .int (bm_bi (ab_wn a j)), .int (nI j)] [] σ = bm_ev X 141 18 [.ref o, .int (bm_bi (ab_wand a)), .int (nI 0)] [] τ ∧ ab_H o τ (ab_sp a (a 0 7)) ∧ ab_F o σ τ := by
  intro n
  induction n with
  | zero =>
    intro j σ hj hH
    rw [bb_141_4 _ _ _ ho]
    have h7 := hH 0 7 rfl
    rw [Nat.add_zero, ab_sp_0] at h7
    have hc := hG.2.2.1
    simp (disch := omega) only [h7, bn_lt]
    rw [show j = a 0 7 by omega] at hH ⊢
    simp only [Nat.lt_irrefl, decide_false, cond_false]
    exact ⟨σ, rfl, hH, ab_F.rf⟩
  | succ n ih =>
    intro j σ hj hH
    rw [bb_141_4 _ _ _ ho]
    have h7 := hH 0 7 rfl
    rw [Nat.add_zero, ab_sp_0] at h7
    have hc := hG.2.2.1
    obtain ⟨τ, e1, e2, e3⟩ := hc_ringEat X ho hH (hG.sp j (by omega)) (k := j) (by rw [ab_sp_0]; omega)
    simp (disch := omega) only [h7, bn_lt, e1, bm_bI_some, bm_bi_eq0, bn_add]
    have hj' : decide (j < a 0 7) = true := decide_eq_true (by omega)
    obtain ⟨τ2, f1, f2, f3⟩ := ih (j + 1) τ (by omega) e2
    refine ⟨τ2, ?_, f2, e3.tr f3⟩
    rw [hj', ← f1]
    simp only [cond_true, ab_wn]
    cases ab_sh (ab_sp a j) j <;> simp [bm_bi]
theorem hc_milks (X : bm_X) {o : Nat} (ho : bm_isH o) {a : ab_T} (hG : ab_G a) : ∀ (n j : Nat) (σ : bm_M) (u2 u3 u4 u5 : Value), j + n = a 0 7 → ab_H o σ (ab_mk a j) → ∃ τ, bm_ev X 104 2 [.ref o, .int (nI j), u2, u3, u4, u5] [] σ = some (.null, τ) ∧ ab_H o τ (ab_mk a (a 0 7)) ∧ ab_F o σ τ := by
  intro n
  induction n with
  | zero =>
    intro j σ u2 u3 u4 u5 hj hH
    rw [bb_104_2 _ _ _ ho]
    have h7 := hH 0 7 rfl
    rw [Nat.add_zero, ab_mk_ne _ _ _ (by decide) (by decide)] at h7
    have hc := hG.2.2.1
    simp (disch := omega) only [h7, bn_lt]
    rw [show j = a 0 7 by omega] at hH ⊢
    simp only [Nat.lt_irrefl, decide_false, cond_false]
    exact ⟨σ, rfl, hH, ab_F.rf⟩
  | succ n ih =>
    intro j σ u2 u3 u4 u5 hj hH
    rw [bb_104_2 _ _ _ ho]
    have hb := hG.mk j
    have h7 := hH 0 7 rfl
    have h70 : ab_mk a j 0 7 = a 0 7 := ab_mk_ne _ _ _ (by decide) (by decide) j
    rw [Nat.add_zero, h70] at h7
    have ht := hH 0 4 rfl
    rw [Nat.add_zero] at ht
    have hc := hG.2.2.1
    have hj8 : j < 8 := by omega
    have bt := hb.2.1
    have bg := ab_gives_le hb hj8
    have hgm : ab_gives (ab_mk a j) j * ab_mk a j 0 4 ≤ 3752 * 99 := Nat.mul_le_mul bg bt
    have hgl : ab_gives (ab_mk a j) j * ab_mk a j 0 4 / 100 ≤ ab_gives (ab_mk a j) j := by
      have : ab_gives (ab_mk a j) j * ab_mk a j 0 4 ≤ ab_gives (ab_mk a j) j * 100 := Nat.mul_le_mul_left _ (by omega)
      omega
    have hl : ab_left (ab_mk a j) j ≤ 3752 := by unfold ab_left; omega
    have e1 := hc_gives X ho hH hb hj8
    have e2 := hc_beside X ho hH hb hj8
    have hj' : decide (j < a 0 7) = true := decide_eq_true (by omega)
    simp (disch := omega) only [h7, bn_lt, hj', cond_true, e1, e2, bm_bI_some, ht, bn_mul, bn_div, bn_sub]
    have hlw : ab_gives (ab_mk a j) j - ab_gives (ab_mk a j) j * ab_mk a j 0 4 / 100 = ab_left (ab_mk a j) j := rfl
    simp only [hlw]
    obtain ⟨-, c5, c6, -⟩ := hb.2.2.2.2.2 j hj8
    have h6 := hH 6 j (ab_w8 (by decide) (by decide) hj8)
    have hin : bm_in (nI j) 8 = true := bn_inT hj8 (by decide)
    by_cases hbes : ab_b (ab_mk a j) j < ab_mk a j 0 7
    · have hb8 : ab_b (ab_mk a j) j < 8 := by rw [h70] at hbes; omega
      have hne : decide (nI (ab_b (ab_mk a j) j) = -nI 1) = false := by
        apply decide_eq_false
        intro q
        have := congrArg Int32.toInt q
        rw [bn_toInt (by omega)] at this
        have h2 : (-nI 1 : Int32).toInt = -1 := by decide
        omega
      have e3 := hc_third X ho hH hb hj8 hb8
      simp only [hbes, if_true, hne, cond_false, e3, bm_bI_some]
      obtain ⟨τ1, g1, g2, g3⟩ := hc_fill X ho hH hb (k := (ab_mk a j 6 j + ab_mk a j 6 (ab_b (ab_mk a j) j)) % 12) (v := ab_left (ab_mk a j) j / 3) (by omega) (by omega)
      simp only [g1, bm_bV_some]
      rw [bb_104_41 _ _ _ ho]
      have h6' := g2 6 j (ab_w8 (by decide) (by decide) hj8)
      have h6s : ab_fill (ab_mk a j) ((ab_mk a j 6 j + ab_mk a j 6 (ab_b (ab_mk a j) j)) % 12) (ab_left (ab_mk a j) j / 3) 6 j = ab_mk a j 6 j := ab_set_nc _ _ (by decide)
      rw [h6s] at h6'
      obtain ⟨τ2, k1, k2, k3⟩ := hc_fill X ho g2 (hb.fill _ _) (k := ab_mk a j 6 j) (v := ab_left (ab_mk a j) j - ab_left (ab_mk a j) j / 3) (by omega) (by omega)
      simp (disch := omega) only [hin, bm_gd_t, bn_clamp, h6', k1, bm_bV_some, bn_add]
      obtain ⟨τ3, l1, l2, l3⟩ := ih (j + 1) (bm_up τ2 (o + 9) j (nI 0)) _ (.int (nI (ab_left (ab_mk a j) j - ab_left (ab_mk a j) j / 3))) (.int (nI (ab_b (ab_mk a j) j))) _ (by omega) (by
        show ab_H o _ (ab_mk1 (ab_mk a j) j)
        unfold ab_mk1
        rw [if_pos hbes]
        exact k2.up 9 j 0)
      exact ⟨τ3, l1, l2, (((g3.tr k3).up (by decide) _ _).tr l3)⟩
    · have hne : decide ((-nI 1 : Int32) = -nI 1) = true := decide_eq_true rfl
      simp only [hbes, if_false, hne, cond_true]
      rw [bb_104_41 _ _ _ ho]
      obtain ⟨τ2, k1, k2, k3⟩ := hc_fill X ho hH hb (k := ab_mk a j 6 j) (v := ab_left (ab_mk a j) j) (by omega) (by omega)
      simp (disch := omega) only [hin, bm_gd_t, bn_clamp, h6, k1, bm_bV_some, bn_add]
      obtain ⟨τ3, l1, l2, l3⟩ := ih (j + 1) (bm_up τ2 (o + 9) j (nI 0)) _ (.int (nI (ab_left (ab_mk a j) j))) (.int (-nI 1)) _ (by omega) (by
        show ab_H o _ (ab_mk1 (ab_mk a j) j)
        unfold ab_mk1
        rw [if_neg hbes]
        exact k2.up 9 j 0)
      exact ⟨τ3, l1, l2, ((k3.up (by decide) _ _).tr l3)⟩
