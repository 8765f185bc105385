/-! storms -/
theorem bn_ushr8 (x : Int32) : bm_ushr x (nI 8) = nI (x.toUInt32.toNat / 256) := by
  unfold bm_ushr
  have h8 : (nI 8).toUInt32 &&& Int32.toUInt32 31 = 8 := by decide
  rw [h8]
  have e : (x.toUInt32 >>> 8).toNat = x.toUInt32.toNat / 256 := by
    rw [UInt32.toNat_shiftRight]
    show x.toUInt32.toNat >>> 8 = _
    rw [Nat.shiftRight_eq_div_pow]
  rw [← e]
  apply Int32.toBitVec_inj.mp
  show (x.toUInt32 >>> 8).toBitVec = BitVec.ofNat 32 (x.toUInt32 >>> 8).toBitVec.toNat
  rw [BitVec.ofNat_toNat, BitVec.setWidth_eq]
def ab_sd (a : ab_T) : Nat := a 0 6 * 1103515245 + 12345
def ab_dr (a : ab_T) : ab_T := ab_set a 0 6 (ab_sd a)
def ab_dv (a : ab_T) : Nat := (nI (ab_sd a)).toUInt32.toNat / 256
theorem ab_dv_lt (a : ab_T) : ab_dv a < 16777216 := by
  have := (nI (ab_sd a)).toUInt32.toNat_lt
  unfold ab_dv
  omega
theorem hc_draw (X : bm_X) {o : Nat} (ho : bm_isH o) {σ : bm_M} {a : ab_T} (hH : ab_H o σ a) : ∃ τ, bm_ev X 7 0 [.ref o] [] σ = some (.int (nI (ab_dv a)), τ) ∧ ab_H o τ (ab_dr a) ∧ ab_F o σ τ := by
  have e6 : σ o 6 = nI (a 0 6) := hH 0 6 rfl
  refine ⟨bm_up σ o 6 (nI (ab_sd a)), ?_, hH.up 0 6 _, fun q hq => bm_up_ne _ _ _ (by omega)⟩
  rw [bb_7_0 _ _ _ ho, e6, bn_mul, bn_add, bm_up_at, bn_ushr8]
  rfl
theorem hm_draw (X : bm_X) {σ : bm_M} {a : ab_T} (hS : ab_S 46 σ a) : ∃ τ, bm_ev X 44 0 [.ref 45] [] σ = some (.int (nI (ab_dv a)), τ) ∧ ab_S 46 τ (ab_dr a) ∧ ab_N σ τ := by
  have e6 : σ 46 1 = nI (a 0 6) := hS 0 6 rfl
  refine ⟨bm_up σ 46 1 (nI (ab_sd a)), ?_, hS.up (c := 0) (i := 6) _ rfl, fun q hq => bm_up_ne _ _ _ hq⟩
  rw [bb_44_0, bn_inT (by decide) (by decide), bm_gd_t, bm_gd_t, bm_gd_t, bn_clamp (by decide), e6, bn_mul, bn_add, bm_up_at, bn_ushr8]
  rfl
def ab_s1 (a : ab_T) : ab_T := ab_set (ab_dr a) 0 4 (ab_dv a % 100)
def ab_s2 (a : ab_T) : ab_T := ab_dr (ab_s1 a)
def ab_sj (a : ab_T) : Nat := ab_dv (ab_s1 a) % 8
def ab_s3 (a : ab_T) : ab_T := if ab_sj a < a 0 7 then ab_wan (ab_s2 a) (ab_sj a) else ab_s2 a
theorem ab_s2_ne (a : ab_T) {c i : Nat} (h : ¬ (c = 0 ∧ (i = 4 ∨ i = 6))) : ab_s2 a c i = a c i := by
  unfold ab_s2 ab_dr ab_s1 ab_dr
  rw [ab_set_ne _ _ (by omega), ab_set_ne _ _ (by omega), ab_set_ne _ _ (by omega)]
theorem ab_s3_ne (a : ab_T) {c i : Nat} (h : ¬ (c = 0 ∧ (i = 4 ∨ i = 6))) (h5 : c ≠ 5) : ab_s3 a c i = a c i := by
  unfold ab_s3
  split
  · unfold ab_wan
    rw [ab_set_nc _ _ h5]
    exact ab_s2_ne a h
  · exact ab_s2_ne a h
theorem ab_G.s1 {a : ab_T} (h : ab_G a) : ab_G (ab_s1 a) := (h.set (c := 0) (i := 6) (v := ab_sd a) trivial).set (c := 0) (i := 4) (show ab_dv a % 100 ≤ 99 by omega)
theorem ab_G.s2 {a : ab_T} (h : ab_G a) : ab_G (ab_s2 a) := h.s1.set (c := 0) (i := 6) trivial
theorem ab_G.s3 {a : ab_T} (h : ab_G a) : ab_G (ab_s3 a) := by
  unfold ab_s3
  split
  · exact h.s2.wan _
  · exact h.s2
def ab_sts (a : ab_T) : Nat → ab_T
  | 0 => a
  | n + 1 => ab_hr (ab_s3 (ab_sts a n))
theorem ab_G.sts {a : ab_T} (h : ab_G a) : ∀ n, ab_G (ab_sts a n)
  | 0 => h
  | n + 1 => (h.sts n).s3.hr
theorem ab_sts_5 (a : ab_T) : ∀ n, ab_sts a n 0 5 = a 0 5 + n
  | 0 => rfl
  | n + 1 => by rw [ab_sts, ab_hr_0, if_pos rfl, ab_s3_ne _ (by omega) (by decide), ab_sts_5 a n]; omega
theorem ab_sts_7 (a : ab_T) : ∀ n, ab_sts a n 0 7 = a 0 7
  | 0 => rfl
  | n + 1 => by rw [ab_sts, ab_hr_0, if_neg (by decide), ab_s3_ne _ (by omega) (by decide), ab_sts_7 a n]
theorem ab_sts_3 (a : ab_T) (i : Nat) : ∀ n, ab_sts a n 3 i = a 3 i
  | 0 => rfl
  | n + 1 => by
    have : ab_hr (ab_s3 (ab_sts a n)) 3 i = ab_s3 (ab_sts a n) 3 i := ab_hs_ne (ab_s3 (ab_sts a n)) 3 i (by omega) 1
    rw [ab_sts, this, ab_s3_ne _ (by omega) (by decide), ab_sts_3 a i n]
theorem ab_P.sts {a : ab_T} (h : ab_P a) (n : Nat) : ab_P (ab_sts a n) := fun i hi => by
  rw [ab_sts_3, ab_sts_7]
  exact h i hi
theorem hc_storms (X : bm_X) {a : ab_T} (hG : ab_G a) {n : Nat} (hh : a 0 5 + n < 99999) (hn : n ≤ 1000) : ∀ (i j : Nat) (σ : bm_M) (u : Value), j + i = n → ab_H 1 σ (ab_sts a j) → ∃ τ, bm_ev X 158 23 [.ref 0, .int (nI n), .int (nI j), u] [] σ = some (.int (nI (ab_sum (ab_sts a n 2) 12)), τ) ∧ ab_H 1 τ (ab_sts a n) ∧ ab_F 1 σ τ
  | 0, j, σ, u, e, hH => by
    have e2 : j = n := by omega
    subst e2
    refine ⟨σ, ?_, hH, ab_F.rf⟩
    rw [bb_158_23, bn_lt (by omega) (by omega), decide_eq_false (by omega), cond_false, hc_milk X (Or.inl rfl) hH (hG.sts j) (k := 0), bm_bI_some]
  | i + 1, j, σ, u, e, hH => by
    have hc := hG.2.2.1
    have gj := hG.sts j
    have d1 := ab_dv_lt (ab_sts a j)
    have d2 := ab_dv_lt (ab_s1 (ab_sts a j))
    obtain ⟨t1, p1, p2, p3⟩ := hc_draw X (Or.inl rfl) hH
    have u1 : ab_H 1 (bm_up t1 1 4 (nI (ab_dv (ab_sts a j) % 100))) (ab_s1 (ab_sts a j)) := p2.up 0 4 _
    obtain ⟨t2, q1, q2, q3⟩ := hc_draw X (Or.inl rfl) u1
    have f2 : ab_F 1 σ t2 := fun q hq => by rw [q3 q hq, bm_up_ne _ _ _ (by omega), p3 q hq]
    have e7 : t2 1 7 = nI (a 0 7) := by
      have := q2 0 7 rfl
      rw [show ab_dr (ab_s1 (ab_sts a j)) 0 7 = ab_s2 (ab_sts a j) 0 7 from rfl, ab_s2_ne _ (by omega), ab_sts_7] at this
      exact this
    have nx : ∀ (s : bm_M) (u : Value), ab_H 1 s (ab_s3 (ab_sts a j)) → ab_F 1 σ s → ∃ τ, bm_ev X 158 49 [.ref 0, .int (nI n), .int (nI j), u] [] s = some (.int (nI (ab_sum (ab_sts a n 2) 12)), τ) ∧ ab_H 1 τ (ab_sts a n) ∧ ab_F 1 σ τ := by
      intro s u hs hF
      obtain ⟨t3, r1, r2, r3⟩ := hc_hour X (Or.inl rfl) hs gj.s3 (by rw [ab_s3_ne _ (by omega) (by decide), ab_sts_5]; omega)
      obtain ⟨τ, k1, k2, k3⟩ := hc_storms X hG hh hn i (j + 1) t3 u (by omega) r2
      refine ⟨τ, ?_, k2, hF.tr (r3.tr k3)⟩
      rw [bb_158_49, r1, bm_bI_some, bn_add, k1]
    rw [bb_158_23, bn_lt (by omega) (by omega), decide_eq_true (by omega), cond_true, p1, bm_bI_some, bn_rem (by omega) (by decide), q1, bm_bI_some, bn_rem (by omega) (by decide), e7, bn_lt (by omega) (by omega)]
    by_cases c : ab_sj (ab_sts a j) < a 0 7
    · have c' : ab_dv (ab_s1 (ab_sts a j)) % 8 < a 0 7 := c
      rw [decide_eq_true c', cond_true]
      have hj8 : ab_sj (ab_sts a j) < 8 := by omega
      have e5 : t2 6 (ab_sj (ab_sts a j)) = nI (ab_s2 (ab_sts a j) 5 (ab_sj (ab_sts a j))) := q2 5 _ (ab_w8 (by decide) (by decide) hj8)
      have b5 := ((gj.s2).2.2.2.2.2 _ hj8).2.1
      have u5 : ab_H 1 (bm_up t2 6 (ab_sj (ab_sts a j)) (nI ((ab_s2 (ab_sts a j) 5 (ab_sj (ab_sts a j)) + 1) % 12))) (ab_s3 (ab_sts a j)) := by
        have : ab_s3 (ab_sts a j) = ab_wan (ab_s2 (ab_sts a j)) (ab_sj (ab_sts a j)) := if_pos (by rw [ab_sts_7]; exact c)
        rw [this]
        exact q2.up 5 _ _
      obtain ⟨τ, k1, k2, k3⟩ := nx _ (.int (nI (ab_sj (ab_sts a j)))) u5 (fun q hq => by rw [bm_up_ne _ _ _ (by omega), f2 q hq])
      refine ⟨τ, ?_, k2, k3⟩
      show bm_bV (bm_ev X 6 0 [.ref 1, .int (nI (ab_sj (ab_sts a j)))] [] t2) (fun t7 => bm_ev X 158 49 [.ref 0, .int (nI n), .int (nI j), .int (nI (ab_sj (ab_sts a j)))] [] t7) = _
      rw [bb_6_0 _ _ _ (Or.inl rfl), bn_inT hj8 (by decide), bm_gd_t, bm_gd_t, bn_clamp (by omega), show (1 + 5 : Nat) = 6 from rfl, e5, bn_add, bn_rem (by omega) (by decide), bm_bV_some, k1]
    · have c' : ¬ ab_dv (ab_s1 (ab_sts a j)) % 8 < a 0 7 := c
      rw [decide_eq_false c', cond_false]
      have : ab_s3 (ab_sts a j) = ab_s2 (ab_sts a j) := if_neg (by rw [ab_sts_7]; exact c)
      exact nx t2 _ (by rw [this]; exact q2) f2
