/-! cow, of, change, go, now -/
theorem ab_set_comm (a : ab_T) {c i c' i' : Nat} (v v' : Nat) (h : ¬ (c = c' ∧ i = i')) : ab_set (ab_set a c i v) c' i' v' = ab_set (ab_set a c' i' v') c i v := by
  funext x y
  unfold ab_set
  by_cases e1 : x = c ∧ y = i
  · by_cases e2 : x = c' ∧ y = i'
    · exact absurd ⟨e1.1.symm.trans e2.1, e1.2.symm.trans e2.2⟩ h
    · obtain ⟨rfl, rfl⟩ := e1
      simp [e2]
  · by_cases e2 : x = c' ∧ y = i'
    · obtain ⟨rfl, rfl⟩ := e2
      simp [e1]
    · simp only [e1, e2, if_false]
/-- a new one -/
def ab_add (a : ab_T) (kd p : Nat) : ab_T := ab_set (ab_set (ab_set (ab_set (ab_set (ab_set (ab_set (ab_set a 4 (a 0 7) kd) 5 (a 0 7) p) 6 (a 0 7) 0) 7 (a 0 7) 3) 8 (a 0 7) 0) 9 (a 0 7) 0) 10 (a 0 7) 0) 0 7 (a 0 7 + 1)
theorem ab_G.add {a : ab_T} (h : ab_G a) {kd p : Nat} (hk : kd ≤ 6) (hp : p ≤ 11) (hn : a 0 7 < 8) : ab_G (ab_add a kd p) :=
  (((((((h.set (c := 4) hk).set (c := 5) hp).set (c := 6) (Nat.zero_le _)).set (c := 7) (show 3 ≤ 9 by decide)).set (c := 8) (Nat.zero_le _)).set (c := 9) (Nat.zero_le _)).set (c := 10) (Nat.zero_le _)).set (c := 0) (i := 7) (show _ ≤ 8 by omega)
theorem ab_add_3 (a : ab_T) (kd p i : Nat) : ab_add a kd p 3 i = a 3 i := by simp [ab_add, ab_set]
theorem ab_add_7 (a : ab_T) (kd p : Nat) : ab_add a kd p 0 7 = a 0 7 + 1 := by simp [ab_add, ab_set]
theorem ab_add_0 (a : ab_T) (kd p : Nat) {i : Nat} (h : i ≠ 7) : ab_add a kd p 0 i = a 0 i := by simp [ab_add, ab_set, h]
theorem ab_P.add {a : ab_T} (h : ab_P a) (kd p : Nat) : ab_P (ab_add a kd p) := fun i hi => by
  rw [ab_add_3, ab_add_7]
  rcases h i hi with q | q
  · exact Or.inl q
  · exact Or.inr (by omega)
theorem hc_addCow (X : bm_X) {o : Nat} (ho : bm_isH o) {σ : bm_M} {a : ab_T} (hH : ab_H o σ a) (hG : ab_G a) {k : Nat} {kd p : Nat} (hn : a 0 7 < 8) : ∃ τ, bm_ev X 0 0 [.ref o, .int (nI kd), .int (nI p), .null] [] σ = some (.int (nI (a 0 7)), τ) ∧ ab_H o τ (ab_add a kd p) ∧ ab_F o σ τ := by
  rw [bb_0_0 _ _ _ ho]
  have h7 := hH 0 7 rfl
  rw [Nat.add_zero] at h7
  simp (disch := omega) only [h7, bn_inT, bn_clamp, bm_gd_t, bm_up_nk, ne_eq, Nat.left_eq_add, reduceCtorEq, not_false_eq_true, bn_add]
  refine ⟨_, rfl, ?_, ?_⟩
  · have := (((((((hH.up 4 (a 0 7) kd).up 5 (a 0 7) p).up 6 (a 0 7) 0).up 7 (a 0 7) 3).up 8 (a 0 7) 0).up 9 (a 0 7) 0).up 10 (a 0 7) 0).up 0 7 (a 0 7 + 1)
    rw [Nat.add_zero] at this
    exact this
  · have := (((((((ab_F.rf (o := o) (σ := σ)).up (c := 4) (by decide) (a 0 7) (nI kd)).up (c := 5) (by decide) (a 0 7) (nI p)).up (c := 6) (by decide) (a 0 7) (nI 0)).up (c := 7) (by decide) (a 0 7) (nI 3)).up (c := 8) (by decide) (a 0 7) (nI 0)).up (c := 9) (by decide) (a 0 7) (nI 0)).up (c := 10) (by decide) (a 0 7) (nI 0)
    have := this.up (c := 0) (by decide) 7 (nI (a 0 7 + 1))
    rw [Nat.add_zero] at this
    exact this
theorem hm_adds (X : bm_X) {σ : bm_M} {a : ab_T} (hS : ab_S 46 σ a) {kd p : Nat} (hn : a 0 7 < 8) : ∃ τ, bm_ev X 81 0 [.ref 45, .int (nI kd), .int (nI p), .null] [] σ = some (.int (nI (a 0 7)), τ) ∧ ab_S 46 τ (ab_add a kd p) ∧ ab_N σ τ := by
  rw [bb_81_0]
  have h7 : σ 46 2 = nI (a 0 7) := hS 0 7 rfl
  have hS0 : ab_S 46 (bm_up σ 46 2 (nI (a 0 7 + 1))) (ab_set a 0 7 (a 0 7 + 1)) := hS.up (c := 0) (i := 7) _ rfl
  obtain ⟨t1, a1, b1, c1⟩ := hm_setsw X hS0 (k := a 0 7) (w := 0) kd (by decide) hn
  obtain ⟨t2, a2, b2, c2⟩ := hm_setsw X b1 (k := a 0 7) (w := 1) p (by decide) hn
  obtain ⟨t3, a3, b3, c3⟩ := hm_setsw X b2 (k := a 0 7) (w := 2) 0 (by decide) hn
  obtain ⟨t4, a4, b4, c4⟩ := hm_setsw X b3 (k := a 0 7) (w := 3) 3 (by decide) hn
  obtain ⟨t5, a5, b5, c5⟩ := hm_setsw X b4 (k := a 0 7) (w := 4) 0 (by decide) hn
  obtain ⟨t6, a6, b6, c6⟩ := hm_setsw X b5 (k := a 0 7) (w := 5) 0 (by decide) hn
  obtain ⟨t7, a7, b7, c7⟩ := hm_setsw X b6 (k := a 0 7) (w := 6) 0 (by decide) hn
  simp (disch := omega) only [bn_inT, bn_clamp, bm_gd_t, h7, bn_add, a1, a2, a3, a4, a5, a6, a7, bm_bV_some]
  refine ⟨t7, rfl, ?_, (((((((ab_N.rf.up _ _).tr c1).tr c2).tr c3).tr c4).tr c5).tr c6).tr c7⟩
  unfold ab_add
  rw [ab_set_comm _ _ _ (show ¬ (10 = 0 ∧ a 0 7 = 7) by omega), ab_set_comm _ _ _ (show ¬ (9 = 0 ∧ a 0 7 = 7) by omega), ab_set_comm _ _ _ (show ¬ (8 = 0 ∧ a 0 7 = 7) by omega), ab_set_comm _ _ _ (show ¬ (7 = 0 ∧ a 0 7 = 7) by omega), ab_set_comm _ _ _ (show ¬ (6 = 0 ∧ a 0 7 = 7) by omega), ab_set_comm _ _ _ (show ¬ (5 = 0 ∧ a 0 7 = 7) by omega), ab_set_comm _ _ _ (show ¬ (4 = 0 ∧ a 0 7 = 7) by omega)]
  exact b7
/-- the herd of both changed alike -/
theorem ab_R.both {T T' : Nat} {σ τ τ' : bm_M} {a' ka : ab_T} {kp : Bool} {tl : Nat} (h2 : ab_CK ka kp T σ) (h3 : ab_CT tl σ) (h4 : ab_CS σ) (h5 : ab_CF σ) (hT : T ≤ T') (hH : ab_H 1 τ a') (hF : ab_F 1 σ τ) (hS : ab_S 46 τ' a') (hE : ab_E τ τ') (hG : ab_G a') (hP : ab_P a') (hh : a' 0 5 ≤ T') : ab_R T' τ' := by
  have k1 : ab_K ab_JH σ τ := hF.K.mono (fun q i z => Or.inr (Or.inl (by omega)))
  have k2 : ab_K ab_JH τ τ' := hE.K.mono (fun q i z => by
    rcases z with z | z
    · exact Or.inr (Or.inr z)
    · exact Or.inl (by unfold ab_J; omega))
  exact ab_R.herd h2 h3 h4 h5 hT (k1.tr k2) ⟨hH.K hE.K (fun q i _ _ _ z => by omega), hS, hG, hP, hh⟩
theorem op_cow (X : bm_X) (p v : Int32) : ab_op X 110 127 [.ref 0, .int p, .int v] [.ref 45, .int p, .int v] := by
  intro T σ hR hT
  obtain ⟨a, ka, kp, tl, h1, h2, h3, h4, h5⟩ := id hR
  obtain ⟨hH, hS, hG, hP, hh⟩ := id h1
  rw [bb_110_0]
  simp only [bb_127_0, bs_c65, bs_c67, bs_m73, bs_m76, bm_bI_some, bm_cond_bi, bs_tell X _ (show 0 < 7 by decide), bs_finds X _ (show 0 < 7 by decide), bs_tell X _ (show 1 < 7 by decide), bs_finds X _ (show 1 < 7 by decide)]
  cases g1 : bm_rg p 0 6
  · exact ⟨_, _, _, rfl, rfl, hR.tell (by omega) (by decide)⟩
  · cases g2 : bm_rg v 0 11
    · exact ⟨_, _, _, rfl, rfl, hR.tell (by omega) (by decide)⟩
    · obtain ⟨kd, hkd, -, rfl⟩ := bm_rg_ex (n := 6) g1
      obtain ⟨q, hq, -, rfl⟩ := bm_rg_ex (n := 11) g2
      have e1 : σ 1 7 = nI (a 0 7) := hH 0 7 rfl
      have hc := hG.2.2.1
      simp only [cond_true]
      rw [e1, bn_lt (by omega) (by decide)]
      by_cases e : a 0 7 < 8
      · obtain ⟨τ, f1, f2, f3⟩ := hc_addCow X (Or.inl rfl) hH hG (k := 0) (kd := kd) (p := q) e
        obtain ⟨τ', k1, k2, k3⟩ := hm_adds X (hS.fr (f3 46 (by decide))) (kd := kd) (p := q) e
        rw [decide_eq_true e]
        refine ⟨nI (a 0 7), τ, τ', ?_, ?_, ab_R.both h2 h3 h4 h5 (by omega) f2 f3 k2 k3.E (hG.add hkd hq e) (hP.add kd q) (by rw [ab_add_0 a kd q (by decide)]; omega)⟩
        · rw [cond_true, f1, bm_bI_some]
        · have e2 : τ 46 2 = nI (a 0 7) := hS.fr (f3 46 (by decide)) 0 7 rfl
          rw [bn_inT (by decide) (by decide), bm_gd_t, bn_clamp (by decide), e2, bn_eq (by omega) (by decide), decide_eq_false (by omega), cond_false, k1, bm_bI_some]
      · rw [decide_eq_false e]
        refine ⟨bm_lw 1, bm_tl 1 σ, bm_fo 1 (bm_tl 1 σ), rfl, ?_, hR.tell (by omega) (by decide)⟩
        have e2 : bm_tl 1 σ 46 2 = nI (a 0 7) := hS 0 7 rfl
        rw [bn_inT (by decide) (by decide), bm_gd_t, bn_clamp (by decide), e2, bn_eq (by omega) (by decide), decide_eq_true (by omega), cond_true]
theorem ab_spend_ne (a : ab_T) (k c i : Nat) (h1 : c ≠ 1) (h5 : c ≠ 5) (h8 : c ≠ 8) (h9 : c ≠ 9) : ab_spend a k c i = a c i := by
  unfold ab_spend ab_wea
  rw [ab_set_nc _ _ h8]
  split
  · unfold ab_wan ab_sp2
    rw [ab_set_nc _ _ h5, ab_set_nc _ _ h1, ab_sp1_ne a k c i h9]
  · unfold ab_sp2
    rw [ab_set_nc _ _ h1, ab_sp1_ne a k c i h9]
theorem ab_sp_ne (a : ab_T) (c i : Nat) (h1 : c ≠ 1) (h5 : c ≠ 5) (h8 : c ≠ 8) (h9 : c ≠ 9) : ∀ n, ab_sp a n c i = a c i
  | 0 => rfl
  | n + 1 => by rw [ab_sp, ab_spend_ne _ _ _ _ h1 h5 h8 h9, ab_sp_ne a c i h1 h5 h8 h9 n]
/-- kinds, tones, swings, muffles and spots stay -/
theorem ab_hr_ne (a : ab_T) (c i : Nat) (h : c = 3 ∨ c = 4 ∨ c = 6 ∨ c = 7 ∨ c = 10) : ab_hr a c i = a c i := by
  have h1 : ab_tick (ab_gr (ab_sp a (a 0 7)) 12) c i = a c i := by
    unfold ab_tick
    rw [ab_set_nc _ _ (by omega), ab_gr_ne _ _ _ (by omega), ab_sp_ne _ _ _ (by omega) (by omega) (by omega) (by omega)]
  unfold ab_hr
  split
  · rw [ab_mk_ne _ _ _ (by omega) (by omega)]
    exact h1
  · exact h1
theorem ab_hs_ne (a : ab_T) (c i : Nat) (h : c = 3 ∨ c = 4 ∨ c = 6 ∨ c = 7 ∨ c = 10) : ∀ n, ab_hs a n c i = a c i
  | 0 => rfl
  | n + 1 => by rw [ab_hs, ab_hr_ne _ _ _ h, ab_hs_ne a c i h n]
theorem ab_P.hs {a : ab_T} (h : ab_P a) (n : Nat) : ab_P (ab_hs a n) := fun i hi => by
  rw [ab_hs_ne a 3 i (by omega), ab_hs_0 a (by decide)]
  exact h i hi
theorem bm_rg1_ex {x : Int32} {n : Nat} (h : bm_rg x 1 n = true) : ∃ j : Nat, 1 ≤ j ∧ j ≤ n ∧ j < 2147483648 ∧ x = nI j := by
  have h0 : bm_rg x 0 n = true := by
    simp only [bm_rg, Bool.and_eq_true, decide_eq_true_eq] at h ⊢
    omega
  obtain ⟨j, h1, h2, rfl⟩ := bm_rg_ex h0
  simp only [bm_rg, Bool.and_eq_true, decide_eq_true_eq, bn_toInt h2] at h
  exact ⟨j, by omega, h1, h2, rfl⟩
/-- a class's test of 1 to n -/
theorem bm_rg1 (x : Int32) {n : Nat} (hn : n < 2147483648) (A B : bm_R) : cond (decide (x < nI 1)) B (cond (decide (nI n < x)) B A) = cond (bm_rg x 1 n) A B := by
  rw [bm_lt_toInt, bm_lt_toInt, bn_toInt (by decide), bn_toInt hn]
  unfold bm_rg
  by_cases h1 : x.toInt < 1
  · have : ¬ (1 : Int) ≤ x.toInt := by omega
    simp [h1, this]
  · have e1 : (1 : Int) ≤ x.toInt := by omega
    by_cases h2 : (n : Int) < x.toInt
    · have : ¬ x.toInt ≤ (n : Int) := by omega
      simp [h1, h2, e1, this]
    · have : x.toInt ≤ (n : Int) := by omega
      simp [h1, h2, e1, this]
theorem op_go (X : bm_X) (p : Int32) : ab_op X 165 190 [.ref 0, .int p] [.ref 45, .int p] := by
  intro T σ hR hT
  obtain ⟨a, ka, kp, tl, h1, h2, h3, h4, h5⟩ := id hR
  obtain ⟨hH, hS, hG, hP, hh⟩ := id h1
  have m1 : ∀ (x : Int32) (σ : bm_M), bm_ev X 32 0 [.long x.toInt64, .null, .long (lN 1), .null, .long (lN 60), .null] [] σ = some (.int (bm_bi (bm_rg x 1 60)), σ) := fun x σ => bs_inI X σ x (by decide) (by decide)
  have hb : ∀ A B : bm_R, cond (decide (p < nI 1)) B (cond (decide (nI 60 < p)) B A) = cond (bm_rg p 1 60) A B := fun A B => bm_rg1 p (n := 60) (by decide) A B
  rw [bb_165_0]
  simp only [bb_190_0, m1, bm_bI_some, bm_cond_bi, bs_tell X _ (show 0 < 7 by decide), bs_finds X _ (show 0 < 7 by decide), hb]
  cases g1 : bm_rg p 1 60
  · exact ⟨_, _, _, rfl, rfl, hR.tell (by omega) (by decide)⟩
  · obtain ⟨m, hm1, hm, -, rfl⟩ := bm_rg1_ex (n := 60) g1
    have e5 : σ 1 5 = nI (a 0 5) := hH 0 5 rfl
    obtain ⟨τ, f1, f2, f3⟩ := hc_pass X (Or.inl rfl) hH hG (m := m) (by omega) (by omega)
    obtain ⟨τ', k1, k2, k3⟩ := hm_hours X (hS.fr (f3 46 (by decide))) hG (m := m) (by omega) (by omega)
    have e6 : τ 46 0 = nI (a 0 5) := hS.fr (f3 46 (by decide)) 0 5 rfl
    have i1 := hc_milk X (Or.inl rfl) f2 (hG.hs m) (k := 0)
    have i2 := hm_pails X k2 (hG.hs m) (k := 0)
    refine ⟨nI (ab_sum (ab_hs a m 2) 12), τ, τ', ?_, ?_, ab_R.both h2 h3 h4 h5 (by omega) f2 f3 k2 k3 (hG.hs m) (hP.hs m) (by rw [ab_hs_hour]; omega)⟩
    · rw [cond_true, e5, bn_add, bn_lt (by decide) (by omega), decide_eq_false (by omega), cond_false, f1, bm_bV_some, i1, bm_bI_some]
    · rw [cond_true, bn_inT (by decide) (by decide), bm_gd_t, bn_clamp (by decide), e6, bn_add, bn_lt (by decide) (by omega), decide_eq_false (by omega), cond_false, k1, bm_bV_some, i2, bm_bI_some]
