/-! THE FIRST HOUR AT WHICH: when, meet, bare -/
def ab_sr (P : Nat → Bool) : Nat → Nat → Nat
  | 0, h => h
  | j + 1, h => bif P h then h else ab_sr P j (h + 1)
def ab_rs (N s : Nat) (k : bm_M → bm_M) (τ : bm_M) : bm_R := bif decide (s ≤ N) then some (.int (nI s), τ) else some (.int (bm_lw 3), k τ)
theorem hc_sr (X : bm_X) {a : ab_T} (hG : ab_G a) {N : Nat} (hh : a 0 5 + N < 99999) (P : Nat → Bool) (f : Nat → bm_M → bm_R) (hf : ∀ h σ, h ≤ N → ab_H 12 σ (ab_hs a h) → f h σ = bif P h then some (.int (nI h), σ) else bm_bI (bm_ev X 141 0 [.ref 12, .null, .null] [] σ) (fun _ t => f (h + 1) t)) (hf1 : ∀ σ, f (N + 1) σ = some (.int (bm_lw 3), bm_tl 3 σ)) : ∀ (j h : Nat) (σ : bm_M), h + j = N + 1 → ab_H 12 σ (ab_hs a h) → ∃ τ, f h σ = ab_rs N (ab_sr P j h) (bm_tl 3) τ ∧ ab_F 12 σ τ
  | 0, h, σ, e, hH => by
    have e2 : h = N + 1 := by omega
    subst e2
    refine ⟨σ, ?_, fun _ _ => rfl⟩
    rw [hf1]
    unfold ab_rs ab_sr
    rw [decide_eq_false (by omega), cond_false]
  | j + 1, h, σ, e, hH => by
    rw [hf h σ (by omega) hH]
    unfold ab_sr
    cases hP : P h
    · rw [cond_false]
      obtain ⟨t, e1, e2, e3⟩ := hc_hour X (Or.inr (Or.inl rfl)) hH (hG.hs h) (by rw [ab_hs_hour]; omega)
      obtain ⟨τ, f1, f2⟩ := hc_sr X hG hh P f hf hf1 j (h + 1) t (by omega) e2
      refine ⟨τ, ?_, e3.tr f2⟩
      rw [e1, bm_bI_some, f1, cond_false]
    · refine ⟨σ, ?_, fun _ _ => rfl⟩
      rw [cond_true]
      unfold ab_rs
      rw [cond_true, decide_eq_true (by omega), cond_true]
noncomputable def ab_en (X : bm_X) (N h : Nat) (σ : bm_M) : bm_R := bm_bV (bm_ev X 71 0 [.ref 45] [] σ) (fun t => bm_bI (bm_ev X 91 0 [.ref 45, .int (nI h), .int (nI N)] [] t) (fun v s => some (.int v, s)))
theorem hm_en (X : bm_X) {a : ab_T} {N h : Nat} (hN : N ≤ 1000) (hh : h ≤ 2000) {σ : bm_M} (hA : ab_S 48 σ a) : ∃ τ, ab_en X N h σ = ab_rs N h (bm_fo 3) τ ∧ ab_S 46 τ a ∧ ab_K ab_JM σ τ := by
  obtain ⟨t, f1, f2, f3, f4⟩ := hm_laysBack X hA
  refine ⟨t, ?_, f2, ab_N.M f4⟩
  unfold ab_en ab_rs
  rw [f1, bm_bV_some, bb_91_0, bn_lt (by omega) (by omega)]
  by_cases e : N < h
  · rw [decide_eq_true e, cond_true, bs_finds X _ (by decide), bm_bI_some, bm_bI_some, decide_eq_false (by omega), cond_false]
  · rw [decide_eq_false e, cond_false, bm_bI_some, decide_eq_true (by omega), cond_true]
theorem hm_sr (X : bm_X) {a : ab_T} (hG : ab_G a) {N : Nat} (hN : N ≤ 1000) (hh : a 0 5 + N < 99999) (P : Nat → Bool) (f : Nat → bm_M → bm_R) (hf : ∀ h σ, h ≤ N → ab_S 46 σ (ab_hs a h) → f h σ = bif P h then ab_en X N h σ else bm_bV (bm_ev X 160 0 [.ref 45, .null] [] σ) (fun t => f (h + 1) t)) (hf1 : ∀ σ, f (N + 1) σ = ab_en X N (N + 1) σ) : ∀ (j h : Nat) (σ : bm_M), h + j = N + 1 → ab_S 46 σ (ab_hs a h) → ab_S 48 σ a → ∃ τ, f h σ = ab_rs N (ab_sr P j h) (bm_fo 3) τ ∧ ab_S 46 τ a ∧ ab_K ab_JM σ τ
  | 0, h, σ, e, hS, hA => by
    have e2 : h = N + 1 := by omega
    subst e2
    rw [hf1]
    exact hm_en X hN (by omega) hA
  | j + 1, h, σ, e, hS, hA => by
    rw [hf h σ (by omega) hS]
    unfold ab_sr
    cases hP : P h
    · obtain ⟨t, e1, e2, e3, -⟩ := hm_hour X hS (hG.hs h) (by rw [ab_hs_hour]; omega)
      obtain ⟨τ, f1, f2, f3⟩ := hm_sr X hG hN hh P f hf hf1 j (h + 1) t (by omega) e2 (hA.fr (e3.1 48 (by decide) (by decide)))
      refine ⟨τ, ?_, f2, e3.M.tr f3⟩
      rw [cond_false, cond_false, e1, bm_bV_some, f1]
    · rw [cond_true, cond_true]
      exact hm_en X hN (by omega) hA
theorem ab_find (X : bm_X) {T : Nat} {σ : bm_M} {a ka : ab_T} {kp : Bool} {tl : Nat} (h1 : ab_CH a T σ) (h2 : ab_CK ka kp T σ) (h3 : ab_CT tl σ) (h4 : ab_CS σ) (h5 : ab_CF σ) (hT : T ≤ 31000) {N : Nat} (hN : N ≤ 1000) (P : Nat → Bool) (f g : Nat → bm_M → bm_R) (hf : ∀ h σ, h ≤ N → ab_H 12 σ (ab_hs a h) → f h σ = bif P h then some (.int (nI h), σ) else bm_bI (bm_ev X 141 0 [.ref 12, .null, .null] [] σ) (fun _ t => f (h + 1) t)) (hf1 : ∀ σ, f (N + 1) σ = some (.int (bm_lw 3), bm_tl 3 σ)) (hg : ∀ h σ, h ≤ N → ab_S 46 σ (ab_hs a h) → g h σ = bif P h then ab_en X N h σ else bm_bV (bm_ev X 160 0 [.ref 45, .null] [] σ) (fun t => g (h + 1) t)) (hg1 : ∀ σ, g (N + 1) σ = ab_en X N (N + 1) σ) : ∃ (x : Int32) (τ τ' : bm_M), bm_bV (bm_ev X 121 0 [.ref 0] [] σ) (fun t => f 0 t) = some (.int x, τ) ∧ bm_bV (bm_ev X 70 0 [.ref 45] [] τ) (fun t => g 0 t) = some (.int x, τ') ∧ ab_R (T + 60) τ' ∧ τ 46 = σ 46 := by
  obtain ⟨hH, hS, hG, hP, hh⟩ := id h1
  obtain ⟨τ1, e1, e2, e3⟩ := hc_begin X hH
  obtain ⟨τ2, f1, f2⟩ := hc_sr X hG (N := N) (by omega) P f hf hf1 (N + 1) 0 τ1 (by omega) e2
  have kc : ab_K ab_J σ τ2 := (e3.tr f2).J
  have q2 : τ2 46 = σ 46 := (e3.tr f2) 46 (by decide)
  have s2 : ab_S 46 τ2 a := hS.fr q2
  generalize hs : ab_sr P (N + 1) 0 = s at *
  by_cases e : s ≤ N
  · obtain ⟨τ3, l1, l2, l3, l4⟩ := hm_lends X s2
    obtain ⟨τ4, m1, m2, m3⟩ := hm_sr X hG hN (by omega) P g hg hg1 (N + 1) 0 τ3 (by omega) l3 l2
    rw [hs] at m1
    unfold ab_rs at f1 m1
    rw [decide_eq_true e, cond_true] at f1 m1
    exact ⟨nI s, τ2, τ4, by rw [e1, bm_bV_some, f1], by rw [l1, bm_bV_some, m1], ab_fin0 h1 h2 h3 h4 h5 (by omega) kc ((ab_48.M l4).tr m3) m2, q2⟩
  · have s3 : ab_S 46 (bm_tl 3 τ2) a := s2.ne _ _ (by decide)
    obtain ⟨τ3, l1, l2, l3, l4⟩ := hm_lends X s3
    obtain ⟨τ4, m1, m2, m3⟩ := hm_sr X hG hN (by omega) P g hg hg1 (N + 1) 0 τ3 (by omega) l3 l2
    rw [hs] at m1
    unfold ab_rs at f1 m1
    rw [decide_eq_false e, cond_false] at f1 m1
    exact ⟨bm_lw 3, bm_tl 3 τ2, bm_fo 3 τ4, by rw [e1, bm_bV_some, f1], by rw [l1, bm_bV_some, m1], ab_finK h1 h2 h3 h4 h5 (by omega) (by decide) kc ((ab_48.M l4).tr m3) m2, (bm_up_ne _ _ _ (by decide)).trans q2⟩
theorem op_when (X : bm_X) (p v : Int32) : ab_op X 155 176 [.ref 0, .int p, .int v, .null] [.ref 45, .int p, .int v, .null] := by
  intro T σ hR hT
  obtain ⟨a, ka, kp, tl, h1, h2, h3, h4, h5⟩ := id hR
  obtain ⟨hH, hS, hG, hP, hh⟩ := id h1
  have i1 : ∀ (x : Int32) (σ : bm_M), bm_ev X 24 0 [.int x, .int (nI 99999)] [] σ = some (.int (bm_bi (bm_rg x 0 99999)), σ) := fun x σ => bs_upN X σ x (by decide)
  have m1 : ∀ (x : Int32) (σ : bm_M), bm_ev X 32 0 [.long x.toInt64, .null, .long (lN 0), .null, .long (lN 99999), .null] [] σ = some (.int (bm_bi (bm_rg x 0 99999)), σ) := fun x σ => bs_inI X σ x (by decide) (by decide)
  cases g1 : bm_rg p 0 11
  · refine ⟨bm_lw 0, bm_tl 0 σ, bm_fo 0 (bm_tl 0 σ), ?_, ?_, hR.tell (by omega) (by decide)⟩
    · rw [bb_155_0, bs_c66, bm_bI_some, bm_cond_bi, g1, cond_false, bs_tell X _ (by decide), bm_bI_some]
    · rw [bb_176_0, bs_m73, bm_bI_some, bm_cond_bi, g1, cond_false, bs_finds X _ (by decide), bm_bI_some]
  cases g2 : bm_rg v 0 99999
  · refine ⟨bm_lw 0, bm_tl 0 σ, bm_fo 0 (bm_tl 0 σ), ?_, ?_, hR.tell (by omega) (by decide)⟩
    · rw [bb_155_0, bs_c66, bm_bI_some, bm_cond_bi, g1, cond_true, i1, bm_bI_some, bm_cond_bi, g2, cond_false, bs_tell X _ (by decide), bm_bI_some]
    · rw [bb_176_0, bs_m73, bm_bI_some, bm_cond_bi, g1, cond_true, m1, bm_bI_some, bm_cond_bi, g2, cond_false, bs_finds X _ (by decide), bm_bI_some]
  obtain ⟨t, ht, -, rfl⟩ := bm_rg_ex (n := 11) g1
  obtain ⟨n, hn, -, rfl⟩ := bm_rg_ex (n := 99999) g2
  obtain ⟨x, τ, τ', r1, r2, r3, -⟩ := ab_find X h1 h2 h3 h4 h5 hT (N := 200) (by decide) (fun h => !decide (ab_hs a h 2 t < n)) (fun h σ => bm_ev X 155 15 [.ref 0, .int (nI t), .int (nI n), .int (nI h)] [] σ) (fun h σ => bm_ev X 176 17 [.ref 45, .int (nI t), .int (nI n), .int (nI h)] [] σ) (by
      intro h σ hh hH
      have e14 : σ 14 t = nI (ab_hs a h 2 t) := hH 2 t (ab_w2 (by omega))
      have b2 := (hG.hs h).2.2.2.2.1 t (by omega)
      show bm_ev X 155 15 _ _ _ = _
      rw [bb_155_15, bn_lt (by decide) (by omega), decide_eq_false (by omega), cond_false, bn_inT (by omega) (by decide), bm_gd_t, bn_clamp (by omega), e14, bn_lt (by omega) (by omega), bn_add]
      cases decide (ab_hs a h 2 t < n) <;> rfl) (by
      intro σ
      show bm_ev X 155 15 _ _ _ = _
      rw [bb_155_15, bn_lt (by decide) (by decide), decide_eq_true (by decide), cond_true, bs_tell X _ (by decide), bm_bI_some]) (by
      intro h σ hh hS
      have e46 : σ 46 (17 + t) = nI (ab_hs a h 2 t) := hS 2 t (ab_w2 (by omega))
      have b2 := (hG.hs h).2.2.2.2.1 t (by omega)
      show bm_ev X 176 17 _ _ _ = _
      rw [bb_176_17, bn_lt (by decide) (by omega), decide_eq_false (by omega), cond_false, bn_add, bn_inT (by omega) (by decide), bm_gd_t, bn_clamp (by omega), e46, bn_lt (by omega) (by omega), bn_add]
      cases decide (ab_hs a h 2 t < n) <;> rfl) (by
      intro σ
      show bm_ev X 176 17 _ _ _ = _
      rw [bb_176_17, bn_lt (by decide) (by decide), decide_eq_true (by decide), cond_true]
      rfl)
  refine ⟨x, τ, τ', ?_, ?_, r3⟩
  · rw [bb_155_0, bs_c66, bm_bI_some, bm_cond_bi, g1, cond_true, i1, bm_bI_some, bm_cond_bi, g2, cond_true]
    exact r1
  · rw [bb_176_0, bs_m73, bm_bI_some, bm_cond_bi, g1, cond_true, m1, bm_bI_some, bm_cond_bi, g2, cond_true]
    exact r2
theorem op_meet (X : bm_X) (p v : Int32) : ab_op X 156 177 [.ref 0, .int p, .int v, .null] [.ref 45, .int p, .int v, .null] := by
  intro T σ hR hT
  obtain ⟨a, ka, kp, tl, h1, h2, h3, h4, h5⟩ := id hR
  obtain ⟨hH, hS, hG, hP, hh⟩ := id h1
  have e7 : σ 1 7 = nI (a 0 7) := hH 0 7 rfl
  have e7m : σ 46 2 = nI (a 0 7) := hS 0 7 rfl
  have hc := hG.2.2.1
  cases g1 : bm_rg p 0 ((a 0 7 : Int) - 1)
  · refine ⟨bm_lw 0, bm_tl 0 σ, bm_fo 0 (bm_tl 0 σ), ?_, ?_, hR.tell (by omega) (by decide)⟩
    · rw [bb_156_0, bs_isCow X e7 hc, bm_bI_some, bm_cond_bi, g1, cond_false, bs_tell X _ (by decide), bm_bI_some]
    · rw [bb_177_0, bs_isCowM X (σ := bm_tl 0 σ) e7m hc, bm_bI_some, bm_cond_bi, g1, cond_false, bs_finds X _ (by decide), bm_bI_some]
  cases g2 : bm_rg v 0 ((a 0 7 : Int) - 1)
  · refine ⟨bm_lw 0, bm_tl 0 σ, bm_fo 0 (bm_tl 0 σ), ?_, ?_, hR.tell (by omega) (by decide)⟩
    · rw [bb_156_0, bs_isCow X e7 hc, bm_bI_some, bm_cond_bi, g1, cond_true, bs_isCow X e7 hc, bm_bI_some, bm_cond_bi, g2, cond_false, bs_tell X _ (by decide), bm_bI_some]
    · rw [bb_177_0, bs_isCowM X (σ := bm_tl 0 σ) e7m hc, bm_bI_some, bm_cond_bi, g1, cond_true, bs_isCowM X (σ := bm_tl 0 σ) e7m hc, bm_bI_some, bm_cond_bi, g2, cond_false, bs_finds X _ (by decide), bm_bI_some]
  by_cases hpv : p = v
  · refine ⟨bm_lw 0, bm_tl 0 σ, bm_fo 0 (bm_tl 0 σ), ?_, ?_, hR.tell (by omega) (by decide)⟩
    · rw [bb_156_0, bs_isCow X e7 hc, bm_bI_some, bm_cond_bi, g1, cond_true, bs_isCow X e7 hc, bm_bI_some, bm_cond_bi, g2, cond_true, decide_eq_true hpv, cond_true, bs_tell X _ (by decide), bm_bI_some]
    · rw [bb_177_0, bs_isCowM X (σ := bm_tl 0 σ) e7m hc, bm_bI_some, bm_cond_bi, g1, cond_true, bs_isCowM X (σ := bm_tl 0 σ) e7m hc, bm_bI_some, bm_cond_bi, g2, cond_true, decide_eq_true hpv, cond_true, bs_finds X _ (by decide), bm_bI_some]
  obtain ⟨k, hk, -, rfl⟩ := bm_rgc_ex g1
  obtain ⟨l, hl, -, rfl⟩ := bm_rgc_ex g2
  have hk8 : k < 8 := by omega
  have hl8 : l < 8 := by omega
  obtain ⟨x, τ, τ', r1, r2, r3, r4⟩ := ab_find X h1 h2 h3 h4 h5 hT (N := 200) (by decide) (fun h => decide (ab_hs a h 5 k = ab_hs a h 5 l)) (fun h σ => bm_ev X 156 19 [.ref 0, .int (nI k), .int (nI l), .int (nI h)] [] σ) (fun h σ => bm_ev X 177 19 [.ref 45, .int (nI k), .int (nI l), .int (nI h)] [] σ) (by
      intro h σ hh hH
      have ek : σ 17 k = nI (ab_hs a h 5 k) := hH 5 k (ab_w8 (by omega) (by omega) hk8)
      have el : σ 17 l = nI (ab_hs a h 5 l) := hH 5 l (ab_w8 (by omega) (by omega) hl8)
      have bk := ((hG.hs h).2.2.2.2.2 k hk8).2.1
      have bl := ((hG.hs h).2.2.2.2.2 l hl8).2.1
      show bm_ev X 156 19 _ _ _ = _
      rw [bb_156_19, bn_lt (by decide) (by omega), decide_eq_false (by omega), cond_false, bn_inT (by omega) (by decide), bm_gd_t, bn_inT (by omega) (by decide), bm_gd_t, bn_clamp (by omega), bn_clamp (by omega), ek, el, bn_eq (by omega) (by omega), bn_add]) (by
      intro σ
      show bm_ev X 156 19 _ _ _ = _
      rw [bb_156_19, bn_lt (by decide) (by decide), decide_eq_true (by decide), cond_true, bs_tell X _ (by decide), bm_bI_some]) (by
      intro h σ hh hS
      have bk := ((hG.hs h).2.2.2.2.2 k hk8).2.1
      have bl := ((hG.hs h).2.2.2.2.2 l hl8).2.1
      show bm_ev X 177 19 _ _ _ = _
      rw [bb_177_19, bn_lt (by decide) (by omega), decide_eq_false (by omega), cond_false, hm_it1 X hS (hG.hs h) hk8, bm_bI_some, hm_it1 X hS (hG.hs h) hl8, bm_bI_some, bn_eq (by omega) (by omega), bn_add]
      rfl) (by
      intro σ
      show bm_ev X 177 19 _ _ _ = _
      rw [bb_177_19, bn_lt (by decide) (by decide), decide_eq_true (by decide), cond_true]
      rfl)
  have e8 : τ 46 2 = nI (a 0 7) := by rw [r4]; exact e7m
  refine ⟨x, τ, τ', ?_, ?_, r3⟩
  · rw [bb_156_0, bs_isCow X e7 hc, bm_bI_some, bm_cond_bi, g1, cond_true, bs_isCow X e7 hc, bm_bI_some, bm_cond_bi, g2, cond_true, decide_eq_false hpv, cond_false]
    exact r1
  · rw [bb_177_0, bs_isCowM X e8 hc, bm_bI_some, bm_cond_bi, g1, cond_true, bs_isCowM X e8 hc, bm_bI_some, bm_cond_bi, g2, cond_true, decide_eq_false hpv, cond_false]
    exact r2
theorem op_bare (X : bm_X) : ab_op X 157 178 [.ref 0, .null] [.ref 45, .null] := by
  intro T σ hR hT
  obtain ⟨a, ka, kp, tl, h1, h2, h3, h4, h5⟩ := id hR
  obtain ⟨hH, hS, hG, hP, hh⟩ := id h1
  obtain ⟨x, τ, τ', r1, r2, r3, -⟩ := ab_find X h1 h2 h3 h4 h5 hT (N := 100) (by decide) (fun h => ab_br (ab_hs a h) 12) (fun h σ => bm_ev X 157 4 [.ref 0, .int (nI h)] [] σ) (fun h σ => bm_ev X 178 4 [.ref 45, .int (nI h)] [] σ) (by
      intro h σ hh hH
      show bm_ev X 157 4 _ _ _ = _
      rw [bb_157_4, bn_lt (by decide) (by omega), decide_eq_false (by omega), cond_false, hc_bare X (Or.inr (Or.inl rfl)) hH (hG.hs h) (k := 0), bm_bI_some, bm_cond_bi, bn_add]) (by
      intro σ
      show bm_ev X 157 4 _ _ _ = _
      rw [bb_157_4, bn_lt (by decide) (by decide), decide_eq_true (by decide), cond_true, bs_tell X _ (by decide), bm_bI_some]) (by
      intro h σ hh hS
      show bm_ev X 178 4 _ _ _ = _
      rw [bb_178_4, bn_lt (by decide) (by omega), decide_eq_false (by omega), cond_false, hm_bare X hS (hG.hs h) (k := 0), bm_bI_some, bm_cond_bi, bn_add]
      rfl) (by
      intro σ
      show bm_ev X 178 4 _ _ _ = _
      rw [bb_178_4, bn_lt (by decide) (by decide), decide_eq_true (by decide), cond_true]
      rfl)
  exact ⟨x, τ, τ', by rw [bb_157_0]; exact r1, by rw [bb_178_0]; exact r2, r3⟩
