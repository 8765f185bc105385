def tx_Jl (q i : Nat) : Prop := (12 ≤ q ∧ q ≤ 22) ∨ (q = 34 ∧ 2 ≤ i)
theorem tx_Jc.l {σ τ : bm_M} (h : ab_K tx_Jc σ τ) : ab_K tx_Jl σ τ := h.mono (fun q i z => by unfold tx_Jc tk_J at z; unfold tx_Jl; omega)
theorem tk_C.l {t : Nat → Nat} {n : Nat} {σ τ : bm_M} (h : tk_C t n σ) (hk : ab_K tx_Jl σ τ) : tk_C t n τ := by
  obtain ⟨a1, a2, a3⟩ := h
  refine ⟨by rw [hk 34 1 (by unfold tx_Jl; omega)]; exact a1, a2, fun i hi => ⟨(a3 i hi).1, ?_⟩⟩
  rw [hk 35 i (by unfold tx_Jl; omega)]
  exact (a3 i hi).2
theorem hc_loop (X : bm_X) {T : Nat} {t : Nat → Nat} {n : Nat} : ∀ (f p x c : Nat) (a : ab_T) (σ : bm_M), tk_C t n σ → p ≤ n → x ≤ p → σ 34 4 = nI p → σ 34 6 = nI c → ab_H 12 σ a → tx_gd T a → n - tk_b t n p < f → ∃ τ, bm_ev X 208 8 [.ref 34, .ref 12, .int (nI x)] [] σ = some (.int (bm_bi (tx_loop t n f (tk_b t n p) a c).1), τ) ∧ τ 34 3 = nI (tx_loop t n f (tk_b t n p) a c).2.1 ∧ ab_H 12 τ (tx_loop t n f (tk_b t n p) a c).2.2.1 ∧ τ 34 6 = nI (tx_loop t n f (tk_b t n p) a c).2.2.2 ∧ ab_K tx_Jl σ τ
  | 0, p, x, c, a, σ, _, _, _, _, _, _, _, hf => by omega
  | f + 1, p, x, c, a, σ, hC, hp, hx, h4, h6, hH, hg, hf => by
    have hn := hC.2.1
    obtain ⟨s1, r1, r2, r3, r4, r5, r6⟩ := hc_next X hC hp h4
    have lb := tk_b_le t hp
    have hT : tk_Tc t n (tk_b t n p) s1 := ⟨hC.K r6, lb.2, r2, r3, r4, r5⟩
    obtain ⟨s2, q1, q2, q3, q4⟩ := hc_item X hT (hH.J r6) hg.1
    have rg := tx_item_rg t lb.2 hg
    have kk : ab_K tx_Jl σ s2 := (tx_Jc.l (tk_J.c r6)).tr (tx_Jc.l q4)
    have e6 : s2 34 6 = nI c := by
      rw [q4 34 6 (by unfold tx_Jc tk_J; omega), r6 34 6 (by unfold tk_J; omega)]
      exact h6
    rw [bb_208_8, hC.1, bn_lt (by omega) (by omega), decide_eq_false (by omega), cond_false, r1, bm_bV_some, q1, bm_bI_some, bm_cond_bi, tx_loop, bm_bo_0, bm_gd_t]
    generalize tx_item t n (tk_b t n p) a = R at *
    cases g : R.1
    · exact ⟨s2, rfl, q2.2.2.2.1, q3, e6, kk⟩
    · have e2 : s2 34 2 = nI (tk_k t n R.2.1) := q2.2.2.1
      have kl := tk_k_le t n R.2.1
      rw [cond_true, cond_true, e6, bm_up_ni _ _ (by decide), e2, bn_add c 1, bn_add x 1, bn_eq (by omega) (by decide), bn_eq0 (by omega), bm_bo_1, bm_gd_t]
      have k6 : ab_K tx_Jl σ (bm_up s2 34 6 (nI (c + 1))) := kk.up _ (by unfold tx_Jl; omega)
      have H6 : ab_H 12 (bm_up s2 34 6 (nI (c + 1))) R.2.2 := q3.K (ab_K.up (P := fun q _ => q = 34) ab_K.rf _ rfl) (fun q i c1 c2 _ z => by omega)
      by_cases c3 : tk_k t n R.2.1 = 3
      · rw [decide_eq_true c3, cond_true, cond_true]
        have ee := tk_e3 t c3
        have le := tk_e_le t rg.2.2
        have lb' := tk_b_le t le.2
        have rl := rg.2.1
        obtain ⟨τ, y1, y2, y3, y4, y5⟩ := hc_loop X f (tk_e t n R.2.1) (x + 1) (c + 1) R.2.2 (bm_up s2 34 6 (nI (c + 1))) (hC.l k6) le.2 (by omega) (by rw [bm_up_ni _ _ (by decide)]; exact q2.2.2.2.2.1) (bm_up_at _ _ _ _) H6 rg.1 (by omega)
        exact ⟨τ, y1, y2, y3, y4, k6.tr y5⟩
      · rw [decide_eq_false c3, cond_false, cond_false]
        refine ⟨bm_up s2 34 6 (nI (c + 1)), ?_, (by rw [bm_up_ni _ _ (by decide)]; exact q2.2.2.2.1), H6, bm_up_at _ _ _ _, k6⟩
        cases decide (tk_k t n R.2.1 = 0) <;> rfl
theorem hm_loop (X : bm_X) {T : Nat} {t : Nat → Nat} {n : Nat} : ∀ (f b c : Nat) (a : ab_T) (σ : bm_M), tk_Tm t n b false σ → ab_S 46 σ a → tx_gd T a → n - b < f → ∃ y τ, bm_bV (bm_ev X 207 0 [.ref 45, .null, .null, .null] [] σ) (fun t4 => bm_ev X 209 14 [.ref 45, .int (nI (c + 1))] [] t4) = bm_ev X 209 31 [.ref 45, .int (nI y)] [] τ ∧ ((tx_loop t n f b a c).1 = true → y = (tx_loop t n f b a c).2.2.2) ∧ tk_Tm t n (tx_loop t n f b a c).2.1 (!(tx_loop t n f b a c).1) τ ∧ ((tx_loop t n f b a c).1 = true → ab_S 46 τ (tx_loop t n f b a c).2.2.1) ∧ ab_K tx_Jm σ τ
  | 0, b, c, a, σ, _, _, _, hf => by omega
  | f + 1, b, c, a, σ, h, hS, hg, hf => by
    have hb := h.2.1
    have hn := h.1.2.1
    obtain ⟨s1, r1, r2, r3, r4⟩ := hm_item X h hS hg.1
    have rg := tx_item_rg t hb hg
    rw [r1, bm_bV_some, bb_209_14, tx_loop]
    generalize tx_item t n b a = R at *
    have e12 : s1 45 12 = bm_bi (!R.1) := r2.2.2.1
    have e10 : s1 45 10 = nI R.2.1 := r2.2.2.2.1
    have e9 : s1 45 9 = nI n := r2.1.1
    have rl := rg.2.2
    rw [e12, bm_cond_bi, e10, e9, bn_lt (by omega) (by omega)]
    cases g : R.1
    · rw [g] at r2
      exact ⟨c + 1, s1, rfl, (fun q => by cases q), r2, (fun q => by cases q), r4⟩
    · rw [g] at r2
      rw [Bool.not_true, cond_false, cond_true]
      have r2 : tk_Tm t n R.2.1 false s1 := r2
      have k0 := tk_k0 t rl
      by_cases l : R.2.1 < n
      · rw [decide_eq_true l, cond_true, hm_iw X r2 (by decide) (by decide), bm_bI_some, Bool.not_false, Bool.true_and, tk_wd74 t rl]
        obtain ⟨s2, q1, q2, q3⟩ := hm_mu X (g := decide (tk_k t n R.2.1 = 3)) r2
        rw [q1, bm_bV_some]
        by_cases c3 : tk_k t n R.2.1 = 3
        · rw [decide_eq_true c3] at q2
          have q2 : tk_Tm t n (tk_nx t n R.2.1) false s2 := q2
          have ee := tk_e3 t c3
          have le := tk_e_le t rl
          have lb' := tk_b_le t le.2
          have rl2 := rg.2.1
          have lx : R.2.1 < tk_nx t n R.2.1 := by
            unfold tk_nx
            omega
          obtain ⟨y, τ, y1, y2, y3, y4, y5⟩ := hm_loop X f (tk_nx t n R.2.1) (c + 1) R.2.2 s2 q2 ((r3 g).H q3) rg.1 (by omega)
          rw [decide_eq_true c3, cond_true, bn_add]
          exact ⟨y, τ, y1, y2, y3, y4, (r4.tr (tk_H.m q3)).tr y5⟩
        · rw [decide_eq_false c3] at q2
          have q2 : tk_Tm t n R.2.1 true s2 := q2
          obtain ⟨s3, p1, p2, p3⟩ := hm_itemT X q2
          have e12' : s3 45 12 = bm_bi true := p2.2.2.1
          rw [p1, bm_bV_some, bn_add, bb_209_14, e12', bm_cond_bi, cond_true, decide_eq_false c3, cond_false, decide_eq_false (show ¬ tk_k t n R.2.1 = 0 by omega)]
          exact ⟨c + 1 + 1, s3, rfl, (fun q => by cases q), p2, (fun q => by cases q), (r4.tr (tk_H.m q3)).tr p3⟩
      · have z : tk_k t n R.2.1 = 0 := k0.2 (by omega)
        rw [decide_eq_false l, cond_false, z]
        exact ⟨c + 1, s1, rfl, fun _ => rfl, r2, fun _ => r3 g, r4⟩
def tx_PC (q i : Nat) : Prop := (1 ≤ q ∧ q ≤ 22) ∨ q = 34
def tx_PM (q i : Nat) : Prop := q = 46 ∨ q = 48 ∨ (q = 45 ∧ 9 ≤ i ∧ i ≤ 12)
theorem hc_text (X : bm_X) {T : Nat} {t : Nat → Nat} {n : Nat} {a : ab_T} {σ : bm_M} (hC : tk_C t n σ) (hH : ab_H 1 σ a) (hg : tx_gd T a) : ∃ τ, bm_ev X 210 0 [.ref 0, .null] [] σ = some (.int (bif (tx_loop t n (n + 1) (tk_b t n 0) a 0).1 then nI (tx_loop t n (n + 1) (tk_b t n 0) a 0).2.2.2 else -nI 1 - nI (tx_loop t n (n + 1) (tk_b t n 0) a 0).2.1), τ) ∧ ab_H 1 τ (bif (tx_loop t n (n + 1) (tk_b t n 0) a 0).1 then (tx_loop t n (n + 1) (tk_b t n 0) a 0).2.2.1 else a) ∧ τ 34 1 = nI 0 ∧ ab_K tx_PC σ τ := by
  obtain ⟨s1, r1, r2, r3⟩ := hc_begin X hH
  have k1 : ab_K tx_Jl σ (bm_up (bm_up s1 34 4 (nI 0)) 34 6 (nI 0)) := ((r3.K.mono (fun q i z => by unfold tx_Jl; omega)).up _ (by unfold tx_Jl; omega)).up _ (by unfold tx_Jl; omega)
  have lb := tk_b_le t (Nat.zero_le n)
  obtain ⟨s2, q1, q2, q3, q4, q5⟩ := hc_loop X (T := T) (t := t) (n := n) (n + 1) 0 0 0 a (bm_up (bm_up s1 34 4 (nI 0)) 34 6 (nI 0)) (hC.l k1) (Nat.zero_le _) (Nat.le_refl _) (by rw [bm_up_ni _ _ (by decide), bm_up_at]) (bm_up_at _ _ _ _) (r2.K (ab_K.up (P := fun q _ => q = 34) (ab_K.up (P := fun q _ => q = 34) ab_K.rf _ rfl) _ rfl) (fun q i c1 c2 _ z => by omega)) hg (by omega)
  rw [bb_210_0, r1, bm_bV_some, bb_208_0, q1, bm_bI_some, bm_cond_bi]
  generalize tx_loop t n (n + 1) (tk_b t n 0) a 0 = R at *
  have k2 : ab_K tx_Jl σ s2 := k1.tr q5
  have k3 : ab_K tx_PC σ (bm_up s2 34 1 (nI 0)) := (k2.mono (fun q i z => by unfold tx_Jl at z; unfold tx_PC; omega)).up _ (by unfold tx_PC; omega)
  have H1 : ab_H 1 (bm_up s2 34 1 (nI 0)) a := (hH.K k2 (fun q i c1 c2 _ z => by unfold tx_Jl at z; omega)).K (ab_K.up (P := fun q _ => q = 34) ab_K.rf _ rfl) (fun q i c1 c2 _ z => by omega)
  have H12 : ab_H 12 (bm_up s2 34 1 (nI 0)) R.2.2.1 := q3.K (ab_K.up (P := fun q _ => q = 34) ab_K.rf _ rfl) (fun q i c1 c2 _ z => by omega)
  have e3 : (bm_up s2 34 1 (nI 0)) 34 3 = nI R.2.1 := by rw [bm_up_ni _ _ (by decide)]; exact q2
  have e6 : (bm_up s2 34 1 (nI 0)) 34 6 = nI R.2.2.2 := by rw [bm_up_ni _ _ (by decide)]; exact q4
  cases g : R.1
  · rw [cond_false, e3]
    exact ⟨_, rfl, H1, bm_up_at _ _ _ _, k3⟩
  · obtain ⟨s3, p1, p2, p3⟩ := hc_becomeA X (o := 1) (o2 := 12) (Or.inl rfl) (Or.inr (Or.inl rfl)) (by decide) H12
    rw [cond_true, p1, bm_bV_some, p3 34 (by omega), e6]
    exact ⟨s3, rfl, p2, by rw [p3 34 (by omega)]; exact bm_up_at _ _ _ _, k3.tr (p3.K.mono (fun q i z => by unfold tx_PC; omega))⟩
theorem hm_text (X : bm_X) {T : Nat} {t : Nat → Nat} {n : Nat} {a : ab_T} {σ : bm_M} (hM : tk_M t n σ) (hS : ab_S 46 σ a) (hg : tx_gd T a) : ∃ τ, bm_ev X 209 0 [.ref 45, .null] [] σ = some (.int (bif (tx_loop t n (n + 1) (tk_b t n 0) a 0).1 then nI (tx_loop t n (n + 1) (tk_b t n 0) a 0).2.2.2 else -nI 1 - nI (tx_loop t n (n + 1) (tk_b t n 0) a 0).2.1), τ) ∧ ab_S 46 τ (bif (tx_loop t n (n + 1) (tk_b t n 0) a 0).1 then (tx_loop t n (n + 1) (tk_b t n 0) a 0).2.2.1 else a) ∧ τ 45 9 = nI 0 ∧ ab_K tx_PM σ τ := by
  obtain ⟨s1, r1, r2, r2', r3⟩ := hm_lends X hS
  have lb := tk_b_le t (Nat.zero_le n)
  have kH : ab_K tk_H s1 (bm_up (bm_up s1 45 12 (nI 0)) 45 11 (nI 0)) := (ab_K.rf.up _ (by unfold tk_H; omega)).up _ (by unfold tk_H; omega)
  have hM1 : tk_M t n s1 := by
    obtain ⟨a1, a2, a3⟩ := hM
    refine ⟨by rw [r3 45 (by decide)]; exact a1, a2, fun i hi => ⟨(a3 i hi).1, ?_⟩⟩
    rw [r3 50 (by decide)]
    exact (a3 i hi).2
  obtain ⟨s2, q1, q2, q3, q4⟩ := hm_next X (p := 0) (hM1.H kH) (Nat.zero_le _) (bm_up_at _ _ _ _)
  have kH2 : ab_K tk_H s1 s2 := kH.tr (q4.mono (fun q i z => by unfold tk_G at z; unfold tk_H; omega))
  have hT : tk_Tm t n (tk_b t n 0) false s2 := ⟨hM1.H kH2, lb.2, by rw [q4 45 12 (by unfold tk_G; omega), bm_up_ni _ _ (by decide), bm_up_at]; rfl, q2, q3⟩
  obtain ⟨y, s3, p1, py, p2, p3, p4⟩ := hm_loop X (T := T) (n + 1) (tk_b t n 0) 0 a s2 hT (r2'.H kH2) hg (by omega)
  rw [bb_209_0, r1, bm_bV_some, bm_bo_0, bm_gd_t, q1, bm_bV_some, show (nI 1) = nI (0 + 1) from rfl, p1]
  generalize tx_loop t n (n + 1) (tk_b t n 0) a 0 = R at *
  have e12 : (bm_up s3 45 9 (nI 0)) 45 12 = bm_bi (!R.1) := by rw [bm_up_ni _ _ (by decide)]; exact p2.2.2.1
  have k3 : ab_K tx_Jm s1 s3 := (tk_H.m kH2).tr p4
  have k4 : ab_K tx_PM σ (bm_up s3 45 9 (nI 0)) := (((ab_q.K r3).mono (fun q i z => by unfold tx_PM; omega)).tr (k3.mono (fun q i z => by unfold tx_Jm tk_H at z; unfold tx_PM; omega))).up _ (by unfold tx_PM; omega)
  rw [bb_209_31, e12, bm_cond_bi]
  cases g : R.1
  · have S48 : ab_S 48 (bm_up s3 45 9 (nI 0)) a := (r2.K k3 (fun i z => by unfold tx_Jm tk_H at z; omega)).ne _ _ (by decide)
    obtain ⟨s4, y1, y2, y3, y4⟩ := hm_laysBack X S48
    rw [Bool.not_false, cond_true, y1, bm_bV_some, y4 45 (by decide), bm_up_ni _ _ (by decide), p2.2.2.2.1]
    exact ⟨s4, rfl, y2, by rw [y4 45 (by decide), bm_up_at], k4.tr ((ab_q.K y4).mono (fun q i z => by unfold tx_PM; omega))⟩
  · rw [Bool.not_true, cond_false, py g]
    exact ⟨_, rfl, (p3 g).ne _ _ (by decide), bm_up_at _ _ _ _, k4⟩
theorem op_text (X : bm_X) : ab_op X 210 209 [.ref 0, .null] [.ref 45, .null] := by
  intro T σ hR hT
  obtain ⟨a, ka, kp, tl, h1, h2, h3, h4, h5⟩ := hR
  obtain ⟨g1, g2, g3, g4, g5⟩ := h1
  obtain ⟨t1, t2, t3, t4⟩ := id h3
  have tc : ∀ i, i < tl → (σ 35 i).toNatClampNeg < 256 ∧ σ 35 i = nI (σ 35 i).toNatClampNeg ∧ σ 50 i = nI (σ 35 i).toNatClampNeg := by
    intro i hi
    obtain ⟨b, b1, b2, b3⟩ := t4 i hi
    rw [b2, bn_clamp (by omega)]
    exact ⟨b1, rfl, b3⟩
  have hg : tx_gd T a := ⟨g3, g4, g5⟩
  obtain ⟨τ, r1, r2, r3, r4⟩ := hc_text X (t := fun i => (σ 35 i).toNatClampNeg) (n := tl) ⟨t1, t3, fun i hi => ⟨(tc i hi).1, (tc i hi).2.1⟩⟩ g1 hg
  have kM : ∀ q i, 35 ≤ q → τ q i = σ q i := fun q i hq => r4 q i (by unfold tx_PC; omega)
  obtain ⟨τ', q1, q2, q3, q4⟩ := hm_text X (t := fun i => (σ 35 i).toNatClampNeg) (n := tl) (σ := τ) ⟨by rw [kM 45 9 (by decide)]; exact t2, t3, fun i hi => ⟨(tc i hi).1, by rw [kM 50 i (by decide)]; exact (tc i hi).2.2⟩⟩ (g2.K r4 (fun i z => by unfold tx_PC at z; omega)) hg
  refine ⟨_, τ, τ', r1, q1, ?_⟩
  have lb := tk_b_le (fun i => (σ 35 i).toNatClampNeg) (Nat.zero_le tl)
  have lg := tx_loop_gd (T := T) (fun i => (σ 35 i).toNatClampNeg) (n := tl) (tl + 1) _ a 0 lb.2 hg
  generalize tx_loop (fun i => (σ 35 i).toNatClampNeg) tl (tl + 1) (tk_b (fun i => (σ 35 i).toNatClampNeg) tl 0) a 0 = R at *
  have kk : ab_K (fun q i => tx_PC q i ∨ tx_PM q i) σ τ' := (r4.mono (fun q i z => Or.inl z)).tr (q4.mono (fun q i z => Or.inr z))
  have gd : tx_gd T (bif R.1 then R.2.2.1 else a) := by
    cases R.1
    · exact hg
    · exact lg
  refine ⟨bif R.1 then R.2.2.1 else a, ka, kp, 0, ⟨r2.K q4 (fun q i c1 c2 _ z => by unfold tx_PM at z; omega), q2, gd.1, gd.2.1, Nat.le_trans gd.2.2 (by omega)⟩, h2.K (by omega) kk (fun q i z => ?_), ⟨by rw [q4 34 1 (by unfold tx_PM; omega)]; exact r3, q3, by decide, fun i hi => absurd hi (by omega)⟩, h4.K kk (fun q i z => ?_), h5.K kk (fun q i z => ?_)⟩
  · unfold tx_PC tx_PM at z
    unfold ab_J
    omega
  · unfold tx_PC tx_PM at z
    unfold ab_J
    omega
  · unfold tx_PC tx_PM at z
    omega
