/-! WHAT WILL BE: ahead, where, when, meet, bare -/
def ab_JM (q i : Nat) : Prop := ab_J q i ∨ q = 46
theorem ab_fin0 {T T' : Nat} {σ τ ρ : bm_M} {a ka : ab_T} {kp : Bool} {tl : Nat} (h1 : ab_CH a T σ) (h2 : ab_CK ka kp T σ) (h3 : ab_CT tl σ) (h4 : ab_CS σ) (h5 : ab_CF σ) (hT : T ≤ T') (k1 : ab_K ab_J σ τ) (k2 : ab_K ab_JM τ ρ) (hS : ab_S 46 ρ a) : ab_R T' ρ := by
  obtain ⟨g1, g2, g3, g4, g5⟩ := h1
  have kk : ab_K ab_JM σ ρ := (k1.mono (fun q i z => Or.inl z)).tr k2
  refine ab_R.herd h2 h3 h4 h5 hT (kk.mono (fun q i z => ?_)) ⟨g1.K kk (fun q i c1 c2 _ z => ?_), hS, g3, g4, by omega⟩
  · rcases z with z | z
    · exact Or.inl z
    · exact Or.inr (Or.inr z)
  · unfold ab_JM ab_J at z; omega
theorem ab_finK {T T' : Nat} {σ τ ρ : bm_M} {a ka : ab_T} {kp : Bool} {tl k : Nat} (h1 : ab_CH a T σ) (h2 : ab_CK ka kp T σ) (h3 : ab_CT tl σ) (h4 : ab_CS σ) (h5 : ab_CF σ) (hT : T ≤ T') (hk : k < 7) (k1 : ab_K ab_J σ τ) (k2 : ab_K ab_JM (bm_tl k τ) ρ) (hS : ab_S 46 ρ a) : ab_R T' (bm_fo k ρ) := by
  obtain ⟨g1, g2, g3, g4, g5⟩ := h1
  have kk : ab_K (fun q i => ab_JM q i ∨ q = 43 ∨ q = 49) σ (bm_fo k ρ) := by
    have a1 : ab_K (fun q i => ab_JM q i ∨ q = 43 ∨ q = 49) σ (bm_tl k τ) := (k1.mono (fun q i z => Or.inl (Or.inl z))).up _ (Or.inr (Or.inl rfl))
    exact (a1.tr (k2.mono (fun q i z => Or.inl z))).up _ (Or.inr (Or.inr rfl))
  refine ⟨a, ka, kp, tl, ⟨g1.K kk (fun q i c1 c2 _ z => ?_), hS.ne _ _ (by decide), g3, g4, by omega⟩, h2.K hT kk (fun q i z => ?_), h3.K kk (fun q i z => ?_), h4.K kk (fun q i z => ?_), fun j hj => ?_⟩
  · unfold ab_JM ab_J at z; omega
  · unfold ab_JM at z; unfold ab_J at z ⊢; omega
  · unfold ab_JM at z; unfold ab_J at z ⊢; omega
  · unfold ab_JM at z; unfold ab_J at z ⊢; omega
  · have n43 : ∀ i, ¬ ab_JM 43 i := fun i z => by unfold ab_JM ab_J at z; omega
    have n49 : ∀ i, ¬ ab_JM 49 i := fun i z => by unfold ab_JM ab_J at z; omega
    have m43 : ∀ i, ¬ ab_J 43 i := fun i z => by unfold ab_J at z; omega
    have m49 : ∀ i, ¬ ab_J 49 i := fun i z => by unfold ab_J at z; omega
    have e49 : ∀ i, ρ 49 i = σ 49 i := fun i => by
      rw [k2 49 i (n49 i)]
      unfold bm_tl
      rw [bm_up_nk _ _ (by decide), k1 49 i (m49 i)]
    unfold bm_fo
    rw [bm_up_nk _ _ (by decide), k2 43 j (n43 j)]
    unfold bm_tl
    by_cases e : j = k
    · subst e
      rw [bm_up_at, bm_up_at, k1 43 j (m43 j), e49, h5 j hj]
    · rw [bm_up_ni _ _ e, bm_up_ni _ _ e, k1 43 j (m43 j), e49, h5 j hj]
theorem ab_F.J {σ τ : bm_M} (h : ab_F 12 σ τ) : ab_K ab_J σ τ := h.K.mono (fun q i z => Or.inl (by omega))
theorem ab_E.M {σ τ : bm_M} (h : ab_E σ τ) : ab_K ab_JM σ τ := h.K.mono (fun q i z => by unfold ab_JM ab_J; omega)
theorem ab_N.M {σ τ : bm_M} (h : ∀ q, q ≠ 46 → τ q = σ q) : ab_K ab_JM σ τ := (ab_q.K h).mono (fun q i z => Or.inr z)
theorem ab_48.M {σ τ : bm_M} (h : ∀ q, q ≠ 48 → τ q = σ q) : ab_K ab_JM σ τ := (ab_q.K h).mono (fun q i z => by unfold ab_JM ab_J; omega)
def ab_JL (q i : Nat) : Prop := q = 46 ∨ q = 48 ∨ (q = 45 ∧ i = 5)
theorem ab_K.LM {σ τ : bm_M} (h : ab_K ab_JL σ τ) : ab_K ab_JM σ τ := h.mono (fun q i z => by unfold ab_JL at z; unfold ab_JM ab_J; omega)
theorem ab_E.L {σ τ : bm_M} (h : ab_E σ τ) : ab_K ab_JL σ τ := h.K.mono (fun q i z => by unfold ab_JL; omega)
theorem ab_N.L {σ τ : bm_M} (h : ∀ q, q ≠ 46 → τ q = σ q) : ab_K ab_JL σ τ := (ab_q.K h).mono (fun q i z => Or.inl z)
theorem ab_48.L {σ τ : bm_M} (h : ∀ q, q ≠ 48 → τ q = σ q) : ab_K ab_JL σ τ := (ab_q.K h).mono (fun q i z => Or.inr (Or.inl z))
theorem ab_ly_lt {c i : Nat} (hw : ab_wd c i = true) : ab_ly c i < 95 := by
  obtain ⟨c1, c2⟩ := ab_wd_lt hw
  exact (ab_iy_ly c c1 i c2 hw).2
theorem hm_seen (X : bm_X) {σ : bm_M} {a b : ab_T} (hS : ab_S 46 σ b) (hA : ab_S 48 σ a) (hG : ab_G b) {n c i : Nat} (hn : n ≤ 1000) (hh : b 0 5 + n ≤ 99999) (hw : ab_wd c i = true) : ∃ τ, bm_ev X 191 0 [.ref 45, .int (nI (ab_ly c i)), .int (nI n), .null] [] σ = some (.int (nI (ab_hs b n c i)), τ) ∧ ab_S 46 τ a ∧ ab_S 48 τ a ∧ ab_K ab_JL σ τ := by
  obtain ⟨t1, e1, e2, e3⟩ := hm_hours X hS hG hn hh
  obtain ⟨t2, f1, f2, f3, f4⟩ := hm_laysBack X (hA.fr (e3.1 48 (by decide) (by decide)))
  have hl := ab_ly_lt hw
  refine ⟨t2, ?_, f2, f3, e3.L.tr (ab_N.L f4)⟩
  rw [bb_191_0, e1, bm_bV_some, bn_inT hl (by decide), bm_gd_t, f1, bm_bV_some, bn_clamp (by omega), e2 c i hw]
theorem hm_pailsIn (X : bm_X) {σ : bm_M} {a b : ab_T} (hS : ab_S 46 σ b) (hA : ab_S 48 σ a) (hG : ab_G b) {n : Nat} (hn : n ≤ 1000) (hh : b 0 5 + n ≤ 99999) : ∃ τ, bm_ev X 192 0 [.ref 45, .int (nI n), .null] [] σ = some (.int (nI (ab_sum (ab_hs b n 2) 12)), τ) ∧ ab_S 46 τ a ∧ ab_S 48 τ a ∧ ab_K ab_JL σ τ := by
  obtain ⟨t1, e1, e2, e3⟩ := hm_hours X hS hG hn hh
  obtain ⟨t2, f1, f2, f3, f4⟩ := hm_laysBack X (hA.fr (e3.1 48 (by decide) (by decide)))
  refine ⟨t2, ?_, f2, f3, e3.L.tr (ab_N.L f4)⟩
  rw [bb_192_0, e1, bm_bV_some, hm_pails X e2 (hG.hs n) (k := 0), bm_bI_some, f1, bm_bV_some]
theorem op_ahead (X : bm_X) (p v : Int32) : ab_op X 166 197 [.ref 0, .int p, .int v] [.ref 45, .int p, .int v] := by
  intro T σ hR hT
  obtain ⟨a, ka, kp, tl, h1, h2, h3, h4, h5⟩ := id hR
  obtain ⟨hH, hS, hG, hP, hh⟩ := id h1
  have i1 : ∀ (x : Int32) (σ : bm_M), bm_ev X 24 0 [.int x, .int (nI 100)] [] σ = some (.int (bm_bi (bm_rg x 0 100)), σ) := fun x σ => bs_upN X σ x (by decide)
  cases g1 : bm_rg p 0 11
  · refine ⟨bm_lw 0, bm_tl 0 σ, bm_fo 0 (bm_tl 0 σ), ?_, ?_, hR.tell (by omega) (by decide)⟩
    · rw [bb_166_0, bs_c66, bm_bI_some, bm_cond_bi, g1, cond_false, bs_tell X _ (by decide), bm_bI_some]
    · rw [bb_197_0, bs_m73, bm_bI_some, bm_cond_bi, g1, cond_false, bs_finds X _ (by decide), bm_bI_some]
  cases g2 : bm_rg v 0 100
  · refine ⟨bm_lw 0, bm_tl 0 σ, bm_fo 0 (bm_tl 0 σ), ?_, ?_, hR.tell (by omega) (by decide)⟩
    · rw [bb_166_0, bs_c66, bm_bI_some, bm_cond_bi, g1, cond_true, i1, bm_bI_some, bm_cond_bi, g2, cond_false, bs_tell X _ (by decide), bm_bI_some]
    · rw [bb_197_0, bs_m73, bm_bI_some, bm_cond_bi, g1, cond_true, bs_m89, bm_bI_some, bm_cond_bi, g2, cond_false, bs_finds X _ (by decide), bm_bI_some]
  obtain ⟨t, ht, -, rfl⟩ := bm_rg_ex (n := 11) g1
  obtain ⟨n, hn, -, rfl⟩ := bm_rg_ex (n := 100) g2
  obtain ⟨τ1, e1, e2, e3⟩ := hc_begin X hH
  obtain ⟨τ2, f1, f2, f3⟩ := hc_pass X (Or.inr (Or.inl rfl)) e2 hG (m := n) (by omega) (by omega)
  have kc : ab_K ab_J σ τ2 := (e3.tr f3).J
  have s2 : ab_S 46 τ2 a := hS.fr ((e3.tr f3) 46 (by decide))
  obtain ⟨τ3, l1, l2, l3, l4⟩ := hm_lends X s2
  obtain ⟨τ4, m1, m2, m3, m4⟩ := hm_seen X l3 l2 hG (n := n) (c := 2) (i := t) (by omega) (by omega) (ab_w2 (by omega))
  have m1 : bm_ev X 191 0 [.ref 45, .int (nI (17 + t)), .int (nI n), .null] [] τ3 = some (.int (nI (ab_hs a n 2 t)), τ4) := m1
  refine ⟨nI (ab_hs a n 2 t), τ2, τ4, ?_, ?_, ab_fin0 h1 h2 h3 h4 h5 (by omega) kc ((ab_48.M l4).tr m4.LM) m2⟩
  · have e14 : τ2 14 t = nI (ab_hs a n 2 t) := f2 2 t (ab_w2 (by omega))
    rw [bb_166_0, bs_c66, bm_bI_some, bm_cond_bi, g1, cond_true, i1, bm_bI_some, bm_cond_bi, g2, cond_true, e1, bm_bV_some, f1, bm_bV_some, bn_inT (by omega) (by decide), bm_gd_t, bn_clamp (by omega), e14]
  · rw [bb_197_0, bs_m73, bm_bI_some, bm_cond_bi, g1, cond_true, bs_m89, bm_bI_some, bm_cond_bi, g2, cond_true, l1, bm_bV_some, bn_add, m1, bm_bI_some]
theorem op_where (X : bm_X) (p w v : Int32) : ab_op X 167 198 [.ref 0, .int p, .int w, .int v] [.ref 45, .int p, .int w, .int v] := by
  intro T σ hR hT
  obtain ⟨a, ka, kp, tl, h1, h2, h3, h4, h5⟩ := id hR
  obtain ⟨hH, hS, hG, hP, hh⟩ := id h1
  have e7 : σ 1 7 = nI (a 0 7) := hH 0 7 rfl
  have e7m : σ 46 2 = nI (a 0 7) := hS 0 7 rfl
  have hc := hG.2.2.1
  have i1 : ∀ (x : Int32) (σ : bm_M), bm_ev X 24 0 [.int x, .int (nI 100)] [] σ = some (.int (bm_bi (bm_rg x 0 100)), σ) := fun x σ => bs_upN X σ x (by decide)
  cases g1 : bm_rg p 0 ((a 0 7 : Int) - 1)
  · refine ⟨bm_lw 0, bm_tl 0 σ, bm_fo 0 (bm_tl 0 σ), ?_, ?_, hR.tell (by omega) (by decide)⟩
    · rw [bb_167_0, bs_isCow X e7 hc, bm_bI_some, bm_cond_bi, g1, cond_false, bs_tell X _ (by decide), bm_bI_some]
    · rw [bb_198_0, bs_isCowM X (σ := bm_tl 0 σ) e7m hc, bm_bI_some, bm_cond_bi, g1, cond_false, bs_finds X _ (by decide), bm_bI_some]
  have cl : ∀ x : Nat, (x = 1 ∨ x = 5) → w = nI x → bm_ev X 167 0 [.ref 0, .int p, .int w, .int v] [] σ = bm_ev X 167 10 [.ref 0, .int p, .int w, .int v] [] σ := by
    intro x hx hw
    subst hw
    rw [bb_167_0, bs_isCow X e7 hc, bm_bI_some, bm_cond_bi, g1, cond_true]
    rcases hx with rfl | rfl
    · rw [bn_same, cond_true]
    · rw [bn_ne (by decide) (by decide) (by decide), cond_false, bn_same, cond_true]
  have ml : ∀ (x : Nat) (ρ : bm_M), ρ 46 2 = nI (a 0 7) → (x = 1 ∨ x = 5) → w = nI x → bm_ev X 198 0 [.ref 45, .int p, .int w, .int v] [] ρ = bm_ev X 198 10 [.ref 45, .int p, .int w, .int v] [] ρ := by
    intro x ρ hρ hx hw
    subst hw
    rw [bb_198_0, bs_isCowM X hρ hc, bm_bI_some, bm_cond_bi, g1, cond_true]
    rcases hx with rfl | rfl
    · rw [bn_same, cond_true]
    · rw [bn_ne (by decide) (by decide) (by decide), cond_false, bn_same, cond_true]
  by_cases hx : w = nI 1 ∨ w = nI 5
  · obtain ⟨x, hx, hwx⟩ : ∃ x : Nat, (x = 1 ∨ x = 5) ∧ w = nI x := by
      rcases hx with h | h
      · exact ⟨1, Or.inl rfl, h⟩
      · exact ⟨5, Or.inr rfl, h⟩
    cases g2 : bm_rg v 0 100
    · refine ⟨bm_lw 0, bm_tl 0 σ, bm_fo 0 (bm_tl 0 σ), ?_, ?_, hR.tell (by omega) (by decide)⟩
      · rw [cl x hx hwx, bb_167_10, i1, bm_bI_some, bm_cond_bi, g2, cond_false, bs_tell X _ (by decide), bm_bI_some]
      · rw [ml x (bm_tl 0 σ) e7m hx hwx, bb_198_10, bs_m89, bm_bI_some, bm_cond_bi, g2, cond_false, bs_finds X _ (by decide), bm_bI_some]
    · obtain ⟨k, hk, -, rfl⟩ := bm_rgc_ex g1
      obtain ⟨n, hn, -, rfl⟩ := bm_rg_ex (n := 100) g2
      have hk8 : k < 8 := by omega
      have hx6 : x ≤ 6 := by omega
      obtain ⟨τ1, e1, e2, e3⟩ := hc_begin X hH
      obtain ⟨τ2, f1, f2, f3⟩ := hc_pass X (Or.inr (Or.inl rfl)) e2 hG (m := n) (by omega) (by omega)
      have kc : ab_K ab_J σ τ2 := (e3.tr f3).J
      have s2 : ab_S 46 τ2 a := hS.fr ((e3.tr f3) 46 (by decide))
      obtain ⟨τ3, l1, l2, l3, l4⟩ := hm_lends X s2
      have hwd : ab_wd (4 + x) k = true := ab_w8 (by omega) (by omega) hk8
      have hly : ab_ly (4 + x) k = 29 + 7 * k + x := by
        unfold ab_ly
        split <;> omega
      obtain ⟨τ4, m1, m2, m3, m4⟩ := hm_seen X l3 l2 hG (n := n) (c := 4 + x) (i := k) (by omega) (by omega) hwd
      rw [hly] at m1
      refine ⟨nI (ab_hs a n (4 + x) k), τ2, τ4, ?_, ?_, ab_fin0 h1 h2 h3 h4 h5 (by omega) kc ((ab_48.M l4).tr m4.LM) m2⟩
      · rw [cl x hx hwx, bb_167_10, i1, bm_bI_some, bm_cond_bi, g2, cond_true, e1, bm_bV_some, f1, bm_bV_some, hwx, hc_trait X τ2 (Or.inr (Or.inl rfl)) hx6, bm_bA_some, ab_al8 (Or.inr (Or.inl rfl)) hx6, bn_inT hk8 (by decide), bm_gd_t, bn_clamp (by omega), f2.tr hx6 hk8]
      · have e8 : τ2 46 2 = nI (a 0 7) := s2 0 7 rfl
        rw [ml x τ2 e8 hx hwx, bb_198_10, bs_m89, bm_bI_some, bm_cond_bi, g2, cond_true, l1, bm_bV_some, hwx, bn_mul, bn_add, bn_add, m1, bm_bI_some]
  · have n1 : ¬ w = nI 1 := fun q => hx (Or.inl q)
    have n5 : ¬ w = nI 5 := fun q => hx (Or.inr q)
    refine ⟨bm_lw 0, bm_tl 0 σ, bm_fo 0 (bm_tl 0 σ), ?_, ?_, hR.tell (by omega) (by decide)⟩
    · rw [bb_167_0, bs_isCow X e7 hc, bm_bI_some, bm_cond_bi, g1, cond_true, decide_eq_false n1, cond_false, decide_eq_false n5, cond_false, bs_tell X _ (by decide), bm_bI_some]
    · rw [bb_198_0, bs_isCowM X (σ := bm_tl 0 σ) e7m hc, bm_bI_some, bm_cond_bi, g1, cond_true, decide_eq_false n1, cond_false, decide_eq_false n5, cond_false, bs_finds X _ (by decide), bm_bI_some]
