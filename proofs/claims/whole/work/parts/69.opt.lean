/-! A TOKEN is current -/
def tk_Tc (t : Nat → Nat) (n b : Nat) (σ : bm_M) : Prop := tk_C t n σ ∧ b ≤ n ∧ σ 34 2 = nI (tk_k t n b) ∧ σ 34 3 = nI b ∧ σ 34 4 = nI (tk_e t n b) ∧ σ 34 5 = nI (tk_v t n b)
def tk_nx (t : Nat → Nat) (n b : Nat) : Nat := tk_b t n (tk_e t n b)
theorem tk_nx_le (t : Nat → Nat) {n b : Nat} (h : b ≤ n) : b ≤ tk_nx t n b ∧ tk_nx t n b ≤ n := by
  have h1 := tk_e_le t h
  have h2 := tk_b_le t h1.2
  unfold tk_nx
  omega
theorem hc_nx (X : bm_X) {t : Nat → Nat} {n b : Nat} {σ : bm_M} (h : tk_Tc t n b σ) : ∃ τ, bm_ev X 56 0 [.ref 34] [] σ = some (.null, τ) ∧ tk_Tc t n (tk_nx t n b) τ ∧ ab_K tk_J σ τ := by
  obtain ⟨h1, h2, h3, h4, h5, h6⟩ := h
  obtain ⟨τ, r1, r2, r3, r4, r5, r6⟩ := hc_next X h1 (tk_e_le t h2).2 h5
  exact ⟨τ, r1, ⟨h1.K r6, (tk_nx_le t h2).2, r2, r3, r4, r5⟩, r6⟩
theorem hc_nu (X : bm_X) {t : Nat → Nat} {n b hi : Nat} {σ : bm_M} (h : tk_Tc t n b σ) (hh : hi ≤ 999) : ∃ τ, bm_ev X 105 0 [.ref 34, .int (nI hi)] [] σ = some (.int (bm_bi (tk_ok t n (tk_nx t n b) hi)), τ) ∧ tk_Tc t n (tk_nx t n b) τ ∧ ab_K tk_J σ τ := by
  obtain ⟨h1, h2, h3, h4, h5, h6⟩ := h
  obtain ⟨τ, r1, r2, r3, r4, r5, r6⟩ := hc_num X h1 (tk_e_le t h2).2 hh h5
  exact ⟨τ, r1, ⟨h1.K r6, (tk_nx_le t h2).2, r2, r3, r4, r5⟩, r6⟩
theorem hc_iw (X : bm_X) {t : Nat → Nat} {n b w : Nat} {σ : bm_M} (h : tk_Tc t n b σ) (hw : 60 ≤ w) (hw' : w ≤ 73) : bm_ev X 154 0 [.ref 34, .ref w, .null] [] σ = some (.int (bm_bi (tk_wd t n b w)), σ) := by
  obtain ⟨h1, h2, h3, h4, h5, h6⟩ := h
  exact hc_is X h1 h2 hw hw' h3 h4 h5
def tx_Jc (q i : Nat) : Prop := (12 ≤ q ∧ q ≤ 22) ∨ tk_J q i
theorem tk_Tc.K {t : Nat → Nat} {n b : Nat} {σ τ : bm_M} (h : tk_Tc t n b σ) (hk : ∀ q i, (q = 34 ∨ q = 35) → τ q i = σ q i) : tk_Tc t n b τ := by
  obtain ⟨⟨a1, a2, a3⟩, h2, h3, h4, h5, h6⟩ := h
  refine ⟨⟨?_, a2, fun i hi => ⟨(a3 i hi).1, ?_⟩⟩, h2, ?_, ?_, ?_, ?_⟩
  · rw [hk 34 1 (Or.inl rfl)]; exact a1
  · rw [hk 35 i (Or.inr rfl)]; exact (a3 i hi).2
  · rw [hk 34 2 (Or.inl rfl)]; exact h3
  · rw [hk 34 3 (Or.inl rfl)]; exact h4
  · rw [hk 34 4 (Or.inl rfl)]; exact h5
  · rw [hk 34 5 (Or.inl rfl)]; exact h6
theorem ab_H.J {a : ab_T} {σ τ : bm_M} (h : ab_H 12 σ a) (hk : ab_K tk_J σ τ) : ab_H 12 τ a := h.K hk (fun q i c1 c2 _ z => by unfold tk_J at z; omega)
theorem tk_J.c {σ τ : bm_M} (h : ab_K tk_J σ τ) : ab_K tx_Jc σ τ := h.mono (fun q i z => Or.inr z)
/-- perhaps a word and a number: fault or not, where it stands, the herd -/
def tx_opt (t : Nat → Nat) (n w c k hi b : Nat) (a : ab_T) : Bool × Nat × ab_T :=
  bif tk_wd t n b w then (bif tk_ok t n (tk_nx t n b) hi then (true, tk_nx t n (tk_nx t n b), ab_set a c k (tk_v t n (tk_nx t n b))) else (false, tk_nx t n b, a)) else (true, b, a)
theorem hc_opt (X : bm_X) {t : Nat → Nat} {n w c k hi b : Nat} {a : ab_T} {σ : bm_M} (h : tk_Tc t n b σ) (hH : ab_H 12 σ a) (hw : 60 ≤ w) (hw' : w ≤ 73) (hh : hi ≤ 999) (hc : c ≤ 10) (hk : k < 8) (hal : k < bm_al (12 + c)) : ∃ τ, bm_ev X 163 0 [.ref 34, .ref w, .ref (12 + c), .int (nI k), .int (nI hi)] [] σ = some (.int (bm_bi (tx_opt t n w c k hi b a).1), τ) ∧ tk_Tc t n (tx_opt t n w c k hi b a).2.1 τ ∧ ab_H 12 τ (tx_opt t n w c k hi b a).2.2 ∧ ab_K tx_Jc σ τ := by
  unfold tx_opt
  rw [bb_163_0, hc_iw X h hw hw', bm_bI_some, bm_cond_bi, bm_bo_1, bm_gd_t]
  cases tk_wd t n b w
  · exact ⟨σ, rfl, h, hH, ab_K.rf⟩
  · obtain ⟨s, r1, r2, r3⟩ := hc_nu X h hh
    rw [cond_true, cond_true, r1, bm_bI_some, bm_cond_bi, bm_bo_0, bm_gd_t]
    cases tk_ok t n (tk_nx t n b) hi
    · exact ⟨s, rfl, r2, hH.J r3, tk_J.c r3⟩
    · have e5 : s 34 5 = nI (tk_v t n (tk_nx t n b)) := r2.2.2.2.2.2
      have u1 : ab_H 12 (bm_up s (12 + c) k (nI (tk_v t n (tk_nx t n b)))) (ab_set a c k (tk_v t n (tk_nx t n b))) := (hH.J r3).up c k _
      have u2 : tk_Tc t n (tk_nx t n b) (bm_up s (12 + c) k (nI (tk_v t n (tk_nx t n b)))) := r2.K (fun q i hq => bm_up_nk _ _ (by omega))
      obtain ⟨τ, q1, q2, q3⟩ := hc_nx X u2
      refine ⟨τ, ?_, q2, u1.J q3, ((tk_J.c r3).up _ (Or.inl (by omega))).tr (tk_J.c q3)⟩
      rw [cond_true, bn_in (by omega), decide_eq_true hal, bm_gd_t, bn_clamp (by omega), e5, q1, bm_bV_some, bm_gd_t]
      rfl
