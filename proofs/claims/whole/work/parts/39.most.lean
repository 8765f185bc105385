/-! WHAT GIVES THE MOST: graze, toneFor, kindFor -/
def ab_bm (v : Nat → Nat) : Nat → Nat × Nat
  | 0 => (0, v 0)
  | j + 1 => bif decide ((ab_bm v j).2 < v (j + 1)) then (j + 1, v (j + 1)) else ab_bm v j
theorem ab_bm_lt {v : Nat → Nat} (hv : ∀ j, v j < 2147483648) : ∀ j, (ab_bm v j).2 < 2147483648
  | 0 => hv 0
  | j + 1 => by
    unfold ab_bm
    cases decide ((ab_bm v j).2 < v (j + 1))
    · exact ab_bm_lt hv j
    · exact hv (j + 1)
theorem bn_m1lt {n : Nat} (h : n < 2147483648) : -nI 1 < nI n := by
  rw [Int32.lt_iff_toInt_lt, bn_toInt h]
  have : (-nI 1).toInt = -1 := by decide
  omega
theorem hc_most {σ0 : bm_M} {v : Nat → Nat} (hv : ∀ j, v j < 2147483648) {K : Nat} (f : Int32 → Int32 → Nat → bm_M → bm_R) (hf : ∀ x y j σ, j ≤ K → ab_F 12 σ0 σ → ∃ τ, f x y j σ = (bif decide (y < nI (v j)) then f (nI j) (nI (v j)) (j + 1) τ else f x y (j + 1) τ) ∧ ab_F 12 σ0 τ) (hf1 : ∀ x y σ, f x y (K + 1) σ = some (.int x, σ)) : ∀ (i j : Nat) (σ : bm_M), j + i = K → ab_F 12 σ0 σ → ∃ τ, f (nI (ab_bm v j).1) (nI (ab_bm v j).2) (j + 1) σ = some (.int (nI (ab_bm v K).1), τ) ∧ ab_F 12 σ0 τ
  | 0, j, σ, e, hF => by
    have e2 : j = K := by omega
    subst e2
    exact ⟨σ, hf1 _ _ _, hF⟩
  | i + 1, j, σ, e, hF => by
    obtain ⟨t, e1, e2⟩ := hf (nI (ab_bm v j).1) (nI (ab_bm v j).2) (j + 1) σ (by omega) hF
    obtain ⟨τ, f1, f2⟩ := hc_most hv f hf hf1 i (j + 1) t (by omega) e2
    refine ⟨τ, ?_, f2⟩
    rw [e1, bn_lt (ab_bm_lt hv j) (hv _), ← f1]
    conv => rhs; unfold ab_bm
    cases decide ((ab_bm v j).2 < v (j + 1)) <;> rfl
theorem hc_most0 {σ0 : bm_M} {v : Nat → Nat} (hv : ∀ j, v j < 2147483648) {K : Nat} (f : Int32 → Int32 → Nat → bm_M → bm_R) (hf : ∀ x y j σ, j ≤ K → ab_F 12 σ0 σ → ∃ τ, f x y j σ = (bif decide (y < nI (v j)) then f (nI j) (nI (v j)) (j + 1) τ else f x y (j + 1) τ) ∧ ab_F 12 σ0 τ) (hf1 : ∀ x y σ, f x y (K + 1) σ = some (.int x, σ)) : ∃ τ, f (nI 0) (-nI 1) 0 σ0 = some (.int (nI (ab_bm v K).1), τ) ∧ ab_F 12 σ0 τ := by
  obtain ⟨t, e1, e2⟩ := hf (nI 0) (-nI 1) 0 σ0 (by omega) (fun _ _ => rfl)
  obtain ⟨τ, f1, f2⟩ := hc_most hv f hf hf1 K 0 t (by omega) e2
  refine ⟨τ, ?_, f2⟩
  rw [e1, decide_eq_true (bn_m1lt (hv 0)), cond_true, ← f1]
  rfl
theorem hm_tries (X : bm_X) (σ : bm_M) (j w : Nat) : ∃ τ, bm_ev X 92 0 [.ref 45, .int (nI j), .int (nI w)] [] σ = some (.null, τ) ∧ τ 45 6 = (if σ 45 7 < nI w then nI j else σ 45 6) ∧ τ 45 7 = bm_max (σ 45 7) (nI w) ∧ ab_K (fun q i => q = 45 ∧ (i = 6 ∨ i = 7)) σ τ := by
  rw [bb_92_0]
  by_cases e : σ 45 7 < nI w
  · rw [decide_eq_true e, cond_true, bb_92_9, if_pos e]
    refine ⟨_, rfl, ?_, ?_, (ab_K.rf.up _ ⟨rfl, Or.inl rfl⟩).up _ ⟨rfl, Or.inr rfl⟩⟩
    · rw [bm_up_ni _ _ (by decide), bm_up_at]
    · rw [bm_up_at, bm_up_ni _ _ (by decide)]
  · rw [decide_eq_false e, cond_false, bb_92_9, if_neg e]
    refine ⟨_, rfl, ?_, ?_, (ab_K.rf.up _ ⟨rfl, Or.inl rfl⟩).up _ ⟨rfl, Or.inr rfl⟩⟩
    · rw [bm_up_ni _ _ (by decide), bm_up_at]
    · rw [bm_up_at, bm_up_ni _ _ (by decide)]
theorem ab_67.M {σ τ : bm_M} (h : ab_K (fun q i => q = 45 ∧ (i = 6 ∨ i = 7)) σ τ) : ab_K ab_JM σ τ := h.mono (fun q i z => by unfold ab_JM ab_J; omega)
theorem hm_most (X : bm_X) {a : ab_T} {v : Nat → Nat} (hv : ∀ j, v j < 2147483648) {K : Nat} (g : Nat → bm_M → bm_R) (hg : ∀ j σ, j ≤ K → ab_S 46 σ a → ∃ τ, g j σ = bm_bV (bm_ev X 92 0 [.ref 45, .int (nI j), .int (nI (v j))] [] τ) (fun t => g (j + 1) t) ∧ ab_S 46 τ a ∧ ab_K ab_JL σ τ) (hg1 : ∀ σ, g (K + 1) σ = some (.int (σ 45 6), σ)) : ∀ (i j : Nat) (σ : bm_M), j + i = K → ab_S 46 σ a → σ 45 6 = nI (ab_bm v j).1 → σ 45 7 = nI (ab_bm v j).2 → ∃ τ, g (j + 1) σ = some (.int (nI (ab_bm v K).1), τ) ∧ ab_S 46 τ a ∧ ab_K ab_JM σ τ
  | 0, j, σ, e, hS, h6, h7 => by
    have e2 : j = K := by omega
    subst e2
    exact ⟨σ, by rw [hg1, h6], hS, ab_K.rf⟩
  | i + 1, j, σ, e, hS, h6, h7 => by
    obtain ⟨t, e1, e2, e3⟩ := hg (j + 1) σ (by omega) hS
    obtain ⟨s, d1, d2, d3, d4⟩ := hm_tries X t (j + 1) (v (j + 1))
    have n6 : ¬ ab_JL 45 6 := by unfold ab_JL; omega
    have n7 : ¬ ab_JL 45 7 := by unfold ab_JL; omega
    have b1 := ab_bm_lt hv j
    have b2 := hv (j + 1)
    have k6 : s 45 6 = nI (ab_bm v (j + 1)).1 := by
      rw [d2, e3 45 7 n7, e3 45 6 n6, h6, h7]
      conv => rhs; unfold ab_bm
      have q := bn_lt b1 b2
      by_cases c : (ab_bm v j).2 < v (j + 1)
      · rw [if_pos (by rw [decide_eq_true c] at q; exact of_decide_eq_true q), decide_eq_true c]
        rfl
      · rw [if_neg (by rw [decide_eq_false c] at q; exact of_decide_eq_false q), decide_eq_false c]
        rfl
    have k7 : s 45 7 = nI (ab_bm v (j + 1)).2 := by
      rw [d3, e3 45 7 n7, h7, bn_max b1 b2]
      conv => rhs; unfold ab_bm
      by_cases c : (ab_bm v j).2 < v (j + 1)
      · rw [decide_eq_true c, cond_true, Nat.max_eq_right (by omega)]
      · rw [decide_eq_false c, cond_false, Nat.max_eq_left (by omega)]
    have sS : ab_S 46 s a := e2.K d4 (fun i z => by omega)
    obtain ⟨τ, f1, f2, f3⟩ := hm_most X hv g hg hg1 i (j + 1) s (by omega) sS k6 k7
    exact ⟨τ, by rw [e1, d1, bm_bV_some, f1], f2, e3.LM.tr ((ab_67.M d4).tr f3)⟩
theorem hm_most0 (X : bm_X) {a : ab_T} {v : Nat → Nat} (hv : ∀ j, v j < 2147483648) {K : Nat} (g : Nat → bm_M → bm_R) (hg : ∀ j σ, j ≤ K → ab_S 46 σ a → ∃ τ, g j σ = bm_bV (bm_ev X 92 0 [.ref 45, .int (nI j), .int (nI (v j))] [] τ) (fun t => g (j + 1) t) ∧ ab_S 46 τ a ∧ ab_K ab_JL σ τ) (hg1 : ∀ σ, g (K + 1) σ = some (.int (σ 45 6), σ)) {σ : bm_M} (hS : ab_S 46 σ a) : ∃ τ, bm_bV (bm_ev X 43 0 [.ref 45] [] σ) (fun t => g 0 t) = some (.int (nI (ab_bm v K).1), τ) ∧ ab_S 46 τ a ∧ ab_K ab_JM σ τ := by
  have k0 : ab_K (fun q i => q = 45 ∧ (i = 6 ∨ i = 7)) σ (bm_up (bm_up σ 45 6 (-nI 1)) 45 7 (-nI 1)) := (ab_K.rf.up _ ⟨rfl, Or.inl rfl⟩).up _ ⟨rfl, Or.inr rfl⟩
  have s0 : ab_S 46 (bm_up (bm_up σ 45 6 (-nI 1)) 45 7 (-nI 1)) a := hS.K k0 (fun i z => by omega)
  obtain ⟨t, e1, e2, e3⟩ := hg 0 _ (by omega) s0
  obtain ⟨s, d1, d2, d3, d4⟩ := hm_tries X t 0 (v 0)
  have n6 : ¬ ab_JL 45 6 := by unfold ab_JL; omega
  have n7 : ¬ ab_JL 45 7 := by unfold ab_JL; omega
  have t7 : t 45 7 = -nI 1 := by rw [e3 45 7 n7, bm_up_at]
  have k6 : s 45 6 = nI (ab_bm v 0).1 := by rw [d2, t7, if_pos (bn_m1lt (hv 0))]; rfl
  have k7 : s 45 7 = nI (ab_bm v 0).2 := by
    rw [d3, t7]
    unfold bm_max
    rw [if_pos (bn_m1lt (hv 0))]
    rfl
  have sS : ab_S 46 s a := e2.K d4 (fun i z => by omega)
  obtain ⟨τ, f1, f2, f3⟩ := hm_most X hv g hg hg1 K 0 s (by omega) sS k6 k7
  refine ⟨τ, ?_, f2, (ab_67.M k0).tr (e3.LM.tr ((ab_67.M d4).tr f3))⟩
  rw [bb_43_0, bm_bV_some, e1, d1, bm_bV_some, f1]
theorem ab_F.H1 {σ τ : bm_M} {a : ab_T} (h : ab_F 12 σ τ) (hH : ab_H 1 σ a) : ab_H 1 τ a := fun c i hw => by
  have := ab_wd_lt hw
  rw [h (1 + c) (by omega)]
  exact hH c i hw
/-- a try of the class: one cell of the trial is set, and hours pass -/
theorem hc_try (X : bm_X) {σ0 σ : bm_M} {a : ab_T} (hH : ab_H 1 σ0 a) (hF : ab_F 12 σ0 σ) {c i v n : Nat} (hG : ab_G (ab_set a c i v)) (hn : n ≤ 1000) (hh : ab_set a c i v 0 5 + n ≤ 99999) (hc : c ≤ 10) : ∃ t τ, bm_ev X 121 0 [.ref 0] [] σ = some (.null, t) ∧ ab_H 12 t a ∧ bm_ev X 153 0 [.ref 12, .int (nI n), .null] [] (bm_up t (12 + c) i (nI v)) = some (.null, τ) ∧ ab_H 12 τ (ab_hs (ab_set a c i v) n) ∧ ab_F 12 σ0 τ := by
  obtain ⟨t, e1, e2, e3⟩ := hc_begin X (hF.H1 hH)
  obtain ⟨τ, f1, f2, f3⟩ := hc_pass X (Or.inr (Or.inl rfl)) (e2.up c i v) hG hn hh
  refine ⟨t, τ, e1, e2, f1, f2, fun q hq => ?_⟩
  rw [f3 q hq, bm_up_ne _ _ _ (by omega), e3 q hq, hF q hq]
/-- a try of the reference -/
theorem hm_try (X : bm_X) {σ : bm_M} {a : ab_T} (hS : ab_S 46 σ a) {k w : Nat} (v : Nat) (hw : w < 7) (hk : k < 8) : ∃ t τ, bm_ev X 70 0 [.ref 45] [] σ = some (.null, t) ∧ bm_ev X 35 0 [.ref 45, .int (nI k), .int (nI w), .int (nI v)] [] t = some (.null, τ) ∧ ab_S 46 τ (ab_set a (w + 4) k v) ∧ ab_S 48 τ a ∧ ab_K ab_JL σ τ := by
  obtain ⟨t, l1, l2, l3, l4⟩ := hm_lends X hS
  obtain ⟨τ, m1, m2, m3⟩ := hm_setsw X l3 v hw hk
  exact ⟨t, τ, l1, m1, m2, l2.fr (m3 48 (by decide)), (ab_48.L l4).tr (ab_N.L m3)⟩
theorem ab_sum12 {a : ab_T} (hG : ab_G a) : ab_sum (a 2) 12 < 2147483648 := by
  have h := hG.2.2.2.2.1
  have h0 := h 0 (by decide)
  have h1 := h 1 (by decide)
  have h2 := h 2 (by decide)
  have h3 := h 3 (by decide)
  have h4 := h 4 (by decide)
  have h5 := h 5 (by decide)
  have h6 := h 6 (by decide)
  have h7 := h 7 (by decide)
  have h8 := h 8 (by decide)
  have h9 := h 9 (by decide)
  have h10 := h 10 (by decide)
  have h11 := h 11 (by decide)
  simp only [ab_sum]
  omega
