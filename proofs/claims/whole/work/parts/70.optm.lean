def tk_Tm (t : Nat → Nat) (n b : Nat) (fl : Bool) (σ : bm_M) : Prop := tk_M t n σ ∧ b ≤ n ∧ σ 45 12 = bm_bi fl ∧ σ 45 10 = nI b ∧ σ 45 11 = nI (tk_e t n b)
def tx_Jm (q i : Nat) : Prop := q = 46 ∨ tk_H q i
theorem tk_H.m {σ τ : bm_M} (h : ab_K tk_H σ τ) : ab_K tx_Jm σ τ := h.mono (fun q i z => Or.inr z)
theorem ab_S.H {a : ab_T} {σ τ : bm_M} (h : ab_S 46 σ a) (hk : ab_K tk_H σ τ) : ab_S 46 τ a := h.K hk (fun i z => by unfold tk_H at z; omega)
theorem tk_Tm.N {t : Nat → Nat} {n b : Nat} {fl : Bool} {σ τ : bm_M} (h : tk_Tm t n b fl σ) (hk : ∀ q, q ≠ 46 → τ q = σ q) : tk_Tm t n b fl τ := by
  obtain ⟨⟨a1, a2, a3⟩, h2, h3, h4, h5⟩ := h
  refine ⟨⟨?_, a2, fun i hi => ⟨(a3 i hi).1, ?_⟩⟩, h2, ?_, ?_, ?_⟩
  · rw [hk 45 (by decide)]; exact a1
  · rw [hk 50 (by decide)]; exact (a3 i hi).2
  · rw [hk 45 (by decide)]; exact h3
  · rw [hk 45 (by decide)]; exact h4
  · rw [hk 45 (by decide)]; exact h5
theorem hm_mu (X : bm_X) {t : Nat → Nat} {n b : Nat} {fl g : Bool} {σ : bm_M} (h : tk_Tm t n b fl σ) : ∃ τ, bm_ev X 148 0 [.ref 45, .int (bm_bi g)] [] σ = some (.null, τ) ∧ tk_Tm t n (bif fl || !g then b else tk_nx t n b) (fl || !g) τ ∧ ab_K tk_H σ τ := by
  obtain ⟨h1, h2, h3, h4, h5⟩ := h
  obtain ⟨τ, r1, r2, r3, r4, r5⟩ := hm_must X (g := g) h1 (tk_e_le t h2).2 h3 h5
  refine ⟨τ, r1, ?_, r5⟩
  cases hy : (fl || !g)
  · rw [hy] at r2
    have q := r4 hy
    exact ⟨h1.H r5, (tk_nx_le t h2).2, r2, q.1, q.2⟩
  · rw [hy] at r2
    have q := r3 hy
    exact ⟨h1.H r5, h2, r2, by rw [q.1, h4]; rfl, q.2⟩
theorem hm_nu (X : bm_X) {t : Nat → Nat} {n b hi : Nat} {fl : Bool} {σ : bm_M} (h : tk_Tm t n b fl σ) (hh : hi ≤ 999) : ∃ x τ, bm_ev X 162 0 [.ref 45, .int (nI 0), .int (nI hi), .null, .null] [] σ = some (.int x, τ) ∧ (tk_ok t n b hi = true → x = nI (tk_v t n b)) ∧ tk_Tm t n (bif fl || !tk_ok t n b hi then b else tk_nx t n b) (fl || !tk_ok t n b hi) τ ∧ ab_K tk_H σ τ := by
  obtain ⟨h1, h2, h3, h4, h5⟩ := h
  obtain ⟨x, τ, r1, rx, r2, r3, r4, r5⟩ := hm_num X (hi := hi) h1 h2 hh h3 h4 h5
  refine ⟨x, τ, r1, rx, ?_, r5⟩
  cases hy : (fl || !tk_ok t n b hi)
  · rw [hy] at r2
    have q := r4 hy
    exact ⟨h1.H r5, (tk_nx_le t h2).2, r2, q.1, q.2⟩
  · rw [hy] at r2
    have q := r3 hy
    exact ⟨h1.H r5, h2, r2, q.1, q.2⟩
theorem hm_iw (X : bm_X) {t : Nat → Nat} {n b w : Nat} {fl : Bool} {σ : bm_M} (h : tk_Tm t n b fl σ) (hw : 60 ≤ w) (hw' : w ≤ 74) : bm_ev X 161 0 [.ref 45, .ref w, .null, .null] [] σ = some (.int (bm_bi (!fl && tk_wd t n b w)), σ) := by
  obtain ⟨h1, h2, h3, h4, h5⟩ := h
  exact hm_isw X h1 h2 hw hw' h3 h4 h5
theorem hm_nx (X : bm_X) {t : Nat → Nat} {n b : Nat} {fl : Bool} {σ : bm_M} (h : tk_Tm t n b fl σ) : ∃ τ, bm_ev X 133 0 [.ref 45, .null, .null] [] σ = some (.null, τ) ∧ tk_Tm t n (tk_nx t n b) fl τ ∧ ab_K tk_H σ τ := by
  obtain ⟨h1, h2, h3, h4, h5⟩ := h
  obtain ⟨τ, r1, r2, r3, r4⟩ := hm_next X h1 (tk_e_le t h2).2 h5
  have k : ab_K tk_H σ τ := r4.mono (fun q i z => by unfold tk_G at z; unfold tk_H; omega)
  exact ⟨τ, r1, ⟨h1.H k, (tk_nx_le t h2).2, by rw [r4 45 12 (by unfold tk_G; omega)]; exact h3, r2, r3⟩, k⟩
/-- perhaps a word: then on -/
theorem hm_pw (X : bm_X) {t : Nat → Nat} {n b w : Nat} {fl : Bool} {σ : bm_M} (h : tk_Tm t n b fl σ) (hw : 60 ≤ w) (hw' : w ≤ 74) : ∃ τ, bm_ev X 181 0 [.ref 45, .ref w, .null] [] σ = some (.int (bm_bi (!fl && tk_wd t n b w)), τ) ∧ tk_Tm t n (bif !fl && tk_wd t n b w then tk_nx t n b else b) fl τ ∧ ab_K tk_H σ τ := by
  rw [bb_181_0, hm_iw X h hw hw', bm_bI_some, bm_cond_bi, bm_bo_bi, bm_gd_t]
  cases !fl && tk_wd t n b w
  · exact ⟨σ, rfl, h, ab_K.rf⟩
  · obtain ⟨τ, r1, r2, r3⟩ := hm_nx X h
    exact ⟨τ, by rw [cond_true, r1, bm_bV_some, bm_gd_t], r2, r3⟩
