/-! CLASS AND REFERENCE, side by side -/
/-- spots hold nothing, or one that there is -/
def ab_P (a : ab_T) : Prop := ∀ i, i < 10 → a 3 i = 4294967295 ∨ a 3 i < a 0 7
def ab_CH (a : ab_T) (T : Nat) (σ : bm_M) : Prop := ab_H 1 σ a ∧ ab_S 46 σ a ∧ ab_G a ∧ ab_P a ∧ a 0 5 ≤ T
def ab_CK (ka : ab_T) (kp : Bool) (T : Nat) (σ : bm_M) : Prop := σ 0 3 = bm_bi kp ∧ σ 45 3 = bm_bi kp ∧ (kp = true → ab_H 23 σ ka ∧ ab_S 47 σ ka ∧ ab_G ka ∧ ab_P ka ∧ ka 0 5 ≤ T)
def ab_CT (tl : Nat) (σ : bm_M) : Prop := σ 34 1 = nI tl ∧ σ 45 9 = nI tl ∧ tl ≤ 120 ∧ ∀ i, i < tl → ∃ b, b < 256 ∧ σ 35 i = nI b ∧ σ 50 i = nI b
def ab_CS (σ : bm_M) : Prop := ∀ s, s < 4 → ∃ bits size : Nat, (bits = 0 ∨ bits = 8 ∨ bits = 16 ∨ bits = 32) ∧ size ≤ 40 ∧ σ 42 s = nI bits ∧ σ 51 s = nI bits ∧ σ 41 s = nI size ∧ σ 52 s = nI size ∧ ∀ i, i < 40 → σ (37 + s) i = σ 53 (40 * s + i)
def ab_CF (σ : bm_M) : Prop := ∀ k, k < 7 → σ 43 k = σ 49 k
def ab_R (T : Nat) (σ : bm_M) : Prop := ∃ (a ka : ab_T) (kp : Bool) (tl : Nat), ab_CH a T σ ∧ ab_CK ka kp T σ ∧ ab_CT tl σ ∧ ab_CS σ ∧ ab_CF σ
/-- cells that say nothing -/
def ab_J (q i : Nat) : Prop := (12 ≤ q ∧ q ≤ 22) ∨ q = 36 ∨ q = 44 ∨ q = 48 ∨ q = 54 ∨ 55 ≤ q ∨ (q = 45 ∧ i ≠ 3 ∧ i ≠ 9) ∨ (q = 34 ∧ i ≠ 1) ∨ (q = 0 ∧ i ≠ 3)
/-- all but what may change is kept -/
def ab_K (P : Nat → Nat → Prop) (σ τ : bm_M) : Prop := ∀ q i, ¬ P q i → τ q i = σ q i
theorem ab_K.rf {P : Nat → Nat → Prop} {σ : bm_M} : ab_K P σ σ := fun _ _ _ => rfl
theorem ab_K.tr {P : Nat → Nat → Prop} {σ τ ρ : bm_M} (h : ab_K P σ τ) (h' : ab_K P τ ρ) : ab_K P σ ρ := fun q i hp => (h' q i hp).trans (h q i hp)
theorem ab_K.mono {P P' : Nat → Nat → Prop} {σ τ : bm_M} (h : ab_K P σ τ) (hp : ∀ q i, P q i → P' q i) : ab_K P' σ τ := fun q i hq => h q i (fun z => hq (hp q i z))
theorem ab_K.up {P : Nat → Nat → Prop} {σ τ : bm_M} (h : ab_K P σ τ) {k i : Nat} (v : Int32) (hp : P k i) : ab_K P σ (bm_up τ k i v) := fun q j hq => by
  by_cases e : q = k
  · subst e
    by_cases e2 : j = i
    · subst e2; exact absurd hp hq
    · rw [bm_up_ni _ _ e2]; exact h q j hq
  · rw [bm_up_nk _ _ e]; exact h q j hq
theorem ab_F.K {o : Nat} {σ τ : bm_M} (h : ab_F o σ τ) : ab_K (fun q _ => o ≤ q ∧ q ≤ o + 10) σ τ := fun q i hq => by
  rw [h q (by omega)]
theorem ab_E.K {σ τ : bm_M} (h : ab_E σ τ) : ab_K (fun q i => q = 46 ∨ (q = 45 ∧ i = 5)) σ τ := fun q i hq => by
  by_cases e : q = 45
  · subst e
    exact h.2 i (by omega)
  · rw [h.1 q (by omega) e]
theorem ab_N.K {σ τ : bm_M} (h : ab_N σ τ) : ab_K (fun q _ => q = 46) σ τ := fun q i hq => by
  rw [h q (by omega)]
theorem ab_q.K {r : Nat} {σ τ : bm_M} (h : ∀ q, q ≠ r → τ q = σ q) : ab_K (fun q _ => q = r) σ τ := fun q i hq => by
  rw [h q hq]
theorem ab_H.K {o : Nat} {σ τ : bm_M} {a : ab_T} {P : Nat → Nat → Prop} (h : ab_H o σ a) (hk : ab_K P σ τ) (hp : ∀ q i, o ≤ q → q ≤ o + 10 → ab_wd (q - o) i = true → ¬ P q i) : ab_H o τ a := fun c i hw => by
  have := ab_wd_lt hw
  rw [hk (o + c) i (hp _ _ (by omega) (by omega) (by rw [show o + c - o = c by omega]; exact hw))]
  exact h c i hw
theorem ab_S.K {q : Nat} {σ τ : bm_M} {a : ab_T} {P : Nat → Nat → Prop} (h : ab_S q σ a) (hk : ab_K P σ τ) (hp : ∀ i, ¬ P q i) : ab_S q τ a := fun c i hw => by
  rw [hk q _ (hp _)]
  exact h c i hw
/-- the part that is not of the herds -/
theorem ab_CK.K {ka : ab_T} {kp : Bool} {T T' : Nat} {σ τ : bm_M} {P : Nat → Nat → Prop} (h : ab_CK ka kp T σ) (hT : T ≤ T') (hk : ab_K P σ τ) (hp : ∀ q i, P q i → ab_J q i ∨ (1 ≤ q ∧ q ≤ 11) ∨ q = 46 ∨ q = 34 ∨ q = 35 ∨ (37 ≤ q ∧ q ≤ 43) ∨ (49 ≤ q ∧ q ≤ 53) ∨ (q = 45 ∧ i = 9)) : ab_CK ka kp T' τ := by
  obtain ⟨h1, h2, h3⟩ := h
  have n : ∀ q i, ((q = 0 ∧ i = 3) ∨ (q = 45 ∧ i = 3) ∨ (23 ≤ q ∧ q ≤ 33) ∨ q = 47) → ¬ P q i := by
    intro q i hq hP
    have := hp q i hP
    unfold ab_J at this
    omega
  refine ⟨by rw [hk 0 3 (n _ _ (by omega))]; exact h1, by rw [hk 45 3 (n _ _ (by omega))]; exact h2, fun e => ?_⟩
  obtain ⟨g1, g2, g3, g4, g5⟩ := h3 e
  exact ⟨g1.K hk (fun q i a1 a2 _ => n q i (by omega)), g2.K hk (fun i => n 47 i (by omega)), g3, g4, by omega⟩
theorem ab_CT.K {tl : Nat} {σ τ : bm_M} {P : Nat → Nat → Prop} (h : ab_CT tl σ) (hk : ab_K P σ τ) (hp : ∀ q i, P q i → ab_J q i ∨ (1 ≤ q ∧ q ≤ 11) ∨ q = 46 ∨ (23 ≤ q ∧ q ≤ 33) ∨ q = 47 ∨ (37 ≤ q ∧ q ≤ 43) ∨ q = 49 ∨ (51 ≤ q ∧ q ≤ 53) ∨ (q = 45 ∧ i = 3) ∨ (q = 0 ∧ i = 3)) : ab_CT tl τ := by
  obtain ⟨h1, h2, h3, h4⟩ := h
  have n : ∀ q i, ((q = 34 ∧ i = 1) ∨ (q = 45 ∧ i = 9) ∨ q = 35 ∨ q = 50) → ¬ P q i := by
    intro q i hq hP
    have := hp q i hP
    unfold ab_J at this
    omega
  refine ⟨by rw [hk 34 1 (n _ _ (by omega))]; exact h1, by rw [hk 45 9 (n _ _ (by omega))]; exact h2, h3, fun i hi => ?_⟩
  rw [hk 35 i (n _ _ (by omega)), hk 50 i (n _ _ (by omega))]
  exact h4 i hi
theorem ab_CS.K {σ τ : bm_M} {P : Nat → Nat → Prop} (h : ab_CS σ) (hk : ab_K P σ τ) (hp : ∀ q i, P q i → ab_J q i ∨ (1 ≤ q ∧ q ≤ 11) ∨ q = 46 ∨ (23 ≤ q ∧ q ≤ 33) ∨ q = 47 ∨ q = 34 ∨ q = 35 ∨ q = 43 ∨ q = 49 ∨ q = 50 ∨ q = 45 ∨ q = 0) : ab_CS τ := by
  have n : ∀ q i, ((37 ≤ q ∧ q ≤ 42) ∨ (51 ≤ q ∧ q ≤ 53)) → ¬ P q i := by
    intro q i hq hP
    have := hp q i hP
    unfold ab_J at this
    omega
  intro s hs
  obtain ⟨bits, size, h1, h2, h3, h4, h5, h6, h7⟩ := h s hs
  refine ⟨bits, size, h1, h2, ?_, ?_, ?_, ?_, fun i hi => ?_⟩
  · rw [hk 42 s (n _ _ (by omega))]; exact h3
  · rw [hk 51 s (n _ _ (by omega))]; exact h4
  · rw [hk 41 s (n _ _ (by omega))]; exact h5
  · rw [hk 52 s (n _ _ (by omega))]; exact h6
  · rw [hk (37 + s) i (n _ _ (by omega)), hk 53 _ (n _ _ (by omega))]; exact h7 i hi
theorem ab_CF.K {σ τ : bm_M} {P : Nat → Nat → Prop} (h : ab_CF σ) (hk : ab_K P σ τ) (hp : ∀ q i, P q i → q ≠ 43 ∧ q ≠ 49) : ab_CF τ := fun k hk' => by
  rw [hk 43 k (fun z => (hp _ _ z).1 rfl), hk 49 k (fun z => (hp _ _ z).2 rfl)]
  exact h k hk'
def ab_JH (q i : Nat) : Prop := ab_J q i ∨ (1 ≤ q ∧ q ≤ 11) ∨ q = 46
theorem ab_R.herd {T T' : Nat} {σ τ : bm_M} {a' ka : ab_T} {kp : Bool} {tl : Nat} (h2 : ab_CK ka kp T σ) (h3 : ab_CT tl σ) (h4 : ab_CS σ) (h5 : ab_CF σ) (hT : T ≤ T') (hk : ab_K ab_JH σ τ) (h1 : ab_CH a' T' τ) : ab_R T' τ := by
  refine ⟨a', ka, kp, tl, h1, h2.K hT hk (fun q i z => ?_), h3.K hk (fun q i z => ?_), h4.K hk (fun q i z => ?_), h5.K hk (fun q i z => ?_)⟩
  all_goals (unfold ab_JH at z; first | (unfold ab_J at z ⊢; omega) | (unfold ab_J at z; omega))
theorem ab_CH.K {a : ab_T} {T T' : Nat} {σ τ : bm_M} (h : ab_CH a T σ) (hT : T ≤ T') (hk : ab_K ab_J σ τ) : ab_CH a T' τ := by
  obtain ⟨g1, g2, g3, g4, g5⟩ := h
  refine ⟨g1.K hk (fun q i a1 a2 _ z => ?_), g2.K hk (fun i z => ?_), g3, g4, by omega⟩
  all_goals (unfold ab_J at z; omega)
/-- nothing that is told has changed -/
theorem ab_R.junk {T T' : Nat} {σ τ : bm_M} (h : ab_R T σ) (hT : T ≤ T') (hk : ab_K ab_J σ τ) : ab_R T' τ := by
  obtain ⟨a, ka, kp, tl, h1, h2, h3, h4, h5⟩ := h
  exact ab_R.herd h2 h3 h4 h5 hT (hk.mono (fun q i z => Or.inl z)) (h1.K hT hk)
theorem ab_R.tell {T T' : Nat} {σ : bm_M} (h : ab_R T σ) (hT : T ≤ T') {k : Nat} (hk : k < 7) : ab_R T' (bm_fo k (bm_tl k σ)) := by
  obtain ⟨a, ka, kp, tl, h1, h2, h3, h4, h5⟩ := h
  have hK : ab_K (fun q _ => q = 43 ∨ q = 49) σ (bm_fo k (bm_tl k σ)) := (ab_K.rf.up _ (Or.inl rfl)).up _ (Or.inr rfl)
  obtain ⟨g1, g2, g3, g4, g5⟩ := h1
  refine ⟨a, ka, kp, tl, ⟨g1.K hK (fun q i _ _ _ z => by omega), g2.K hK (fun i z => by omega), g3, g4, by omega⟩, h2.K hT hK (fun q i z => by omega), h3.K hK (fun q i z => by omega), h4.K hK (fun q i z => by omega), fun j hj => ?_⟩
  have h49 : bm_tl k σ 49 = σ 49 := bm_up_ne _ _ _ (by decide)
  unfold bm_fo
  rw [bm_up_ne _ _ _ (show (43 : Nat) ≠ 49 by decide), h49]
  unfold bm_tl
  by_cases e : j = k
  · subst e
    rw [bm_up_at, bm_up_at, h5 j hj]
  · rw [bm_up_ni _ _ e, bm_up_ni _ _ e, bm_up_ne _ _ _ (by decide)]
    exact h5 j hj
/-- a call of the class and one of the reference answer alike, and leave both alike -/
def ab_op (X : bm_X) (c m : Nat) (Lc Lm : List Value) : Prop := ∀ (T : Nat) (σ : bm_M), ab_R T σ → T ≤ 31000 → ∃ (x : Int32) (τ τ' : bm_M), bm_ev X c 0 Lc [] σ = some (.int x, τ) ∧ bm_ev X m 0 Lm [] τ = some (.int x, τ') ∧ ab_R (T + 60) τ'
theorem bm_cond_bi (b : Bool) (x y : bm_R) : cond (decide (bm_bi b = 0)) x y = cond b y x := by
  cases b <;> rfl
