def bm_altO (X : bm_X) (o : Option Instr) (pc : Nat) (L S : List Value) (σ : bm_M) : List (Nat × Bool × bm_A) := match o with
  | none => []
  | some i => bm_alts X i pc L S σ
def bm_nthC : List (List Instr) → Nat → List Instr
  | [], _ => []
  | a :: _, 0 => a
  | _ :: l, n + 1 => bm_nthC l n
/-- so many steps at most -/
def bm_run (C : Nat → List Instr) (X : bm_X) : Nat → Nat → Nat → List Value → List Value → bm_M → bm_R
  | 0, _, _, _, _, _ => none
  | n + 1, M, pc, L, S, σ => bm_pick (fun m L τ => bm_run C X n m 0 L [] τ) (fun pc L S τ => bm_run C X n M pc L S τ) (bm_altO X (bm_nthI (C M) pc) pc L S σ)
theorem bm_do_mono {γ γ' : Nat → List Value → bm_M → bm_R} {κ κ' : Nat → List Value → List Value → bm_M → bm_R} (hg : ∀ m L σ r, γ m L σ = some r → γ' m L σ = some r) (hk : ∀ pc L S σ r, κ pc L S σ = some r → κ' pc L S σ = some r) (a : bm_A) (r : Value × bm_M) (h : bm_do γ κ a = some r) : bm_do γ' κ' a = some r := by
  match a, h with
  | .inl (pc, L, S, σ), h => exact hk _ _ _ _ _ h
  | .inr (.inr (v, σ)), h => exact h
  | .inr (.inl (m, rt, as, pc, L, S, σ)), h =>
    simp only [bm_do] at h ⊢
    cases hr : γ m as σ with
    | none => rw [hr] at h; split at h <;> simp [bm_bV, bm_bI, bm_bL, bm_bA] at h
    | some q =>
      rw [hr] at h
      rw [hg _ _ _ _ hr]
      obtain ⟨v, τ⟩ := q
      split at h <;> (cases v <;> first | (simp [bm_bV, bm_bI, bm_bL, bm_bA] at h; done) | exact hk _ _ _ _ _ h)
theorem bm_pick_mono {γ γ' : Nat → List Value → bm_M → bm_R} {κ κ' : Nat → List Value → List Value → bm_M → bm_R} (hg : ∀ m L σ r, γ m L σ = some r → γ' m L σ = some r) (hk : ∀ pc L S σ r, κ pc L S σ = some r → κ' pc L S σ = some r) (r : Value × bm_M) : ∀ l, bm_pick γ κ l = some r → bm_pick γ' κ' l = some r
  | [], h => by cases h
  | (t, b, a) :: l, h => by
    match t, h with
    | 0, h => exact bm_do_mono hg hk a r h
    | 1, h =>
      show cond b (bm_do γ' κ' a) (bm_pick γ' κ' l) = some r
      have h : cond b (bm_do γ κ a) (bm_pick γ κ l) = some r := h
      cases b with
      | true => exact bm_do_mono hg hk a r h
      | false => exact bm_pick_mono hg hk r l h
    | 2, h =>
      show cond b (bm_do γ' κ' a) none = some r
      have h : cond b (bm_do γ κ a) none = some r := h
      cases b with
      | true => exact bm_do_mono hg hk a r h
      | false => cases h
    | (n + 3), h =>
      show cond b (bm_do γ' κ' a) none = some r
      have h : cond b (bm_do γ κ a) none = some r := h
      cases b with
      | true => exact bm_do_mono hg hk a r h
      | false => cases h
theorem bm_run_succ (C : Nat → List Instr) (X : bm_X) : ∀ (n M pc : Nat) (L S : List Value) (σ : bm_M) (r : Value × bm_M), bm_run C X n M pc L S σ = some r → bm_run C X (n + 1) M pc L S σ = some r
  | 0, _, _, _, _, _, _, h => by cases h
  | n + 1, M, pc, L, S, σ, r, h => bm_pick_mono (fun m L τ r h => bm_run_succ C X n m 0 L [] τ r h) (fun pc L S τ r h => bm_run_succ C X n M pc L S τ r h) r _ h
theorem bm_run_le {C : Nat → List Instr} {X : bm_X} {n k M pc : Nat} {L S : List Value} {σ : bm_M} {r : Value × bm_M} (hk : n ≤ k) (h : bm_run C X n M pc L S σ = some r) : bm_run C X k M pc L S σ = some r := by
  induction hk with
  | refl => exact h
  | step _ ih => exact bm_run_succ C X _ _ _ _ _ _ _ ih
/-- what it comes to -/
noncomputable def bm_evC (C : Nat → List Instr) (X : bm_X) (M pc : Nat) (L S : List Value) (σ : bm_M) : bm_R := by
  classical
  exact if h : ∃ (n : Nat) (r : Value × bm_M), bm_run C X n M pc L S σ = some r then some (Classical.choose (Classical.choose_spec h)) else none
theorem bm_ev_iff {C : Nat → List Instr} {X : bm_X} {M pc : Nat} {L S : List Value} {σ : bm_M} {r : Value × bm_M} : bm_evC C X M pc L S σ = some r ↔ ∃ n, bm_run C X n M pc L S σ = some r := by
  classical
  unfold bm_evC
  by_cases h : ∃ (n : Nat) (r : Value × bm_M), bm_run C X n M pc L S σ = some r
  · rw [dif_pos h]
    have hs := Classical.choose_spec (Classical.choose_spec h)
    constructor
    · intro e
      rw [Option.some.inj e] at hs
      exact ⟨_, hs⟩
    · rintro ⟨n, hn⟩
      have h1 := bm_run_le (Nat.le_max_left (Classical.choose h) n) hs
      have h2 := bm_run_le (Nat.le_max_right (Classical.choose h) n) hn
      rw [h1] at h2
      exact h2
  · rw [dif_neg h]
    constructor
    · intro e; cases e
    · rintro ⟨n, hn⟩
      exact absurd ⟨n, r, hn⟩ h
theorem bm_do_fin {C : Nat → List Instr} {X : bm_X} {M : Nat} (a : bm_A) (r : Value × bm_M) (h : bm_do (fun m L τ => bm_evC C X m 0 L [] τ) (fun pc L S τ => bm_evC C X M pc L S τ) a = some r) : ∃ n, bm_do (fun m L τ => bm_run C X n m 0 L [] τ) (fun pc L S τ => bm_run C X n M pc L S τ) a = some r := by
  match a, h with
  | .inl (pc, L, S, σ), h => exact bm_ev_iff.mp h
  | .inr (.inr (v, σ)), h => exact ⟨0, h⟩
  | .inr (.inl (m, rt, as, pc, L, S, σ)), h =>
    simp only [bm_do] at h ⊢
    cases hr : bm_evC C X m 0 as [] σ with
    | none => rw [hr] at h; split at h <;> simp [bm_bV, bm_bI, bm_bL, bm_bA] at h
    | some q =>
      rw [hr] at h
      obtain ⟨n1, h1⟩ := bm_ev_iff.mp hr
      obtain ⟨v, τ⟩ := q
      have key : ∀ (S' : List Value), bm_evC C X M pc L S' τ = some r → ∃ n, n1 ≤ n ∧ bm_run C X n M pc L S' τ = some r := fun S' h => by
        obtain ⟨n2, h2⟩ := bm_ev_iff.mp h
        exact ⟨max n1 n2, Nat.le_max_left _ _, bm_run_le (Nat.le_max_right _ _) h2⟩
      split at h <;> (cases v <;> first | (simp [bm_bV, bm_bI, bm_bL, bm_bA] at h; done) | (obtain ⟨n, hn, h2⟩ := key _ h; exact ⟨n, by rw [bm_run_le hn h1]; exact h2⟩))
theorem bm_pick_fin {C : Nat → List Instr} {X : bm_X} {M : Nat} (r : Value × bm_M) : ∀ l, bm_pick (fun m L τ => bm_evC C X m 0 L [] τ) (fun pc L S τ => bm_evC C X M pc L S τ) l = some r → ∃ n, bm_pick (fun m L τ => bm_run C X n m 0 L [] τ) (fun pc L S τ => bm_run C X n M pc L S τ) l = some r
  | [], h => by cases h
  | (t, b, a) :: l, h => by
    match t, h with
    | 0, h => exact bm_do_fin a r h
    | 1, h =>
      cases b with
      | true => exact bm_do_fin a r h
      | false => exact bm_pick_fin r l h
    | 2, h =>
      cases b with
      | true => exact bm_do_fin a r h
      | false => cases h
    | (n + 3), h =>
      cases b with
      | true => exact bm_do_fin a r h
      | false => cases h
theorem bm_ev_eq (C : Nat → List Instr) (X : bm_X) (M pc : Nat) (L S : List Value) (σ : bm_M) : bm_evC C X M pc L S σ = bm_pick (fun m L τ => bm_evC C X m 0 L [] τ) (fun pc L S τ => bm_evC C X M pc L S τ) (bm_altO X (bm_nthI (C M) pc) pc L S σ) := by
  apply Option.ext
  intro r
  constructor
  · intro h
    obtain ⟨n, hn⟩ := bm_ev_iff.mp h
    match n, hn with
    | n + 1, hn => exact bm_pick_mono (fun m L τ r h => bm_ev_iff.mpr ⟨n, h⟩) (fun pc L S τ r h => bm_ev_iff.mpr ⟨n, h⟩) r _ hn
  · intro h
    obtain ⟨n, hn⟩ := bm_pick_fin r _ h
    exact bm_ev_iff.mpr ⟨n + 1, hn⟩
