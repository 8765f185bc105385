/-! BOTH ARE ALIKE when they are new -/
def iZ (σ : bm_M) (g : Nat → Int32) : bm_M := fun k => if k < 45 then σ k else if k = 46 then g else fun _ => nI 0
def iA : ab_T := fun c i => if c = 0 then (if i = 3 then 2 else if i = 6 then 1 else 0) else if c = 1 then 50 else if c = 3 then 4294967295 else 0
theorem iA_G : ab_G iA := ⟨by decide, by decide, by decide, fun i _ => by show (50 : Nat) ≤ 99; decide, fun i _ => by show (0 : Nat) ≤ 99999; decide, fun i _ => by
  refine ⟨?_, ?_, ?_, ?_, ?_, ?_, ?_⟩
  · show (0 : Nat) ≤ 6; decide
  · show (0 : Nat) ≤ 11; decide
  · show (0 : Nat) ≤ 11; decide
  · show (0 : Nat) ≤ 9; decide
  · show (0 : Nat) ≤ 999; decide
  · show (0 : Nat) ≤ 9999; decide
  · show (0 : Nat) ≤ 1; decide⟩
theorem iA_m1 : (-nI 1 : Int32) = nI 4294967295 := by decide
theorem iZ_H {σ : bm_M} {g : Nat → Int32} (h : iSp σ) : ab_H 1 (iZ σ g) iA := by
  obtain ⟨a1, a3, b1, b3, c1, c3, rfl, h1, h3⟩ := h
  intro c i hw
  obtain ⟨l1, l2⟩ := ab_wd_lt hw
  match c, l1, hw with
  | 0, _, hw =>
    simp only [ab_wd, Bool.and_eq_true, decide_eq_true_eq] at hw
    rcases (show i = 3 ∨ i = 4 ∨ i = 5 ∨ i = 6 ∨ i = 7 by omega) with rfl | rfl | rfl | rfl | rfl <;> rfl
  | 1, _, hw => exact h1 i (of_decide_eq_true hw)
  | 2, _, hw => rfl
  | 3, _, hw => exact (h3 i (of_decide_eq_true hw)).trans iA_m1
  | 4, _, hw => rfl
  | 5, _, hw => rfl
  | 6, _, hw => rfl
  | 7, _, hw => rfl
  | 8, _, hw => rfl
  | 9, _, hw => rfl
  | 10, _, hw => rfl
theorem im2_0 {g : Nat → Int32} (h : im2 10 g) {j : Nat} (a : ¬ (85 ≤ j ∧ j < 95)) (b : ¬ (5 ≤ j ∧ j < 17)) (c : j ≠ 1) (d : j ≠ 3) : g j = nI 0 := by
  rw [h j, if_neg (by omega), if_neg b, if_neg c, if_neg d]
  rfl
theorem iZ_S {σ : bm_M} {g : Nat → Int32} (h : im2 10 g) : ab_S 46 (iZ σ g) iA := by
  intro c i hw
  obtain ⟨l1, l2⟩ := ab_wd_lt hw
  show g (ab_ly c i) = _
  match c, l1, hw with
  | 0, _, hw =>
    simp only [ab_wd, Bool.and_eq_true, decide_eq_true_eq] at hw
    rcases (show i = 3 ∨ i = 4 ∨ i = 5 ∨ i = 6 ∨ i = 7 by omega) with rfl | rfl | rfl | rfl | rfl
    · exact h 3
    · exact im2_0 h (j := 4) (by decide) (by decide) (by decide) (by decide)
    · exact im2_0 h (j := 0) (by decide) (by decide) (by decide) (by decide)
    · exact h 1
    · exact im2_0 h (j := 2) (by decide) (by decide) (by decide) (by decide)
  | 1, _, hw =>
    have hi : i < 12 := of_decide_eq_true hw
    show g (5 + i) = nI 50
    rw [h (5 + i), if_neg (by omega), if_pos (by omega)]
  | 2, _, hw =>
    have hi : i < 12 := of_decide_eq_true hw
    exact im2_0 h (j := 17 + i) (by omega) (by omega) (by omega) (by omega)
  | 3, _, hw =>
    have hi : i < 10 := of_decide_eq_true hw
    show g (85 + i) = nI 4294967295
    rw [h (85 + i), if_pos (by omega)]
    exact iA_m1
  | c + 4, l1, hw =>
    have hi : i < 8 := by
      rcases (show c = 0 ∨ c = 1 ∨ c = 2 ∨ c = 3 ∨ c = 4 ∨ c = 5 ∨ c = 6 by omega) with rfl | rfl | rfl | rfl | rfl | rfl | rfl <;> simpa [ab_wd] using hw
    have hly : ab_ly (c + 4) i = 29 + 7 * i + c := by
      unfold ab_ly
      split <;> omega
    rw [hly]
    have e : iA (c + 4) i = 0 := by
      unfold iA
      rw [if_neg (by omega), if_neg (by omega), if_neg (by omega)]
    rw [e]
    exact im2_0 h (by omega) (by omega) (by omega) (by omega)
theorem iZ_R {σ : bm_M} {g : Nat → Int32} (h : iSp σ) (hg : im2 10 g) : ab_R 0 (iZ σ g) := by
  refine ⟨iA, iA, false, 0, ⟨iZ_H h, iZ_S hg, iA_G, fun i hi => Or.inl rfl, by decide⟩, ⟨?_, rfl, fun q => by cases q⟩, ⟨?_, rfl, by decide, fun i hi => absurd hi (by omega)⟩, ?_, ?_⟩
  · obtain ⟨a1, a3, b1, b3, c1, c3, rfl, h1, h3⟩ := h
    rfl
  · obtain ⟨a1, a3, b1, b3, c1, c3, rfl, h1, h3⟩ := h
    rfl
  · obtain ⟨a1, a3, b1, b3, c1, c3, rfl, h1, h3⟩ := h
    intro s hs
    refine ⟨0, 0, Or.inl rfl, by decide, ?_, rfl, ?_, rfl, fun i hi => ?_⟩
    · rfl
    · rfl
    · rcases (show s = 0 ∨ s = 1 ∨ s = 2 ∨ s = 3 by omega) with rfl | rfl | rfl | rfl <;> rfl
  · obtain ⟨a1, a3, b1, b3, c1, c3, rfl, h1, h3⟩ := h
    intro k hk
    rfl
