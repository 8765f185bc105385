/-! sheets: sheet, write -/
def ab_JS (q i : Nat) : Prop := ab_J q i ∨ (37 ≤ q ∧ q ≤ 42) ∨ (51 ≤ q ∧ q ≤ 53)
theorem ab_R.sheets {T T' : Nat} {σ ρ : bm_M} {a ka : ab_T} {kp : Bool} {tl : Nat} (h1 : ab_CH a T σ) (h2 : ab_CK ka kp T σ) (h3 : ab_CT tl σ) (h5 : ab_CF σ) (hT : T ≤ T') (hK : ab_K ab_JS σ ρ) (h4 : ab_CS ρ) : ab_R T' ρ := by
  obtain ⟨g1, g2, g3, g4, g5⟩ := h1
  refine ⟨a, ka, kp, tl, ⟨g1.K hK (fun q i c1 c2 _ z => ?_), g2.K hK (fun i z => ?_), g3, g4, by omega⟩, h2.K hT hK (fun q i z => ?_), h3.K hK (fun q i z => ?_), h4, h5.K hK (fun q i z => ?_)⟩
  · unfold ab_JS ab_J at z; omega
  · unfold ab_JS ab_J at z; omega
  · unfold ab_JS at z
    rcases z with z | z | z
    · exact Or.inl z
    · exact Or.inr (by omega)
    · exact Or.inr (by omega)
  · unfold ab_JS at z
    rcases z with z | z | z
    · exact Or.inl z
    · exact Or.inr (by omega)
    · exact Or.inr (by omega)
  · unfold ab_JS ab_J at z; omega
theorem ab_a37 {s : Nat} (hs : s < 4) : bm_al (37 + s) = 40 := by
  rcases (show s = 0 ∨ s = 1 ∨ s = 2 ∨ s = 3 by omega) with rfl | rfl | rfl | rfl <;> rfl
theorem hc_zero (X : bm_X) {s : Nat} (hs : s < 4) (u2 u3 : Value) : ∀ (i j : Nat) (ρ : bm_M), j + i = 40 → ∃ τ, bm_ev X 114 47 [.ref 0, .int (nI s), u2, u3, .int (nI j)] [] ρ = some (.int (ρ 41 s), τ) ∧ (∀ x, j ≤ x → x < 40 → τ (37 + s) x = nI 0) ∧ (∀ x, x < j → τ (37 + s) x = ρ (37 + s) x) ∧ ∀ q, q ≠ 37 + s → τ q = ρ q
  | 0, j, ρ, e => by
    have e2 : j = 40 := by omega
    subst e2
    refine ⟨ρ, ?_, fun x h1 h2 => by omega, fun _ _ => rfl, fun _ _ => rfl⟩
    rw [bb_114_47, bn_lt (by decide) (by decide), decide_eq_false (by decide), cond_false, bn_inT hs (by decide), bm_gd_t, bn_clamp (by omega)]
  | i + 1, j, ρ, e => by
    obtain ⟨τ, r1, r2, r3, r4⟩ := hc_zero X hs u2 u3 i (j + 1) (bm_up ρ (37 + s) j (nI 0)) (by omega)
    refine ⟨τ, ?_, fun x x1 x2 => ?_, fun x hx => ?_, fun q hq => ?_⟩
    · rw [bb_114_47, bn_lt (by omega) (by decide), decide_eq_true (by omega), cond_true, bn_inT hs (by decide), bm_gd_t, bn_clamp (show s < 2147483648 by omega), ab_a37 hs, bn_inT (by omega) (by decide), bm_gd_t, bn_clamp (by omega), bn_add, r1, bm_up_nk _ _ (by omega)]
    · by_cases e : x = j
      · subst e
        rw [r3 x (by omega), bm_up_at]
      · exact r2 x (by omega) x2
    · rw [r3 x (by omega), bm_up_ni _ _ (by omega)]
    · rw [r4 q hq, bm_up_ne _ _ _ hq]
theorem hm_zero (X : bm_X) {s : Nat} (hs : s < 4) (u2 u3 u4 : Value) : ∀ (i j : Nat) (ρ : bm_M), j + i = 40 → ∃ τ, bm_ev X 136 53 [.ref 45, .int (nI s), u2, u3, u4, .int (nI j)] [] ρ = some (.int (ρ 52 s), τ) ∧ (∀ x, j ≤ x → x < 40 → τ 53 (40 * s + x) = nI 0) ∧ (∀ x, (x < 40 * s + j ∨ 40 * s + 40 ≤ x) → τ 53 x = ρ 53 x) ∧ ∀ q, q ≠ 53 → τ q = ρ q
  | 0, j, ρ, e => by
    have e2 : j = 40 := by omega
    subst e2
    refine ⟨ρ, ?_, fun x h1 h2 => by omega, fun _ _ => rfl, fun _ _ => rfl⟩
    rw [bb_136_53, bn_lt (by decide) (by decide), decide_eq_false (by decide), cond_false, bn_inT hs (by decide), bm_gd_t, bn_clamp (by omega)]
  | i + 1, j, ρ, e => by
    obtain ⟨τ, r1, r2, r3, r4⟩ := hm_zero X hs u2 u3 u4 i (j + 1) (bm_up ρ 53 (40 * s + j) (nI 0)) (by omega)
    refine ⟨τ, ?_, fun x x1 x2 => ?_, fun x hx => ?_, fun q hq => ?_⟩
    · rw [bb_136_53, bn_lt (by omega) (by decide), decide_eq_true (by omega), cond_true, bn_mul, bn_add, bn_inT (by omega) (by decide), bm_gd_t, bn_clamp (by omega), bn_add, r1, bm_up_nk _ _ (by decide)]
    · by_cases e : x = j
      · subst e
        rw [r3 _ (by omega), bm_up_at]
      · exact r2 x (by omega) x2
    · rw [r3 x (by omega), bm_up_ni _ _ (by omega)]
    · rw [r4 q hq, bm_up_ne _ _ _ hq]
theorem op_sheet (X : bm_X) (p w v : Int32) : ab_op X 114 136 [.ref 0, .int p, .int w, .int v, .null] [.ref 45, .int p, .int w, .int v, .null, .null] := by
  intro T σ hR hT
  obtain ⟨a, ka, kp, tl, h1, h2, h3, h4, h5⟩ := id hR
  cases g1 : bm_rg p 0 3
  · refine ⟨bm_lw 0, bm_tl 0 σ, bm_fo 0 (bm_tl 0 σ), ?_, ?_, hR.tell (by omega) (by decide)⟩
    · rw [bb_114_0, bs_c68', bm_bI_some, bm_cond_bi, g1, cond_false, bs_tell X _ (by decide), bm_bI_some]
    · have f : ∀ y : Int32, bm_ev X 136 14 [.ref 45, .int p, .int w, .int v, .null, .null] [.int y] (bm_tl 0 σ) = some (.int (bm_lw 0), bm_fo 0 (bm_tl 0 σ)) := fun y => by
        rw [bb_136_14, bs_m97, bm_bI_some, bm_cond_bi, g1, cond_false, bs_finds X _ (by decide), bm_bI_some]
      rw [bb_136_0, bb_136_11, f, f]
      cases decide (w = 0) <;> cases decide (w = nI 8) <;> cases decide (w = nI 16) <;> cases decide (w = nI 32) <;> rfl
  by_cases hw : w = nI 0 ∨ w = nI 8 ∨ w = nI 16 ∨ w = nI 32
  · obtain ⟨b, hb, rfl⟩ : ∃ b : Nat, (b = 0 ∨ b = 8 ∨ b = 16 ∨ b = 32) ∧ w = nI b := by
      rcases hw with h | h | h | h
      · exact ⟨0, by omega, h⟩
      · exact ⟨8, by omega, h⟩
      · exact ⟨16, by omega, h⟩
      · exact ⟨32, by omega, h⟩
    have cl : bm_ev X 114 0 [.ref 0, .int p, .int (nI b), .int v, .null] [] σ = bm_ev X 114 18 [.ref 0, .int p, .int (nI b), .int v, .null] [] σ := by
      rw [bb_114_0, bs_c68', bm_bI_some, bm_cond_bi, g1, cond_true]
      rcases hb with rfl | rfl | rfl | rfl <;> rfl
    have ml : ∀ ρ, bm_ev X 136 0 [.ref 45, .int p, .int (nI b), .int v, .null, .null] [] ρ = bm_ev X 136 14 [.ref 45, .int p, .int (nI b), .int v, .null, .null] [.int (nI 1)] ρ := by
      intro ρ
      rw [bb_136_0, bb_136_11]
      rcases hb with rfl | rfl | rfl | rfl <;> rfl
    by_cases v0 : v < 0
    · refine ⟨bm_lw 6, bm_tl 6 σ, bm_fo 6 (bm_tl 6 σ), ?_, ?_, hR.tell (by omega) (by decide)⟩
      · rw [cl, bb_114_18, decide_eq_true v0, cond_true, bs_tell X _ (by decide), bm_bI_some]
      · rw [ml, bb_136_14, bs_m97, bm_bI_some, bm_cond_bi, g1, cond_true, decide_eq_false (show ¬ nI 1 = 0 by decide), cond_false, decide_eq_true v0, cond_true, bs_finds X _ (by decide), bm_bI_some]
    by_cases v40 : nI 40 < v
    · refine ⟨bm_lw 0, bm_tl 0 σ, bm_fo 0 (bm_tl 0 σ), ?_, ?_, hR.tell (by omega) (by decide)⟩
      · rw [cl, bb_114_18, decide_eq_false v0, cond_false, decide_eq_true v40, cond_true, bs_tell X _ (by decide), bm_bI_some]
      · rw [ml, bb_136_14, bs_m97, bm_bI_some, bm_cond_bi, g1, cond_true, decide_eq_false (show ¬ nI 1 = 0 by decide), cond_false, decide_eq_false v0, cond_false, decide_eq_true v40, cond_true, bs_finds X _ (by decide), bm_bI_some]
    have g2 : bm_rg v 0 40 = true := by
      rw [Int32.lt_iff_toInt_lt] at v0 v40
      have z0 : (0 : Int32).toInt = 0 := by decide
      have z40 : (nI 40).toInt = 40 := by decide
      simp only [bm_rg, Bool.and_eq_true, decide_eq_true_eq]
      omega
    obtain ⟨n, hn, -, rfl⟩ := bm_rg_ex (n := 40) g2
    obtain ⟨s, hs, -, rfl⟩ := bm_rg_ex (n := 3) g1
    have hs4 : s < 4 := by omega
    obtain ⟨τ, r1, r2, r3, r4⟩ := hc_zero X hs4 (.int (nI b)) (.int (nI n)) 40 0 (bm_up (bm_up σ 42 s (nI b)) 41 s (nI (if b = 0 then 0 else n))) (by omega)
    have x1 : bm_ev X 114 0 [.ref 0, .int (nI s), .int (nI b), .int (nI n), .null] [] σ = some (.int (nI (if b = 0 then 0 else n)), τ) := by
      rw [bm_up_at] at r1
      rw [cl, bb_114_18, decide_eq_false v0, cond_false, decide_eq_false v40, cond_false, bn_inT hs4 (by decide), bm_gd_t, bn_clamp (by omega), bb_114_44, bb_114_44, bn_inT hs4 (by decide), bm_gd_t, bm_gd_t, bn_clamp (by omega), bn_eq0 (by omega)]
      by_cases e : b = 0
      · rw [if_pos e] at r1 ⊢
        rw [decide_eq_true e, cond_true, r1]
      · rw [if_neg e] at r1 ⊢
        rw [decide_eq_false e, cond_false, r1]
    obtain ⟨ρ, s1, s2, s3, s4⟩ := hm_zero X hs4 (.int (nI b)) (.int (nI n)) (.int (nI 1)) 40 0 (bm_up (bm_up τ 51 s (nI b)) 52 s (nI (if b = 0 then 0 else n))) (by omega)
    have x2 : bm_ev X 136 0 [.ref 45, .int (nI s), .int (nI b), .int (nI n), .null, .null] [] τ = some (.int (nI (if b = 0 then 0 else n)), ρ) := by
      rw [bm_up_at] at s1
      rw [ml, bb_136_14, bs_m97, bm_bI_some, bm_cond_bi, g1, cond_true, decide_eq_false (show ¬ nI 1 = 0 by decide), cond_false, decide_eq_false v0, cond_false, decide_eq_false v40, cond_false, bn_inT hs4 (by decide), bm_gd_t, bn_clamp (by omega), bb_136_50, bb_136_50, bn_inT hs4 (by decide), bm_gd_t, bm_gd_t, bn_clamp (by omega), bn_eq0 (by omega)]
      by_cases e : b = 0
      · rw [if_pos e] at s1 ⊢
        rw [decide_eq_true e, cond_true, s1]
      · rw [if_neg e] at s1 ⊢
        rw [decide_eq_false e, cond_false, s1]
    refine ⟨_, τ, ρ, x1, x2, ab_R.sheets h1 h2 h3 h5 (by omega) (fun q i hq => ?_) (fun t ht => ?_)⟩
    · have hq' : ¬ ((37 ≤ q ∧ q ≤ 42) ∨ (51 ≤ q ∧ q ≤ 53)) := fun z => hq (Or.inr z)
      rw [s4 q (by omega), bm_up_ne _ _ _ (by omega), bm_up_ne _ _ _ (by omega), r4 q (by omega), bm_up_ne _ _ _ (by omega), bm_up_ne _ _ _ (by omega)]
    · have c37 : ∀ x, ρ (37 + t) x = τ (37 + t) x := fun x => by rw [s4 (37 + t) (by omega), bm_up_ne _ _ _ (by omega), bm_up_ne _ _ _ (by omega)]
      have c41 : ∀ x, ρ 41 x = bm_up σ 41 s (nI (if b = 0 then 0 else n)) 41 x := fun x => by
        rw [s4 41 (by decide), bm_up_ne _ _ _ (by decide), bm_up_ne _ _ _ (by decide), r4 41 (by omega)]
        by_cases e : x = s
        · subst e
          rw [bm_up_at, bm_up_at]
        · rw [bm_up_ni _ _ e, bm_up_ni _ _ e, bm_up_ne _ _ _ (by decide)]
      have c42 : ∀ x, ρ 42 x = bm_up σ 42 s (nI b) 42 x := fun x => by
        rw [s4 42 (by decide), bm_up_ne _ _ _ (by decide), bm_up_ne _ _ _ (by decide), r4 42 (by omega), bm_up_ne _ _ _ (by decide)]
      have c51 : ∀ x, ρ 51 x = bm_up σ 51 s (nI b) 51 x := fun x => by
        rw [s4 51 (by decide), bm_up_ne _ _ _ (by decide)]
        by_cases e : x = s
        · subst e
          rw [bm_up_at, bm_up_at]
        · rw [bm_up_ni _ _ e, bm_up_ni _ _ e, r4 51 (by omega), bm_up_ne _ _ _ (by decide), bm_up_ne _ _ _ (by decide)]
      have c52 : ∀ x, ρ 52 x = bm_up σ 52 s (nI (if b = 0 then 0 else n)) 52 x := fun x => by
        rw [s4 52 (by decide)]
        by_cases e : x = s
        · subst e
          rw [bm_up_at, bm_up_at]
        · rw [bm_up_ni _ _ e, bm_up_ni _ _ e, bm_up_ne _ _ _ (by decide), r4 52 (by omega), bm_up_ne _ _ _ (by decide), bm_up_ne _ _ _ (by decide)]
      by_cases e : t = s
      · subst e
        refine ⟨b, if b = 0 then 0 else n, hb, by split <;> omega, ?_, ?_, ?_, ?_, fun i hi => ?_⟩
        · rw [c42, bm_up_at]
        · rw [c51, bm_up_at]
        · rw [c41, bm_up_at]
        · rw [c52, bm_up_at]
        · rw [c37, r2 i (by omega) hi, s2 i (by omega) hi]
      · obtain ⟨b', z', d1, d2, d3, d4, d5, d6, d7⟩ := h4 t ht
        refine ⟨b', z', d1, d2, ?_, ?_, ?_, ?_, fun i hi => ?_⟩
        · rw [c42, bm_up_ni _ _ e]; exact d3
        · rw [c51, bm_up_ni _ _ e]; exact d4
        · rw [c41, bm_up_ni _ _ e]; exact d5
        · rw [c52, bm_up_ni _ _ e]; exact d6
        · rw [c37, r4 (37 + t) (by omega), bm_up_ne _ _ _ (by omega), bm_up_ne _ _ _ (by omega), s3 _ (by omega), bm_up_ne _ _ _ (by decide), bm_up_ne _ _ _ (by decide), r4 53 (by omega), bm_up_ne _ _ _ (by decide), bm_up_ne _ _ _ (by decide)]
          exact d7 i hi
  · have n0 : ¬ w = 0 := fun q => hw (Or.inl q)
    have n8 : ¬ w = nI 8 := fun q => hw (Or.inr (Or.inl q))
    have n16 : ¬ w = nI 16 := fun q => hw (Or.inr (Or.inr (Or.inl q)))
    have n32 : ¬ w = nI 32 := fun q => hw (Or.inr (Or.inr (Or.inr q)))
    refine ⟨bm_lw 0, bm_tl 0 σ, bm_fo 0 (bm_tl 0 σ), ?_, ?_, hR.tell (by omega) (by decide)⟩
    · rw [bb_114_0, bs_c68', bm_bI_some, bm_cond_bi, g1, cond_true, decide_eq_false n0, cond_false, decide_eq_false n8, cond_false, decide_eq_false n16, cond_false, decide_eq_false n32, cond_false, bs_tell X _ (by decide), bm_bI_some]
    · rw [bb_136_0, decide_eq_false n0, cond_false, decide_eq_false n8, cond_false, decide_eq_false n16, cond_false, decide_eq_false n32, cond_false, bb_136_14, bs_m97, bm_bI_some, bm_cond_bi, g1, cond_true, decide_eq_true (show nI 0 = 0 by decide), cond_true, bs_finds X _ (by decide), bm_bI_some]
