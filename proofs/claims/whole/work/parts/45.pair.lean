/-! pair -/
def ab_pin (a : ab_T) (t j : Nat) : Nat → Nat → Nat
  | 0, _ => 64
  | i + 1, l => bif decide (a 6 j = a 6 l) then ab_pin a t j i (l + 1) else bif decide ((a 6 j + a 6 l) % 12 = t) then 8 * j + l else ab_pin a t j i (l + 1)
def ab_pou (a : ab_T) (t c : Nat) : Nat → Nat → Nat
  | 0, _ => 64
  | i + 1, j => bif decide (ab_pin a t j (c - (j + 1)) (j + 1) < 64) then ab_pin a t j (c - (j + 1)) (j + 1) else ab_pou a t c i (j + 1)
theorem ab_pin_g {U : Type} {a : ab_T} {t c : Nat} (hc : c ≤ 8) {σ : bm_M} (fo : U → Nat → bm_R) (fi : U → Nat → Nat → bm_R) (hi : ∀ u j l, j < c → l < c → ∃ u', fi u j l = bif decide (a 6 j = a 6 l) then fi u' j (l + 1) else bif decide ((a 6 j + a 6 l) % 12 = t) then some (.int (nI (8 * j + l)), σ) else fi u' j (l + 1)) (hi1 : ∀ u j, j < c → ∃ u', fi u j c = fo u' (j + 1)) : ∀ (i l : Nat) (u : U) (j : Nat), l + i = c → j < c → ∃ u', fi u j l = bif decide (ab_pin a t j i l < 64) then some (.int (nI (ab_pin a t j i l)), σ) else fo u' (j + 1)
  | 0, l, u, j, e, hj => by
    have e2 : l = c := by omega
    subst e2
    exact hi1 u j hj
  | i + 1, l, u, j, e, hj => by
    obtain ⟨u', e1⟩ := hi u j l hj (by omega)
    obtain ⟨v, e2⟩ := ab_pin_g hc fo fi hi hi1 i (l + 1) u' j (by omega) hj
    refine ⟨v, ?_⟩
    rw [e1, ab_pin]
    cases decide (a 6 j = a 6 l)
    · cases decide ((a 6 j + a 6 l) % 12 = t)
      · exact e2
      · rw [cond_false, cond_false, cond_true, cond_true, decide_eq_true (by omega), cond_true]
    · exact e2
theorem ab_pou_g {U : Type} {a : ab_T} {t c : Nat} (hc : c ≤ 8) {σ : bm_M} {N : bm_R} (fo : U → Nat → bm_R) (fi : U → Nat → Nat → bm_R) (hi : ∀ u j l, j < c → l < c → ∃ u', fi u j l = bif decide (a 6 j = a 6 l) then fi u' j (l + 1) else bif decide ((a 6 j + a 6 l) % 12 = t) then some (.int (nI (8 * j + l)), σ) else fi u' j (l + 1)) (hi1 : ∀ u j, j < c → ∃ u', fi u j c = fo u' (j + 1)) (ho : ∀ u j, j < c → ∃ u', fo u j = fi u' j (j + 1)) (ho1 : ∀ u, fo u c = N) : ∀ (i j : Nat) (u : U), j + i = c → fo u j = bif decide (ab_pou a t c i j < 64) then some (.int (nI (ab_pou a t c i j)), σ) else N
  | 0, j, u, e => by
    have e2 : j = c := by omega
    subst e2
    exact ho1 u
  | i + 1, j, u, e => by
    obtain ⟨u', e1⟩ := ho u j (by omega)
    obtain ⟨v, e2⟩ := ab_pin_g hc fo fi hi hi1 (c - (j + 1)) (j + 1) u' j (by omega) (by omega)
    rw [e1, e2, ab_pou_g hc fo fi hi hi1 ho ho1 i (j + 1) v (by omega), ab_pou]
    by_cases q : ab_pin a t j (c - (j + 1)) (j + 1) < 64
    · rw [decide_eq_true q, cond_true, cond_true, decide_eq_true q, cond_true]
    · rw [decide_eq_false q, cond_false, cond_false]
theorem op_pair (X : bm_X) (p : Int32) : ab_op X 112 131 [.ref 0, .int p, .null, .null] [.ref 45, .int p, .null, .null, .null, .null] := by
  intro T σ hR hT
  obtain ⟨a, ka, kp, tl, h1, h2, h3, h4, h5⟩ := id hR
  obtain ⟨hH, hS, hG, hP, hh⟩ := id h1
  have e7 : σ 1 7 = nI (a 0 7) := hH 0 7 rfl
  have hc := hG.2.2.1
  have b6 : ∀ k, k < 8 → a 6 k ≤ 11 := fun k hk => (hG.2.2.2.2.2 k hk).2.2.1
  cases g1 : bm_rg p 0 11
  · refine ⟨bm_lw 0, bm_tl 0 σ, bm_fo 0 (bm_tl 0 σ), ?_, ?_, hR.tell (by omega) (by decide)⟩
    · rw [bb_112_0, bs_c66, bm_bI_some, bm_cond_bi, g1, cond_false, bs_tell X _ (by decide), bm_bI_some]
    · rw [bb_131_0, bs_m73, bm_bI_some, bm_cond_bi, g1, cond_false, bs_finds X _ (by decide), bm_bI_some]
  obtain ⟨t, ht, -, rfl⟩ := bm_rg_ex (n := 11) g1
  have cl : bm_ev X 112 0 [.ref 0, .int (nI t), .null, .null] [] σ = bif decide (ab_pou a t (a 0 7) (a 0 7) 0 < 64) then some (.int (nI (ab_pou a t (a 0 7) (a 0 7) 0)), σ) else some (.int (bm_lw 3), bm_tl 3 σ) := by
    rw [bb_112_0, bs_c66, bm_bI_some, bm_cond_bi, g1, cond_true]
    exact ab_pou_g (U := Value) hc (N := some (.int (bm_lw 3), bm_tl 3 σ)) (fun u j => bm_ev X 112 9 [.ref 0, .int (nI t), .int (nI j), u] [] σ) (fun _ j l => bm_ev X 112 18 [.ref 0, .int (nI t), .int (nI j), .int (nI l)] [] σ) (by
      intro u j l hj hl
      refine ⟨u, ?_⟩
      have ej : σ 7 j = nI (a 6 j) := hH 6 j (ab_w8 (by decide) (by decide) (by omega))
      have el : σ 7 l = nI (a 6 l) := hH 6 l (ab_w8 (by decide) (by decide) (by omega))
      have bj := b6 j (by omega)
      have bl := b6 l (by omega)
      show bm_ev X 112 18 _ _ _ = _
      rw [bb_112_18, e7, bn_lt (by omega) (by omega), decide_eq_true hl, cond_true, bn_inT (by omega) (by decide), bm_gd_t, bn_inT (by omega) (by decide), bm_gd_t, bn_clamp (by omega), bn_clamp (by omega), ej, el, bn_eq (by omega) (by omega), hc_third X (Or.inl rfl) hH hG (by omega) (by omega), bm_bI_some, bn_eq (by omega) (by omega), bn_mul, bn_add, bn_add]) (by
      intro u j hj
      refine ⟨.int (nI (a 0 7)), ?_⟩
      show bm_ev X 112 18 _ _ _ = _
      rw [bb_112_18, e7, bn_lt (by omega) (by omega), decide_eq_false (by omega), cond_false, bn_add]) (by
      intro u j hj
      refine ⟨u, ?_⟩
      show bm_ev X 112 9 _ _ _ = _
      rw [bb_112_9, e7, bn_lt (by omega) (by omega), decide_eq_true (by omega), cond_true, bn_add]) (by
      intro u
      show bm_ev X 112 9 _ _ _ = _
      rw [bb_112_9, e7, bn_lt (by omega) (by omega), decide_eq_false (by omega), cond_false, bs_tell X _ (by decide), bm_bI_some]) (a 0 7) 0 .null (by omega)
  have ml : ∀ ρ : bm_M, ab_S 46 ρ a → bm_ev X 131 0 [.ref 45, .int (nI t), .null, .null, .null, .null] [] ρ = bif decide (ab_pou a t (a 0 7) (a 0 7) 0 < 64) then some (.int (nI (ab_pou a t (a 0 7) (a 0 7) 0)), ρ) else some (.int (bm_lw 3), bm_fo 3 ρ) := by
    intro ρ hS
    have e7 : ρ 46 2 = nI (a 0 7) := hS 0 7 rfl
    rw [bb_131_0, bs_m73, bm_bI_some, bm_cond_bi, g1, cond_true]
    exact ab_pou_g (U := Value × Value × Value) hc (N := some (.int (bm_lw 3), bm_fo 3 ρ)) (fun u j => bm_ev X 131 9 [.ref 45, .int (nI t), .int (nI j), u.1, u.2.1, u.2.2] [] ρ) (fun u j l => bm_ev X 131 19 [.ref 45, .int (nI t), .int (nI j), .int (nI l), u.2.1, u.2.2] [] ρ) (by
      intro u j l hj hl
      refine ⟨(.null, .int (nI (a 6 j)), .int (nI (a 6 l))), ?_⟩
      have bj := b6 j (by omega)
      have bl := b6 l (by omega)
      show bm_ev X 131 19 _ _ _ = _
      rw [bb_131_19, bn_inT (by decide) (by decide), bm_gd_t, bn_clamp (by decide), e7, bn_lt (by omega) (by omega), decide_eq_true hl, cond_true, hm_it2 X hS hG (by omega), bm_bI_some, hm_it2 X hS hG (by omega), bm_bI_some, bn_eq (by omega) (by omega), bn_add, bn_add, bn_rem (by omega) (by decide), bn_eq (by omega) (by omega), bn_mul, bn_add]) (by
      intro u j hj
      refine ⟨(.int (nI (a 0 7)), u.2.1, u.2.2), ?_⟩
      show bm_ev X 131 19 _ _ _ = _
      rw [bb_131_19, bn_inT (by decide) (by decide), bm_gd_t, bn_clamp (by decide), e7, bn_lt (by omega) (by omega), decide_eq_false (by omega), cond_false, bn_add]) (by
      intro u j hj
      refine ⟨u, ?_⟩
      show bm_ev X 131 9 _ _ _ = _
      rw [bb_131_9, bn_inT (by decide) (by decide), bm_gd_t, bn_clamp (by decide), e7, bn_lt (by omega) (by omega), decide_eq_true (by omega), cond_true, bn_add]) (by
      intro u
      show bm_ev X 131 9 _ _ _ = _
      rw [bb_131_9, bn_inT (by decide) (by decide), bm_gd_t, bn_clamp (by decide), e7, bn_lt (by omega) (by omega), decide_eq_false (by omega), cond_false, bs_finds X _ (by decide), bm_bI_some]) (a 0 7) 0 (.null, .null, .null) (by omega)
  by_cases q : ab_pou a t (a 0 7) (a 0 7) 0 < 64
  · have m1 := ml σ hS
    rw [decide_eq_true q, cond_true] at cl m1
    exact ⟨_, σ, σ, cl, m1, hR.junk (by omega) ab_K.rf⟩
  · have m1 := ml (bm_tl 3 σ) (hS.ne _ _ (by decide))
    rw [decide_eq_false q, cond_false] at cl m1
    exact ⟨_, _, _, cl, m1, hR.tell (by omega) (by decide)⟩
