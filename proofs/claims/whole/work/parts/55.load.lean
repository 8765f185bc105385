/-! load -/
def ab_ld (sh : Nat → Int32) (a : ab_T) : Nat → ab_T
  | 0 => a
  | j + 1 => ab_set (ab_ld sh a j) 1 j (sh j).toNatClampNeg
def ab_lc (sh : Nat → Int32) : Nat → Nat → Nat
  | 0, j => j
  | i + 1, j => bif decide (j < 12) then (bif bm_rg (sh j) 0 99 then ab_lc sh i (j + 1) else j) else j
theorem ab_ld_ne (sh : Nat → Int32) (a : ab_T) {c : Nat} (i : Nat) (h : c ≠ 1) : ∀ j, ab_ld sh a j c i = a c i
  | 0 => rfl
  | j + 1 => by rw [ab_ld, ab_set_nc _ _ h, ab_ld_ne sh a i h j]
theorem hc_load (X : bm_X) {a : ab_T} {s z : Nat} {sh : Nat → Int32} (hs4 : s < 4) (hz : z ≤ 40) : ∀ (i j : Nat) (ρ : bm_M), j + i = z → ab_G (ab_ld sh a j) → ab_H 1 ρ (ab_ld sh a j) → ρ 41 s = nI z → (∀ x, ρ (37 + s) x = sh x) → ∃ τ, bm_ev X 117 20 [.ref 0, .int (nI s), .int (nI j), .int (nI j)] [] ρ = some (.int (nI (ab_lc sh i j)), τ) ∧ ab_H 1 τ (ab_ld sh a (ab_lc sh i j)) ∧ ab_G (ab_ld sh a (ab_lc sh i j)) ∧ ab_F 1 ρ τ
  | 0, j, ρ, e, hG, hH, h41, hsh => by
    refine ⟨ρ, ?_, hH, hG, ab_F.rf⟩
    rw [bb_117_20, bn_inT hs4 (by decide), bm_gd_t, bn_clamp (by omega), h41, bn_lt (by omega) (by omega), decide_eq_false (by omega), cond_false]
    rfl
  | i + 1, j, ρ, e, hG, hH, h41, hsh => by
    have i1 : ∀ (x : Int32) (σ : bm_M), bm_ev X 24 0 [.int x, .int (nI 99)] [] σ = some (.int (bm_bi (bm_rg x 0 99)), σ) := fun x σ => bs_upN X σ x (by decide)
    rw [bb_117_20, bn_inT hs4 (by decide), bm_gd_t, bn_clamp (show s < 2147483648 by omega), h41, bn_lt (by omega) (by omega), decide_eq_true (by omega), cond_true, bn_lt (by omega) (by decide), bm_gd_t, ab_a37 hs4, bn_inT (show j < 40 by omega) (by decide), bm_gd_t, bn_clamp (show j < 2147483648 by omega), hsh, i1, bm_bI_some, bm_cond_bi, bm_gd_t, bm_gd_t, bn_add]
    rw [ab_lc]
    by_cases c : j < 12
    · rw [decide_eq_true c, cond_true, cond_true, bn_inT c (by decide), bm_gd_t]
      cases g : bm_rg (sh j) 0 99
      · exact ⟨ρ, rfl, hH, hG, ab_F.rf⟩
      · obtain ⟨y, hy, hy2, ey⟩ := bm_rg_ex (n := 99) g
        have ev : sh j = nI (sh j).toNatClampNeg := by rw [ey, bn_clamp hy2]
        have hv : (sh j).toNatClampNeg ≤ 99 := by rw [ey, bn_clamp hy2]; exact hy
        have u1 : ab_H 1 (bm_up ρ 2 j (sh j)) (ab_ld sh a (j + 1)) := by
          rw [ev]
          exact hH.up 1 j _
        obtain ⟨τ, r1, r2, r3, r4⟩ := hc_load X hs4 hz i (j + 1) _ (by omega) (hG.set (c := 1) (i := j) hv) u1 (by rw [bm_up_nk _ _ (by decide)]; exact h41) (fun x => by rw [bm_up_nk _ _ (by omega)]; exact hsh x)
        exact ⟨τ, by rw [cond_true, cond_true, hsh]; exact r1, r2, r3, fun q hq => by rw [r4 q hq, bm_up_ne _ _ _ (by omega)]⟩
    · rw [decide_eq_false c, cond_false, cond_false]
      exact ⟨ρ, rfl, hH, hG, ab_F.rf⟩
theorem hm_load (X : bm_X) {a : ab_T} {s z : Nat} {sh : Nat → Int32} (hs4 : s < 4) (hz : z ≤ 40) (u : Value) : ∀ (i j : Nat) (ρ : bm_M), j + i = z → ab_S 46 ρ (ab_ld sh a j) → ρ 52 s = nI z → (∀ x, x < 40 → ρ 53 (40 * s + x) = sh x) → ∃ τ, bm_ev X 150 12 [.ref 45, .int (nI s), u, .int (nI j)] [] ρ = some (.int (nI (ab_lc sh i j)), τ) ∧ ab_S 46 τ (ab_ld sh a (ab_lc sh i j)) ∧ ab_N ρ τ
  | 0, j, ρ, e, hS, h52, hsh => by
    refine ⟨ρ, ?_, hS, ab_N.rf⟩
    rw [bb_150_12, bn_inT hs4 (by decide), bm_gd_t, bn_clamp (by omega), h52, bn_lt (by omega) (by omega), decide_eq_false (by omega), cond_false]
    rfl
  | i + 1, j, ρ, e, hS, h52, hsh => by
    rw [bb_150_12, bn_inT hs4 (by decide), bm_gd_t, bn_clamp (show s < 2147483648 by omega), h52, bn_lt (by omega) (by omega), decide_eq_true (by omega), cond_true, bn_lt (by omega) (by decide), bn_mul, bn_add, bn_inT (show 40 * s + j < 160 by omega) (by decide), bm_gd_t, bn_clamp (show 40 * s + j < 2147483648 by omega), hsh j (by omega), bs_m74, bm_bI_some, bm_cond_bi, bm_gd_t, bn_add, bn_add]
    rw [ab_lc]
    by_cases c : j < 12
    · rw [decide_eq_true c, cond_true, cond_true, bn_inT (show 5 + j < 95 by omega) (by decide), bm_gd_t, bn_clamp (by omega)]
      cases g : bm_rg (sh j) 0 99
      · exact ⟨ρ, rfl, hS, ab_N.rf⟩
      · obtain ⟨y, hy, hy2, ey⟩ := bm_rg_ex (n := 99) g
        have ev : sh j = nI (sh j).toNatClampNeg := by rw [ey, bn_clamp hy2]
        have u1 : ab_S 46 (bm_up ρ 46 (5 + j) (sh j)) (ab_ld sh a (j + 1)) := by
          rw [ev]
          exact hS.up (c := 1) (i := j) _ (ab_w1 c)
        obtain ⟨τ, r1, r2, r3⟩ := hm_load X hs4 hz u i (j + 1) _ (by omega) u1 (by rw [bm_up_nk _ _ (by decide)]; exact h52) (fun x hx => by rw [bm_up_nk _ _ (by decide)]; exact hsh x hx)
        exact ⟨τ, by rw [cond_true, cond_true, hsh j (by omega)]; exact r1, r2, fun q hq => by rw [r3 q hq, bm_up_ne _ _ _ hq]⟩
    · rw [decide_eq_false c, cond_false, cond_false]
      exact ⟨ρ, rfl, hS, ab_N.rf⟩
theorem op_load (X : bm_X) (p : Int32) : ab_op X 117 150 [.ref 0, .int p, .null, .null] [.ref 45, .int p, .null, .null] := by
  intro T σ hR hT
  obtain ⟨a, ka, kp, tl, h1, h2, h3, h4, h5⟩ := id hR
  obtain ⟨hH, hS, hG, hP, hh⟩ := id h1
  cases g1 : bm_rg p 0 3
  · refine ⟨bm_lw 0, bm_tl 0 σ, bm_fo 0 (bm_tl 0 σ), ?_, ?_, hR.tell (by omega) (by decide)⟩
    · rw [bb_117_0, bs_c68', bm_bI_some, bm_cond_bi, g1, cond_false, bs_tell X _ (by decide), bm_bI_some]
    · rw [bb_150_0, bs_lacks0 X _ g1, bm_bI_some, bn_lt0 (by decide), cond_false, bs_finds X _ (by decide), bm_bI_some]
  obtain ⟨s, hs, -, rfl⟩ := bm_rg_ex (n := 3) g1
  have hs4 : s < 4 := by omega
  obtain ⟨b, z, hb, hz, c1, c2, c3, c4, c5⟩ := h4 s hs4
  have hb64 : b < 64 := by omega
  by_cases e0 : b = 0
  · have q : bm_tl 5 σ 51 s = nI b := by
      rw [← c2]
      exact bm_up_nk _ _ (by decide)
    refine ⟨bm_lw 5, bm_tl 5 σ, bm_fo 5 (bm_tl 5 σ), ?_, ?_, hR.tell (by omega) (by decide)⟩
    · rw [bb_117_0, bs_c68', bm_bI_some, bm_cond_bi, g1, cond_true, bn_inT hs4 (by decide), bm_gd_t, bn_clamp (by omega), c1, bn_eq0 (by omega), decide_eq_true e0, cond_true, bs_tell X _ (by decide), bm_bI_some]
    · rw [bb_150_0, bs_lacks1 X _ hs hb64 q, decide_eq_true e0, cond_true, bm_bI_some, bn_lt0 (by decide), cond_false, bs_finds X _ (by decide), bm_bI_some]
  obtain ⟨τ, r1, r2, r3, r4⟩ := hc_load X (a := a) (s := s) (z := z) (sh := σ (37 + s)) hs4 hz z 0 σ (by omega) hG hH c3 (fun _ => rfl)
  have q51 : τ 51 s = nI b := by rw [r4 51 (by decide)]; exact c2
  obtain ⟨ρ, m1, m2, m3⟩ := hm_load X (a := a) (s := s) (z := z) (sh := σ (37 + s)) hs4 hz (.int (-nI 1)) z 0 τ (by omega) (hS.fr (r4 46 (by decide))) (by rw [r4 52 (by decide)]; exact c4) (fun x hx => by rw [r4 53 (by decide)]; exact (c5 x hx).symm)
  refine ⟨nI (ab_lc (σ (37 + s)) z 0), τ, ρ, ?_, ?_, ab_R.both h2 h3 h4 h5 (by omega) r2 r4 m2 m3.E r3 (fun i hi => ?_) ?_⟩
  · rw [bb_117_0, bs_c68', bm_bI_some, bm_cond_bi, g1, cond_true, bn_inT hs4 (by decide), bm_gd_t, bn_clamp (by omega), c1, bn_eq0 (by omega), decide_eq_false e0, cond_false]
    exact r1
  · rw [bb_150_0, bs_lacks1 X _ hs hb64 q51, decide_eq_false e0, cond_false, bm_bI_some, decide_eq_true (by decide), cond_true]
    exact m1
  · rw [ab_ld_ne _ _ _ (by decide), ab_ld_ne _ _ _ (by decide)]
    exact hP i hi
  · rw [ab_ld_ne _ _ _ (by decide)]
    omega
