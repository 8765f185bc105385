theorem hm_kd39 (X : bm_X) {t : Nat → Nat} {n b : Nat} {fl : Bool} {σ : bm_M} (h : tk_Tm t n b fl σ) (x y : Int32) : bm_ev X 182 39 [.ref 45, .int x, .null] [.int y] σ = some (.int (bif decide (x < 0) then bif decide (y < 0) then (bif (!fl && tk_wd t n b 66) then nI 6 else -nI 1) else y else x), σ) := by
  rw [bb_182_39, hm_iw X h (by decide) (by decide), bm_bI_some, bm_cond_bi]
  cases decide (x < 0)
  · rfl
  · cases decide (y < 0)
    · rfl
    · cases (!fl && tk_wd t n b 66) <;> rfl
theorem hm_kd19 (X : bm_X) {t : Nat → Nat} {n b : Nat} {fl : Bool} {σ : bm_M} (h : tk_Tm t n b fl σ) (x : Int32) : bm_ev X 182 19 [.ref 45, .null, .null] [.int x] σ = bm_ev X 182 39 [.ref 45, .int x, .null] [.int (bif (!fl && tk_wd t n b 63) then nI 3 else bif (!fl && tk_wd t n b 64) then nI 4 else bif (!fl && tk_wd t n b 65) then nI 5 else -nI 1)] σ := by
  rw [bb_182_19, hm_iw X h (by decide) (by decide), bm_bI_some, bm_cond_bi, hm_iw X h (by decide) (by decide), bm_bI_some, bm_cond_bi, hm_iw X h (by decide) (by decide), bm_bI_some, bm_cond_bi]
  cases (!fl && tk_wd t n b 63)
  · cases (!fl && tk_wd t n b 64)
    · cases (!fl && tk_wd t n b 65) <;> rfl
    · rfl
  · rfl
theorem hm_kd0 (X : bm_X) {t : Nat → Nat} {n b : Nat} {fl : Bool} {σ : bm_M} (h : tk_Tm t n b fl σ) : bm_ev X 182 0 [.ref 45, .null, .null] [] σ = bm_ev X 182 19 [.ref 45, .null, .null] [.int (bif (!fl && tk_wd t n b 60) then nI 0 else bif (!fl && tk_wd t n b 61) then nI 1 else bif (!fl && tk_wd t n b 62) then nI 2 else -nI 1)] σ := by
  rw [bb_182_0, hm_iw X h (by decide) (by decide), bm_bI_some, bm_cond_bi, hm_iw X h (by decide) (by decide), bm_bI_some, bm_cond_bi, hm_iw X h (by decide) (by decide), bm_bI_some, bm_cond_bi]
  cases (!fl && tk_wd t n b 60)
  · cases (!fl && tk_wd t n b 61)
    · cases (!fl && tk_wd t n b 62) <;> rfl
    · rfl
  · rfl
theorem hm_kdT (X : bm_X) {t : Nat → Nat} {n b : Nat} {σ : bm_M} (h : tk_Tm t n b true σ) : bm_ev X 182 0 [.ref 45, .null, .null] [] σ = some (.int (-nI 1), σ) := by
  rw [hm_kd0 X h, hm_kd19 X h, hm_kd39 X h, Bool.not_true, Bool.false_and, Bool.false_and, Bool.false_and, Bool.false_and, Bool.false_and, Bool.false_and, Bool.false_and]
  rfl
theorem hm_kd (X : bm_X) {t : Nat → Nat} {n b : Nat} {σ : bm_M} (h : tk_Tm t n b false σ) : bm_ev X 182 0 [.ref 45, .null, .null] [] σ = some (.int (if tx_kd t n b < 7 then nI (tx_kd t n b) else -nI 1), σ) := by
  rw [hm_kd0 X h, hm_kd19 X h, hm_kd39 X h, Bool.not_false, Bool.true_and, Bool.true_and, Bool.true_and, Bool.true_and, Bool.true_and, Bool.true_and, Bool.true_and]
  unfold tx_kd
  cases tk_wd t n b 60
  · cases tk_wd t n b 61
    · cases tk_wd t n b 62
      · cases tk_wd t n b 63
        · cases tk_wd t n b 64
          · cases tk_wd t n b 65
            · cases tk_wd t n b 66 <;> rfl
            · rfl
          · rfl
        · rfl
      · rfl
    · rfl
  · rfl
theorem tx_up {σ : bm_M} (i : Nat) (x : Int32) : ∀ q, q ≠ 46 → bm_up σ 46 i x q = σ q := fun q hq => bm_up_ne _ _ _ hq
theorem hm_itemT (X : bm_X) {t : Nat → Nat} {n b : Nat} {σ : bm_M} (h : tk_Tm t n b true σ) : ∃ τ, bm_ev X 207 0 [.ref 45, .null, .null, .null] [] σ = some (.null, τ) ∧ tk_Tm t n b true τ ∧ ab_K tx_Jm σ τ := by
  obtain ⟨s1, r1, r2, r3⟩ := hm_pw X (w := 71) h (by decide) (by decide)
  obtain ⟨s2, q1, q2, q3⟩ := hm_pw X (w := 72) r2 (by decide) (by decide)
  obtain ⟨s3, p1, p2, p3⟩ := hm_mu X (g := false) q2
  obtain ⟨x, s4, y1, yx, y2, y3⟩ := hm_nu X (hi := 99) p2 (by decide)
  refine ⟨bm_up s4 46 4 x, ?_, tk_Tm.N y2 (tx_up 4 x), (tk_H.m (((r3.tr q3).tr p3).tr y3)).tr (ab_N.m (tx_up 4 x))⟩
  rw [bb_207_0, hm_kdT X h, bm_bI_some, bn_m1_lt, cond_true, r1, bm_bI_some, bm_cond_bi, Bool.not_true, Bool.false_and, cond_false]
  rw [Bool.not_true, Bool.false_and] at q1
  rw [q1, bm_bI_some, bm_cond_bi, cond_false, hm_iw X q2 (by decide) (by decide), bm_bI_some, Bool.not_true, Bool.false_and, p1, bm_bV_some, y1, bm_bI_some, bn_inT (by decide) (by decide), bm_gd_t, bn_clamp (by decide)]
theorem hm_grass (X : bm_X) {t : Nat → Nat} {n b : Nat} {a : ab_T} {σ : bm_M} (h : tk_Tm t n (tk_nx t n b) false σ) (hS : ab_S 46 σ a) : ∃ τ, bm_bI (bm_ev X 162 0 [.ref 45, .int (nI 0), .int (nI 11), .null, .null] [] σ) (fun v15 t14 => bm_bI (bm_ev X 162 0 [.ref 45, .int (nI 0), .int (nI 99), .null, .null] [] t14) (fun v17 t16 => bif decide ((t16 45 12) = 0) then bm_gd (bm_in ((nI 5) + v15) 95) (some (.null, (bm_up t16 46 ((nI 5) + v15).toNatClampNeg v17))) else some (.null, t16))) = some (.null, τ) ∧ tx_M t n (tx_grass t n b a) σ τ := by
  obtain ⟨x, s1, r1, rx, r2, r3⟩ := hm_nu X (hi := 11) h (by decide)
  obtain ⟨y, s2, q1, qx, q2, q3⟩ := hm_nu X (hi := 99) r2 (by decide)
  have e12 : s2 45 12 = bm_bi _ := q2.2.2.1
  rw [r1, bm_bI_some, q1, bm_bI_some, e12, bm_cond_bi]
  unfold tx_grass
  have kk : ab_K tx_Jm σ s2 := tk_H.m (r3.tr q3)
  cases g1 : tk_ok t n (tk_nx t n b) 11
  · rw [g1] at q2
    exact ⟨s2, rfl, q2, (fun q => by cases q), kk⟩
  · rw [g1] at q2 qx
    have v1 : tk_v t n (tk_nx t n b) ≤ 11 := by
      unfold tk_ok at g1
      rw [Bool.and_eq_true, decide_eq_true_eq, decide_eq_true_eq] at g1
      exact g1.2
    have qx : tk_ok t n (tk_nx t n (tk_nx t n b)) 99 = true → y = nI (tk_v t n (tk_nx t n (tk_nx t n b))) := qx
    have q2 : tk_Tm t n (bif false || !tk_ok t n (tk_nx t n (tk_nx t n b)) 99 then (tk_nx t n (tk_nx t n b)) else tk_nx t n (tk_nx t n (tk_nx t n b))) (false || !tk_ok t n (tk_nx t n (tk_nx t n b)) 99) s2 := q2
    show ∃ τ, cond (false || !tk_ok t n (tk_nx t n (tk_nx t n b)) 99) _ _ = _ ∧ _
    cases g2 : tk_ok t n (tk_nx t n (tk_nx t n b)) 99
    · rw [g2] at q2
      exact ⟨s2, rfl, q2, (fun q => by cases q), kk⟩
    · rw [g2] at q2
      rw [rx g1, qx g2]
      have u := tx_up (σ := s2) (5 + tk_v t n (tk_nx t n b)) (nI (tk_v t n (tk_nx t n (tk_nx t n b))))
      refine ⟨bm_up s2 46 (5 + tk_v t n (tk_nx t n b)) (nI (tk_v t n (tk_nx t n (tk_nx t n b)))), ?_, tk_Tm.N q2 u, fun _ => ?_, kk.tr (ab_N.m u)⟩
      · rw [Bool.not_true, Bool.or_self, cond_false, bn_add, bn_inT (by omega) (by decide), bm_gd_t, bn_clamp (by omega)]
      · exact ((hS.H r3).H q3).up (c := 1) (i := tk_v t n (tk_nx t n b)) _ (ab_w1 (by omega))
theorem hm_set0 (X : bm_X) {t : Nat → Nat} {n b i hi : Nat} {a : ab_T} {σ : bm_M} (h : tk_Tm t n (tk_nx t n b) false σ) (hS : ab_S 46 σ a) (hh : hi ≤ 999) (hi' : i = 3 ∨ i = 4) : ∃ τ, bm_bI (bm_ev X 162 0 [.ref 45, .int (nI 0), .int (nI hi), .null, .null] [] σ) (fun v13 t12 => bm_gd (bm_in (nI i) 95) (some (.null, (bm_up t12 46 (nI i).toNatClampNeg v13)))) = some (.null, τ) ∧ tx_M t n (tx_set0 t n i hi b a) σ τ := by
  obtain ⟨x, s1, r1, rx, r2, r3⟩ := hm_nu X (hi := hi) h hh
  rw [r1, bm_bI_some, bn_inT (show i < 95 by omega) (by decide), bm_gd_t, bn_clamp (show i < 2147483648 by omega)]
  unfold tx_set0
  refine ⟨_, rfl, ?_⟩
  have kk : ab_K tx_Jm σ (bm_up s1 46 i x) := (tk_H.m r3).tr (ab_N.m (tx_up i x))
  cases g1 : tk_ok t n (tk_nx t n b) hi
  · rw [g1] at r2
    exact ⟨tk_Tm.N r2 (tx_up i x), (fun q => by cases q), kk⟩
  · rw [g1] at r2
    refine ⟨tk_Tm.N r2 (tx_up i x), fun _ => ?_, kk⟩
    rw [rx g1]
    rcases hi' with rfl | rfl
    · exact (hS.H r3).up (c := 0) (i := 3) _ rfl
    · exact (hS.H r3).up (c := 0) (i := 4) _ rfl
theorem tx_M.pre {t : Nat → Nat} {n : Nat} {r : Bool × Nat × ab_T} {σ ρ τ : bm_M} (k : ab_K tx_Jm σ ρ) (h : tx_M t n r ρ τ) : tx_M t n r σ τ := ⟨h.1, h.2.1, k.tr h.2.2⟩
theorem hm_item (X : bm_X) {t : Nat → Nat} {n b : Nat} {a : ab_T} {σ : bm_M} (h : tk_Tm t n b false σ) (hS : ab_S 46 σ a) (hG : ab_G a) : ∃ τ, bm_ev X 207 0 [.ref 45, .null, .null, .null] [] σ = some (.null, τ) ∧ tx_M t n (tx_item t n b a) σ τ := by
  unfold tx_item
  rw [bb_207_0, hm_kd X h, bm_bI_some]
  by_cases c : tx_kd t n b < 7
  · obtain ⟨τ, r1, r2⟩ := hm_cow X (kd := tx_kd t n b) h hS hG
    refine ⟨τ, ?_, by rw [decide_eq_true c, cond_true]; exact r2⟩
    rw [if_pos c, bn_lt0 (by omega), cond_false, r1, bm_bV_some]
  · rw [if_neg c, bn_m1_lt, cond_true, decide_eq_false c, cond_false]
    obtain ⟨s1, r1, r2, r3⟩ := hm_pw X (w := 71) h (by decide) (by decide)
    rw [r1, bm_bI_some, bm_cond_bi, Bool.not_false, Bool.true_and]
    rw [Bool.not_false, Bool.true_and] at r2
    cases g1 : tk_wd t n b 71
    · rw [g1, cond_false] at r2
      rw [cond_false, cond_false]
      obtain ⟨s2, q1, q2, q3⟩ := hm_pw X (w := 72) r2 (by decide) (by decide)
      rw [q1, bm_bI_some, bm_cond_bi, Bool.not_false, Bool.true_and]
      rw [Bool.not_false, Bool.true_and] at q2
      cases g2 : tk_wd t n b 72
      · rw [g2, cond_false] at q2
        rw [cond_false, cond_false, hm_iw X q2 (by decide) (by decide), bm_bI_some, Bool.not_false, Bool.true_and]
        obtain ⟨s3, p1, p2, p3⟩ := hm_mu X (g := tk_wd t n b 73) q2
        rw [p1, bm_bV_some]
        have kk : ab_K tk_H σ s3 := (r3.tr q3).tr p3
        cases g3 : tk_wd t n b 73
        · rw [g3] at p2
          have p2 : tk_Tm t n b true s3 := p2
          obtain ⟨x, s4, y1, yx, y2, y3⟩ := hm_nu X (hi := 99) p2 (by decide)
          rw [y1, bm_bI_some, bn_inT (by decide) (by decide), bm_gd_t, bn_clamp (by decide)]
          exact ⟨_, rfl, tk_Tm.N y2 (tx_up 4 x), (fun q => by cases q), (tk_H.m (kk.tr y3)).tr (ab_N.m (tx_up 4 x))⟩
        · rw [g3] at p2
          have p2 : tk_Tm t n (tk_nx t n b) false s3 := p2
          obtain ⟨τ, y1, y2⟩ := hm_set0 X (i := 4) (hi := 99) p2 (hS.H kk) (by decide) (by decide)
          exact ⟨τ, y1, y2.pre (tk_H.m kk)⟩
      · rw [g2, cond_true] at q2
        rw [cond_true]
        obtain ⟨τ, y1, y2⟩ := hm_set0 X (i := 3) (hi := 20) q2 (hS.H (r3.tr q3)) (by decide) (by decide)
        exact ⟨τ, y1, y2.pre (tk_H.m (r3.tr q3))⟩
    · rw [g1, cond_true] at r2
      rw [cond_true]
      obtain ⟨τ, y1, y2⟩ := hm_grass X r2 (hS.H r3)
      exact ⟨τ, y1, y2.pre (tk_H.m r3)⟩
