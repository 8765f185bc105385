/-! of, change, now, seed, wipe, tear, image, undo, hold -/
theorem bm_rgc_ex {x : Int32} {n : Nat} (h : bm_rg x 0 ((n : Int) - 1) = true) : ∃ k : Nat, k < n ∧ k < 2147483648 ∧ x = nI k := by
  have h0 : bm_rg x 0 n = true := by
    simp only [bm_rg, Bool.and_eq_true, decide_eq_true_eq] at h ⊢
    omega
  obtain ⟨j, h1, h2, rfl⟩ := bm_rg_ex h0
  simp only [bm_rg, Bool.and_eq_true, decide_eq_true_eq, bn_toInt h2] at h
  exact ⟨j, by omega, h2, rfl⟩
theorem hc_trait (X : bm_X) (σ : bm_M) {o w : Nat} (ho : bm_isH o) (hw : w ≤ 6) : bm_ev X 1 0 [.ref o, .int (nI w)] [] σ = some (.ref (o + 4 + w), σ) := by
  rw [bb_1_0 _ _ _ ho]
  rcases (show w = 0 ∨ w = 1 ∨ w = 2 ∨ w = 3 ∨ w = 4 ∨ w = 5 ∨ w = 6 by omega) with rfl | rfl | rfl | rfl | rfl | rfl | rfl <;> rfl
theorem ab_al8 {o w : Nat} (ho : bm_isH o) (hw : w ≤ 6) : bm_al (o + 4 + w) = 8 := by
  rcases ho with rfl | rfl | rfl <;> rcases (show w = 0 ∨ w = 1 ∨ w = 2 ∨ w = 3 ∨ w = 4 ∨ w = 5 ∨ w = 6 by omega) with rfl | rfl | rfl | rfl | rfl | rfl | rfl <;> rfl
theorem ab_H.tr {o : Nat} {σ : bm_M} {a : ab_T} (h : ab_H o σ a) {w k : Nat} (hw : w ≤ 6) (hk : k < 8) : σ (o + 4 + w) k = nI (a (4 + w) k) := by
  have := h (4 + w) k (ab_w8 (by omega) (by omega) hk)
  rw [show o + (4 + w) = o + 4 + w by omega] at this
  exact this
theorem bn_ne {a b : Nat} (ha : a < 2147483648) (hb : b < 2147483648) (h : a ≠ b) : decide (nI a = nI b) = false := by
  rw [bn_eq ha hb]; exact decide_eq_false h
theorem bn_same (x : Int32) : decide (x = x) = true := decide_eq_true rfl
theorem op_of (X : bm_X) (p v : Int32) : ab_op X 111 145 [.ref 0, .int p, .int v] [.ref 45, .int p, .int v] := by
  intro T σ hR hT
  obtain ⟨a, ka, kp, tl, h1, h2, h3, h4, h5⟩ := id hR
  obtain ⟨hH, hS, hG, hP, hh⟩ := id h1
  have e7 : σ 1 7 = nI (a 0 7) := hH 0 7 rfl
  have e7m : σ 46 2 = nI (a 0 7) := hS 0 7 rfl
  have hc := hG.2.2.1
  have i1 : ∀ (x : Int32) (σ : bm_M), bm_ev X 24 0 [.int x, .int (nI 10)] [] σ = some (.int (bm_bi (bm_rg x 0 10)), σ) := fun x σ => bs_upN X σ x (by decide)
  have m1 : ∀ (x : Int32) (σ : bm_M), bm_ev X 32 0 [.long x.toInt64, .null, .long (lN 0), .null, .long (lN 10), .null] [] σ = some (.int (bm_bi (bm_rg x 0 10)), σ) := fun x σ => bs_inI X σ x (by decide) (by decide)
  have bad : (bm_rg p 0 ((a 0 7 : Int) - 1) && bm_rg v 0 10) = false → ∃ (x : Int32) (τ τ' : bm_M), bm_ev X 111 0 [.ref 0, .int p, .int v] [] σ = some (.int x, τ) ∧ bm_ev X 145 0 [.ref 45, .int p, .int v] [] τ = some (.int x, τ') ∧ ab_R (T + 60) τ' := by
    intro hb
    refine ⟨bm_lw 0, bm_tl 0 σ, bm_fo 0 (bm_tl 0 σ), ?_, ?_, hR.tell (by omega) (by decide)⟩
    · rw [bb_111_0, bs_isCow X e7 hc, bm_bI_some, bm_cond_bi, i1, bm_bI_some, bm_cond_bi, bs_tell X _ (show 0 < 7 by decide), bm_bI_some]
      revert hb
      cases bm_rg p 0 ((a 0 7 : Int) - 1) <;> cases bm_rg v 0 10 <;> intro hb <;> first | rfl | cases hb
    · rw [bb_145_0, bs_isCowM X (σ := bm_tl 0 σ) e7m hc, bm_bI_some, bm_cond_bi, m1, bm_bI_some, bm_cond_bi, bs_finds X _ (show 0 < 7 by decide), bm_bI_some]
      revert hb
      cases bm_rg p 0 ((a 0 7 : Int) - 1) <;> cases bm_rg v 0 10 <;> intro hb <;> first | rfl | cases hb
  cases g1 : bm_rg p 0 ((a 0 7 : Int) - 1)
  · exact bad (by rw [g1]; rfl)
  · cases g2 : bm_rg v 0 10
    · exact bad (by rw [g1, g2]; rfl)
    · obtain ⟨k, hk, -, rfl⟩ := bm_rgc_ex g1
      obtain ⟨w, hw, -, rfl⟩ := bm_rg_ex (n := 10) g2
      have hk8 : k < 8 := by omega
      have cl : ∀ y : bm_R, bm_ev X 111 0 [.ref 0, .int (nI k), .int (nI w)] [] σ = y ↔ (bif decide (nI w = nI 7) then bm_bI (bm_ev X 53 0 [.ref 1, .int (nI k), .null] [] σ) (fun v8 t7 => some (.int v8, t7)) else bif decide (nI w = nI 8) then bm_bI (bm_ev X 3 0 [.ref 1, .int (nI k)] [] σ) (fun v10 t9 => some (.int v10, t9)) else bif decide (nI w = nI 9) then bm_bI (bm_ev X 54 0 [.ref 1, .int (nI k), .null, .null] [] σ) (fun v12 t11 => some (.int v12, t11)) else bif decide (nI w = nI 10) then bm_bI (bm_ev X 4 0 [.ref 1, .int (nI k), .null] [] σ) (fun v14 t13 => some (.int v14, t13)) else bm_bA (bm_ev X 1 0 [.ref 1, .int (nI w)] [] σ) (fun v16 t15 => bm_gd (bm_in (nI k) (bm_al v16)) (some (.int (t15 v16 (nI k).toNatClampNeg), t15)))) = y := by
        intro y
        rw [bb_111_0, bs_isCow X e7 hc, bm_bI_some, bm_cond_bi, g1, cond_true, i1, bm_bI_some, bm_cond_bi, g2, cond_true]
      have ml : ∀ y : bm_R, bm_ev X 145 0 [.ref 45, .int (nI k), .int (nI w)] [] σ = y ↔ (bif decide (nI w = nI 7) then bm_bI (bm_ev X 122 0 [.ref 45, .int (nI k), .null, .null] [] σ) (fun v8 t7 => some (.int v8, t7)) else bif decide (nI w = nI 8) then bm_bI (bm_ev X 78 0 [.ref 45, .int (nI k)] [] σ) (fun v10 t9 => some (.int v10, t9)) else bif decide (nI w = nI 9) then bm_bI (bm_ev X 79 0 [.ref 45, .int (nI k), .null, .null, .null] [] σ) (fun v12 t11 => some (.int v12, t11)) else bif decide (nI w = nI 10) then bm_bI (bm_ev X 80 0 [.ref 45, .int (nI k), .null, .null] [] σ) (fun v14 t13 => some (.int v14, t13)) else bm_bI (bm_ev X 34 0 [.ref 45, .int (nI k), .int (nI w)] [] σ) (fun v16 t15 => some (.int v16, t15))) = y := by
        intro y
        rw [bb_145_0, bs_isCowM X e7m hc, bm_bI_some, bm_cond_bi, g1, cond_true, m1, bm_bI_some, bm_cond_bi, g2, cond_true]
      have fin : ∀ x : Int32, bm_ev X 111 0 [.ref 0, .int (nI k), .int (nI w)] [] σ = some (.int x, σ) → bm_ev X 145 0 [.ref 45, .int (nI k), .int (nI w)] [] σ = some (.int x, σ) → ∃ (x : Int32) (τ τ' : bm_M), bm_ev X 111 0 [.ref 0, .int (nI k), .int (nI w)] [] σ = some (.int x, τ) ∧ bm_ev X 145 0 [.ref 45, .int (nI k), .int (nI w)] [] τ = some (.int x, τ') ∧ ab_R (T + 60) τ' := fun x q1 q2 => ⟨x, σ, σ, q1, q2, hR.junk (by omega) ab_K.rf⟩
      by_cases w6 : w ≤ 6
      · refine fin (nI (a (w + 4) k)) ((cl _).mpr ?_) ((ml _).mpr ?_)
        · rw [bn_ne (by omega) (by decide) (by omega), cond_false, bn_ne (by omega) (by decide) (by omega), cond_false, bn_ne (by omega) (by decide) (by omega), cond_false, bn_ne (by omega) (by decide) (by omega), cond_false, hc_trait X σ (Or.inl rfl) w6, bm_bA_some, ab_al8 (Or.inl rfl) w6, bn_inT hk8 (by decide), bm_gd_t, bn_clamp (by omega), hH.tr w6 hk8, Nat.add_comm 4 w]
        · rw [bn_ne (by omega) (by decide) (by omega), cond_false, bn_ne (by omega) (by decide) (by omega), cond_false, bn_ne (by omega) (by decide) (by omega), cond_false, bn_ne (by omega) (by decide) (by omega), cond_false, hm_itsw X hS hG (by omega) hk8, bm_bI_some]
      · rcases (show w = 7 ∨ w = 8 ∨ w = 9 ∨ w = 10 by omega) with rfl | rfl | rfl | rfl
        · refine fin (nI (ab_rings a k)) ((cl _).mpr ?_) ((ml _).mpr ?_)
          · rw [bn_same, cond_true, hc_rings X (Or.inl rfl) hH hG hk, bm_bI_some]
          · rw [bn_same, cond_true, hm_rings X hS hG hk8, bm_bI_some]
        · refine fin (nI (ab_eats a k)) ((cl _).mpr ?_) ((ml _).mpr ?_)
          · rw [bn_ne (by decide) (by decide) (by decide), cond_false, bn_same, cond_true, hc_eats X (Or.inl rfl) hH hG hk8, bm_bI_some]
          · rw [bn_ne (by decide) (by decide) (by decide), cond_false, bn_same, cond_true, hm_eats X hS hG hk8, bm_bI_some]
        · refine fin (nI (ab_gives a k)) ((cl _).mpr ?_) ((ml _).mpr ?_)
          · rw [bn_ne (by decide) (by decide) (by decide), cond_false, bn_ne (by decide) (by decide) (by decide), cond_false, bn_same, cond_true, hc_gives X (Or.inl rfl) hH hG hk8, bm_bI_some]
          · rw [bn_ne (by decide) (by decide) (by decide), cond_false, bn_ne (by decide) (by decide) (by decide), cond_false, bn_same, cond_true, hm_gives X hS hG hk8, bm_bI_some]
        · refine fin (if ab_b a k < a 0 7 then nI (ab_b a k) else -nI 1) ((cl _).mpr ?_) ((ml _).mpr ?_)
          · rw [bn_ne (by decide) (by decide) (by decide), cond_false, bn_ne (by decide) (by decide) (by decide), cond_false, bn_ne (by decide) (by decide) (by decide), cond_false, bn_same, cond_true, hc_beside X (Or.inl rfl) hH hG hk8, bm_bI_some]
          · rw [bn_ne (by decide) (by decide) (by decide), cond_false, bn_ne (by decide) (by decide) (by decide), cond_false, bn_ne (by decide) (by decide) (by decide), cond_false, bn_same, cond_true, hm_beside X hS hG hk8, bm_bI_some]
theorem bn_all (v : Int32) : ∃ n : Nat, v = nI n := ⟨v.toUInt32.toNat, by
  show v = Int32.ofNat v.toUInt32.toNat
  apply Int32.toBitVec_inj.mp
  simp⟩
theorem op_seed (X : bm_X) (p : Int32) : ab_op X 20 93 [.ref 0, .int p, .null] [.ref 45, .int p] := by
  intro T σ hR hT
  obtain ⟨a, ka, kp, tl, h1, h2, h3, h4, h5⟩ := id hR
  obtain ⟨hH, hS, hG, hP, hh⟩ := id h1
  obtain ⟨n, rfl⟩ := bn_all p
  have e1 : σ 1 6 = nI (a 0 6) := hH 0 6 rfl
  have e2 : σ 46 1 = nI (a 0 6) := hS 0 6 rfl
  refine ⟨nI (a 0 6), bm_up σ 1 6 (nI n), _, ?_, ?_, ab_R.set h1 h2 h3 h4 h5 (by omega) (c := 0) (i := 6) n rfl trivial (by decide) (by omega) (by omega)⟩
  · rw [bb_20_0, e1]
  · rw [bb_93_0, bs_becomes X _ _ (by decide), bm_bI_some, bm_up_nk _ _ (by decide), e2]
    rfl
theorem op_wipe (X : bm_X) : ab_op X 21 45 [.ref 0, .null] [.ref 45, .null] := by
  intro T σ hR hT
  obtain ⟨a, ka, kp, tl, ⟨g1, g2, g3, g4, g5⟩, h2, ⟨t1, t2, t3, t4⟩, h4, h5⟩ := id hR
  refine ⟨nI tl, bm_up σ 34 1 (nI 0), bm_up (bm_up σ 34 1 (nI 0)) 45 9 (nI 0), ?_, ?_, ?_⟩
  · rw [bb_21_0, t1]
  · rw [bb_45_0, bm_up_nk _ _ (by decide), t2]
  · have hK : ab_K (fun q i => (q = 34 ∧ i = 1) ∨ (q = 45 ∧ i = 9)) σ (bm_up (bm_up σ 34 1 (nI 0)) 45 9 (nI 0)) := (ab_K.rf.up _ (Or.inl ⟨rfl, rfl⟩)).up _ (Or.inr ⟨rfl, rfl⟩)
    refine ⟨a, ka, kp, 0, ⟨g1.K hK (fun q i _ _ _ z => by omega), g2.K hK (fun i z => by omega), g3, g4, by omega⟩, h2.K (by omega) hK (fun q i z => by omega), ⟨?_, bm_up_at _ _ _ _, by omega, fun i hi => absurd hi (Nat.not_lt_zero _)⟩, h4.K hK (fun q i z => by omega), h5.K hK (fun q i z => by omega)⟩
    rw [bm_up_nk _ _ (by decide), bm_up_at]
theorem op_tear (X : bm_X) : ab_op X 22 46 [.ref 0, .null] [.ref 45, .null] := by
  intro T σ hR hT
  obtain ⟨a, ka, kp, tl, ⟨g1, g2, g3, g4, g5⟩, ⟨k1, k2, k3⟩, h3, h4, h5⟩ := id hR
  refine ⟨bm_bi kp, bm_up σ 0 3 (nI 0), bm_up (bm_up σ 0 3 (nI 0)) 45 3 (nI 0), ?_, ?_, ?_⟩
  · rw [bb_22_0, k1, bm_cond_bi, bm_bo_0, bm_gd_t, bm_gd_t]
    cases kp <;> rfl
  · rw [bb_46_0, bm_up_nk _ _ (by decide), k2, bm_cond_bi, bm_bo_0, bm_gd_t, bm_gd_t]
    cases kp <;> rfl
  · have hK : ab_K (fun q i => (q = 0 ∧ i = 3) ∨ (q = 45 ∧ i = 3)) σ (bm_up (bm_up σ 0 3 (nI 0)) 45 3 (nI 0)) := (ab_K.rf.up _ (Or.inl ⟨rfl, rfl⟩)).up _ (Or.inr ⟨rfl, rfl⟩)
    refine ⟨a, ka, false, tl, ⟨g1.K hK (fun q i _ _ _ z => by omega), g2.K hK (fun i z => by omega), g3, g4, by omega⟩, ⟨?_, bm_up_at _ _ _ _, fun e => by cases e⟩, h3.K hK (fun q i z => by omega), h4.K hK (fun q i z => by omega), h5.K hK (fun q i z => by omega)⟩
    rw [bm_up_nk _ _ (by decide), bm_up_at]
    rfl
theorem op_image (X : bm_X) : ab_op X 119 98 [.ref 0] [.ref 45] := by
  intro T σ hR hT
  obtain ⟨a, ka, kp, tl, ⟨g1, g2, g3, g4, g5⟩, h2, h3, h4, h5⟩ := id hR
  obtain ⟨τ, f1, f2, f3⟩ := hc_becomeA X (o := 23) (o2 := 1) (Or.inr (Or.inr rfl)) (Or.inl rfl) (by decide) g1
  have s1 : ab_S 46 (bm_up τ 0 3 (nI 1)) a := (g2.fr (f3 46 (by decide))).ne _ _ (by decide)
  obtain ⟨τ', m1, m2, m3⟩ := hm_become X (r0 := 46) (r1 := 47) rfl rfl (by decide) s1
  refine ⟨nI 1, bm_up τ 0 3 (nI 1), bm_up τ' 45 3 (nI 1), ?_, ?_, ?_⟩
  · rw [bb_119_0, f1, bm_bV_some, bm_bo_1, bm_gd_t]
  · rw [bb_98_0, m1, bm_bV_some, bm_bo_1, bm_gd_t]
  · have hK : ab_K (fun q i => (23 ≤ q ∧ q ≤ 33) ∨ q = 47 ∨ (q = 0 ∧ i = 3) ∨ (q = 45 ∧ i = 3)) σ (bm_up τ' 45 3 (nI 1)) := by
      have k1 := f3.K.mono (P' := fun q i => (23 ≤ q ∧ q ≤ 33) ∨ q = 47 ∨ (q = 0 ∧ i = 3) ∨ (q = 45 ∧ i = 3)) (fun q i z => by omega)
      have k2 := (ab_q.K m3).mono (P' := fun q i => (23 ≤ q ∧ q ≤ 33) ∨ q = 47 ∨ (q = 0 ∧ i = 3) ∨ (q = 45 ∧ i = 3)) (fun q i z => by omega)
      exact (((k1.up _ (by omega)).tr k2).up _ (by omega))
    refine ⟨a, a, true, tl, ⟨g1.K hK (fun q i _ _ _ z => by omega), g2.K hK (fun i z => by omega), g3, g4, by omega⟩, ⟨?_, bm_up_at _ _ _ _, fun _ => ⟨?_, ?_, g3, g4, by omega⟩⟩, h3.K hK (fun q i z => by omega), h4.K hK (fun q i z => by omega), h5.K hK (fun q i z => by omega)⟩
    · rw [bm_up_nk _ _ (by decide), m3 0 (by decide), bm_up_at]
      rfl
    · exact (f2.ne (k := 0) 3 (nI 1) (by decide)).fr (fun q c1 c2 => by rw [bm_up_ne _ _ _ (by omega), m3 q (by omega)])
    · exact m2.ne _ _ (by decide)
theorem op_undo (X : bm_X) : ab_op X 120 99 [.ref 0] [.ref 45] := by
  intro T σ hR hT
  obtain ⟨a, ka, kp, tl, ⟨g1, g2, g3, g4, g5⟩, h2, h3, h4, h5⟩ := id hR
  obtain ⟨k1, k2, k3⟩ := id h2
  cases kp
  · refine ⟨bm_lw 3, bm_tl 3 σ, bm_fo 3 (bm_tl 3 σ), ?_, ?_, hR.tell (by omega) (by decide)⟩
    · rw [bb_120_0, k1, bm_cond_bi, cond_false, bs_tell X _ (by decide), bm_bI_some]
    · have : bm_tl 3 σ 45 3 = bm_bi false := k2
      rw [bb_99_0, this, bm_cond_bi, cond_false, bs_finds X _ (by decide), bm_bI_some]
  · obtain ⟨c1, c2, c3, c4, c5⟩ := k3 rfl
    obtain ⟨τ, f1, f2, f3⟩ := hc_becomeA X (o := 1) (o2 := 23) (Or.inl rfl) (Or.inr (Or.inr rfl)) (by decide) c1
    obtain ⟨τ', m1, m2, m3⟩ := hm_become X (r0 := 47) (r1 := 46) rfl rfl (by decide) (c2.fr (f3 47 (by decide)))
    refine ⟨nI (ka 0 5), τ, τ', ?_, ?_, ab_R.both h2 h3 h4 h5 (by omega) f2 f3 m2 (ab_N.E m3) c3 c4 (by omega)⟩
    · have e5 : τ 1 5 = nI (ka 0 5) := f2 0 5 rfl
      rw [bb_120_0, k1, bm_cond_bi, cond_true, f1, bm_bV_some, e5]
    · have e5 : τ' 46 0 = nI (ka 0 5) := m2 0 5 rfl
      have : τ 45 3 = bm_bi true := by rw [f3 45 (by decide)]; exact k2
      rw [bb_99_0, this, bm_cond_bi, cond_true, m1, bm_bV_some, bn_inT (by decide) (by decide), bm_gd_t, bn_clamp (by decide), e5]
