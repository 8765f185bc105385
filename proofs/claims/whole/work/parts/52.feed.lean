/-! feed -/
theorem bn_ofbv (v : Int32) : v = nI v.toBitVec.toNat := by
  apply Int32.toBitVec_inj.mp
  show v.toBitVec = BitVec.ofNat 32 v.toBitVec.toNat
  rw [BitVec.ofNat_toNat, BitVec.setWidth_eq]
def ab_by (x : Int32) (k : Nat) : Int32 := bm_ushr x (nI (8 * k)) &&& nI 255
theorem ab_by_lt (x : Int32) (k : Nat) : ∃ b, b < 256 ∧ ab_by x k = nI b := by
  refine ⟨(ab_by x k).toBitVec.toNat, ?_, bn_ofbv _⟩
  unfold ab_by
  rw [Int32.toBitVec_and, BitVec.toNat_and]
  have : (nI 255).toBitVec.toNat = 255 := by decide
  rw [this]
  have := Nat.and_le_right (n := (bm_ushr x (nI (8 * k))).toBitVec.toNat) (m := 255)
  omega
theorem bn_shbv (x : Int32) (s : Nat) (hs : s < 32) : (bm_ushr x (nI s)).toBitVec = x.toBitVec >>> s ∧ (bm_shr x (nI s)).toBitVec = x.toBitVec.sshiftRight s := by
  constructor
  · have key : ∀ s, s < 32 → (((nI s).toUInt32 &&& Int32.toUInt32 31).toBitVec % 32).toNat = s := by decide
    show x.toBitVec >>> ((((nI s).toUInt32 &&& Int32.toUInt32 31).toBitVec % 32).toNat) = _
    rw [key s hs]
  · have key : ∀ s, s < 32 → ((nI s &&& 31).toBitVec.smod 32).toNat = s := by decide
    show x.toBitVec.sshiftRight (((nI s &&& 31).toBitVec.smod 32).toNat) = _
    rw [key s hs]
theorem bn_255 (i : Nat) : (nI 255).toBitVec.getLsbD i = decide (i < 8) := by
  have e : (nI 255).toBitVec = BitVec.ofNat 32 255 := rfl
  by_cases h : i < 8
  · rw [decide_eq_true h]
    have : ∀ i, i < 8 → (nI 255).toBitVec.getLsbD i = true := by decide
    exact this i h
  · rw [decide_eq_false h]
    by_cases h2 : i < 32
    · have : ∀ i, i < 32 → ¬ i < 8 → (nI 255).toBitVec.getLsbD i = false := by decide
      exact this i h2 h
    · exact BitVec.getLsbD_of_ge _ _ (by omega)
theorem ab_by_shr (x : Int32) {k : Nat} (hk : k < 4) : (bm_shr x (nI (8 * k)) &&& nI 255) = ab_by x k := by
  obtain ⟨e1, e2⟩ := bn_shbv x (8 * k) (by omega)
  unfold ab_by
  apply Int32.toBitVec_inj.mp
  rw [Int32.toBitVec_and, Int32.toBitVec_and, e1, e2]
  apply BitVec.eq_of_getLsbD_eq
  intro i hi
  rw [BitVec.getLsbD_and, BitVec.getLsbD_and, bn_255, BitVec.getLsbD_ushiftRight, BitVec.getLsbD_sshiftRight]
  by_cases h : i < 8
  · have h1 : ¬ 32 ≤ i := by omega
    have h2 : 8 * k + i < 32 := by omega
    simp [h1, h2]
  · simp [h]
def ab_JF (q i : Nat) : Prop := q = 35 ∨ (q = 34 ∧ i = 1)
theorem hc_feed (X : bm_X) (x : Int32) (u : Value) : ∀ (k c : Nat) (ρ : bm_M), k ≤ 4 → c + k ≤ 120 → ρ 34 1 = nI c → ∃ τ, bm_ev X 61 25 [.ref 0, .int x, u, .int (nI k - nI 1)] [] ρ = some (.int (nI (c + k)), τ) ∧ τ 34 1 = nI (c + k) ∧ (∀ i, i < c → τ 35 i = ρ 35 i) ∧ (∀ d, d < k → τ 35 (c + d) = ab_by x (k - 1 - d)) ∧ ab_K ab_JF ρ τ
  | 0, c, ρ, hk, hc, h1 => by
    refine ⟨ρ, ?_, h1, fun _ _ => rfl, fun d hd => by omega, ab_K.rf⟩
    rw [bb_61_25, decide_eq_true (by decide), cond_true, h1]
    rfl
  | k + 1, c, ρ, hk, hc, h1 => by
    have s1 : bm_up (bm_up ρ 35 c (ab_by x k)) 34 1 (nI (c + 1)) 34 1 = nI (c + 1) := bm_up_at _ _ _ _
    obtain ⟨τ, r1, r2, r3, r4, r5⟩ := hc_feed X x u k (c + 1) _ (by omega) (by omega) s1
    refine ⟨τ, ?_, by rw [r2, show c + 1 + k = c + (k + 1) by omega], fun i hi => ?_, fun d hd => ?_, ((ab_K.rf.up _ (Or.inl rfl)).up _ (Or.inr ⟨rfl, rfl⟩)).tr r5⟩
    · rw [bn_pred, bb_61_25, bn_lt0 (by omega), cond_false, bn_mul, bb_17_0, h1, bn_lt (by omega) (by decide), decide_eq_true (by omega), cond_true, bn_inT (by omega) (by decide), bm_gd_t, bn_clamp (by omega), bm_up_nk _ _ (by decide), h1, bn_add, bm_bV_some, show c + (k + 1) = c + 1 + k by omega]
      exact r1
    · rw [r3 i (by omega), bm_up_nk _ _ (by decide), bm_up_ni _ _ (by omega)]
    · by_cases e : d = 0
      · subst e
        rw [Nat.add_zero, r3 c (by omega), bm_up_nk _ _ (by decide), bm_up_at]
        rfl
      · have := r4 (d - 1) (by omega)
        rw [show c + 1 + (d - 1) = c + d by omega, show k - 1 - (d - 1) = k + 1 - 1 - d by omega] at this
        exact this
def ab_JG (q i : Nat) : Prop := q = 50 ∨ (q = 45 ∧ i = 9)
theorem hm_feed (X : bm_X) (x : Int32) (u : Value) : ∀ (k c : Nat) (ρ : bm_M), k ≤ 4 → c + k ≤ 120 → ρ 45 9 = nI c → ∃ τ, bm_ev X 94 24 [.ref 45, .int x, u, .int (nI k - nI 1)] [] ρ = some (.int (nI (c + k)), τ) ∧ τ 45 9 = nI (c + k) ∧ (∀ i, i < c → τ 50 i = ρ 50 i) ∧ (∀ d, d < k → τ 50 (c + d) = ab_by x (k - 1 - d)) ∧ ab_K ab_JG ρ τ
  | 0, c, ρ, hk, hc, h1 => by
    refine ⟨ρ, ?_, h1, fun _ _ => rfl, fun d hd => by omega, ab_K.rf⟩
    rw [bb_94_24, decide_eq_true (by decide), cond_true, h1]
    rfl
  | k + 1, c, ρ, hk, hc, h1 => by
    have s1 : bm_up (bm_up ρ 50 c (ab_by x k)) 45 9 (nI (c + 1)) 45 9 = nI (c + 1) := bm_up_at _ _ _ _
    obtain ⟨τ, r1, r2, r3, r4, r5⟩ := hm_feed X x u k (c + 1) _ (by omega) (by omega) s1
    refine ⟨τ, ?_, by rw [r2, show c + 1 + k = c + (k + 1) by omega], fun i hi => ?_, fun d hd => ?_, ((ab_K.rf.up _ (Or.inl rfl)).up _ (Or.inr ⟨rfl, rfl⟩)).tr r5⟩
    · rw [bn_pred, bb_94_24, bn_lt0 (by omega), cond_false, h1, bn_inT (by omega) (by decide), bm_gd_t, bn_clamp (by omega), bn_mul, ab_by_shr x (by omega), bm_up_nk _ _ (by decide), h1, bn_add, show c + (k + 1) = c + 1 + k by omega]
      exact r1
    · rw [r3 i (by omega), bm_up_nk _ _ (by decide), bm_up_ni _ _ (by omega)]
    · by_cases e : d = 0
      · subst e
        rw [Nat.add_zero, r3 c (by omega), bm_up_nk _ _ (by decide), bm_up_at]
        rfl
      · have := r4 (d - 1) (by omega)
        rw [show c + 1 + (d - 1) = c + d by omega, show k - 1 - (d - 1) = k + 1 - 1 - d by omega] at this
        exact this
theorem op_feed (X : bm_X) (x p : Int32) : ab_op X 61 94 [.ref 0, .int x, .int p, .null] [.ref 45, .int x, .int p, .null] := by
  intro T σ hR hT
  obtain ⟨a, ka, kp, tl, ⟨g1, g2, g3, g4, g5⟩, h2, ⟨t1, t2, t3, t4⟩, h4, h5⟩ := id hR
  have m1 : ∀ (x : Int32) (σ : bm_M), bm_ev X 32 0 [.long x.toInt64, .null, .long (lN 1), .null, .long (lN 4), .null] [] σ = some (.int (bm_bi (bm_rg x 1 4)), σ) := fun x σ => bs_inI X σ x (by decide) (by decide)
  have hb : ∀ A B : bm_R, cond (decide (p < nI 1)) B (cond (decide (nI 4 < p)) B A) = cond (bm_rg p 1 4) A B := fun A B => bm_rg1 p (n := 4) (by decide) A B
  have cl : bm_ev X 61 0 [.ref 0, .int x, .int p, .null] [] σ = cond (bm_rg p 1 4) (bif decide ((nI 120) < ((σ 34 1) + p)) then some (.int (bm_lw 1), bm_tl 1 σ) else bm_ev X 61 25 [.ref 0, .int x, .int p, .int (p - (nI 1))] [] σ) (some (.int (bm_lw 0), bm_tl 0 σ)) := by
    rw [bb_61_0, bs_tell X _ (show 0 < 7 by decide), bs_tell X _ (show 1 < 7 by decide), bm_bI_some, bm_bI_some, hb]
  cases c1 : bm_rg p 1 4
  · rw [c1, cond_false] at cl
    refine ⟨_, _, bm_fo 0 (bm_tl 0 σ), cl, ?_, hR.tell (by omega) (by decide)⟩
    rw [bb_94_0, m1, bm_bI_some, bm_cond_bi, c1, cond_false, bs_finds X _ (by decide), bm_bI_some]
  · obtain ⟨m, hm1, hm, -, rfl⟩ := bm_rg1_ex (n := 4) c1
    rw [c1, cond_true, t1, bn_add, bn_lt (by decide) (by omega)] at cl
    by_cases e : 120 < tl + m
    · rw [decide_eq_true e, cond_true] at cl
      refine ⟨_, _, bm_fo 1 (bm_tl 1 σ), cl, ?_, hR.tell (by omega) (by decide)⟩
      have q : bm_tl 1 σ 45 9 = nI tl := by rw [← t2]; exact bm_up_nk _ _ (by decide)
      rw [bb_94_0, m1, bm_bI_some, bm_cond_bi, c1, cond_true, q, bn_add, bn_lt (by decide) (by omega), decide_eq_true e, cond_true, bs_finds X _ (by decide), bm_bI_some]
    · rw [decide_eq_false e, cond_false] at cl
      obtain ⟨τ, r1, r2, r3, r4, r5⟩ := hc_feed X x (.int (nI m)) m tl σ (by omega) (by omega) t1
      have q : τ 45 9 = nI tl := by rw [r5 45 9 (by unfold ab_JF; omega)]; exact t2
      obtain ⟨ρ, s1, s2, s3, s4, s5⟩ := hm_feed X x (.int (nI m)) m tl τ (by omega) (by omega) q
      refine ⟨nI (tl + m), τ, ρ, by rw [cl]; exact r1, ?_, ?_⟩
      · rw [bb_94_0, m1, bm_bI_some, bm_cond_bi, c1, cond_true, q, bn_add, bn_lt (by decide) (by omega), decide_eq_false e, cond_false]
        exact s1
      · have hK : ab_K (fun q i => ab_JF q i ∨ ab_JG q i) σ ρ := (r5.mono (fun q i z => Or.inl z)).tr (s5.mono (fun q i z => Or.inr z))
        have no : ∀ q i, q ≠ 34 → q ≠ 35 → q ≠ 45 → q ≠ 50 → ¬ (ab_JF q i ∨ ab_JG q i) := by
          intro q i n1 n2 n3 n4 z
          unfold ab_JF ab_JG at z
          omega
        refine ⟨a, ka, kp, tl + m, ⟨g1.K hK (fun q i c1 c2 _ => no q i (by omega) (by omega) (by omega) (by omega)), g2.K hK (fun i => no 46 i (by decide) (by decide) (by decide) (by decide)), g3, g4, by omega⟩, h2.K (by omega) hK (fun q i z => ?_), ⟨?_, s2, by omega, fun i hi => ?_⟩, h4.K hK (fun q i z => ?_), h5.K hK (fun q i z => ?_)⟩
        · unfold ab_JF ab_JG at z
          omega
        · rw [s5 34 1 (by unfold ab_JG; omega)]
          exact r2
        · by_cases e2 : i < tl
          · obtain ⟨b, b1, b2, b3⟩ := t4 i e2
            refine ⟨b, b1, ?_, ?_⟩
            · rw [s5 35 i (by unfold ab_JG; omega), r3 i e2]
              exact b2
            · rw [s3 i e2, r5 50 i (by unfold ab_JF; omega)]
              exact b3
          · obtain ⟨b, b1, b2⟩ := ab_by_lt x (m - 1 - (i - tl))
            have z1 := r4 (i - tl) (by omega)
            have z2 := s4 (i - tl) (by omega)
            rw [show tl + (i - tl) = i by omega] at z1 z2
            refine ⟨b, b1, ?_, ?_⟩
            · rw [s5 35 i (by unfold ab_JG; omega), z1]
              exact b2
            · rw [z2]
              exact b2
        · unfold ab_JF ab_JG at z
          omega
        · unfold ab_JF ab_JG at z
          omega
