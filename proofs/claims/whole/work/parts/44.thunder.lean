/-! thunderFor -/
def ab_tm (a : ab_T) (n j : Nat) : Nat := ab_sum (ab_hs (ab_set a 0 4 j) n 2) 12
theorem ab_tm_le {a : ab_T} (hG : ab_G a) (n : Nat) {i j : Nat} (hij : i ≤ j) (hj : j ≤ 99) (hd : j / 10 = i / 10) : ab_tm a n j ≤ ab_tm a n i := by
  refine ab_sum_le 12 (fun t ht => ?_)
  have gi : ab_G (ab_set a 0 4 i) := hG.set (show i ≤ 99 by omega)
  have gj : ab_G (ab_set a 0 4 j) := hG.set (show j ≤ 99 from hj)
  have c2 : ∀ v, ab_set a 0 4 v 2 t = a 2 t := fun v => ab_set_nc a v (by decide)
  have c7 : ∀ v, ab_set a 0 4 v 0 7 = a 0 7 := fun v => ab_set_ni a v (by decide)
  rw [ab_hs_2 gi ht, ab_hs_2 gj ht, c2, c2, c7, c7]
  have := ab_sum_le (f := fun k => ab_w (ab_set a 0 4 j) t k n) (g := fun k => ab_w (ab_set a 0 4 i) t k n) (a 0 7) (fun k _ => by
    refine ab_Q.w ⟨fun c i' n2 n9 n10 n4 => ?_, ?_, ?_, ?_, ?_⟩ t n
    · rw [ab_set_ne _ _ n4, ab_set_ne _ _ n4]
    · rw [ab_set_nc _ _ (by decide), ab_set_nc _ _ (by decide)]
    · rw [ab_set_nc _ _ (by decide), ab_set_nc _ _ (by decide)]
    · rw [ab_set_self, ab_set_self]; exact hd
    · rw [ab_set_self, ab_set_self]; exact hij)
  omega
def ab_gst (P : Nat → Bool) : Nat → Nat
  | 0 => 100
  | m + 1 => bif P m then m else ab_gst P m
theorem ab_gst_sk (P : Nat → Bool) (q : Nat) : ∀ d, (∀ i, q ≤ i → i < q + d → P i = false) → ab_gst P (q + d) = ab_gst P q
  | 0, _ => rfl
  | d + 1, h => by
    show ab_gst P (q + d + 1) = _
    rw [ab_gst, h (q + d) (by omega) (by omega), cond_false, ab_gst_sk P q d (fun i h1 h2 => h i h1 (by omega))]
theorem ab_gst_le (P : Nat → Bool) : ∀ m, m ≤ 100 → ab_gst P m ≤ 100
  | 0, _ => Nat.le_refl _
  | m + 1, h => by
    rw [ab_gst]
    cases P m
    · exact ab_gst_le P m (by omega)
    · show m ≤ 100
      omega
theorem op_thunderFor (X : bm_X) (w v : Int32) : ab_op X 186 203 [.ref 0, .int w, .int v, .null, .null] [.ref 45, .int w, .int v, .null, .null] := by
  intro T σ hR hT
  obtain ⟨a, ka, kp, tl, h1, h2, h3, h4, h5⟩ := id hR
  obtain ⟨hH, hS, hG, hP, hh⟩ := id h1
  have i1 : ∀ (x : Int32) (σ : bm_M), bm_ev X 24 0 [.int x, .int (nI 40)] [] σ = some (.int (bm_bi (bm_rg x 0 40)), σ) := fun x σ => bs_upN X σ x (by decide)
  have i2 : ∀ (x : Int32) (σ : bm_M), bm_ev X 24 0 [.int x, .int (nI 9999)] [] σ = some (.int (bm_bi (bm_rg x 0 9999)), σ) := fun x σ => bs_upN X σ x (by decide)
  have m2 : ∀ (x : Int32) (σ : bm_M), bm_ev X 32 0 [.long x.toInt64, .null, .long (lN 0), .null, .long (lN 9999), .null] [] σ = some (.int (bm_bi (bm_rg x 0 9999)), σ) := fun x σ => bs_inI X σ x (by decide) (by decide)
  cases g3 : bm_rg w 0 9999
  · refine ⟨bm_lw 0, bm_tl 0 σ, bm_fo 0 (bm_tl 0 σ), ?_, ?_, hR.tell (by omega) (by decide)⟩
    · rw [bb_186_0, i2, bm_bI_some, bm_cond_bi, g3, cond_false, bs_tell X _ (by decide), bm_bI_some]
    · rw [bb_203_0, m2, bm_bI_some, bm_cond_bi, g3, cond_false, bs_finds X _ (by decide), bm_bI_some]
  cases g2 : bm_rg v 0 40
  · refine ⟨bm_lw 0, bm_tl 0 σ, bm_fo 0 (bm_tl 0 σ), ?_, ?_, hR.tell (by omega) (by decide)⟩
    · rw [bb_186_0, i2, bm_bI_some, bm_cond_bi, g3, cond_true, i1, bm_bI_some, bm_cond_bi, g2, cond_false, bs_tell X _ (by decide), bm_bI_some]
    · rw [bb_203_0, m2, bm_bI_some, bm_cond_bi, g3, cond_true, bs_m90, bm_bI_some, bm_cond_bi, g2, cond_false, bs_finds X _ (by decide), bm_bI_some]
  obtain ⟨n, hn, -, rfl⟩ := bm_rg_ex (n := 40) g2
  obtain ⟨x, hx, -, rfl⟩ := bm_rg_ex (n := 9999) g3
  have gj : ∀ j, j ≤ 99 → ab_G (ab_set a 0 4 j) := fun j hj => hG.set (show j ≤ 99 from hj)
  have s5 : ∀ j, ab_set a 0 4 j 0 5 = a 0 5 := fun j => ab_set_ni a _ (by decide)
  have hb : ∀ j, j ≤ 99 → ab_tm a n j < 2147483648 := fun j hj => ab_sum12 ((gj j hj).hs n)
  refine ab_two h1 h2 h3 h4 h5 (N := 99) (s := ab_gst (fun j => !decide (ab_tm a n j < x)) 100) ?_ ?_
  · rw [bb_186_0, i2, bm_bI_some, bm_cond_bi, g3, cond_true, i1, bm_bI_some, bm_cond_bi, g2, cond_true]
    have mu : ∀ (j : Nat) (s : bm_M), j ≤ 99 → ab_F 12 σ s → ∃ τ, bm_ev X 172 0 [.ref 0, .int (nI j), .int (nI n)] [] s = some (.int (nI (ab_tm a n j)), τ) ∧ ab_F 12 σ τ := by
      intro j s hj hF
      obtain ⟨t, τ, e1, e2, e3, e4, e5⟩ := hc_try X hH hF (c := 0) (i := 4) (v := j) (n := n) (gj j hj) (by omega) (by rw [s5]; omega) (by omega)
      refine ⟨τ, ?_, e5⟩
      have e3' : bm_ev X 153 0 [.ref 12, .int (nI n), .null] [] (bm_up t 12 4 (nI j)) = some (.null, τ) := e3
      rw [bb_172_0, e1, bm_bV_some, e3', bm_bV_some, hc_milk X (Or.inr (Or.inl rfl)) e4 ((gj j hj).hs n) (k := 0), bm_bI_some]
      rfl
    have ones : ∀ (q : Nat), q ≤ 90 → ¬ ab_tm a n q < x → ∀ (j : Nat), j ≤ 9 → ∀ (s : bm_M), ab_F 12 σ s → ∃ τ, bm_ev X 186 24 [.ref 0, .int (nI x), .int (nI n), .int (nI q), .int (nI j)] [] s = ab_rs 99 (ab_gst (fun j => !decide (ab_tm a n j < x)) (q + j + 1)) (bm_tl 3) τ ∧ ab_F 12 σ τ := by
      intro q hq hx0 j
      induction j with
      | zero =>
        intro _ s hF
        refine ⟨s, ?_, hF⟩
        rw [bb_186_24, bn_0lt (by omega), decide_eq_false (by omega), cond_false, bn_add, ab_gst, Nat.add_zero, decide_eq_false hx0]
        show _ = ab_rs 99 q (bm_tl 3) s
        unfold ab_rs
        rw [decide_eq_true (by omega), cond_true]
      | succ j ih =>
        intro hj s hF
        obtain ⟨t, e1, e2⟩ := mu (q + (j + 1)) s (by omega) hF
        have bj := hb (q + (j + 1)) (by omega)
        rw [bb_186_24, bn_0lt (by omega), decide_eq_true (by omega), cond_true, bn_add, e1, bm_bI_some, bn_lt bj (by omega), ab_gst]
        by_cases c : ab_tm a n (q + (j + 1)) < x
        · rw [decide_eq_true c, cond_true, bn_pred]
          exact ih (by omega) t e2
        · rw [decide_eq_false c, cond_false]
          refine ⟨t, ?_, e2⟩
          show _ = ab_rs 99 (q + (j + 1)) (bm_tl 3) t
          unfold ab_rs
          rw [decide_eq_true (by omega), cond_true]
    have main : ∀ (k : Nat), k ≤ 10 → ∀ (s : bm_M), ab_F 12 σ s → ∃ τ, bm_ev X 186 14 [.ref 0, .int (nI x), .int (nI n), .int (nI (10 * k) - nI 10), .null] [] s = ab_rs 99 (ab_gst (fun j => !decide (ab_tm a n j < x)) (10 * k)) (bm_tl 3) τ ∧ ab_F 12 σ τ := by
      intro k
      induction k with
      | zero =>
        intro _ s hF
        refine ⟨s, ?_, hF⟩
        rw [bb_186_14, decide_eq_true (by decide), cond_true, bs_tell X _ (by decide), bm_bI_some]
        rfl
      | succ k ih =>
        intro hk s hF
        obtain ⟨t, e1, e2⟩ := mu (10 * k) s (by omega) hF
        have bj := hb (10 * k) (by omega)
        rw [bn_sub (by omega), show 10 * (k + 1) - 10 = 10 * k by omega, bb_186_14, bn_lt0 (by omega), cond_false, e1, bm_bI_some, bn_lt bj (by omega)]
        by_cases c : ab_tm a n (10 * k) < x
        · rw [decide_eq_true c, cond_true]
          have := ab_gst_sk (fun j => !decide (ab_tm a n j < x)) (10 * k) 10 (fun i q1 q2 => by
            have := ab_tm_le hG n (i := 10 * k) (j := i) q1 (by omega) (by omega)
            show (!decide (ab_tm a n i < x)) = false
            rw [decide_eq_true (by omega)]
            rfl)
          rw [show 10 * (k + 1) = 10 * k + 10 by omega, this]
          exact ih (by omega) t e2
        · rw [decide_eq_false c, cond_false]
          exact ones (10 * k) (by omega) c 9 (Nat.le_refl _) t e2
    exact main 10 (Nat.le_refl _) σ ab_F.rf
  · intro τ s2
    rw [bb_203_0, m2, bm_bI_some, bm_cond_bi, g3, cond_true, bs_m90, bm_bI_some, bm_cond_bi, g2, cond_true]
    have main : ∀ (i m : Nat) (s : bm_M), m + i = 100 → ab_S 46 s a → ∃ ρ, bm_ev X 203 17 [.ref 45, .int (nI x), .int (nI n), .int (bif decide (ab_gst (fun j => !decide (ab_tm a n j < x)) m ≤ 99) then nI (ab_gst (fun j => !decide (ab_tm a n j < x)) m) else -nI 1), .int (nI m)] [] s = ab_rs 99 (ab_gst (fun j => !decide (ab_tm a n j < x)) 100) (bm_fo 3) ρ ∧ ab_S 46 ρ a ∧ ab_K ab_JL s ρ := by
      intro i
      induction i with
      | zero =>
        intro m s e hS
        have e2 : m = 100 := by omega
        subst e2
        refine ⟨s, ?_, hS, ab_K.rf⟩
        rw [bb_203_17, bn_lt (by decide) (by decide), decide_eq_true (by decide), cond_true]
        unfold ab_rs
        by_cases c : ab_gst (fun j => !decide (ab_tm a n j < x)) 100 ≤ 99
        · rw [decide_eq_true c, cond_true, bn_lt0 (by omega), cond_false, cond_true]
        · rw [decide_eq_false c, cond_false, decide_eq_true (by decide), cond_true, bs_finds X _ (by decide), bm_bI_some, cond_false]
      | succ i ih =>
        intro m s e hS
        obtain ⟨t, l1, l2, l3, l4⟩ := hm_lends X hS
        have u3 : ab_S 46 (bm_up t 46 4 (nI m)) (ab_set a 0 4 m) := l3.up (c := 0) (i := 4) m rfl
        have u4 : ab_S 48 (bm_up t 46 4 (nI m)) a := l2.ne _ _ (by decide)
        obtain ⟨ρ', q1, q2, q3, q4⟩ := hm_pailsIn X u3 u4 (gj m (by omega)) (n := n) (by omega) (by rw [s5]; omega)
        obtain ⟨ρ, r1, r2, r3⟩ := ih (m + 1) ρ' (by omega) q2
        refine ⟨ρ, ?_, r2, ((ab_48.L l4).up _ (Or.inl rfl)).tr (q4.tr r3)⟩
        have bm := hb m (by omega)
        rw [bb_203_17, bn_lt (by decide) (by omega), decide_eq_false (by omega), cond_false, l1, bm_bV_some, bn_inT (by decide) (by decide), bm_gd_t, bn_clamp (by decide), q1, bm_bI_some, bn_lt (show ab_sum (ab_hs (ab_set a 0 4 m) n 2) 12 < 2147483648 from bm) (by omega), bb_203_35, bb_203_35, bn_add, ← r1]
        have eg : ab_gst (fun j => !decide (ab_tm a n j < x)) (m + 1) = bif decide (ab_tm a n m < x) then ab_gst (fun j => !decide (ab_tm a n j < x)) m else m := by
          rw [ab_gst]
          cases decide (ab_tm a n m < x) <;> rfl
        have es : decide (ab_sum (ab_hs (ab_set a 0 4 m) n 2) 12 < x) = decide (ab_tm a n m < x) := rfl
        rw [eg, es]
        by_cases c : ab_tm a n m < x
        · rw [decide_eq_true c, cond_true, cond_true]
        · rw [decide_eq_false c, cond_false, cond_false, decide_eq_true (by omega), cond_true]
    obtain ⟨ρ, q1, q2, q3⟩ := main 100 0 τ (by omega) s2
    exact ⟨ρ, q1, q2, q3.LM⟩
