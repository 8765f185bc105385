theorem bn_swap (x y p q : Int32) : (x - y) + (p - q) = (x + p) - (y + q) := by
  rw [Int32.sub_eq_add_neg, Int32.sub_eq_add_neg, Int32.sub_eq_add_neg, Int32.neg_add, Int32.sub_eq_add_neg]
  ac_rfl
theorem bn_km1 : ∀ k, k < 8 → ¬ nI k = -nI 1 := by decide
theorem bn_shl1 : ∀ c, c ≤ 8 → bm_shl (nI 1) (nI c) = nI (2 ^ c) := by decide
theorem ab_on8 : ∀ m, m < 256 → ab_on m 12 ≤ 8 := by decide +kernel
theorem bn_btI {m j : Nat} (hm : m < 256) (hj : j < 12) : decide ((bm_shr (nI m) (nI j) &&& nI 1) = nI 1) = ab_bt m j := by
  rw [bn_bit m hm j hj, bn_eq (by omega) (by decide)]
  rfl
theorem ab_bt_ge {m c j : Nat} (hm : m < 2 ^ c) (hj : c ≤ j) : ab_bt m j = false := by
  unfold ab_bt
  have h1 : 2 ^ c ≤ 2 ^ j := Nat.pow_le_pow_right (by decide) hj
  rw [Nat.div_eq_of_lt (by omega)]
  rfl
theorem ab_2c {c : Nat} (h : c ≤ 8) : 2 ^ c ≤ 256 := Nat.pow_le_pow_right (n := 2) (by decide) h
theorem hc_savedBy (X : bm_X) {σ : bm_M} {c m al : Nat} {f : Nat → Nat} (hc : c ≤ 8) (hm : m < 2 ^ c) (h44 : ∀ k, k < c → σ 44 k = nI al - nI (f k)) : bm_ev X 30 0 [.ref 0, .int (nI m), .null, .null] [] σ = some (.int (nI (ab_sa m al 8) - nI (ab_sb f m 8)), σ) := by
  have h2 := ab_2c hc
  have main : ∀ i j, j + i = 8 → bm_ev X 30 4 [.ref 0, .int (nI m), .int (nI (ab_sa m al j) - nI (ab_sb f m j)), .int (nI j)] [] σ = some (.int (nI (ab_sa m al 8) - nI (ab_sb f m 8)), σ) := by
    intro i
    induction i with
    | zero =>
      intro j e
      have e2 : j = 8 := by omega
      subst e2
      rw [bb_30_4, bn_lt (by decide) (by decide), decide_eq_false (by decide), cond_false]
    | succ i ih =>
      intro j e
      rw [bb_30_4, bn_lt (by omega) (by decide), decide_eq_true (by omega), cond_true, bn_btI (by omega) (by omega), bn_inT (by omega) (by decide), bm_gd_t, bn_clamp (by omega), bn_add]
      have n1 := ih (j + 1) (by omega)
      rw [ab_sa, ab_sb] at n1
      cases hb : ab_bt m j
      · rw [hb, cond_false, cond_false] at n1
        exact n1
      · have hj : j < c := by
          apply Nat.lt_of_not_le
          intro q
          rw [ab_bt_ge hm q] at hb
          cases hb
        rw [hb, cond_true, cond_true] at n1
        rw [cond_true, h44 j hj, bn_swap, bn_add, bn_add]
        exact n1
  have z : bm_ev X 30 4 [.ref 0, .int (nI m), .int (nI 0 - nI 0), .int (nI 0)] [] σ = some (.int (nI (ab_sa m al 8) - nI (ab_sb f m 8)), σ) := main 8 0 (by omega)
  rw [show nI 0 - nI 0 = nI 0 by decide] at z
  rw [bb_30_0]
  exact z
theorem ab_mtest {a : ab_T} (hG : ab_G a) {t n m v : Nat} (ht : t < 12) (hn : n ≤ 18) (hv : v ≤ 9999) (hm : m < 2 ^ a 0 7) : decide (nI (ab_sa m (ab_al a t n) 8) - nI (ab_sb (ab_alk a t n) m 8) < nI (a 2 t + ab_al a t n) - nI v) = decide (v < ab_hs (ab_ms a m (a 0 7)) n 2 t) := by
  have hc := hG.2.2.1
  have hp := hG.2.2.2.2.1 t ht
  have l0 := ab_al_lt hG t hn
  have lk : ∀ k, ab_alk a t n k ≤ 90048 := fun k => ab_al_lt (hG.set (c := 10) (show 1 ≤ 1 by omega)) t hn
  have la : ab_sa m (ab_al a t n) 8 ≤ 90048 * 8 := Nat.le_trans (ab_sa_le m _ 8) (Nat.mul_le_mul_right 8 l0)
  have lb : ab_sb (ab_alk a t n) m 8 ≤ 90048 * 8 := ab_sb_le m 8 (fun k _ => lk k)
  have ga := ab_sa_ge m (ab_al a t n) hm (8 - a 0 7)
  have gb := ab_sb_ge (ab_alk a t n) m hm (8 - a 0 7)
  rw [show a 0 7 + (8 - a 0 7) = 8 by omega] at ga gb
  have sv := ab_save a t n m
  rw [← ga, ← gb] at sv
  have e7 : ab_ms a m (a 0 7) 0 7 = a 0 7 := ab_ms_ne a m 0 7 (by decide) _
  have e2 : ab_ms a m (a 0 7) 2 t = a 2 t := ab_ms_ne a m 2 t (by decide) _
  have hs : ab_hs (ab_ms a m (a 0 7)) n 2 t = min 99999 (a 2 t + ab_al (ab_ms a m (a 0 7)) t n) := by
    rw [ab_hs_2 (hG.ms m _) ht, e2]
    rfl
  rw [bm_lt_toInt, bn_sub_toInt (by omega) (by omega), bn_sub_toInt (by omega) (by omega), hs]
  refine decide_eq_decide.mpr ?_
  omega
/-- the fewest so far; 256 where there is none -/
def ab_bcn (b : Nat) : Nat := if b = 256 then 9 else ab_on b 12
def ab_bmk (ok : Nat → Bool) : Nat → Nat
  | 0 => 256
  | m + 1 => bif decide (ab_on m 12 < ab_bcn (ab_bmk ok m)) then (bif ok m then m else ab_bmk ok m) else ab_bmk ok m
def ab_bx (b : Nat) : Int32 := if b = 256 then -nI 1 else nI b
theorem ab_bmk_lt (ok : Nat → Bool) : ∀ m, m ≤ 256 → ab_bmk ok m = 256 ∨ ab_bmk ok m < m
  | 0, _ => Or.inl rfl
  | m + 1, h => by
    have := ab_bmk_lt ok m (by omega)
    rw [ab_bmk]
    cases decide (ab_on m 12 < ab_bcn (ab_bmk ok m)) <;> cases ok m <;> simp only [cond_true, cond_false] <;> omega
theorem ab_bcn_lt {ok : Nat → Bool} {m : Nat} (h : m ≤ 256) : ab_bcn (ab_bmk ok m) ≤ 9 := by
  unfold ab_bcn
  split
  · exact Nat.le_refl _
  · rcases ab_bmk_lt ok m h with q | q
    · contradiction
    · have := ab_on8 (ab_bmk ok m) (by omega)
      omega
theorem ab_bx_m {m : Nat} (h : m < 256) : ab_bx m = nI m := if_neg (by omega)
theorem ab_bcn_m {m : Nat} (h : m < 256) : ab_bcn m = ab_on m 12 := if_neg (by omega)
theorem hc_fewest (X : bm_X) {σ : bm_M} {c : Nat} (hc : c ≤ 8) (e7 : σ 1 7 = nI c) (ok : Nat → Bool) (x1 : Int32) (v4 : Nat → Int32) (h30 : ∀ m, m < 2 ^ c → bm_ev X 30 0 [.ref 0, .int (nI m), .null, .null] [] σ = some (.int (v4 m), σ)) (ht : ∀ m, m < 2 ^ c → decide (v4 m < x1) = !ok m) : ∀ (i m : Nat) (u : Value), m + i = 2 ^ c → bm_ev X 69 6 [.ref 0, .int x1, .int (ab_bx (ab_bmk ok m)), .int (nI (ab_bcn (ab_bmk ok m))), .int (nI m), u] [] σ = some (.int (ab_bx (ab_bmk ok (2 ^ c))), σ)
  | 0, m, u, e => by
    have h2 := ab_2c hc
    have e2 : m = 2 ^ c := by omega
    rw [bb_69_6, e7, bn_shl1 c hc, bn_lt (by omega) (by omega), decide_eq_false (by omega), cond_false, e2]
  | i + 1, m, u, e => by
    have h2 := ab_2c hc
    have hm : m < 2 ^ c := by omega
    have b9 := ab_bcn_lt (ok := ok) (m := m) (by omega)
    have b8 := ab_on8 m (by omega)
    have ih := fun u => hc_fewest X hc e7 ok x1 v4 h30 ht i (m + 1) u (by omega)
    rw [bb_69_6, e7, bn_shl1 c hc, bn_lt (by omega) (by omega), decide_eq_true hm, cond_true, hc_bits X σ (by omega), bm_bI_some, bn_lt (by omega) (by omega), h30 m hm, bm_bI_some, ht m hm, bn_add]
    have un : ab_bmk ok (m + 1) = bif decide (ab_on m 12 < ab_bcn (ab_bmk ok m)) then (bif ok m then m else ab_bmk ok m) else ab_bmk ok m := rfl
    rw [un] at ih
    cases hq : decide (ab_on m 12 < ab_bcn (ab_bmk ok m))
    · rw [hq] at ih
      exact ih _
    · rw [hq] at ih
      rw [cond_true]
      cases hk : ok m
      · rw [hk] at ih
        exact ih _
      · rw [hk, cond_true, cond_true, ab_bx_m (by omega), ab_bcn_m (by omega)] at ih
        exact ih _
/-- a trial where the pail was empty -/
theorem hc_gained (X : bm_X) {ρ : bm_M} {a : ab_T} (hH : ab_H 1 ρ a) (hG : ab_G a) {t n : Nat} (ht : t < 12) (hn : n ≤ 18) (hh : a 0 5 + n ≤ 99999) : ∃ τ, bm_ev X 173 0 [.ref 0, .int (-nI 1), .int (nI t), .int (nI n)] [] ρ = some (.int (nI (ab_al a t n)), τ) ∧ ab_F 12 ρ τ := by
  obtain ⟨t0, q1, q2, q3⟩ := hc_begin X hH
  have g : ab_G (ab_set a 2 t 0) := hG.set (show 0 ≤ 99999 by omega)
  have u1 : ab_H 12 (bm_up t0 14 t (nI 0)) (ab_set a 2 t 0) := q2.up 2 t 0
  obtain ⟨τ, r1, r2, r3⟩ := hc_pass X (Or.inr (Or.inl rfl)) u1 g (m := n) (by omega) (by rw [ab_set_nc _ _ (by decide)]; omega)
  have e14 : τ 14 t = nI (ab_hs (ab_set a 2 t 0) n 2 t) := r2 2 t (ab_w2 ht)
  rw [ab_hs_z hG ht hn] at e14
  refine ⟨τ, ?_, fun q hq => ?_⟩
  · rw [bb_173_0, q1, bm_bV_some, bn_inT ht (by decide), bm_gd_t, decide_eq_true rfl, cond_true, bb_173_17, bn_clamp (by omega), r1, bm_bV_some, bn_inT ht (by decide), bm_gd_t, e14]
  · rw [r3 q hq, bm_up_ne _ _ _ (by omega), q3 q hq]
theorem ab_set_cm (a : ab_T) {c i v c' i' v' : Nat} (h : c ≠ c') : ab_set (ab_set a c i v) c' i' v' = ab_set (ab_set a c' i' v') c i v := by
  funext x y
  unfold ab_set
  by_cases e1 : x = c' ∧ y = i'
  · rw [if_pos e1, if_neg (by omega), if_pos e1]
  · rw [if_neg e1]
    by_cases e2 : x = c ∧ y = i
    · rw [if_pos e2, if_pos e2]
    · rw [if_neg e2, if_neg e2, if_neg e1]
theorem hc_gained1 (X : bm_X) {ρ : bm_M} {a : ab_T} (hH : ab_H 1 ρ a) (hG : ab_G a) {t n k : Nat} (hk : k < 8) (ht : t < 12) (hn : n ≤ 18) (hh : a 0 5 + n ≤ 99999) : ∃ τ, bm_ev X 173 0 [.ref 0, .int (nI k), .int (nI t), .int (nI n)] [] ρ = some (.int (nI (ab_alk a t n k)), τ) ∧ ab_F 12 ρ τ := by
  obtain ⟨t0, q1, q2, q3⟩ := hc_begin X hH
  have g1 : ab_G (ab_set a 10 k 1) := hG.set (c := 10) (show 1 ≤ 1 by omega)
  have g : ab_G (ab_set (ab_set a 2 t 0) 10 k 1) := (hG.set (c := 2) (show 0 ≤ 99999 by omega)).set (c := 10) (show 1 ≤ 1 by omega)
  have u1 : ab_H 12 (bm_up (bm_up t0 14 t (nI 0)) 22 k (nI 1)) (ab_set (ab_set a 2 t 0) 10 k 1) := (q2.up 2 t 0).up 10 k 1
  obtain ⟨τ, r1, r2, r3⟩ := hc_pass X (Or.inr (Or.inl rfl)) u1 g (m := n) (by omega) (by rw [ab_set_nc _ _ (by decide), ab_set_nc _ _ (by decide)]; omega)
  have e14 : τ 14 t = nI (ab_hs (ab_set (ab_set a 2 t 0) 10 k 1) n 2 t) := r2 2 t (ab_w2 ht)
  rw [ab_set_cm a (by decide), ab_hs_z g1 ht hn] at e14
  refine ⟨τ, ?_, fun q hq => ?_⟩
  · rw [bb_173_0, q1, bm_bV_some, bn_inT ht (by decide), bm_gd_t, decide_eq_false (bn_km1 k hk), cond_false, bn_inT hk (by decide), bm_gd_t, bb_173_17, bn_clamp (show t < 2147483648 by omega), bn_clamp (show k < 2147483648 by omega), r1, bm_bV_some, bn_inT ht (by decide), bm_gd_t, e14]
    rfl
  · rw [r3 q hq, bm_up_ne _ _ _ (by omega), bm_up_ne _ _ _ (by omega), q3 q hq]
theorem ab_twoJ {X : bm_X} {T : Nat} {σ : bm_M} {a ka : ab_T} {kp : Bool} {tl : Nat} (h1 : ab_CH a T σ) (h2 : ab_CK ka kp T σ) (h3 : ab_CT tl σ) (h4 : ab_CS σ) (h5 : ab_CF σ) {N s c m : Nat} {Lc Lm : List Value} (hc : ∃ τ, bm_ev X c 0 Lc [] σ = ab_rs N s (bm_tl 3) τ ∧ ab_K ab_J σ τ) (hm : ∀ τ, ab_S 46 τ a → ∃ ρ, bm_ev X m 0 Lm [] τ = ab_rs N s (bm_fo 3) ρ ∧ ab_S 46 ρ a ∧ ab_K ab_JM τ ρ) : ∃ (x : Int32) (τ τ' : bm_M), bm_ev X c 0 Lc [] σ = some (.int x, τ) ∧ bm_ev X m 0 Lm [] τ = some (.int x, τ') ∧ ab_R (T + 60) τ' := by
  obtain ⟨hH, hS, hG, hP, hh⟩ := id h1
  obtain ⟨τ, r1, r2⟩ := hc
  have s2 : ab_S 46 τ a := hS.K r2 (fun i z => by unfold ab_J at z; omega)
  unfold ab_rs at r1
  by_cases e : s ≤ N
  · obtain ⟨ρ, m1, m2, m3⟩ := hm τ s2
    unfold ab_rs at m1
    rw [decide_eq_true e, cond_true] at r1 m1
    exact ⟨_, τ, ρ, r1, m1, ab_fin0 h1 h2 h3 h4 h5 (by omega) r2 m3 m2⟩
  · obtain ⟨ρ, m1, m2, m3⟩ := hm (bm_tl 3 τ) (s2.ne _ _ (by decide))
    unfold ab_rs at m1
    rw [decide_eq_false e, cond_false] at r1 m1
    exact ⟨_, bm_tl 3 τ, bm_fo 3 ρ, r1, m1, ab_finK h1 h2 h3 h4 h5 (by omega) (by decide) r2 m3 m2⟩
theorem ab_set_id (a : ab_T) (c i : Nat) : ab_set a c i (a c i) = a := by
  funext x y
  unfold ab_set
  split
  · rename_i h
    rw [h.1, h.2]
  · rfl
theorem hm_mset (X : bm_X) {a : ab_T} (hG : ab_G a) {m : Nat} (hm : m < 256) (x1 x2 x3 x4 : Int32) : ∀ (i j : Nat) (s : bm_M), j + i = a 0 7 → ab_S 46 s (ab_ms a m j) → ∃ τ, bm_ev X 204 42 [.ref 45, .int x1, .int x2, .int x3, .int x4, .int (nI m), .int (nI j)] [] s = bm_ev X 204 42 [.ref 45, .int x1, .int x2, .int x3, .int x4, .int (nI m), .int (nI (a 0 7))] [] τ ∧ ab_S 46 τ (ab_ms a m (a 0 7)) ∧ ∀ q, q ≠ 46 → τ q = s q
  | 0, j, s, e, hS => by
    have e2 : j = a 0 7 := by omega
    subst e2
    exact ⟨s, rfl, hS, fun _ _ => rfl⟩
  | i + 1, j, s, e, hS => by
    have hc := hG.2.2.1
    have gj := hG.ms m j
    have e7 : s 46 2 = nI (a 0 7) := by
      have := hS 0 7 rfl
      rw [ab_ms_ne a m 0 7 (by decide)] at this
      exact this
    have hd : bm_ev X 204 42 [.ref 45, .int x1, .int x2, .int x3, .int x4, .int (nI m), .int (nI j)] [] s = bif ab_bt m j then bm_bV (bm_ev X 35 0 [.ref 45, .int (nI j), .int (nI 6), .int (nI 1)] [] s) (fun t1 => bm_ev X 204 42 [.ref 45, .int x1, .int x2, .int x3, .int x4, .int (nI m), .int (nI (j + 1))] [] t1) else bm_bV (bm_ev X 35 0 [.ref 45, .int (nI j), .int (nI 6), .int (nI (ab_ms a m j 10 j))] [] s) (fun t1 => bm_ev X 204 42 [.ref 45, .int x1, .int x2, .int x3, .int x4, .int (nI m), .int (nI (j + 1))] [] t1) := by
      rw [bb_204_42, bn_inT (by decide) (by decide), bm_gd_t, bn_clamp (by decide), e7, bn_lt (by omega) (by omega), decide_eq_true (by omega), cond_true, bn_btI hm (by omega), hm_it6 X hS gj (by omega), bm_bI_some, bb_204_64, bb_204_64, bn_add]
    rw [hd]
    cases hb : ab_bt m j
    · obtain ⟨t1, m1, m2, m3⟩ := hm_setsw X hS (k := j) (w := 6) (ab_ms a m j 10 j) (by decide) (by omega)
      rw [show ab_set (ab_ms a m j) (6 + 4) j (ab_ms a m j 10 j) = ab_ms a m j from ab_set_id _ 10 j] at m2
      have u : ab_ms a m (j + 1) = ab_ms a m j := by rw [ab_ms, hb, cond_false]
      rw [← u] at m2
      obtain ⟨τ, f1, f2, f3⟩ := hm_mset X hG hm x1 x2 x3 x4 i (j + 1) t1 (by omega) m2
      exact ⟨τ, by rw [cond_false, m1, bm_bV_some, f1], f2, fun q hq => (f3 q hq).trans (m3 q hq)⟩
    · obtain ⟨t1, m1, m2, m3⟩ := hm_setsw X hS (k := j) (w := 6) 1 (by decide) (by omega)
      have u : ab_ms a m (j + 1) = ab_set (ab_ms a m j) (6 + 4) j 1 := by rw [ab_ms, hb, cond_true]
      rw [← u] at m2
      obtain ⟨τ, f1, f2, f3⟩ := hm_mset X hG hm x1 x2 x3 x4 i (j + 1) t1 (by omega) m2
      exact ⟨τ, by rw [cond_true, m1, bm_bV_some, f1], f2, fun q hq => (f3 q hq).trans (m3 q hq)⟩
theorem bn_km2 : ∀ k, k < 256 → ¬ nI k = -nI 1 := by decide +kernel
theorem ab_bx_neg {b : Nat} (h : b ≤ 256) : decide (ab_bx b < 0) = decide (b = 256) := by
  unfold ab_bx
  by_cases e : b = 256
  · rw [if_pos e, decide_eq_true e]; rfl
  · rw [if_neg e, decide_eq_false e, bn_lt0 (by omega)]
theorem op_muffle (X : bm_X) (p w v : Int32) : ab_op X 187 204 [.ref 0, .int p, .int w, .int v, .null, .null] [.ref 45, .int p, .int w, .int v, .null, .null, .null] := by
  intro T σ hR hT
  obtain ⟨a, ka, kp, tl, h1, h2, h3, h4, h5⟩ := id hR
  obtain ⟨hH, hS, hG, hP, hh⟩ := id h1
  have hc := hG.2.2.1
  have h256 := ab_2c hc
  have i1 : ∀ (x : Int32) (σ : bm_M), bm_ev X 24 0 [.int x, .int (nI 18)] [] σ = some (.int (bm_bi (bm_rg x 0 18)), σ) := fun x σ => bs_upN X σ x (by decide)
  have i2 : ∀ (x : Int32) (σ : bm_M), bm_ev X 24 0 [.int x, .int (nI 9999)] [] σ = some (.int (bm_bi (bm_rg x 0 9999)), σ) := fun x σ => bs_upN X σ x (by decide)
  have m1 : ∀ (x : Int32) (σ : bm_M), bm_ev X 32 0 [.long x.toInt64, .null, .long (lN 0), .null, .long (lN 18), .null] [] σ = some (.int (bm_bi (bm_rg x 0 18)), σ) := fun x σ => bs_inI X σ x (by decide) (by decide)
  have m2 : ∀ (x : Int32) (σ : bm_M), bm_ev X 32 0 [.long x.toInt64, .null, .long (lN 0), .null, .long (lN 9999), .null] [] σ = some (.int (bm_bi (bm_rg x 0 9999)), σ) := fun x σ => bs_inI X σ x (by decide) (by decide)
  cases g1 : bm_rg p 0 11
  · refine ⟨bm_lw 0, bm_tl 0 σ, bm_fo 0 (bm_tl 0 σ), ?_, ?_, hR.tell (by omega) (by decide)⟩
    · rw [bb_187_0, bs_c66, bm_bI_some, bm_cond_bi, g1, cond_false, bs_tell X _ (by decide), bm_bI_some]
    · rw [bb_204_0, bs_m73, bm_bI_some, bm_cond_bi, g1, cond_false, bs_finds X _ (by decide), bm_bI_some]
  cases g3 : bm_rg w 0 9999
  · refine ⟨bm_lw 0, bm_tl 0 σ, bm_fo 0 (bm_tl 0 σ), ?_, ?_, hR.tell (by omega) (by decide)⟩
    · rw [bb_187_0, bs_c66, bm_bI_some, bm_cond_bi, g1, cond_true, i2, bm_bI_some, bm_cond_bi, g3, cond_false, bs_tell X _ (by decide), bm_bI_some]
    · rw [bb_204_0, bs_m73, bm_bI_some, bm_cond_bi, g1, cond_true, m2, bm_bI_some, bm_cond_bi, g3, cond_false, bs_finds X _ (by decide), bm_bI_some]
  cases g2 : bm_rg v 0 18
  · refine ⟨bm_lw 0, bm_tl 0 σ, bm_fo 0 (bm_tl 0 σ), ?_, ?_, hR.tell (by omega) (by decide)⟩
    · rw [bb_187_0, bs_c66, bm_bI_some, bm_cond_bi, g1, cond_true, i2, bm_bI_some, bm_cond_bi, g3, cond_true, i1, bm_bI_some, bm_cond_bi, g2, cond_false, bs_tell X _ (by decide), bm_bI_some]
    · rw [bb_204_0, bs_m73, bm_bI_some, bm_cond_bi, g1, cond_true, m2, bm_bI_some, bm_cond_bi, g3, cond_true, m1, bm_bI_some, bm_cond_bi, g2, cond_false, bs_finds X _ (by decide), bm_bI_some]
  obtain ⟨t, ht, -, rfl⟩ := bm_rg_ex (n := 11) g1
  obtain ⟨x, hx, -, rfl⟩ := bm_rg_ex (n := 9999) g3
  obtain ⟨n, hn, -, rfl⟩ := bm_rg_ex (n := 18) g2
  refine ab_twoJ h1 h2 h3 h4 h5 (N := 255) (s := ab_bmk (fun m => !decide (x < ab_hs (ab_ms a m (a 0 7)) n 2 t)) (2 ^ a 0 7)) ?_ ?_
  · obtain ⟨τ1, e1, e2⟩ := hc_gained X hH hG (t := t) (n := n) (by omega) (by omega) (by omega)
    rw [bb_187_0, bs_c66, bm_bI_some, bm_cond_bi, g1, cond_true, i2, bm_bI_some, bm_cond_bi, g3, cond_true, i1, bm_bI_some, bm_cond_bi, g2, cond_true, e1, bm_bI_some]
    have main : ∀ (i j : Nat) (ρ : bm_M), j + i = a 0 7 → ab_K ab_J σ ρ → (∀ k, k < j → ρ 44 k = nI (ab_al a t n) - nI (ab_alk a t n k)) → ∃ τ, bm_ev X 187 23 [.ref 0, .int (nI t), .int (nI x), .int (nI n), .int (nI (ab_al a t n)), .int (nI j)] [] ρ = ab_rs 255 (ab_bmk (fun m => !decide (x < ab_hs (ab_ms a m (a 0 7)) n 2 t)) (2 ^ a 0 7)) (bm_tl 3) τ ∧ ab_K ab_J σ τ := by
      intro i
      induction i with
      | zero =>
        intro j ρ e hK h44
        have e2 : j = a 0 7 := by omega
        subst e2
        have hH' : ab_H 1 ρ a := (h1.K (Nat.le_refl T) hK).1
        have e7 : ρ 1 7 = nI (a 0 7) := hH' 0 7 rfl
        have e3 : ρ 3 t = nI (a 2 t) := hH' 2 t (ab_w2 (by omega))
        have fw := hc_fewest X hc e7 (fun m => !decide (x < ab_hs (ab_ms a m (a 0 7)) n 2 t)) (nI (a 2 t + ab_al a t n) - nI x) (fun m => nI (ab_sa m (ab_al a t n) 8) - nI (ab_sb (ab_alk a t n) m 8)) (fun m hm => hc_savedBy X hc hm h44) (fun m hm => by
          rw [Bool.not_not]
          exact ab_mtest hG (by omega) hn hx hm) (2 ^ a 0 7) 0 .null (by omega)
        have fw : bm_ev X 69 6 [.ref 0, .int (nI (a 2 t + ab_al a t n) - nI x), .int (-nI 1), .int (nI 9), .int (nI 0), .null] [] ρ = _ := fw
        refine ⟨ρ, ?_, hK⟩
        rw [bb_187_23, e7, bn_lt (by omega) (by omega), decide_eq_false (by omega), cond_false, bn_inT (by omega) (by decide), bm_gd_t, bn_clamp (by omega), e3, bn_add, bb_69_0, fw, bm_bI_some]
        unfold ab_rs
        rcases ab_bmk_lt (fun m => !decide (x < ab_hs (ab_ms a m (a 0 7)) n 2 t)) (2 ^ a 0 7) h256 with q | q
        · rw [q]
          rw [show ab_bx 256 = -nI 1 from rfl, decide_eq_true rfl, cond_true, bs_tell X _ (by decide), bm_bI_some, decide_eq_false (by decide), cond_false]
        · rw [ab_bx_m (by omega), decide_eq_false (bn_km2 _ (by omega)), cond_false, decide_eq_true (by omega), cond_true]
      | succ i ih =>
        intro j ρ e hK h44
        have hH' : ab_H 1 ρ a := (h1.K (Nat.le_refl T) hK).1
        have e7 : ρ 1 7 = nI (a 0 7) := hH' 0 7 rfl
        obtain ⟨s, q1, q2⟩ := hc_gained1 X hH' hG (t := t) (n := n) (k := j) (by omega) (by omega) (by omega) (by omega)
        obtain ⟨τ, r1, r2⟩ := ih (j + 1) (bm_up s 44 j (nI (ab_al a t n) - nI (ab_alk a t n j))) (by omega) ((hK.tr q2.J).up _ (by unfold ab_J; omega)) (fun k hk => by
          by_cases e : k = j
          · subst e
            rw [bm_up_at]
          · rw [bm_up_ni _ _ e, q2 44 (by decide)]
            exact h44 k (by omega))
        refine ⟨τ, ?_, r2⟩
        rw [bb_187_23, e7, bn_lt (by omega) (by omega), decide_eq_true (by omega), cond_true, q1, bm_bI_some, bn_inT (by omega) (by decide), bm_gd_t, bn_clamp (by omega), bn_add, r1]
    exact main (a 0 7) 0 τ1 (by omega) e2.J (fun k hk => by omega)
  · intro τ s2
    rw [bb_204_0, bs_m73, bm_bI_some, bm_cond_bi, g1, cond_true, m2, bm_bI_some, bm_cond_bi, g3, cond_true, m1, bm_bI_some, bm_cond_bi, g2, cond_true]
    have main : ∀ (i m : Nat) (s : bm_M) (u : Value), m + i = 2 ^ a 0 7 → ab_S 46 s a → ∃ ρ, bm_ev X 204 23 [.ref 45, .int (nI t), .int (nI x), .int (nI n), .int (ab_bx (ab_bmk (fun m => !decide (x < ab_hs (ab_ms a m (a 0 7)) n 2 t)) m)), .int (nI m), u] [] s = ab_rs 255 (ab_bmk (fun m => !decide (x < ab_hs (ab_ms a m (a 0 7)) n 2 t)) (2 ^ a 0 7)) (bm_fo 3) ρ ∧ ab_S 46 ρ a ∧ ab_K ab_JL s ρ := by
      intro i
      induction i with
      | zero =>
        intro m s u e hS
        have e2 : m = 2 ^ a 0 7 := by omega
        subst e2
        have e7 : s 46 2 = nI (a 0 7) := hS 0 7 rfl
        refine ⟨s, ?_, hS, ab_K.rf⟩
        rw [bb_204_23, bn_inT (by decide) (by decide), bm_gd_t, bn_clamp (by decide), e7, bn_shl1 _ hc, bn_lt (by omega) (by omega), decide_eq_false (by omega), cond_false]
        unfold ab_rs
        rcases ab_bmk_lt (fun m => !decide (x < ab_hs (ab_ms a m (a 0 7)) n 2 t)) (2 ^ a 0 7) h256 with q | q
        · rw [q]
          rw [ab_bx_neg (by omega), decide_eq_true rfl, cond_true, bs_finds X _ (by decide), bm_bI_some, decide_eq_false (by decide), cond_false]
        · rw [ab_bx_neg (by omega), decide_eq_false (by omega), cond_false, ab_bx_m (by omega), decide_eq_true (by omega), cond_true]
      | succ i ih =>
        intro m s u e hS
        have hm : m < 256 := by omega
        have e7 : s 46 2 = nI (a 0 7) := hS 0 7 rfl
        generalize hB : ab_bmk (fun m => !decide (x < ab_hs (ab_ms a m (a 0 7)) n 2 t)) m = B at *
        have hB2 : B = 256 ∨ B < m := by
          rw [← hB]
          exact ab_bmk_lt _ m (by omega)
        have un : ab_bmk (fun m => !decide (x < ab_hs (ab_ms a m (a 0 7)) n 2 t)) (m + 1) = bif decide (ab_on m 12 < ab_bcn B) then (bif !decide (x < ab_hs (ab_ms a m (a 0 7)) n 2 t) then m else B) else B := by
          rw [← hB]
          rfl
        have c38 : decide (ab_on m 12 < ab_bcn B) = true → ∃ ρ, bm_ev X 204 38 [.ref 45, .int (nI t), .int (nI x), .int (nI n), .int (ab_bx B), .int (nI m), u] [] s = ab_rs 255 (ab_bmk (fun m => !decide (x < ab_hs (ab_ms a m (a 0 7)) n 2 t)) (2 ^ a 0 7)) (bm_fo 3) ρ ∧ ab_S 46 ρ a ∧ ab_K ab_JL s ρ := by
          intro hq
          obtain ⟨t0, l1, l2, l3, l4⟩ := hm_lends X hS
          obtain ⟨t1, f1, f2, f3⟩ := hm_mset X hG hm (nI t) (nI x) (nI n) (ab_bx B) (a 0 7) 0 t0 (by omega) l3
          have gm := hG.ms m (a 0 7)
          have t7 : t1 46 2 = nI (a 0 7) := by
            have := f2 0 7 rfl
            rw [ab_ms_ne a m 0 7 (by decide)] at this
            exact this
          obtain ⟨t2, k1, k2, k3, k4⟩ := hm_seen X f2 (l2.fr (f3 48 (by decide))) gm (n := n) (c := 2) (i := t) (by omega) (by rw [ab_ms_ne a m 0 5 (by decide)]; omega) (ab_w2 (by omega))
          have k1 : bm_ev X 191 0 [.ref 45, .int (nI (17 + t)), .int (nI n), .null] [] t1 = some (.int (nI (ab_hs (ab_ms a m (a 0 7)) n 2 t)), t2) := k1
          obtain ⟨ρ, r1, r2, r3⟩ := ih (m + 1) t2 (.int (nI (a 0 7))) (by omega) k2
          refine ⟨ρ, ?_, r2, ((ab_48.L l4).tr (ab_N.L f3)).tr (k4.tr r3)⟩
          have bp := (gm.hs n).2.2.2.2.1 t (by omega)
          rw [bb_204_38, l1, bm_bV_some, f1, bb_204_42, bn_inT (by decide) (by decide), bm_gd_t, bn_clamp (by decide), t7, bn_lt (by omega) (by omega), decide_eq_false (by omega), cond_false, bn_add, k1, bm_bI_some, bn_lt (by omega) (by omega), bb_204_78, bb_204_78, bn_add, ← r1, un, hq, cond_true]
          cases decide (x < ab_hs (ab_ms a m (a 0 7)) n 2 t)
          · show _ = bm_ev X 204 23 [.ref 45, .int (nI t), .int (nI x), .int (nI n), .int (ab_bx m), .int (nI (m + 1)), .int (nI (a 0 7))] [] t2
            rw [ab_bx_m hm]
            rfl
          · rfl
        have b8 := ab_on8 m hm
        rw [bb_204_23, bn_inT (by decide) (by decide), bm_gd_t, bn_clamp (by decide), e7, bn_shl1 _ hc, bn_lt (by omega) (by omega), decide_eq_true (by omega), cond_true, ab_bx_neg (by omega)]
        rcases hB2 with q | q
        · rw [decide_eq_true q, cond_true]
          refine c38 (decide_eq_true ?_)
          unfold ab_bcn
          rw [if_pos q]
          omega
        · rw [decide_eq_false (by omega), cond_false, hm_ones X _ hm, bm_bI_some, ab_bx_m (by omega), hm_ones X _ (by omega), bm_bI_some]
          have b8' := ab_on8 B (by omega)
          rw [bn_lt (by omega) (by omega), ← ab_bcn_m (m := B) (by omega), ← ab_bx_m (m := B) (by omega)]
          cases hq : decide (ab_on m 12 < ab_bcn B)
          · rw [cond_false, bn_add]
            have := ih (m + 1) s u (by omega) hS
            rw [un, hq, cond_false] at this
            exact this
          · rw [cond_true]
            exact c38 hq
    obtain ⟨ρ, q1, q2, q3⟩ := main (2 ^ a 0 7) 0 τ .null (by omega) s2
    exact ⟨ρ, q1, q2, q3.LM⟩
