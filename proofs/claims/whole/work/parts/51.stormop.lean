theorem hm_storms (X : bm_X) {a : ab_T} (hG : ab_G a) {n : Nat} (hh : a 0 5 + n < 99999) (hn : n ≤ 1000) : ∀ (i j : Nat) (σ : bm_M) (u : Value), j + i = n → ab_S 46 σ (ab_sts a j) → ∃ τ, bm_ev X 180 24 [.ref 45, .int (nI n), .int (nI j), u] [] σ = some (.int (nI (ab_sum (ab_sts a n 2) 12)), τ) ∧ ab_S 46 τ (ab_sts a n) ∧ ab_E σ τ
  | 0, j, σ, u, e, hS => by
    have e2 : j = n := by omega
    subst e2
    refine ⟨σ, ?_, hS, ab_E.rf⟩
    rw [bb_180_24, bn_lt (by omega) (by omega), decide_eq_false (by omega), cond_false, hm_pails X hS (hG.sts j) (k := 0), bm_bI_some]
  | i + 1, j, σ, u, e, hS => by
    have hc := hG.2.2.1
    have gj := hG.sts j
    have d1 := ab_dv_lt (ab_sts a j)
    have d2 := ab_dv_lt (ab_s1 (ab_sts a j))
    obtain ⟨t1, p1, p2, p3⟩ := hm_draw X hS
    have u1 : ab_S 46 (bm_up t1 46 4 (nI (ab_dv (ab_sts a j) % 100))) (ab_s1 (ab_sts a j)) := p2.up (c := 0) (i := 4) _ rfl
    obtain ⟨t2, q1, q2, q3⟩ := hm_draw X u1
    have f2 : ab_N σ t2 := (p3.up 4 _).tr q3
    have e7 : t2 46 2 = nI (a 0 7) := by
      have := q2 0 7 rfl
      rw [show ab_dr (ab_s1 (ab_sts a j)) 0 7 = ab_s2 (ab_sts a j) 0 7 from rfl, ab_s2_ne _ (by omega), ab_sts_7] at this
      exact this
    have nx : ∀ (s : bm_M) (u : Value), ab_S 46 s (ab_s3 (ab_sts a j)) → ab_N σ s → ∃ τ, bm_ev X 180 47 [.ref 45, .int (nI n), .int (nI j), u] [] s = some (.int (nI (ab_sum (ab_sts a n 2) 12)), τ) ∧ ab_S 46 τ (ab_sts a n) ∧ ab_E σ τ := by
      intro s u hs hF
      obtain ⟨t3, r1, r2, r3, -⟩ := hm_hour X hs gj.s3 (by rw [ab_s3_ne _ (by omega) (by decide), ab_sts_5]; omega)
      obtain ⟨τ, k1, k2, k3⟩ := hm_storms X hG hh hn i (j + 1) t3 u (by omega) r2
      refine ⟨τ, ?_, k2, hF.E.tr (r3.tr k3)⟩
      rw [bb_180_47, r1, bm_bV_some, bn_add, k1]
    have g7 : bm_rg (nI (ab_dv (ab_s1 (ab_sts a j)) % 8)) 0 ((a 0 7 : Int) - 1) = decide (ab_sj (ab_sts a j) < a 0 7) := by
      unfold bm_rg
      rw [bn_toInt (by omega), ← Bool.decide_and]
      refine decide_eq_decide.mpr ?_
      unfold ab_sj
      omega
    rw [bb_180_24, bn_lt (by omega) (by omega), decide_eq_true (by omega), cond_true, p1, bm_bI_some, bn_inT (by decide) (by decide), bm_gd_t, bn_clamp (by decide), bn_rem (by omega) (by decide), q1, bm_bI_some, bn_rem (by omega) (by decide), bs_isCowM X e7 hc, bm_bI_some, bm_cond_bi, g7]
    by_cases c : ab_sj (ab_sts a j) < a 0 7
    · rw [decide_eq_true c, cond_true]
      have hj8 : ab_sj (ab_sts a j) < 8 := by omega
      have it := hm_it1 X q2 gj.s2 hj8
      have b5 := ((gj.s2).2.2.2.2.2 _ hj8).2.1
      obtain ⟨t3, m1, m2, m3⟩ := hm_setsw X q2 (k := ab_sj (ab_sts a j)) (w := 1) ((ab_s2 (ab_sts a j) 5 (ab_sj (ab_sts a j)) + 1) % 12) (by decide) hj8
      have u5 : ab_S 46 t3 (ab_s3 (ab_sts a j)) := by
        have : ab_s3 (ab_sts a j) = ab_wan (ab_s2 (ab_sts a j)) (ab_sj (ab_sts a j)) := if_pos (by rw [ab_sts_7]; exact c)
        rw [this]
        exact m2
      obtain ⟨τ, k1, k2, k3⟩ := nx t3 (.int (nI (ab_sj (ab_sts a j)))) u5 (f2.tr m3)
      refine ⟨τ, ?_, k2, k3⟩
      have it : bm_ev X 34 0 [.ref 45, .int (nI (ab_sj (ab_sts a j))), .int (nI 1)] [] t2 = some (.int (nI (ab_s2 (ab_sts a j) 5 (ab_sj (ab_sts a j)))), t2) := it
      show bm_bV (bm_ev X 84 0 [.ref 45, .int (nI (ab_sj (ab_sts a j)))] [] t2) (fun t9 => bm_ev X 180 47 [.ref 45, .int (nI n), .int (nI j), .int (nI (ab_sj (ab_sts a j)))] [] t9) = _
      rw [bb_84_0, it, bm_bI_some, bn_add, bn_rem (by omega) (by decide), m1, bm_bV_some, bm_bV_some, k1]
    · rw [decide_eq_false c, cond_false]
      have : ab_s3 (ab_sts a j) = ab_s2 (ab_sts a j) := if_neg (by rw [ab_sts_7]; exact c)
      exact nx t2 _ (by rw [this]; exact q2) f2
theorem op_storms (X : bm_X) (p : Int32) : ab_op X 158 180 [.ref 0, .int p, .null, .null] [.ref 45, .int p, .null, .null] := by
  intro T σ hR hT
  obtain ⟨a, ka, kp, tl, h1, h2, h3, h4, h5⟩ := id hR
  obtain ⟨hH, hS, hG, hP, hh⟩ := id h1
  have m1 : ∀ (x : Int32) (σ : bm_M), bm_ev X 32 0 [.long x.toInt64, .null, .long (lN 1), .null, .long (lN 20), .null] [] σ = some (.int (bm_bi (bm_rg x 1 20)), σ) := fun x σ => bs_inI X σ x (by decide) (by decide)
  have hb : ∀ A B : bm_R, cond (decide (p < nI 1)) B (cond (decide (nI 20 < p)) B A) = cond (bm_rg p 1 20) A B := fun A B => bm_rg1 p (n := 20) (by decide) A B
  have cl : bm_ev X 158 0 [.ref 0, .int p, .null, .null] [] σ = cond (bm_rg p 1 20) (bif decide ((nI 99999) < ((σ 1 5) + p)) then some (.int (bm_lw 4), bm_tl 4 σ) else bm_ev X 158 23 [.ref 0, .int p, .int (nI 0), .null] [] σ) (some (.int (bm_lw 0), bm_tl 0 σ)) := by
    rw [bb_158_0, bs_tell X _ (show 0 < 7 by decide), bs_tell X _ (show 4 < 7 by decide), bm_bI_some, bm_bI_some, hb]
  cases g1 : bm_rg p 1 20
  · rw [g1, cond_false] at cl
    refine ⟨_, _, bm_fo 0 (bm_tl 0 σ), cl, ?_, hR.tell (by omega) (by decide)⟩
    rw [bb_180_0, m1, bm_bI_some, bm_cond_bi, g1, cond_false, bs_finds X _ (by decide), bm_bI_some]
  · obtain ⟨m, hm1, hm, -, rfl⟩ := bm_rg1_ex (n := 20) g1
    have e5 : σ 1 5 = nI (a 0 5) := hH 0 5 rfl
    rw [g1, cond_true, e5, bn_add, bn_lt (by decide) (by omega), decide_eq_false (by omega), cond_false] at cl
    obtain ⟨τ, f1, f2, f3⟩ := hc_storms X hG (n := m) (by omega) (by omega) m 0 σ .null (by omega) hH
    have s2 : ab_S 46 τ a := hS.fr (f3 46 (by decide))
    obtain ⟨τ', k1, k2, k3⟩ := hm_storms X hG (n := m) (by omega) (by omega) m 0 τ .null (by omega) s2
    have e6 : τ 46 0 = nI (a 0 5) := s2 0 5 rfl
    refine ⟨nI (ab_sum (ab_sts a m 2) 12), τ, τ', by rw [cl]; exact f1, ?_, ab_R.both h2 h3 h4 h5 (by omega) f2 f3 k2 k3 (hG.sts m) (hP.sts m) (by rw [ab_sts_5]; omega)⟩
    rw [bb_180_0, m1, bm_bI_some, bm_cond_bi, g1, cond_true, bn_inT (by decide) (by decide), bm_gd_t, bn_clamp (by decide), e6, bn_add, bn_lt (by decide) (by omega), decide_eq_false (by omega), cond_false]
    exact k1
