/-- what the reference is left with -/
def tx_M (t : Nat → Nat) (n : Nat) (r : Bool × Nat × ab_T) (σ τ : bm_M) : Prop := tk_Tm t n r.2.1 (!r.1) τ ∧ (r.1 = true → ab_S 46 τ r.2.2) ∧ ab_K tx_Jm σ τ
theorem ab_N.m {σ τ : bm_M} (h : ∀ q, q ≠ 46 → τ q = σ q) : ab_K tx_Jm σ τ := (ab_q.K h).mono (fun q i z => Or.inl z)
theorem hm_muf (X : bm_X) {t : Nat → Nat} {n b k : Nat} {fl : Bool} {a : ab_T} {σ : bm_M} (u : Value) (h : tk_Tm t n b fl σ) (hS : fl = false → ab_S 46 σ a) (hk : k < 8) : ∃ τ, bm_ev X 195 56 [.ref 45, u, .int (nI k)] [] σ = some (.null, τ) ∧ (fl = true → tk_Tm t n b true τ) ∧ (fl = false → tx_M t n (tx_muf t n k b a) σ τ) ∧ ab_K tx_Jm σ τ := by
  obtain ⟨s, r1, r2, r3⟩ := hm_pw X (w := 70) h (by decide) (by decide)
  rw [bb_195_56, r1, bm_bI_some, bm_cond_bi]
  cases fl
  · rw [Bool.not_false, Bool.true_and] at r2 ⊢
    unfold tx_muf
    cases hq : tk_wd t n b 70
    · rw [hq, cond_false] at r2
      exact ⟨s, rfl, (fun q => by cases q), fun _ => ⟨r2, fun _ => (hS rfl).H r3, tk_H.m r3⟩, tk_H.m r3⟩
    · rw [hq, cond_true] at r2
      obtain ⟨s3, p1, p2, p3⟩ := hm_put X s (k := k) (w := 6) (nI 1) (by decide) hk
      rw [cond_true, p1, bm_bV_some]
      have kk : ab_K tx_Jm σ s3 := (tk_H.m r3).tr (ab_N.m p2)
      exact ⟨s3, rfl, (fun q => by cases q), fun _ => ⟨r2.N p2, fun _ => p3 a 1 ((hS rfl).H r3) rfl, kk⟩, kk⟩
  · exact ⟨s, rfl, fun _ => r2, (fun q => by cases q), tk_H.m r3⟩
theorem hm_cow44 (X : bm_X) {t : Nat → Nat} {n b k : Nat} {fl : Bool} {a : ab_T} {σ : bm_M} (u : Value) (h : tk_Tm t n b fl σ) (hS : fl = false → ab_S 46 σ a) (hk : k < 8) : ∃ τ, bm_ev X 195 44 [.ref 45, u, .int (nI k)] [] σ = some (.null, τ) ∧ (fl = true → tk_Tm t n b true τ) ∧ (fl = false → tx_M t n (tx_then (tx_opt t n 69 7 k 9 b a) (fun b3 a3 => tx_muf t n k b3 a3)) σ τ) ∧ ab_K tx_Jm σ τ := by
  obtain ⟨s, r1, r2, r3, r4⟩ := hm_opt X (w := 69) (k := k) (wI := 3) (hi := 9) (fun t => bm_ev X 195 56 [.ref 45, u, .int (nI k)] [] t) h hS (by decide) (by decide) (by decide) hk (by decide)
  rw [bb_195_44, r1]
  cases fl
  · obtain ⟨q1, q2⟩ := r3 rfl
    have q1 : tk_Tm t n (tx_opt t n 69 7 k 9 b a).2.1 (!(tx_opt t n 69 7 k 9 b a).1) s := q1
    have q2 : (tx_opt t n 69 7 k 9 b a).1 = true → ab_S 46 s (tx_opt t n 69 7 k 9 b a).2.2 := q2
    generalize tx_opt t n 69 7 k 9 b a = R at *
    obtain ⟨τ, y1, y2, y3, y4⟩ := hm_muf X u q1 (fun z => q2 (by simpa using z)) hk
    refine ⟨τ, y1, (fun q => by cases q), fun _ => ?_, r4.tr y4⟩
    unfold tx_then
    cases g : R.1
    · rw [g] at y2
      exact ⟨by rw [cond_false, g]; exact y2 rfl, fun q => by (rw [cond_false, g] at q; cases q), r4.tr y4⟩
    · rw [g] at y3
      obtain ⟨w1, w2, w3⟩ := y3 rfl
      exact ⟨w1, w2, r4.tr w3⟩
  · obtain ⟨τ, y1, y2, y3, y4⟩ := hm_muf X (a := a) u (r2 rfl) (fun z => by cases z) hk
    exact ⟨τ, y1, fun _ => y2 rfl, (fun q => by cases q), r4.tr y4⟩
theorem hm_cow32 (X : bm_X) {t : Nat → Nat} {n b k : Nat} {fl : Bool} {a : ab_T} {σ : bm_M} (u : Value) (h : tk_Tm t n b fl σ) (hS : fl = false → ab_S 46 σ a) (hk : k < 8) : ∃ τ, bm_ev X 195 32 [.ref 45, u, .int (nI k)] [] σ = some (.null, τ) ∧ (fl = true → tk_Tm t n b true τ) ∧ (fl = false → tx_M t n (tx_then (tx_opt t n 68 6 k 11 b a) (fun b2 a2 => tx_then (tx_opt t n 69 7 k 9 b2 a2) (fun b3 a3 => tx_muf t n k b3 a3))) σ τ) ∧ ab_K tx_Jm σ τ := by
  obtain ⟨s, r1, r2, r3, r4⟩ := hm_opt X (w := 68) (k := k) (wI := 2) (hi := 11) (fun t => bm_ev X 195 44 [.ref 45, u, .int (nI k)] [] t) h hS (by decide) (by decide) (by decide) hk (by decide)
  rw [bb_195_32, r1]
  cases fl
  · obtain ⟨q1, q2⟩ := r3 rfl
    have q1 : tk_Tm t n (tx_opt t n 68 6 k 11 b a).2.1 (!(tx_opt t n 68 6 k 11 b a).1) s := q1
    have q2 : (tx_opt t n 68 6 k 11 b a).1 = true → ab_S 46 s (tx_opt t n 68 6 k 11 b a).2.2 := q2
    generalize tx_opt t n 68 6 k 11 b a = R at *
    obtain ⟨τ, y1, y2, y3, y4⟩ := hm_cow44 X u q1 (fun z => q2 (by simpa using z)) hk
    refine ⟨τ, y1, (fun q => by cases q), fun _ => ?_, r4.tr y4⟩
    rw [tx_then]
    cases g : R.1
    · rw [g] at y2
      exact ⟨by rw [cond_false, g]; exact y2 rfl, fun q => by (rw [cond_false, g] at q; cases q), r4.tr y4⟩
    · rw [g] at y3
      obtain ⟨w1, w2, w3⟩ := y3 rfl
      exact ⟨w1, w2, r4.tr w3⟩
  · obtain ⟨τ, y1, y2, y3, y4⟩ := hm_cow44 X (a := a) u (r2 rfl) (fun z => by cases z) hk
    exact ⟨τ, y1, fun _ => y2 rfl, (fun q => by cases q), r4.tr y4⟩
theorem hm_cow (X : bm_X) {t : Nat → Nat} {n kd b : Nat} {a : ab_T} {σ : bm_M} (h : tk_Tm t n b false σ) (hS : ab_S 46 σ a) (hG : ab_G a) : ∃ τ, bm_ev X 195 0 [.ref 45, .int (nI kd), .null] [] σ = some (.null, τ) ∧ tx_M t n (tx_cow t n kd b a) σ τ := by
  have hc := hG.2.2.1
  have e7 : σ 46 2 = nI (a 0 7) := hS 0 7 rfl
  obtain ⟨s, m1, m2, m3⟩ := hm_mu X (g := decide (a 0 7 < 8)) h
  have ex : bm_ev X 195 0 [.ref 45, .int (nI kd), .null] [] σ = bm_ev X 195 10 [.ref 45, .int (nI kd), .null] [.int (bm_bi (decide (a 0 7 < 8))), .ref 45] σ := by
    rw [bb_195_0, bn_inT (by decide) (by decide), bm_gd_t, bn_clamp (by decide), e7, bn_lt (by omega) (by decide)]
    cases decide (a 0 7 < 8) <;> rfl
  rw [ex, bb_195_10, m1, bm_bV_some]
  unfold tx_cow
  by_cases c8 : a 0 7 < 8
  · rw [decide_eq_true c8] at m2 ⊢
    have m2 : tk_Tm t n (tk_nx t n b) false s := m2
    have e12 : s 45 12 = bm_bi false := m2.2.2.1
    obtain ⟨s1, r1, r2, r3⟩ := hm_adds X (hS.H m3) (kd := kd) (p := 0) c8
    rw [e12, bm_cond_bi, cond_false, r1, bm_bI_some, cond_true]
    obtain ⟨s2, y1, y2, y3, y4⟩ := hm_opt X (w := 67) (k := a 0 7) (wI := 1) (hi := 11) (a := ab_add a kd 0) (fun t => bm_ev X 195 32 [.ref 45, .int (nI kd), .int (nI (a 0 7))] [] t) (m2.N r3) (fun _ => r2) (by decide) (by decide) (by decide) c8 (by decide)
    rw [y1]
    obtain ⟨q1, q2⟩ := y3 rfl
    have q1 : tk_Tm t n (tx_opt t n 67 5 (a 0 7) 11 (tk_nx t n b) (ab_add a kd 0)).2.1 (!(tx_opt t n 67 5 (a 0 7) 11 (tk_nx t n b) (ab_add a kd 0)).1) s2 := q1
    have q2 : (tx_opt t n 67 5 (a 0 7) 11 (tk_nx t n b) (ab_add a kd 0)).1 = true → ab_S 46 s2 (tx_opt t n 67 5 (a 0 7) 11 (tk_nx t n b) (ab_add a kd 0)).2.2 := q2
    generalize tx_opt t n 67 5 (a 0 7) 11 (tk_nx t n b) (ab_add a kd 0) = R at *
    have kk : ab_K tx_Jm σ s2 := ((tk_H.m m3).tr (ab_N.m r3)).tr y4
    obtain ⟨τ, z1, z2, z3, z4⟩ := hm_cow32 X (.int (nI kd)) q1 (fun z => q2 (by simpa using z)) c8
    refine ⟨τ, z1, ?_⟩
    rw [tx_then]
    cases g : R.1
    · rw [g] at z2
      exact ⟨by rw [cond_false, g]; exact z2 rfl, fun q => by (rw [cond_false, g] at q; cases q), kk.tr z4⟩
    · rw [g] at z3
      obtain ⟨w1, w2, w3⟩ := z3 rfl
      exact ⟨w1, w2, kk.tr w3⟩
  · rw [decide_eq_false c8] at m2 ⊢
    have m2 : tk_Tm t n b true s := m2
    have e12 : s 45 12 = bm_bi true := m2.2.2.1
    rw [e12, bm_cond_bi, cond_true, cond_false]
    exact ⟨s, rfl, m2, (fun q => by cases q), tk_H.m m3⟩
