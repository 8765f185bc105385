theorem hm_put (X : bm_X) (σ : bm_M) {k w : Nat} (x : Int32) (hw : w < 7) (hk : k < 8) : ∃ τ, bm_ev X 35 0 [.ref 45, .int (nI k), .int (nI w), .int x] [] σ = some (.null, τ) ∧ (∀ q, q ≠ 46 → τ q = σ q) ∧ ∀ a v, ab_S 46 σ a → x = nI v → ab_S 46 τ (ab_set a (w + 4) k v) := by
  refine ⟨bm_up σ 46 (29 + 7 * k + w) x, ?_, fun q hq => bm_up_ne _ _ _ hq, fun a v hS hx => ?_⟩
  · rw [bb_35_0, bn_mul, bn_add, bn_add, bn_inT (by omega) (by decide), bm_gd_t, bn_clamp (by omega)]
  · have hly : ab_ly (w + 4) k = 29 + 7 * k + w := by
      unfold ab_ly
      split <;> omega
    rw [hx, ← hly]
    exact hS.up v (ab_w8 (by omega) (by omega) hk)
theorem hm_opt (X : bm_X) {t : Nat → Nat} {n b w k wI hi : Nat} {fl : Bool} {a : ab_T} {σ : bm_M} (K : bm_M → bm_R) (h : tk_Tm t n b fl σ) (hS : fl = false → ab_S 46 σ a) (hw : 60 ≤ w) (hw' : w ≤ 74) (hh : hi ≤ 999) (hk : k < 8) (hI : wI < 7) : ∃ τ, (bm_bI (bm_ev X 181 0 [.ref 45, .ref w, .null] [] σ) (fun v2 t1 => bif decide (v2 = 0) then K t1 else bm_bI (bm_ev X 162 0 [.ref 45, .int (nI 0), .int (nI hi), .null, .null] [] t1) (fun v4 t3 => bm_bV (bm_ev X 35 0 [.ref 45, .int (nI k), .int (nI wI), .int v4] [] t3) (fun t5 => K t5)))) = K τ ∧ (fl = true → tk_Tm t n b true τ) ∧ (fl = false → tk_Tm t n (tx_opt t n w (wI + 4) k hi b a).2.1 (!(tx_opt t n w (wI + 4) k hi b a).1) τ ∧ ((tx_opt t n w (wI + 4) k hi b a).1 = true → ab_S 46 τ (tx_opt t n w (wI + 4) k hi b a).2.2)) ∧ ab_K tx_Jm σ τ := by
  obtain ⟨s, r1, r2, r3⟩ := hm_pw X h hw hw'
  rw [r1, bm_bI_some, bm_cond_bi]
  cases fl
  · rw [Bool.not_false, Bool.true_and] at r2 ⊢
    unfold tx_opt
    cases hq : tk_wd t n b w
    · rw [hq, cond_false] at r2
      exact ⟨s, rfl, (fun q => by cases q), fun _ => ⟨r2, fun _ => (hS rfl).H r3⟩, tk_H.m r3⟩
    · rw [hq, cond_true] at r2
      obtain ⟨x, s2, q1, qx, q2, q3⟩ := hm_nu X (hi := hi) r2 hh
      obtain ⟨s3, p1, p2, p3⟩ := hm_put X s2 (k := k) (w := wI) x hI hk
      rw [cond_true, q1, bm_bI_some, p1, bm_bV_some]
      refine ⟨s3, rfl, (fun q => by cases q), fun _ => ?_, (tk_H.m (r3.tr q3)).tr ((ab_q.K p2).mono (fun q i z => Or.inl z))⟩
      rw [Bool.false_or] at q2
      cases ho : tk_ok t n (tk_nx t n b) hi
      · rw [ho] at q2
        exact ⟨q2.N p2, (fun q => by cases q)⟩
      · rw [ho] at q2
        exact ⟨q2.N p2, fun _ => p3 a _ ((hS rfl).H (r3.tr q3)) (qx ho)⟩
  · exact ⟨s, rfl, fun _ => r2, (fun q => by cases q), tk_H.m r3⟩
