/-! THE LAW: call after call, both answer alike -/
def lq_E (r : bm_R) : Prop := ∃ ρ, r = some (.int (nI 1), ρ)
def lq_K (X : bm_X) (x : Nat) : Prop := ∀ τ, ab_R (10 * x + 60) τ → lq_E (bm_ev X 211 1044 [.ref 55, .ref 0, .ref 45, .int (nI x)] [] τ)
theorem lq_if {b : Bool} {A B : bm_R} (hA : lq_E A) (hB : lq_E B) : lq_E (cond b A B) := by
  cases b
  · exact hB
  · exact hA
theorem lq_op {X : bm_X} {c m : Nat} {Lc Lm : List Value} (h : ab_op X c m Lc Lm) {T : Nat} {σ : bm_M} (hR : ab_R T σ) (hT : T ≤ 31000) (K : bm_M → bm_R) (hK : ∀ τ, ab_R (T + 60) τ → lq_E (K τ)) : lq_E (bm_bI (bm_ev X c 0 Lc [] σ) (fun v2 t1 => bm_bI (bm_ev X m 0 Lm [] t1) (fun v4 t3 => bif decide (v2 = v4) then K t3 else bm_gd (bm_bo (nI 0)) (some (.int (nI 0), t3))))) := by
  obtain ⟨x, τ, τ', r1, r2, r3⟩ := h T σ hR hT
  rw [r1, bm_bI_some, r2, bm_bI_some, decide_eq_true rfl, cond_true]
  exact hK τ' r3
theorem lq_cmp (x : Int64) : decide (lg_cmp x x = 0) = true := by
  have : lg_cmp x x = 0 := by
    unfold lg_cmp
    rw [if_neg (Int64.lt_irrefl), if_pos rfl]
  exact decide_eq_true this
theorem lq_opL {X : bm_X} {c m : Nat} {Lc Lm : List Value} (h : ab_opL X c m Lc Lm) {T : Nat} {σ : bm_M} (hR : ab_R T σ) (hT : T ≤ 31000) (K : bm_M → bm_R) (hK : ∀ τ, ab_R (T + 60) τ → lq_E (K τ)) : lq_E (bm_bL (bm_ev X c 0 Lc [] σ) (fun v2 t1 => bm_bL (bm_ev X m 0 Lm [] t1) (fun v4 t3 => bif decide (lg_cmp v2 v4 = 0) then K t3 else bm_gd (bm_bo (nI 0)) (some (.int (nI 0), t3))))) := by
  obtain ⟨x, τ, τ', r1, r2, r3⟩ := h T σ hR hT
  rw [r1, bm_bL_some, r2, bm_bL_some, lq_cmp, cond_true]
  exact hK τ' r3
theorem lq_end (X : bm_X) {x : Nat} {σ : bm_M} (hR : ab_R (10 * x) σ) (hK : lq_K X x) : lq_E (bm_ev X 211 1044 [.ref 55, .ref 0, .ref 45, .int (nI x)] [] σ) := hK σ (hR.junk (by omega) ab_K.rf)
theorem lq_22 (X : bm_X) (hL : X.1 ≤ 3072) {x : Nat} {σ : bm_M} (hx : x + 6 ≤ X.1) (hR : ab_R (10 * x) σ) (hK : lq_K X x) : lq_E (bm_ev X 211 22 [.ref 55, .ref 0, .ref 45, .int (nI x)] [] σ) := by
  have i1 : bm_in (nI (x + 1)) (bm_rl X 55) = true := bn_inT (show x + 1 < X.1 by omega) (show X.1 < 2147483648 by omega)
  have i2 : bm_in (nI (x + 2)) (bm_rl X 55) = true := bn_inT (show x + 2 < X.1 by omega) (show X.1 < 2147483648 by omega)
  rw [bb_211_22, bn_add x 1, i1, bn_add x 2, i2]
  simp only [bm_gd_t]
  exact lq_op (op_grass X _ _) hR (by omega) _ hK
theorem lq_49 (X : bm_X) (hL : X.1 ≤ 3072) {x : Nat} {σ : bm_M} (hx : x + 6 ≤ X.1) (hR : ab_R (10 * x) σ) (hK : lq_K X x) : lq_E (bm_ev X 211 49 [.ref 55, .ref 0, .ref 45, .int (nI x)] [] σ) := by
  have i1 : bm_in (nI (x + 1)) (bm_rl X 55) = true := bn_inT (show x + 1 < X.1 by omega) (show X.1 < 2147483648 by omega)
  have i2 : bm_in (nI (x + 2)) (bm_rl X 55) = true := bn_inT (show x + 2 < X.1 by omega) (show X.1 < 2147483648 by omega)
  rw [bb_211_49, bn_add x 1, i1, bn_add x 2, i2]
  simp only [bm_gd_t]
  exact lq_op (op_pasture X _ _) hR (by omega) _ hK
theorem lq_76 (X : bm_X) (hL : X.1 ≤ 3072) {x : Nat} {σ : bm_M} (hx : x + 6 ≤ X.1) (hR : ab_R (10 * x) σ) (hK : lq_K X x) : lq_E (bm_ev X 211 76 [.ref 55, .ref 0, .ref 45, .int (nI x)] [] σ) := by
  have i1 : bm_in (nI (x + 1)) (bm_rl X 55) = true := bn_inT (show x + 1 < X.1 by omega) (show X.1 < 2147483648 by omega)
  have i2 : bm_in (nI (x + 2)) (bm_rl X 55) = true := bn_inT (show x + 2 < X.1 by omega) (show X.1 < 2147483648 by omega)
  rw [bb_211_76, bn_add x 1, i1, bn_add x 2, i2]
  simp only [bm_gd_t]
  exact lq_op (op_weather X _ _) hR (by omega) _ hK
theorem lq_103 (X : bm_X) (hL : X.1 ≤ 3072) {x : Nat} {σ : bm_M} (hx : x + 6 ≤ X.1) (hR : ab_R (10 * x) σ) (hK : lq_K X x) : lq_E (bm_ev X 211 103 [.ref 55, .ref 0, .ref 45, .int (nI x)] [] σ) := by
  have i1 : bm_in (nI (x + 1)) (bm_rl X 55) = true := bn_inT (show x + 1 < X.1 by omega) (show X.1 < 2147483648 by omega)
  rw [bb_211_103, bn_add x 1, i1]
  simp only [bm_gd_t]
  exact lq_op (op_pail X _) hR (by omega) _ hK
theorem lq_120 (X : bm_X) (hL : X.1 ≤ 3072) {x : Nat} {σ : bm_M} (hx : x + 6 ≤ X.1) (hR : ab_R (10 * x) σ) (hK : lq_K X x) : lq_E (bm_ev X 211 120 [.ref 55, .ref 0, .ref 45, .int (nI x)] [] σ) := by
  have i1 : bm_in (nI (x + 1)) (bm_rl X 55) = true := bn_inT (show x + 1 < X.1 by omega) (show X.1 < 2147483648 by omega)
  rw [bb_211_120, bn_add x 1, i1]
  simp only [bm_gd_t]
  exact lq_op (op_pour X _) hR (by omega) _ hK
theorem lq_137 (X : bm_X) (hL : X.1 ≤ 3072) {x : Nat} {σ : bm_M} (hx : x + 6 ≤ X.1) (hR : ab_R (10 * x) σ) (hK : lq_K X x) : lq_E (bm_ev X 211 137 [.ref 55, .ref 0, .ref 45, .int (nI x)] [] σ) := by
  have i1 : bm_in (nI (x + 1)) (bm_rl X 55) = true := bn_inT (show x + 1 < X.1 by omega) (show X.1 < 2147483648 by omega)
  have i2 : bm_in (nI (x + 2)) (bm_rl X 55) = true := bn_inT (show x + 2 < X.1 by omega) (show X.1 < 2147483648 by omega)
  rw [bb_211_137, bn_add x 1, i1, bn_add x 2, i2]
  simp only [bm_gd_t]
  exact lq_op (op_cow X _ _) hR (by omega) _ hK
theorem lq_164 (X : bm_X) (hL : X.1 ≤ 3072) {x : Nat} {σ : bm_M} (hx : x + 6 ≤ X.1) (hR : ab_R (10 * x) σ) (hK : lq_K X x) : lq_E (bm_ev X 211 164 [.ref 55, .ref 0, .ref 45, .int (nI x)] [] σ) := by
  have i1 : bm_in (nI (x + 1)) (bm_rl X 55) = true := bn_inT (show x + 1 < X.1 by omega) (show X.1 < 2147483648 by omega)
  have i2 : bm_in (nI (x + 2)) (bm_rl X 55) = true := bn_inT (show x + 2 < X.1 by omega) (show X.1 < 2147483648 by omega)
  rw [bb_211_164, bn_add x 1, i1, bn_add x 2, i2]
  simp only [bm_gd_t]
  exact lq_op (op_of X _ _) hR (by omega) _ hK
theorem lq_191 (X : bm_X) (hL : X.1 ≤ 3072) {x : Nat} {σ : bm_M} (hx : x + 6 ≤ X.1) (hR : ab_R (10 * x) σ) (hK : lq_K X x) : lq_E (bm_ev X 211 191 [.ref 55, .ref 0, .ref 45, .int (nI x)] [] σ) := by
  have i1 : bm_in (nI (x + 1)) (bm_rl X 55) = true := bn_inT (show x + 1 < X.1 by omega) (show X.1 < 2147483648 by omega)
  have i2 : bm_in (nI (x + 2)) (bm_rl X 55) = true := bn_inT (show x + 2 < X.1 by omega) (show X.1 < 2147483648 by omega)
  have i3 : bm_in (nI (x + 3)) (bm_rl X 55) = true := bn_inT (show x + 3 < X.1 by omega) (show X.1 < 2147483648 by omega)
  rw [bb_211_191, bn_add x 1, i1, bn_add x 2, i2, bn_add x 3, i3]
  simp only [bm_gd_t]
  exact lq_op (op_change X _ _ _) hR (by omega) _ hK
theorem lq_228 (X : bm_X) (hL : X.1 ≤ 3072) {x : Nat} {σ : bm_M} (hx : x + 6 ≤ X.1) (hR : ab_R (10 * x) σ) (hK : lq_K X x) : lq_E (bm_ev X 211 228 [.ref 55, .ref 0, .ref 45, .int (nI x)] [] σ) := by
  have i1 : bm_in (nI (x + 1)) (bm_rl X 55) = true := bn_inT (show x + 1 < X.1 by omega) (show X.1 < 2147483648 by omega)
  rw [bb_211_228, bn_add x 1, i1]
  simp only [bm_gd_t]
  exact lq_op (op_go X _) hR (by omega) _ hK
theorem lq_245 (X : bm_X) (hL : X.1 ≤ 3072) {x : Nat} {σ : bm_M} (hx : x + 6 ≤ X.1) (hR : ab_R (10 * x) σ) (hK : lq_K X x) : lq_E (bm_ev X 211 245 [.ref 55, .ref 0, .ref 45, .int (nI x)] [] σ) := by
  have i1 : bm_in (nI (x + 1)) (bm_rl X 55) = true := bn_inT (show x + 1 < X.1 by omega) (show X.1 < 2147483648 by omega)
  rw [bb_211_245, bn_add x 1, i1]
  simp only [bm_gd_t]
  exact lq_op (op_now X _) hR (by omega) _ hK
theorem lq_262 (X : bm_X) (hL : X.1 ≤ 3072) {x : Nat} {σ : bm_M} (hx : x + 6 ≤ X.1) (hR : ab_R (10 * x) σ) (hK : lq_K X x) : lq_E (bm_ev X 211 262 [.ref 55, .ref 0, .ref 45, .int (nI x)] [] σ) := by
  have i1 : bm_in (nI (x + 1)) (bm_rl X 55) = true := bn_inT (show x + 1 < X.1 by omega) (show X.1 < 2147483648 by omega)
  have i2 : bm_in (nI (x + 2)) (bm_rl X 55) = true := bn_inT (show x + 2 < X.1 by omega) (show X.1 < 2147483648 by omega)
  rw [bb_211_262, bn_add x 1, i1, bn_add x 2, i2]
  simp only [bm_gd_t]
  exact lq_op (op_ahead X _ _) hR (by omega) _ hK
theorem lq_289 (X : bm_X) (hL : X.1 ≤ 3072) {x : Nat} {σ : bm_M} (hx : x + 6 ≤ X.1) (hR : ab_R (10 * x) σ) (hK : lq_K X x) : lq_E (bm_ev X 211 289 [.ref 55, .ref 0, .ref 45, .int (nI x)] [] σ) := by
  have i1 : bm_in (nI (x + 1)) (bm_rl X 55) = true := bn_inT (show x + 1 < X.1 by omega) (show X.1 < 2147483648 by omega)
  have i2 : bm_in (nI (x + 2)) (bm_rl X 55) = true := bn_inT (show x + 2 < X.1 by omega) (show X.1 < 2147483648 by omega)
  have i3 : bm_in (nI (x + 3)) (bm_rl X 55) = true := bn_inT (show x + 3 < X.1 by omega) (show X.1 < 2147483648 by omega)
  rw [bb_211_289, bn_add x 1, i1, bn_add x 2, i2, bn_add x 3, i3]
  simp only [bm_gd_t]
  exact lq_op (op_where X _ _ _) hR (by omega) _ hK
theorem lq_326 (X : bm_X) (hL : X.1 ≤ 3072) {x : Nat} {σ : bm_M} (hx : x + 6 ≤ X.1) (hR : ab_R (10 * x) σ) (hK : lq_K X x) : lq_E (bm_ev X 211 326 [.ref 55, .ref 0, .ref 45, .int (nI x)] [] σ) := by
  have i1 : bm_in (nI (x + 1)) (bm_rl X 55) = true := bn_inT (show x + 1 < X.1 by omega) (show X.1 < 2147483648 by omega)
  have i2 : bm_in (nI (x + 2)) (bm_rl X 55) = true := bn_inT (show x + 2 < X.1 by omega) (show X.1 < 2147483648 by omega)
  rw [bb_211_326, bn_add x 1, i1, bn_add x 2, i2]
  simp only [bm_gd_t]
  exact lq_op (op_when X _ _) hR (by omega) _ hK
theorem lq_353 (X : bm_X) (hL : X.1 ≤ 3072) {x : Nat} {σ : bm_M} (hx : x + 6 ≤ X.1) (hR : ab_R (10 * x) σ) (hK : lq_K X x) : lq_E (bm_ev X 211 353 [.ref 55, .ref 0, .ref 45, .int (nI x)] [] σ) := by
  have i1 : bm_in (nI (x + 1)) (bm_rl X 55) = true := bn_inT (show x + 1 < X.1 by omega) (show X.1 < 2147483648 by omega)
  have i2 : bm_in (nI (x + 2)) (bm_rl X 55) = true := bn_inT (show x + 2 < X.1 by omega) (show X.1 < 2147483648 by omega)
  rw [bb_211_353, bn_add x 1, i1, bn_add x 2, i2]
  simp only [bm_gd_t]
  exact lq_op (op_meet X _ _) hR (by omega) _ hK
theorem lq_380 (X : bm_X) (hL : X.1 ≤ 3072) {x : Nat} {σ : bm_M} (hx : x + 6 ≤ X.1) (hR : ab_R (10 * x) σ) (hK : lq_K X x) : lq_E (bm_ev X 211 380 [.ref 55, .ref 0, .ref 45, .int (nI x)] [] σ) := by
  rw [bb_211_380]
  skip
  exact lq_op (op_bare X) hR (by omega) _ hK
theorem lq_387 (X : bm_X) (hL : X.1 ≤ 3072) {x : Nat} {σ : bm_M} (hx : x + 6 ≤ X.1) (hR : ab_R (10 * x) σ) (hK : lq_K X x) : lq_E (bm_ev X 211 387 [.ref 55, .ref 0, .ref 45, .int (nI x)] [] σ) := by
  have i1 : bm_in (nI (x + 1)) (bm_rl X 55) = true := bn_inT (show x + 1 < X.1 by omega) (show X.1 < 2147483648 by omega)
  have i2 : bm_in (nI (x + 2)) (bm_rl X 55) = true := bn_inT (show x + 2 < X.1 by omega) (show X.1 < 2147483648 by omega)
  rw [bb_211_387, bn_add x 1, i1, bn_add x 2, i2]
  simp only [bm_gd_t]
  exact lq_op (op_graze X _ _) hR (by omega) _ hK
theorem lq_414 (X : bm_X) (hL : X.1 ≤ 3072) {x : Nat} {σ : bm_M} (hx : x + 6 ≤ X.1) (hR : ab_R (10 * x) σ) (hK : lq_K X x) : lq_E (bm_ev X 211 414 [.ref 55, .ref 0, .ref 45, .int (nI x)] [] σ) := by
  have i1 : bm_in (nI (x + 1)) (bm_rl X 55) = true := bn_inT (show x + 1 < X.1 by omega) (show X.1 < 2147483648 by omega)
  have i2 : bm_in (nI (x + 2)) (bm_rl X 55) = true := bn_inT (show x + 2 < X.1 by omega) (show X.1 < 2147483648 by omega)
  have i3 : bm_in (nI (x + 3)) (bm_rl X 55) = true := bn_inT (show x + 3 < X.1 by omega) (show X.1 < 2147483648 by omega)
  rw [bb_211_414, bn_add x 1, i1, bn_add x 2, i2, bn_add x 3, i3]
  simp only [bm_gd_t]
  exact lq_op (op_toneFor X _ _ _) hR (by omega) _ hK
theorem lq_451 (X : bm_X) (hL : X.1 ≤ 3072) {x : Nat} {σ : bm_M} (hx : x + 6 ≤ X.1) (hR : ab_R (10 * x) σ) (hK : lq_K X x) : lq_E (bm_ev X 211 451 [.ref 55, .ref 0, .ref 45, .int (nI x)] [] σ) := by
  have i1 : bm_in (nI (x + 1)) (bm_rl X 55) = true := bn_inT (show x + 1 < X.1 by omega) (show X.1 < 2147483648 by omega)
  have i2 : bm_in (nI (x + 2)) (bm_rl X 55) = true := bn_inT (show x + 2 < X.1 by omega) (show X.1 < 2147483648 by omega)
  rw [bb_211_451, bn_add x 1, i1, bn_add x 2, i2]
  simp only [bm_gd_t]
  exact lq_op (op_kindFor X _ _) hR (by omega) _ hK
theorem lq_478 (X : bm_X) (hL : X.1 ≤ 3072) {x : Nat} {σ : bm_M} (hx : x + 6 ≤ X.1) (hR : ab_R (10 * x) σ) (hK : lq_K X x) : lq_E (bm_ev X 211 478 [.ref 55, .ref 0, .ref 45, .int (nI x)] [] σ) := by
  have i1 : bm_in (nI (x + 1)) (bm_rl X 55) = true := bn_inT (show x + 1 < X.1 by omega) (show X.1 < 2147483648 by omega)
  have i2 : bm_in (nI (x + 2)) (bm_rl X 55) = true := bn_inT (show x + 2 < X.1 by omega) (show X.1 < 2147483648 by omega)
  have i3 : bm_in (nI (x + 3)) (bm_rl X 55) = true := bn_inT (show x + 3 < X.1 by omega) (show X.1 < 2147483648 by omega)
  rw [bb_211_478, bn_add x 1, i1, bn_add x 2, i2, bn_add x 3, i3]
  simp only [bm_gd_t]
  exact lq_op (op_swingsFor X _ _ _) hR (by omega) _ hK
theorem lq_515 (X : bm_X) (hL : X.1 ≤ 3072) {x : Nat} {σ : bm_M} (hx : x + 6 ≤ X.1) (hR : ab_R (10 * x) σ) (hK : lq_K X x) : lq_E (bm_ev X 211 515 [.ref 55, .ref 0, .ref 45, .int (nI x)] [] σ) := by
  have i1 : bm_in (nI (x + 1)) (bm_rl X 55) = true := bn_inT (show x + 1 < X.1 by omega) (show X.1 < 2147483648 by omega)
  rw [bb_211_515, bn_add x 1, i1]
  simp only [bm_gd_t]
  exact lq_op (op_growsFor X _) hR (by omega) _ hK
theorem lq_532 (X : bm_X) (hL : X.1 ≤ 3072) {x : Nat} {σ : bm_M} (hx : x + 6 ≤ X.1) (hR : ab_R (10 * x) σ) (hK : lq_K X x) : lq_E (bm_ev X 211 532 [.ref 55, .ref 0, .ref 45, .int (nI x)] [] σ) := by
  have i1 : bm_in (nI (x + 1)) (bm_rl X 55) = true := bn_inT (show x + 1 < X.1 by omega) (show X.1 < 2147483648 by omega)
  have i2 : bm_in (nI (x + 2)) (bm_rl X 55) = true := bn_inT (show x + 2 < X.1 by omega) (show X.1 < 2147483648 by omega)
  rw [bb_211_532, bn_add x 1, i1, bn_add x 2, i2]
  simp only [bm_gd_t]
  exact lq_op (op_thunderFor X _ _) hR (by omega) _ hK
theorem lq_559 (X : bm_X) (hL : X.1 ≤ 3072) {x : Nat} {σ : bm_M} (hx : x + 6 ≤ X.1) (hR : ab_R (10 * x) σ) (hK : lq_K X x) : lq_E (bm_ev X 211 559 [.ref 55, .ref 0, .ref 45, .int (nI x)] [] σ) := by
  have i1 : bm_in (nI (x + 1)) (bm_rl X 55) = true := bn_inT (show x + 1 < X.1 by omega) (show X.1 < 2147483648 by omega)
  rw [bb_211_559, bn_add x 1, i1]
  simp only [bm_gd_t]
  exact lq_op (op_pair X _) hR (by omega) _ hK
theorem lq_576 (X : bm_X) (hL : X.1 ≤ 3072) {x : Nat} {σ : bm_M} (hx : x + 6 ≤ X.1) (hR : ab_R (10 * x) σ) (hK : lq_K X x) : lq_E (bm_ev X 211 576 [.ref 55, .ref 0, .ref 45, .int (nI x)] [] σ) := by
  have i1 : bm_in (nI (x + 1)) (bm_rl X 55) = true := bn_inT (show x + 1 < X.1 by omega) (show X.1 < 2147483648 by omega)
  have i2 : bm_in (nI (x + 2)) (bm_rl X 55) = true := bn_inT (show x + 2 < X.1 by omega) (show X.1 < 2147483648 by omega)
  have i3 : bm_in (nI (x + 3)) (bm_rl X 55) = true := bn_inT (show x + 3 < X.1 by omega) (show X.1 < 2147483648 by omega)
  rw [bb_211_576, bn_add x 1, i1, bn_add x 2, i2, bn_add x 3, i3]
  simp only [bm_gd_t]
  exact lq_op (op_muffle X _ _ _) hR (by omega) _ hK
theorem lq_613 (X : bm_X) (hL : X.1 ≤ 3072) {x : Nat} {σ : bm_M} (hx : x + 6 ≤ X.1) (hR : ab_R (10 * x) σ) (hK : lq_K X x) : lq_E (bm_ev X 211 613 [.ref 55, .ref 0, .ref 45, .int (nI x)] [] σ) := by
  have i1 : bm_in (nI (x + 1)) (bm_rl X 55) = true := bn_inT (show x + 1 < X.1 by omega) (show X.1 < 2147483648 by omega)
  have i2 : bm_in (nI (x + 2)) (bm_rl X 55) = true := bn_inT (show x + 2 < X.1 by omega) (show X.1 < 2147483648 by omega)
  rw [bb_211_613, bn_add x 1, i1, bn_add x 2, i2]
  simp only [bm_gd_t]
  exact lq_op (op_fits X _ _) hR (by omega) _ hK
theorem lq_640 (X : bm_X) (hL : X.1 ≤ 3072) {x : Nat} {σ : bm_M} (hx : x + 6 ≤ X.1) (hR : ab_R (10 * x) σ) (hK : lq_K X x) : lq_E (bm_ev X 211 640 [.ref 55, .ref 0, .ref 45, .int (nI x)] [] σ) := by
  have i1 : bm_in (nI (x + 1)) (bm_rl X 55) = true := bn_inT (show x + 1 < X.1 by omega) (show X.1 < 2147483648 by omega)
  have i2 : bm_in (nI (x + 2)) (bm_rl X 55) = true := bn_inT (show x + 2 < X.1 by omega) (show X.1 < 2147483648 by omega)
  rw [bb_211_640, bn_add x 1, i1, bn_add x 2, i2]
  simp only [bm_gd_t]
  exact lq_op (op_kinds X _ _) hR (by omega) _ hK
theorem lq_667 (X : bm_X) (hL : X.1 ≤ 3072) {x : Nat} {σ : bm_M} (hx : x + 6 ≤ X.1) (hR : ab_R (10 * x) σ) (hK : lq_K X x) : lq_E (bm_ev X 211 667 [.ref 55, .ref 0, .ref 45, .int (nI x)] [] σ) := by
  have i1 : bm_in (nI (x + 1)) (bm_rl X 55) = true := bn_inT (show x + 1 < X.1 by omega) (show X.1 < 2147483648 by omega)
  rw [bb_211_667, bn_add x 1, i1]
  simp only [bm_gd_t]
  exact lq_op (op_storms X _) hR (by omega) _ hK
theorem lq_684 (X : bm_X) (hL : X.1 ≤ 3072) {x : Nat} {σ : bm_M} (hx : x + 6 ≤ X.1) (hR : ab_R (10 * x) σ) (hK : lq_K X x) : lq_E (bm_ev X 211 684 [.ref 55, .ref 0, .ref 45, .int (nI x)] [] σ) := by
  have i1 : bm_in (nI (x + 1)) (bm_rl X 55) = true := bn_inT (show x + 1 < X.1 by omega) (show X.1 < 2147483648 by omega)
  have i2 : bm_in (nI (x + 2)) (bm_rl X 55) = true := bn_inT (show x + 2 < X.1 by omega) (show X.1 < 2147483648 by omega)
  rw [bb_211_684, bn_add x 1, i1, bn_add x 2, i2]
  simp only [bm_gd_t]
  exact lq_opL (op_odds X _ _) hR (by omega) _ hK
theorem lq_712 (X : bm_X) (hL : X.1 ≤ 3072) {x : Nat} {σ : bm_M} (hx : x + 6 ≤ X.1) (hR : ab_R (10 * x) σ) (hK : lq_K X x) : lq_E (bm_ev X 211 712 [.ref 55, .ref 0, .ref 45, .int (nI x)] [] σ) := by
  have i1 : bm_in (nI (x + 1)) (bm_rl X 55) = true := bn_inT (show x + 1 < X.1 by omega) (show X.1 < 2147483648 by omega)
  rw [bb_211_712, bn_add x 1, i1]
  simp only [bm_gd_t]
  exact lq_op (op_seed X _) hR (by omega) _ hK
theorem lq_729 (X : bm_X) (hL : X.1 ≤ 3072) {x : Nat} {σ : bm_M} (hx : x + 6 ≤ X.1) (hR : ab_R (10 * x) σ) (hK : lq_K X x) : lq_E (bm_ev X 211 729 [.ref 55, .ref 0, .ref 45, .int (nI x)] [] σ) := by
  have i1 : bm_in (nI (x + 1)) (bm_rl X 55) = true := bn_inT (show x + 1 < X.1 by omega) (show X.1 < 2147483648 by omega)
  have i2 : bm_in (nI (x + 2)) (bm_rl X 55) = true := bn_inT (show x + 2 < X.1 by omega) (show X.1 < 2147483648 by omega)
  rw [bb_211_729, bn_add x 1, i1, bn_add x 2, i2]
  simp only [bm_gd_t]
  exact lq_op (op_feed X _ _) hR (by omega) _ hK
theorem lq_756 (X : bm_X) (hL : X.1 ≤ 3072) {x : Nat} {σ : bm_M} (hx : x + 6 ≤ X.1) (hR : ab_R (10 * x) σ) (hK : lq_K X x) : lq_E (bm_ev X 211 756 [.ref 55, .ref 0, .ref 45, .int (nI x)] [] σ) := by
  rw [bb_211_756]
  skip
  exact lq_op (op_wipe X) hR (by omega) _ hK
theorem lq_763 (X : bm_X) (hL : X.1 ≤ 3072) {x : Nat} {σ : bm_M} (hx : x + 6 ≤ X.1) (hR : ab_R (10 * x) σ) (hK : lq_K X x) : lq_E (bm_ev X 211 763 [.ref 55, .ref 0, .ref 45, .int (nI x)] [] σ) := by
  rw [bb_211_763]
  skip
  exact lq_op (op_text X) hR (by omega) _ hK
theorem lq_770 (X : bm_X) (hL : X.1 ≤ 3072) {x : Nat} {σ : bm_M} (hx : x + 6 ≤ X.1) (hR : ab_R (10 * x) σ) (hK : lq_K X x) : lq_E (bm_ev X 211 770 [.ref 55, .ref 0, .ref 45, .int (nI x)] [] σ) := by
  have i1 : bm_in (nI (x + 1)) (bm_rl X 55) = true := bn_inT (show x + 1 < X.1 by omega) (show X.1 < 2147483648 by omega)
  have i2 : bm_in (nI (x + 2)) (bm_rl X 55) = true := bn_inT (show x + 2 < X.1 by omega) (show X.1 < 2147483648 by omega)
  rw [bb_211_770, bn_add x 1, i1, bn_add x 2, i2]
  simp only [bm_gd_t]
  exact lq_op (op_hold X _ _) hR (by omega) _ hK
theorem lq_797 (X : bm_X) (hL : X.1 ≤ 3072) {x : Nat} {σ : bm_M} (hx : x + 6 ≤ X.1) (hR : ab_R (10 * x) σ) (hK : lq_K X x) : lq_E (bm_ev X 211 797 [.ref 55, .ref 0, .ref 45, .int (nI x)] [] σ) := by
  have i1 : bm_in (nI (x + 1)) (bm_rl X 55) = true := bn_inT (show x + 1 < X.1 by omega) (show X.1 < 2147483648 by omega)
  have i2 : bm_in (nI (x + 2)) (bm_rl X 55) = true := bn_inT (show x + 2 < X.1 by omega) (show X.1 < 2147483648 by omega)
  rw [bb_211_797, bn_add x 1, i1, bn_add x 2, i2]
  simp only [bm_gd_t]
  exact lq_op (op_as X _ _) hR (by omega) _ hK
theorem lq_824 (X : bm_X) (hL : X.1 ≤ 3072) {x : Nat} {σ : bm_M} (hx : x + 6 ≤ X.1) (hR : ab_R (10 * x) σ) (hK : lq_K X x) : lq_E (bm_ev X 211 824 [.ref 55, .ref 0, .ref 45, .int (nI x)] [] σ) := by
  have i1 : bm_in (nI (x + 1)) (bm_rl X 55) = true := bn_inT (show x + 1 < X.1 by omega) (show X.1 < 2147483648 by omega)
  have i2 : bm_in (nI (x + 2)) (bm_rl X 55) = true := bn_inT (show x + 2 < X.1 by omega) (show X.1 < 2147483648 by omega)
  have i3 : bm_in (nI (x + 3)) (bm_rl X 55) = true := bn_inT (show x + 3 < X.1 by omega) (show X.1 < 2147483648 by omega)
  rw [bb_211_824, bn_add x 1, i1, bn_add x 2, i2, bn_add x 3, i3]
  simp only [bm_gd_t]
  exact lq_op (op_sheet X _ _ _) hR (by omega) _ hK
theorem lq_861 (X : bm_X) (hL : X.1 ≤ 3072) {x : Nat} {σ : bm_M} (hx : x + 6 ≤ X.1) (hR : ab_R (10 * x) σ) (hK : lq_K X x) : lq_E (bm_ev X 211 861 [.ref 55, .ref 0, .ref 45, .int (nI x)] [] σ) := by
  have i1 : bm_in (nI (x + 1)) (bm_rl X 55) = true := bn_inT (show x + 1 < X.1 by omega) (show X.1 < 2147483648 by omega)
  have i2 : bm_in (nI (x + 2)) (bm_rl X 55) = true := bn_inT (show x + 2 < X.1 by omega) (show X.1 < 2147483648 by omega)
  have i3 : bm_in (nI (x + 3)) (bm_rl X 55) = true := bn_inT (show x + 3 < X.1 by omega) (show X.1 < 2147483648 by omega)
  rw [bb_211_861, bn_add x 1, i1, bn_add x 2, i2, bn_add x 3, i3]
  simp only [bm_gd_t]
  exact lq_op (op_write X _ _ _) hR (by omega) _ hK
theorem lq_898 (X : bm_X) (hL : X.1 ≤ 3072) {x : Nat} {σ : bm_M} (hx : x + 6 ≤ X.1) (hR : ab_R (10 * x) σ) (hK : lq_K X x) : lq_E (bm_ev X 211 898 [.ref 55, .ref 0, .ref 45, .int (nI x)] [] σ) := by
  have i1 : bm_in (nI (x + 1)) (bm_rl X 55) = true := bn_inT (show x + 1 < X.1 by omega) (show X.1 < 2147483648 by omega)
  have i2 : bm_in (nI (x + 2)) (bm_rl X 55) = true := bn_inT (show x + 2 < X.1 by omega) (show X.1 < 2147483648 by omega)
  have i3 : bm_in (nI (x + 3)) (bm_rl X 55) = true := bn_inT (show x + 3 < X.1 by omega) (show X.1 < 2147483648 by omega)
  have i4 : bm_in (nI (x + 4)) (bm_rl X 55) = true := bn_inT (show x + 4 < X.1 by omega) (show X.1 < 2147483648 by omega)
  have i5 : bm_in (nI (x + 5)) (bm_rl X 55) = true := bn_inT (show x + 5 < X.1 by omega) (show X.1 < 2147483648 by omega)
  rw [bb_211_898, bn_add x 1, i1, bn_add x 2, i2, bn_add x 3, i3, bn_add x 4, i4, bn_add x 5, i5]
  simp only [bm_gd_t]
  exact lq_op (op_copy X _ _ _ _ _) hR (by omega) _ hK
theorem lq_955 (X : bm_X) (hL : X.1 ≤ 3072) {x : Nat} {σ : bm_M} (hx : x + 6 ≤ X.1) (hR : ab_R (10 * x) σ) (hK : lq_K X x) : lq_E (bm_ev X 211 955 [.ref 55, .ref 0, .ref 45, .int (nI x)] [] σ) := by
  have i1 : bm_in (nI (x + 1)) (bm_rl X 55) = true := bn_inT (show x + 1 < X.1 by omega) (show X.1 < 2147483648 by omega)
  rw [bb_211_955, bn_add x 1, i1]
  simp only [bm_gd_t]
  exact lq_op (op_load X _) hR (by omega) _ hK
theorem lq_972 (X : bm_X) (hL : X.1 ≤ 3072) {x : Nat} {σ : bm_M} (hx : x + 6 ≤ X.1) (hR : ab_R (10 * x) σ) (hK : lq_K X x) : lq_E (bm_ev X 211 972 [.ref 55, .ref 0, .ref 45, .int (nI x)] [] σ) := by
  have i1 : bm_in (nI (x + 1)) (bm_rl X 55) = true := bn_inT (show x + 1 < X.1 by omega) (show X.1 < 2147483648 by omega)
  rw [bb_211_972, bn_add x 1, i1]
  simp only [bm_gd_t]
  exact lq_op (op_judge X _) hR (by omega) _ hK
theorem lq_989 (X : bm_X) (hL : X.1 ≤ 3072) {x : Nat} {σ : bm_M} (hx : x + 6 ≤ X.1) (hR : ab_R (10 * x) σ) (hK : lq_K X x) : lq_E (bm_ev X 211 989 [.ref 55, .ref 0, .ref 45, .int (nI x)] [] σ) := by
  rw [bb_211_989]
  skip
  exact lq_op (op_image X) hR (by omega) _ hK
theorem lq_996 (X : bm_X) (hL : X.1 ≤ 3072) {x : Nat} {σ : bm_M} (hx : x + 6 ≤ X.1) (hR : ab_R (10 * x) σ) (hK : lq_K X x) : lq_E (bm_ev X 211 996 [.ref 55, .ref 0, .ref 45, .int (nI x)] [] σ) := by
  rw [bb_211_996]
  skip
  exact lq_op (op_undo X) hR (by omega) _ hK
theorem lq_1003 (X : bm_X) (hL : X.1 ≤ 3072) {x : Nat} {σ : bm_M} (hx : x + 6 ≤ X.1) (hR : ab_R (10 * x) σ) (hK : lq_K X x) : lq_E (bm_ev X 211 1003 [.ref 55, .ref 0, .ref 45, .int (nI x)] [] σ) := by
  rw [bb_211_1003]
  skip
  exact lq_op (op_tear X) hR (by omega) _ hK
theorem lq_1010 (X : bm_X) (hL : X.1 ≤ 3072) {x : Nat} {σ : bm_M} (hx : x + 6 ≤ X.1) (hR : ab_R (10 * x) σ) (hK : lq_K X x) : lq_E (bm_ev X 211 1010 [.ref 55, .ref 0, .ref 45, .int (nI x)] [] σ) := by
  have i1 : bm_in (nI (x + 1)) (bm_rl X 55) = true := bn_inT (show x + 1 < X.1 by omega) (show X.1 < 2147483648 by omega)
  rw [bb_211_1010, bn_add x 1, i1]
  simp only [bm_gd_t]
  exact lq_op (op_count X _) hR (by omega) _ hK
theorem lq_1027 (X : bm_X) (hL : X.1 ≤ 3072) {x : Nat} {σ : bm_M} (hx : x + 6 ≤ X.1) (hR : ab_R (10 * x) σ) (hK : lq_K X x) : lq_E (bm_ev X 211 1027 [.ref 55, .ref 0, .ref 45, .int (nI x)] [] σ) := by
  have i1 : bm_in (nI (x + 1)) (bm_rl X 55) = true := bn_inT (show x + 1 < X.1 by omega) (show X.1 < 2147483648 by omega)
  rw [bb_211_1027, bn_add x 1, i1]
  simp only [bm_gd_t]
  exact lq_op (op_status X _) hR (by omega) _ hK
theorem lq_last {X : bm_X} {x : Nat} (h : X.1 < x + 6) (hL : X.1 ≤ 3072) (hx : x ≤ 4000) : decide ((nI (bm_rl X 55) - nI 6) < nI x) = true := by
  have e : bm_rl X 55 = X.1 := rfl
  rw [e]
  apply decide_eq_true
  rw [Int32.lt_iff_toInt_lt, bn_sub_toInt (by omega) (by decide), bn_toInt (by omega)]
  omega
theorem lq_not {X : bm_X} {x : Nat} (h : x + 6 ≤ X.1) (hL : X.1 ≤ 3072) : decide ((nI (bm_rl X 55) - nI 6) < nI x) = false := by
  have e : bm_rl X 55 = X.1 := rfl
  rw [e, bn_sub (by omega), bn_lt (by omega) (by omega)]
  exact decide_eq_false (by omega)

theorem lq_run (X : bm_X) (hL : X.1 ≤ 3072) : ∀ (f x : Nat) (σ : bm_M), X.1 ≤ x + f → x ≤ 4000 → ab_R (10 * x) σ → lq_E (bm_ev X 211 10 [.ref 55, .ref 0, .ref 45, .int (nI x)] [] σ) := by
  intro f
  induction f with
  | zero =>
    intro x σ hf hx hR
    have hlt : decide ((nI (bm_rl X 55) - nI 6) < nI x) = true := lq_last (show X.1 < x + 6 by omega) (by omega) (by omega)
    rw [bb_211_10, hlt, cond_true, bm_bo_1, bm_gd_t]
    exact ⟨σ, rfl⟩
  | succ f ih =>
    intro x σ hf hx4 hR
    by_cases hlt : X.1 < x + 6
    · have hlt' : decide ((nI (bm_rl X 55) - nI 6) < nI x) = true := lq_last hlt (by omega) (by omega)
      rw [bb_211_10, hlt', cond_true, bm_bo_1, bm_gd_t]
      exact ⟨σ, rfl⟩
    · have hx : x + 6 ≤ X.1 := by omega
      have hK : lq_K X x := fun τ hτ => by
        rw [bb_211_1044, bn_add]
        exact ih (x + 6) τ (by omega) (by omega) (by rw [show 10 * (x + 6) = 10 * x + 60 by omega]; exact hτ)
      have hge : decide ((nI (bm_rl X 55) - nI 6) < nI x) = false := lq_not hx (by omega)
      have hin : bm_in (nI x) (bm_rl X 55) = true := bn_inT (show x < X.1 by omega) (show X.1 < 2147483648 by omega)
      rw [bb_211_10, hge, cond_false, hin, bm_gd_t]
      exact lq_if (lq_22 X hL hx hR hK) (lq_if (lq_49 X hL hx hR hK) (lq_if (lq_76 X hL hx hR hK) (lq_if (lq_103 X hL hx hR hK) (lq_if (lq_120 X hL hx hR hK) (lq_if (lq_137 X hL hx hR hK) (lq_if (lq_164 X hL hx hR hK) (lq_if (lq_191 X hL hx hR hK) (lq_if (lq_228 X hL hx hR hK) (lq_if (lq_245 X hL hx hR hK) (lq_if (lq_262 X hL hx hR hK) (lq_if (lq_289 X hL hx hR hK) (lq_if (lq_326 X hL hx hR hK) (lq_if (lq_353 X hL hx hR hK) (lq_if (lq_380 X hL hx hR hK) (lq_if (lq_387 X hL hx hR hK) (lq_if (lq_414 X hL hx hR hK) (lq_if (lq_451 X hL hx hR hK) (lq_if (lq_478 X hL hx hR hK) (lq_if (lq_515 X hL hx hR hK) (lq_if (lq_532 X hL hx hR hK) (lq_if (lq_559 X hL hx hR hK) (lq_if (lq_576 X hL hx hR hK) (lq_if (lq_613 X hL hx hR hK) (lq_if (lq_640 X hL hx hR hK) (lq_if (lq_667 X hL hx hR hK) (lq_if (lq_684 X hL hx hR hK) (lq_if (lq_712 X hL hx hR hK) (lq_if (lq_729 X hL hx hR hK) (lq_if (lq_756 X hL hx hR hK) (lq_if (lq_763 X hL hx hR hK) (lq_if (lq_770 X hL hx hR hK) (lq_if (lq_797 X hL hx hR hK) (lq_if (lq_824 X hL hx hR hK) (lq_if (lq_861 X hL hx hR hK) (lq_if (lq_898 X hL hx hR hK) (lq_if (lq_955 X hL hx hR hK) (lq_if (lq_972 X hL hx hR hK) (lq_if (lq_989 X hL hx hR hK) (lq_if (lq_996 X hL hx hR hK) (lq_if (lq_1003 X hL hx hR hK) (lq_if (lq_1010 X hL hx hR hK) (lq_if (lq_1027 X hL hx hR hK) (lq_end X hR hK)))))))))))))))))))))))))))))))))))))))))))
theorem lq_law (X : bm_X) (hL : X.1 ≤ 3072) {σ : bm_M} (hR : ab_R 0 σ) : lq_E (bm_ev X 211 10 [.ref 55, .ref 0, .ref 45, .int (nI 0)] [] σ) := lq_run X hL X.1 0 σ (by omega) (by omega) hR
