/-! AS A SHEET TELLS: fits, kinds -/
theorem ab_hs_add (a : ab_T) (m : Nat) : ∀ n, ab_hs (ab_hs a m) n = ab_hs a (m + n)
  | 0 => rfl
  | n + 1 => by
    rw [ab_hs, ab_hs_add a m n]
    rfl
def ab_ast (sh : Nat → Int32) (b : ab_T) (st c x : Nat) : Nat → Nat → Bool
  | 0, _ => true
  | f + 1, i => bif (bif decide (sh i = -nI 1) then true else decide (nI (ab_hs b (st * i) c x) = sh i)) then ab_ast sh b st c x f (i + 1) else false
theorem hc_told14 (X : bm_X) {b : ab_T} (hG : ab_G b) {s z st c x : Nat} {sh : Nat → Int32} (hs : s < 4) (hz : z ≤ 40) (hst : st ≤ 6) (hh : b 0 5 + st * z ≤ 99999) (hw : ab_wd c x = true) (hal : x < bm_al (12 + c)) : ∀ (f i : Nat) (σ : bm_M) (u : Value), i + f + 1 = z → σ 41 s = nI z → (∀ i, i < 40 → σ (37 + s) i = sh i) → ab_H 12 σ (ab_hs b (st * i)) → ∃ τ, bm_ev X 174 14 [.ref 0, .int (nI s), .ref (12 + c), .int (nI x), .int (nI st), .int (nI i), u] [] σ = some (.int (bm_bi (ab_ast sh b st c x (f + 1) i)), τ) ∧ ab_F 12 σ τ := by
  intro f
  obtain ⟨wc, wx⟩ := ab_wd_lt hw
  have hx : x < 2147483648 := by
    have := (ab_iy_ly c wc x wx hw).2
    omega
  have a37 : bm_al (37 + s) = 40 := by
    rcases (show s = 0 ∨ s = 1 ∨ s = 2 ∨ s = 3 by omega) with rfl | rfl | rfl | rfl <;> rfl
  induction f with
  | zero =>
    intro i σ u e hsz hsh hH
    have hd : ∀ u, bm_ev X 174 2 [.ref 0, .int (nI s), .ref (12 + c), .int (nI x), .int (nI st), .int (nI i + nI 1), u] [] σ = some (.int (nI 1), σ) := fun u => by
      rw [bb_174_2, bn_inT hs (by decide), bm_gd_t, bn_clamp (by omega), hsz, bn_add, bn_lt (by omega) (by omega), decide_eq_false (by omega), cond_false, bm_bo_1, bm_gd_t]
    refine ⟨σ, ?_, ab_F.rf⟩
    rw [bb_174_14, bn_inT hs (by decide), bm_gd_t, bn_clamp (show s < 2147483648 by omega), a37, bn_inT (by omega) (by decide), bm_gd_t, bn_clamp (show i < 2147483648 by omega), hsh i (by omega), bn_in hx, decide_eq_true hal, bm_gd_t, bn_clamp hx, hH c x hw, hd, bm_bo_0, bm_gd_t]
    unfold ab_ast
    cases decide (sh i = -nI 1)
    · cases decide (nI (ab_hs b (st * i) c x) = sh i) <;> rfl
    · rfl
  | succ f ih =>
    intro i σ u e hsz hsh hH
    have hl : st * (i + 1) ≤ st * z := Nat.mul_le_mul_left st (by omega)
    have hm : st * (i + 1) = st * i + st := Nat.mul_succ st i
    obtain ⟨t, p1, p2, p3⟩ := hc_pass X (Or.inr (Or.inl rfl)) hH (hG.hs (st * i)) (m := st) (by omega) (by rw [ab_hs_hour]; omega)
    rw [ab_hs_add, ← hm] at p2
    have t41 : t 41 s = nI z := by rw [p3 41 (by omega)]; exact hsz
    have t37 : ∀ i, i < 40 → t (37 + s) i = sh i := fun i hi => by rw [p3 (37 + s) (by omega)]; exact hsh i hi
    have hd : ∀ u, ∃ τ, bm_ev X 174 2 [.ref 0, .int (nI s), .ref (12 + c), .int (nI x), .int (nI st), .int (nI i + nI 1), u] [] σ = some (.int (bm_bi (ab_ast sh b st c x (f + 1) (i + 1))), τ) ∧ ab_F 12 σ τ := fun u => by
      obtain ⟨τ, q1, q2⟩ := ih (i + 1) t u (by omega) t41 t37 p2
      refine ⟨τ, ?_, p3.tr q2⟩
      rw [bb_174_2, bn_inT hs (by decide), bm_gd_t, bn_clamp (by omega), hsz, bn_add, bn_lt (by omega) (by omega), decide_eq_true (by omega), cond_true, show decide ((0 : Int32) < nI (i + 1)) = decide (nI 0 < nI (i + 1)) from rfl, bn_lt (by decide) (by omega), decide_eq_true (by omega), cond_true, p1, bm_bV_some, q1]
    obtain ⟨τ, q1, q2⟩ := hd (.int (sh i))
    have un : ab_ast sh b st c x (f + 1 + 1) i = bif (bif decide (sh i = -nI 1) then true else decide (nI (ab_hs b (st * i) c x) = sh i)) then ab_ast sh b st c x (f + 1) (i + 1) else false := rfl
    rw [bb_174_14, bn_inT hs (by decide), bm_gd_t, bn_clamp (show s < 2147483648 by omega), a37, bn_inT (by omega) (by decide), bm_gd_t, bn_clamp (show i < 2147483648 by omega), hsh i (by omega), bn_in hx, decide_eq_true hal, bm_gd_t, bn_clamp hx, hH c x hw, bm_bo_0, bm_gd_t, un]
    cases decide (sh i = -nI 1)
    · rw [cond_false, cond_false]
      cases decide (nI (ab_hs b (st * i) c x) = sh i)
      · exact ⟨σ, rfl, ab_F.rf⟩
      · rw [cond_true, cond_true]
        exact ⟨τ, q1, q2⟩
    · rw [cond_true, cond_true, cond_true]
      exact ⟨τ, q1, q2⟩
theorem hc_told (X : bm_X) {b : ab_T} (hG : ab_G b) {s z st c x : Nat} {sh : Nat → Int32} (hs : s < 4) (hz : z ≤ 40) (hst : st ≤ 6) (hh : b 0 5 + st * z ≤ 99999) (hw : ab_wd c x = true) (hal : x < bm_al (12 + c)) {σ : bm_M} (hsz : σ 41 s = nI z) (hsh : ∀ i, i < 40 → σ (37 + s) i = sh i) (hH : ab_H 12 σ b) : ∃ τ, bm_ev X 174 0 [.ref 0, .int (nI s), .ref (12 + c), .int (nI x), .int (nI st), .null, .null] [] σ = some (.int (bm_bi (ab_ast sh b st c x z 0)), τ) ∧ ab_F 12 σ τ := by
  rw [bb_174_0, bb_174_2, bn_inT hs (by decide), bm_gd_t, bn_clamp (by omega), hsz, bn_lt (by decide) (by omega), decide_eq_false (show ¬ (0 : Int32) < nI 0 by decide), cond_false]
  by_cases e : 0 < z
  · rw [decide_eq_true e, cond_true]
    obtain ⟨f, rfl⟩ : ∃ f, z = f + 1 := ⟨z - 1, by omega⟩
    exact hc_told14 X hG hs hz hst hh hw hal f 0 σ .null (by omega) hsz hsh hH
  · rw [decide_eq_false e, cond_false, bm_bo_1, bm_gd_t]
    have e2 : z = 0 := by omega
    subst e2
    exact ⟨σ, rfl, ab_F.rf⟩
theorem hm_isSol (X : bm_X) {a b : ab_T} (hG : ab_G b) {s z st c x : Nat} {sh : Nat → Int32} (hs : s < 4) (hz : z ≤ 40) (hst : st ≤ 6) (hh : b 0 5 + st * z ≤ 99999) (hw : ab_wd c x = true) : ∀ (f i : Nat) (σ : bm_M) (u : Value) (fl : Bool), i + f = z → σ 52 s = nI z → (∀ i, i < 40 → σ 53 (40 * s + i) = sh i) → ab_S 46 σ (ab_hs b (st * i)) → ab_S 48 σ a → ∃ τ, bm_ev X 194 4 [.ref 45, .int (nI s), .int (nI (ab_ly c x)), .int (nI st), .int (bm_bi fl), .int (nI i), u] [] σ = some (.int (bm_bi (fl && ab_ast sh b st c x f i)), τ) ∧ ab_S 46 τ a ∧ ab_K ab_JL σ τ := by
  intro f
  have hly := ab_ly_lt hw
  induction f with
  | zero =>
    intro i σ u fl e hsz hsh hS hA
    obtain ⟨t, f1, f2, f3, f4⟩ := hm_laysBack X hA
    refine ⟨t, ?_, f2, ab_N.L f4⟩
    rw [bb_194_4, bn_inT hs (by decide), bm_gd_t, bn_clamp (by omega), hsz, bn_lt (by omega) (by omega), decide_eq_false (by omega), cond_false, f1, bm_bV_some, bm_bo_bi, bm_gd_t]
    cases fl <;> rfl
  | succ f ih =>
    intro i σ u fl e hsz hsh hS hA
    have hl : st * (i + 1) ≤ st * z := Nat.mul_le_mul_left st (by omega)
    have hm : st * (i + 1) = st * i + st := Nat.mul_succ st i
    obtain ⟨t, p1, p2, p3⟩ := hm_hours X hS (hG.hs (st * i)) (m := st) (by omega) (by rw [ab_hs_hour]; omega)
    rw [ab_hs_add, ← hm] at p2
    have t52 : t 52 s = nI z := by rw [p3.1 52 (by decide) (by decide)]; exact hsz
    have t53 : ∀ i, i < 40 → t 53 (40 * s + i) = sh i := fun i hi => by rw [p3.1 53 (by decide) (by decide)]; exact hsh i hi
    have tA : ab_S 48 t a := hA.fr (p3.1 48 (by decide) (by decide))
    have nx : ∀ g : Bool, ∃ τ, bm_ev X 194 33 [.ref 45, .int (nI s), .int (nI (ab_ly c x)), .int (nI st), .int (bm_bi fl), .int (nI i), .int (sh i)] [.int (bm_bi g)] σ = some (.int (bm_bi (g && ab_ast sh b st c x f (i + 1))), τ) ∧ ab_S 46 τ a ∧ ab_K ab_JL σ τ := fun g => by
      obtain ⟨τ, q1, q2, q3⟩ := ih (i + 1) t (.int (sh i)) g (by omega) t52 t53 p2 tA
      refine ⟨τ, ?_, q2, p3.L.tr q3⟩
      rw [bb_194_33, p1, bm_bV_some, bn_add, q1]
    obtain ⟨τ0, y1, y2⟩ := nx false
    obtain ⟨τ1, z1, z2⟩ := nx true
    have un : ab_ast sh b st c x (f + 1) i = bif (bif decide (sh i = -nI 1) then true else decide (nI (ab_hs b (st * i) c x) = sh i)) then ab_ast sh b st c x f (i + 1) else false := rfl
    have c30 : bm_ev X 194 30 [.ref 45, .int (nI s), .int (nI (ab_ly c x)), .int (nI st), .int (bm_bi fl), .int (nI i), .int (sh i)] [] σ = some (.int (bm_bi (ab_ast sh b st c x f (i + 1))), τ1) := by
      rw [bb_194_30]
      exact z1
    have c32 : bm_ev X 194 32 [.ref 45, .int (nI s), .int (nI (ab_ly c x)), .int (nI st), .int (bm_bi fl), .int (nI i), .int (sh i)] [] σ = some (.int (bm_bi false), τ0) := by
      rw [bb_194_32]
      exact y1
    have e46 : σ 46 (ab_ly c x) = nI (ab_hs b (st * i) c x) := hS c x hw
    have ecm : decide (sh i = nI (ab_hs b (st * i) c x)) = decide (nI (ab_hs b (st * i) c x) = sh i) := decide_eq_decide.mpr ⟨Eq.symm, Eq.symm⟩
    rw [bb_194_4, bn_inT hs (by decide), bm_gd_t, bn_clamp (show s < 2147483648 by omega), hsz, bn_lt (by omega) (by omega), decide_eq_true (by omega), cond_true, bn_mul, bn_add, bn_inT (by omega) (by decide), bm_gd_t, bn_clamp (show 40 * s + i < 2147483648 by omega), hsh i (by omega), bn_inT hly (by decide), bm_gd_t, bn_clamp (by omega), e46, ecm, c30, c32, bm_cond_bi, un]
    cases fl
    · rw [cond_false, Bool.false_and]
      exact ⟨τ0, rfl, y2⟩
    · rw [cond_true, Bool.true_and]
      cases decide (sh i = -nI 1)
      · rw [cond_false, cond_false]
        cases decide (nI (ab_hs b (st * i) c x) = sh i)
        · exact ⟨τ0, rfl, y2⟩
        · exact ⟨τ1, rfl, z2⟩
      · rw [cond_true, cond_true, cond_true]
        exact ⟨τ1, rfl, z2⟩
theorem hm_isSo (X : bm_X) {a b : ab_T} (hG : ab_G b) {s z st c x : Nat} {sh : Nat → Int32} (hs : s < 4) (hz : z ≤ 40) (hst : st ≤ 6) (hh : b 0 5 + st * z ≤ 99999) (hw : ab_wd c x = true) {σ : bm_M} (hsz : σ 52 s = nI z) (hsh : ∀ i, i < 40 → σ 53 (40 * s + i) = sh i) (hS : ab_S 46 σ b) (hA : ab_S 48 σ a) : ∃ τ, bm_ev X 194 0 [.ref 45, .int (nI s), .int (nI (ab_ly c x)), .int (nI st), .null, .null, .null] [] σ = some (.int (bm_bi (ab_ast sh b st c x z 0)), τ) ∧ ab_S 46 τ a ∧ ab_K ab_JL σ τ := by
  obtain ⟨τ, q1, q2⟩ := hm_isSol X hG hs hz hst hh hw z 0 σ .null true (by omega) hsz hsh hS hA
  refine ⟨τ, ?_, q2⟩
  rw [bb_194_0]
  rw [Bool.true_and] at q1
  exact q1
def ab_acc (P : Nat → Bool) : Nat → Int32
  | 0 => nI 0
  | j + 1 => bif P j then ab_acc P j ||| bm_shl (nI 1) (nI j) else ab_acc P j
theorem hc_set {σ0 : bm_M} {K : Nat} (P : Nat → Bool) (f : Int32 → Nat → bm_M → bm_R) (hf : ∀ x j σ, j < K → ab_F 12 σ0 σ → ∃ τ, f x j σ = f (bif P j then x ||| bm_shl (nI 1) (nI j) else x) (j + 1) τ ∧ ab_F 12 σ0 τ) (hf1 : ∀ x σ, ab_F 12 σ0 σ → f x K σ = some (.int x, σ)) : ∀ (i j : Nat) (σ : bm_M), j + i = K → ab_F 12 σ0 σ → ∃ τ, f (ab_acc P j) j σ = some (.int (ab_acc P K), τ) ∧ ab_F 12 σ0 τ
  | 0, j, σ, e, hF => by
    have e2 : j = K := by omega
    subst e2
    exact ⟨σ, hf1 _ _ hF, hF⟩
  | i + 1, j, σ, e, hF => by
    obtain ⟨t, e1, e2⟩ := hf (ab_acc P j) j σ (by omega) hF
    rw [e1]
    exact hc_set P f hf hf1 i (j + 1) t (by omega) e2
theorem hm_set {a : ab_T} {K : Nat} {Z : bm_M → Prop} (P : Nat → Bool) (g : Int32 → Nat → bm_M → bm_R) (hZ : ∀ σ τ, Z σ → ab_K ab_JL σ τ → Z τ) (hg : ∀ x j σ, j < K → ab_S 46 σ a → Z σ → ∃ τ, g x j σ = g (bif P j then x ||| bm_shl (nI 1) (nI j) else x) (j + 1) τ ∧ ab_S 46 τ a ∧ ab_K ab_JL σ τ) (hg1 : ∀ x σ, ab_S 46 σ a → g x K σ = some (.int x, σ)) : ∀ (i j : Nat) (σ : bm_M), j + i = K → ab_S 46 σ a → Z σ → ∃ τ, g (ab_acc P j) j σ = some (.int (ab_acc P K), τ) ∧ ab_S 46 τ a ∧ ab_K ab_JL σ τ
  | 0, j, σ, e, hS, hz => by
    have e2 : j = K := by omega
    subst e2
    exact ⟨σ, hg1 _ _ hS, hS, ab_K.rf⟩
  | i + 1, j, σ, e, hS, hz => by
    obtain ⟨t, e1, e2, e3⟩ := hg (ab_acc P j) j σ (by omega) hS hz
    obtain ⟨τ, f1, f2, f3⟩ := hm_set P g hZ hg hg1 i (j + 1) t (by omega) e2 (hZ _ _ hz e3)
    exact ⟨τ, by rw [e1]; exact f1, f2, e3.tr f3⟩
