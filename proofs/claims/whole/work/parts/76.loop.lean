/-! TEXTS: items one after the other -/
def tx_gd (T : Nat) (a : ab_T) : Prop := ab_G a ∧ ab_P a ∧ a 0 5 ≤ T
theorem tx_gd.set {T : Nat} {a : ab_T} (h : tx_gd T a) {c i v : Nat} (h3 : c ≠ 3) (h7 : ¬ (c = 0 ∧ i = 7)) (h5 : ¬ (c = 0 ∧ i = 5)) (hv : ab_ok c i v) : tx_gd T (ab_set a c i v) :=
  ⟨h.1.set hv, h.2.1.set v h3 h7, by rw [ab_set_ne a v (by omega)]; exact h.2.2⟩
def tx_rg (T n b : Nat) (r : Bool × Nat × ab_T) : Prop := tx_gd T r.2.2 ∧ b ≤ r.2.1 ∧ r.2.1 ≤ n
theorem tk_ok_le {t : Nat → Nat} {n b hi : Nat} (h : tk_ok t n b hi = true) : tk_v t n b ≤ hi := by
  unfold tk_ok at h
  rw [Bool.and_eq_true, decide_eq_true_eq, decide_eq_true_eq] at h
  exact h.2
theorem tx_opt_rg {T : Nat} (t : Nat → Nat) {n w c k hi b : Nat} {a : ab_T} (hb : b ≤ n) (h : tx_gd T a) (hc : 5 ≤ c) (hv : ∀ v, v ≤ hi → ab_ok c k v) : tx_rg T n b (tx_opt t n w c k hi b a) := by
  have l1 := tk_nx_le t hb
  have l2 := tk_nx_le t l1.2
  unfold tx_opt
  cases tk_wd t n b w
  · exact ⟨h, Nat.le_refl _, hb⟩
  · cases g : tk_ok t n (tk_nx t n b) hi
    · exact ⟨h, l1.1, l1.2⟩
    · exact ⟨h.set (by omega) (by omega) (by omega) (hv _ (tk_ok_le g)), Nat.le_trans l1.1 l2.1, l2.2⟩
theorem tx_then_rg {T n b : Nat} {r : Bool × Nat × ab_T} {f : Nat → ab_T → Bool × Nat × ab_T} (h : tx_rg T n b r) (hf : ∀ b' a', b' ≤ n → tx_gd T a' → tx_rg T n b' (f b' a')) : tx_rg T n b (tx_then r f) := by
  unfold tx_then
  cases r.1
  · exact h
  · have := hf r.2.1 r.2.2 h.2.2 h.1
    exact ⟨this.1, Nat.le_trans h.2.1 this.2.1, this.2.2⟩
theorem tx_muf_rg {T : Nat} (t : Nat → Nat) {n k b : Nat} {a : ab_T} (hb : b ≤ n) (h : tx_gd T a) : tx_rg T n b (tx_muf t n k b a) := by
  have l1 := tk_nx_le t hb
  unfold tx_muf
  cases tk_wd t n b 70
  · exact ⟨h, Nat.le_refl _, hb⟩
  · exact ⟨h.set (by decide) (by omega) (by omega) (show 1 ≤ 1 by decide), l1.1, l1.2⟩
theorem tx_rg.low {T n b b' : Nat} {r : Bool × Nat × ab_T} (h : tx_rg T n b' r) (hb : b ≤ b') : tx_rg T n b r := ⟨h.1, Nat.le_trans hb h.2.1, h.2.2⟩
theorem tx_gd.add {T : Nat} {a : ab_T} (h : tx_gd T a) {kd : Nat} (hk : kd ≤ 6) (hn : a 0 7 < 8) : tx_gd T (ab_add a kd 0) := ⟨h.1.add hk (by decide) hn, h.2.1.add kd 0, h.2.2⟩
theorem tx_cow_rg {T : Nat} (t : Nat → Nat) {n kd b : Nat} {a : ab_T} (hb : b ≤ n) (h : tx_gd T a) (hk : kd ≤ 6) : tx_rg T n b (tx_cow t n kd b a) := by
  have l1 := tk_nx_le t hb
  unfold tx_cow
  by_cases c : a 0 7 < 8
  · rw [decide_eq_true c, cond_true]
    refine tx_rg.low ?_ l1.1
    refine tx_then_rg (tx_opt_rg t l1.2 (h.add hk c) (by decide) (fun v q => q)) (fun b1 a1 q1 g1 => ?_)
    refine tx_then_rg (tx_opt_rg t q1 g1 (by decide) (fun v q => q)) (fun b2 a2 q2 g2 => ?_)
    refine tx_then_rg (tx_opt_rg t q2 g2 (by decide) (fun v q => q)) (fun b3 a3 q3 g3 => ?_)
    exact tx_muf_rg t q3 g3
  · rw [decide_eq_false c, cond_false]
    exact ⟨h, Nat.le_refl _, hb⟩
theorem tx_grass_rg {T : Nat} (t : Nat → Nat) {n b : Nat} {a : ab_T} (hb : b ≤ n) (h : tx_gd T a) : tx_rg T n b (tx_grass t n b a) := by
  have l1 := tk_nx_le t hb
  have l2 := tk_nx_le t l1.2
  have l3 := tk_nx_le t l2.2
  unfold tx_grass
  cases g1 : tk_ok t n (tk_nx t n b) 11
  · exact ⟨h, l1.1, l1.2⟩
  · cases g2 : tk_ok t n (tk_nx t n (tk_nx t n b)) 99
    · exact ⟨h, Nat.le_trans l1.1 l2.1, l2.2⟩
    · exact ⟨h.set (by decide) (by omega) (by omega) (show _ ≤ 99 from tk_ok_le g2), Nat.le_trans l1.1 (Nat.le_trans l2.1 l3.1), l3.2⟩
theorem tx_set0_rg {T : Nat} (t : Nat → Nat) {n i hi b : Nat} {a : ab_T} (hb : b ≤ n) (h : tx_gd T a) (h5 : i ≠ 5) (h7 : i ≠ 7) (hv : ∀ v, v ≤ hi → ab_ok 0 i v) : tx_rg T n b (tx_set0 t n i hi b a) := by
  have l1 := tk_nx_le t hb
  have l2 := tk_nx_le t l1.2
  unfold tx_set0
  cases g1 : tk_ok t n (tk_nx t n b) hi
  · exact ⟨h, l1.1, l1.2⟩
  · exact ⟨h.set (by decide) (by omega) (by omega) (hv _ (tk_ok_le g1)), Nat.le_trans l1.1 l2.1, l2.2⟩
theorem tx_item_rg {T : Nat} (t : Nat → Nat) {n b : Nat} {a : ab_T} (hb : b ≤ n) (h : tx_gd T a) : tx_rg T n b (tx_item t n b a) := by
  unfold tx_item
  by_cases c : tx_kd t n b < 7
  · rw [decide_eq_true c, cond_true]
    exact tx_cow_rg t hb h (by omega)
  · rw [decide_eq_false c, cond_false]
    cases tk_wd t n b 71
    · cases tk_wd t n b 72
      · cases tk_wd t n b 73
        · exact ⟨h, Nat.le_refl _, hb⟩
        · exact tx_set0_rg t hb h (by decide) (by decide) (fun v q => q)
      · exact tx_set0_rg t hb h (by decide) (by decide) (fun v q => q)
    · exact tx_grass_rg t hb h
def tx_loop (t : Nat → Nat) (n : Nat) : Nat → Nat → ab_T → Nat → Bool × Nat × ab_T × Nat
  | 0, b, a, c => (false, b, a, c)
  | f + 1, b, a, c => bif (tx_item t n b a).1 then (bif decide (tk_k t n (tx_item t n b a).2.1 = 3) then tx_loop t n f (tk_nx t n (tx_item t n b a).2.1) (tx_item t n b a).2.2 (c + 1) else (decide (tk_k t n (tx_item t n b a).2.1 = 0), (tx_item t n b a).2.1, (tx_item t n b a).2.2, c + 1)) else (false, (tx_item t n b a).2.1, (tx_item t n b a).2.2, c)
theorem tx_loop_gd {T : Nat} (t : Nat → Nat) {n : Nat} : ∀ f b a c, b ≤ n → tx_gd T a → tx_gd T (tx_loop t n f b a c).2.2.1
  | 0, b, a, c, hb, h => h
  | f + 1, b, a, c, hb, h => by
    have r := tx_item_rg t hb h
    rw [tx_loop]
    cases (tx_item t n b a).1
    · exact r.1
    · rw [cond_true]
      cases decide (tk_k t n (tx_item t n b a).2.1 = 3)
      · exact r.1
      · exact tx_loop_gd t f _ _ _ (tk_nx_le t r.2.2).2 r.1
theorem tk_k0 (t : Nat → Nat) {n b : Nat} (h : b ≤ n) : tk_k t n b = 0 ↔ b = n := by
  unfold tk_k
  by_cases c : b < n
  · rw [if_pos c]
    constructor
    · intro q
      split at q
      · omega
      · split at q
        · omega
        · split at q <;> omega
    · omega
  · rw [if_neg c]
    omega
theorem tk_e3 (t : Nat → Nat) {n b : Nat} (h : tk_k t n b = 3) : tk_e t n b = b + 1 := by
  unfold tk_e
  rw [h]
  rfl
theorem tk_wd74 (t : Nat → Nat) {n b : Nat} (hb : b ≤ n) : tk_wd t n b 74 = decide (tk_k t n b = 3) := by
  have hl : tw_l 74 = 1 := by decide +kernel
  have hc : tw_c 74 0 = 59 := by decide +kernel
  have hs : tk_wd t n b 74 = (bif decide (tk_e t n b - b = 1) then (bif decide (t b = 59) then true else false) else false) := by
    unfold tk_wd
    rw [hl, tk_same, tk_same, hc, Nat.add_zero]
  rw [hs]
  by_cases c : tk_k t n b = 3
  · have e := tk_e3 t c
    have z : t b = 59 := by
      unfold tk_k at c
      split at c
      · split at c
        · omega
        · split at c
          · omega
          · split at c
            · assumption
            · omega
      · omega
    rw [decide_eq_true (show tk_e t n b - b = 1 by omega), decide_eq_true z, decide_eq_true c]
    rfl
  · rw [decide_eq_false c]
    by_cases e : tk_e t n b - b = 1
    · by_cases z : t b = 59
      · exfalso
        apply c
        have le := tk_e_le t hb
        have lt : b < n := by omega
        unfold tk_k
        rw [if_pos lt, z]
        rfl
      · rw [decide_eq_false z, decide_eq_true e]
        rfl
    · rw [decide_eq_false e]
      rfl
