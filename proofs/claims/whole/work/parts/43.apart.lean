/-! EACH COW APART: what comes into a pail is a sum -/
theorem ab_oth_cg {a b : ab_T} (h : ∀ i, a 5 i = b 5 i) (k : Nat) : ∀ n, ab_oth a k n = ab_oth b k n
  | 0 => rfl
  | n + 1 => by rw [ab_oth, ab_oth, ab_oth_cg h k n, h n, h k]
theorem ab_bes_cg {a b : ab_T} (h5 : ∀ i, a 5 i = b 5 i) (h6 : ∀ i, a 6 i = b 6 i) (k : Nat) : ∀ n j, ab_bes a k j n = ab_bes b k j n
  | 0, j => rfl
  | n + 1, j => by rw [ab_bes, ab_bes, ab_bes_cg h5 h6 k n, h5 j, h5 k, h6 j, h6 k]
/-- alike for this one; there is no less thunder, of the same ten -/
def ab_Q (k : Nat) (a b : ab_T) : Prop := (∀ c i, c ≠ 2 → c ≠ 9 → c ≠ 10 → ¬ (c = 0 ∧ i = 4) → a c i = b c i) ∧ a 9 k = b 9 k ∧ a 10 k = b 10 k ∧ a 0 4 / 10 = b 0 4 / 10 ∧ b 0 4 ≤ a 0 4
theorem ab_Q.eq {k : Nat} {a b : ab_T} (h : ab_Q k a b) {c i : Nat} (hc : c ≠ 2 ∧ c ≠ 9 ∧ c ≠ 10 ∧ ¬ (c = 0 ∧ i = 4)) : a c i = b c i := h.1 c i hc.1 hc.2.1 hc.2.2.1 hc.2.2.2
theorem ab_Q.set {k : Nat} {a b : ab_T} (h : ab_Q k a b) {c i v : Nat} (hn : ¬ (c = 0 ∧ i = 4)) : ab_Q k (ab_set a c i v) (ab_set b c i v) := by
  obtain ⟨h1, h2, h3, h4, h5⟩ := h
  refine ⟨fun c' i' n2 n9 n10 n4 => ?_, ?_, ?_, ?_, ?_⟩
  · unfold ab_set
    split
    · rfl
    · exact h1 c' i' n2 n9 n10 n4
  · unfold ab_set
    split
    · rfl
    · exact h2
  · unfold ab_set
    split
    · rfl
    · exact h3
  · rw [ab_set_ne a v (by omega), ab_set_ne b v (by omega)]; exact h4
  · rw [ab_set_ne a v (by omega), ab_set_ne b v (by omega)]; exact h5
theorem ab_Q.rings {k : Nat} {a b : ab_T} (h : ab_Q k a b) (j : Nat) : ab_rings a j = ab_rings b j := by
  have e4 : a 4 j = b 4 j := h.eq (by omega)
  have e5 : a 5 j = b 5 j := h.eq (by omega)
  have e7 : a 7 j = b 7 j := h.eq (by omega)
  have e8 : a 8 j = b 8 j := h.eq (by omega)
  have e0 : a 0 7 = b 0 7 := h.eq (by omega)
  have e1 : a 1 (b 5 j) = b 1 (b 5 j) := h.eq (by omega)
  have eo : ∀ n, ab_oth a j n = ab_oth b j n := ab_oth_cg (fun i => h.eq (by omega)) j
  have et := h.2.2.2.1
  unfold ab_rings ab_plain
  rw [e4, e5, e7, e8, e0, e1, eo, et]
theorem ab_Q.eats {k : Nat} {a b : ab_T} (h : ab_Q k a b) (j : Nat) : ab_eats a j = ab_eats b j := by
  have e4 : a 4 j = b 4 j := h.eq (by omega)
  unfold ab_eats
  rw [e4]
theorem ab_Q.sp1 {k : Nat} {a b : ab_T} (h : ab_Q k a b) (j : Nat) : ab_Q k (ab_sp1 a j) (ab_sp1 b j) := by
  by_cases e : j = k
  · subst e
    unfold ab_sp1
    rw [h.2.2.1, h.2.1, h.rings]
    split
    · exact h.set (by omega)
    · exact h
  · obtain ⟨h1, h2, h3, h4, h5⟩ := h
    have z : ∀ (d : ab_T), ab_sp1 d j 9 k = d 9 k := fun d => by
      unfold ab_sp1
      split
      · exact ab_set_ni d _ (by omega)
      · rfl
    refine ⟨fun c i n2 n9 n10 n4 => ?_, ?_, ?_, ?_, ?_⟩
    · rw [ab_sp1_ne _ _ _ _ n9, ab_sp1_ne _ _ _ _ n9]; exact h1 c i n2 n9 n10 n4
    · rw [z, z]; exact h2
    · rw [ab_sp1_ne _ _ _ _ (by decide), ab_sp1_ne _ _ _ _ (by decide)]; exact h3
    · rw [ab_sp1_ne _ _ _ _ (by decide), ab_sp1_ne _ _ _ _ (by decide)]; exact h4
    · rw [ab_sp1_ne _ _ _ _ (by decide), ab_sp1_ne _ _ _ _ (by decide)]; exact h5
theorem ab_Q.sp2 {k : Nat} {a b : ab_T} (h : ab_Q k a b) (j : Nat) : ab_Q k (ab_sp2 a j) (ab_sp2 b j) := by
  have e5 : a 5 j = b 5 j := h.eq (by omega)
  have e1 : a 1 (b 5 j) = b 1 (b 5 j) := h.eq (by omega)
  unfold ab_sp2
  rw [e5, e1, h.eats]
  exact h.set (by omega)
theorem ab_Q.wan {k : Nat} {a b : ab_T} (h : ab_Q k a b) (j : Nat) : ab_Q k (ab_wan a j) (ab_wan b j) := by
  have e5 : a 5 j = b 5 j := h.eq (by omega)
  unfold ab_wan
  rw [e5]
  exact h.set (by omega)
theorem ab_Q.wea {k : Nat} {a b : ab_T} (h : ab_Q k a b) (j : Nat) : ab_Q k (ab_wea a j) (ab_wea b j) := by
  have e8 : a 8 j = b 8 j := h.eq (by omega)
  unfold ab_wea
  rw [e8]
  exact h.set (by omega)
theorem ab_Q.sh {k : Nat} {a b : ab_T} (h : ab_Q k a b) (j : Nat) : ab_sh a j = ab_sh b j := by
  have e5 : a 5 j = b 5 j := h.eq (by omega)
  have e1 : a 1 (b 5 j) = b 1 (b 5 j) := h.eq (by omega)
  unfold ab_sh
  rw [e5, e1, h.eats]
theorem ab_Q.spend {k : Nat} {a b : ab_T} (h : ab_Q k a b) (j : Nat) : ab_Q k (ab_spend a j) (ab_spend b j) := by
  unfold ab_spend
  rw [h.sh]
  split
  · exact (((h.sp1 j).sp2 j).wan j).wea j
  · exact ((h.sp1 j).sp2 j).wea j
theorem ab_Q.sp {k : Nat} {a b : ab_T} (h : ab_Q k a b) : ∀ n, ab_Q k (ab_sp a n) (ab_sp b n)
  | 0 => h
  | n + 1 => (h.sp n).spend n
theorem ab_Q.gr {k : Nat} {a b : ab_T} (h : ab_Q k a b) : ∀ n, ab_Q k (ab_gr a n) (ab_gr b n)
  | 0 => h
  | n + 1 => by
    have g := h.gr n
    have e1 : ab_gr a n 1 n = ab_gr b n 1 n := g.eq (by omega)
    have e3 : ab_gr a n 0 3 = ab_gr b n 0 3 := g.eq (by omega)
    unfold ab_gr
    rw [e1, e3]
    exact g.set (by omega)
theorem ab_Q.tick {k : Nat} {a b : ab_T} (h : ab_Q k a b) : ab_Q k (ab_tick a) (ab_tick b) := by
  have e5 : a 0 5 = b 0 5 := h.eq (by omega)
  unfold ab_tick
  rw [e5]
  exact h.set (by omega)
theorem ab_mk1_9 (a : ab_T) (k j : Nat) : ab_mk1 a j 9 k = if k = j then 0 else a 9 k := by
  unfold ab_mk1 ab_fill
  by_cases e : k = j
  · subst e
    rw [if_pos rfl]
    split
    · rw [ab_set_self]
    · rw [ab_set_self]
  · rw [if_neg e]
    split
    · rw [ab_set_ni _ _ e, ab_set_nc _ _ (by decide), ab_set_nc _ _ (by decide)]
    · rw [ab_set_ni _ _ e, ab_set_nc _ _ (by decide)]
theorem ab_Q.mk1 {k : Nat} {a b : ab_T} (h : ab_Q k a b) (j : Nat) : ab_Q k (ab_mk1 a j) (ab_mk1 b j) := by
  obtain ⟨h1, h2, h3, h4, h5⟩ := h
  refine ⟨fun c i n2 n9 n10 n4 => ?_, ?_, ?_, ?_, ?_⟩
  · rw [ab_mk1_ne _ _ _ _ n2 n9, ab_mk1_ne _ _ _ _ n2 n9]; exact h1 c i n2 n9 n10 n4
  · rw [ab_mk1_9, ab_mk1_9, h2]
  · rw [ab_mk1_ne _ _ _ _ (by decide) (by decide), ab_mk1_ne _ _ _ _ (by decide) (by decide)]; exact h3
  · rw [ab_mk1_ne _ _ _ _ (by decide) (by decide), ab_mk1_ne _ _ _ _ (by decide) (by decide)]; exact h4
  · rw [ab_mk1_ne _ _ _ _ (by decide) (by decide), ab_mk1_ne _ _ _ _ (by decide) (by decide)]; exact h5
theorem ab_Q.mk {k : Nat} {a b : ab_T} (h : ab_Q k a b) : ∀ n, ab_Q k (ab_mk a n) (ab_mk b n)
  | 0 => h
  | n + 1 => (h.mk n).mk1 n
/-- ahead of a milking -/
def ab_pm (a : ab_T) : ab_T := ab_tick (ab_gr (ab_sp a (a 0 7)) 12)
theorem ab_Q.pm {k : Nat} {a b : ab_T} (h : ab_Q k a b) : ab_Q k (ab_pm a) (ab_pm b) := by
  have e7 : a 0 7 = b 0 7 := h.eq (by omega)
  unfold ab_pm
  rw [e7]
  exact ((h.sp _).gr 12).tick
theorem ab_hr_pm (a : ab_T) : ab_hr a = if (a 0 5 + 1) % 6 = 0 then ab_mk (ab_pm a) (a 0 7) else ab_pm a := rfl
theorem ab_Q.hr {k : Nat} {a b : ab_T} (h : ab_Q k a b) : ab_Q k (ab_hr a) (ab_hr b) := by
  have e7 : a 0 7 = b 0 7 := h.eq (by omega)
  have e5 : a 0 5 = b 0 5 := h.eq (by omega)
  rw [ab_hr_pm, ab_hr_pm, e7, e5]
  split
  · exact h.pm.mk _
  · exact h.pm
theorem ab_Q.hs {k : Nat} {a b : ab_T} (h : ab_Q k a b) : ∀ n, ab_Q k (ab_hs a n) (ab_hs b n)
  | 0 => h
  | n + 1 => (h.hs n).hr
/-- what comes of one cow into one pail -/
def ab_cn (a : ab_T) (k t : Nat) : Nat :=
  if ab_b a k < a 0 7 then (if t = (a 6 k + a 6 (ab_b a k)) % 12 then ab_left a k / 3 else 0) + (if t = a 6 k then ab_left a k - ab_left a k / 3 else 0)
  else if t = a 6 k then ab_left a k else 0
theorem ab_Q.left {k : Nat} {a b : ab_T} (h : ab_Q k a b) : ab_left a k ≤ ab_left b k := by
  have e4 : a 4 k = b 4 k := h.eq (by omega)
  have eg : ab_gives a k = ab_gives b k := by
    unfold ab_gives
    rw [e4, h.2.1]
  unfold ab_left
  rw [eg]
  have := Nat.div_le_div_right (c := 100) (Nat.mul_le_mul_left (ab_gives b k) h.2.2.2.2)
  omega
theorem ab_Q.cn {k : Nat} {a b : ab_T} (h : ab_Q k a b) (t : Nat) : ab_cn a k t ≤ ab_cn b k t := by
  have e7 : a 0 7 = b 0 7 := h.eq (by omega)
  have eb : ab_b a k = ab_b b k := by
    unfold ab_b
    rw [e7]
    exact ab_bes_cg (fun i => h.eq (by omega)) (fun i => h.eq (by omega)) k _ _
  have e6 : ∀ i, a 6 i = b 6 i := fun i => h.eq (by omega)
  have hl := h.left
  unfold ab_cn
  rw [e7, eb, e6, e6]
  repeat' split
  all_goals omega
theorem ab_fill_2 (a : ab_T) (s v t : Nat) : ab_fill a s v 2 t = if t = s then min 99999 (a 2 t + v) else a 2 t := by
  unfold ab_fill
  by_cases e : t = s
  · subst e
    rw [ab_set_self, if_pos rfl]
  · rw [ab_set_ni _ _ e, if_neg e]
theorem ab_mk1_2 (a : ab_T) (k : Nat) {t : Nat} (ht : a 2 t ≤ 99999) : ab_mk1 a k 2 t = min 99999 (a 2 t + ab_cn a k t) := by
  unfold ab_mk1 ab_cn
  by_cases hb : ab_b a k < a 0 7
  · rw [if_pos hb, if_pos hb, ab_set_nc _ _ (by decide), ab_fill_2, ab_fill_2]
    repeat' split
    all_goals omega
  · rw [if_neg hb, if_neg hb, ab_set_nc _ _ (by decide), ab_fill_2]
    repeat' split
    all_goals omega
theorem ab_mk_9 (a : ab_T) (k : Nat) : ∀ n, n ≤ k → ab_mk a n 9 k = a 9 k
  | 0, _ => rfl
  | n + 1, h => by rw [ab_mk, ab_mk1_9, if_neg (by omega), ab_mk_9 a k n (by omega)]
theorem ab_mk_Q (a : ab_T) {k n : Nat} (h : n ≤ k) : ab_Q k (ab_mk a n) a ∧ ab_Q k a (ab_mk a n) := by
  have e : ∀ c i, c ≠ 2 → c ≠ 9 → ab_mk a n c i = a c i := fun c i h2 h9 => ab_mk_ne a c i h2 h9 n
  refine ⟨⟨fun c i n2 n9 _ _ => e c i n2 n9, ab_mk_9 a k n h, e 10 k (by decide) (by decide), ?_, ?_⟩, ⟨fun c i n2 n9 _ _ => (e c i n2 n9).symm, (ab_mk_9 a k n h).symm, (e 10 k (by decide) (by decide)).symm, ?_, ?_⟩⟩
  all_goals rw [e 0 4 (by decide) (by decide)]
  all_goals exact Nat.le_refl _
theorem ab_mk_2 {a : ab_T} (hG : ab_G a) {t : Nat} (ht : t < 12) : ∀ n, ab_mk a n 2 t = min 99999 (a 2 t + ab_sum (fun k => ab_cn a k t) n)
  | 0 => by
    have := hG.2.2.2.2.1 t ht
    show a 2 t = min 99999 (a 2 t + 0)
    omega
  | n + 1 => by
    have hb := (hG.mk n).2.2.2.2.1 t ht
    have q := ab_mk_Q a (Nat.le_refl n)
    have ec : ab_cn (ab_mk a n) n t = ab_cn a n t := Nat.le_antisymm (q.1.cn t) (q.2.cn t)
    rw [ab_mk, ab_mk1_2 _ _ hb, ec, ab_mk_2 hG ht n]
    show _ = min 99999 (a 2 t + (ab_sum (fun k => ab_cn a k t) n + ab_cn a n t))
    omega
theorem ab_pm_2 (a : ab_T) (t : Nat) : ab_pm a 2 t = a 2 t := by
  unfold ab_pm ab_tick
  rw [ab_set_nc _ _ (by decide), ab_gr_ne _ _ _ (by decide)]
  have : ∀ n, ab_sp a n 2 t = a 2 t := by
    intro n
    induction n with
    | zero => rfl
    | succ n ih =>
      rw [ab_sp, ← ih]
      unfold ab_spend ab_wea
      rw [ab_set_nc _ _ (by decide)]
      split
      · unfold ab_wan ab_sp2
        rw [ab_set_nc _ _ (by decide), ab_set_nc _ _ (by decide), ab_sp1_ne _ _ _ _ (by decide)]
      · unfold ab_sp2
        rw [ab_set_nc _ _ (by decide), ab_sp1_ne _ _ _ _ (by decide)]
  exact this _
theorem ab_G.pm {a : ab_T} (h : ab_G a) : ab_G (ab_pm a) := ((h.sp _ h.2.2.1).gr 12).tick
/-- what comes of one cow into one pail, in n hours -/
def ab_w (a : ab_T) (t k : Nat) : Nat → Nat
  | 0 => 0
  | n + 1 => ab_w a t k n + (if (a 0 5 + n + 1) % 6 = 0 then ab_cn (ab_pm (ab_hs a n)) k t else 0)
theorem ab_sum_add (f g : Nat → Nat) : ∀ n, ab_sum (fun k => f k + g k) n = ab_sum f n + ab_sum g n
  | 0 => rfl
  | n + 1 => by
    simp only [ab_sum, ab_sum_add f g n]
    omega
theorem ab_sum_0 : ∀ n, ab_sum (fun _ => 0) n = 0
  | 0 => rfl
  | n + 1 => by simp only [ab_sum, ab_sum_0 n]
theorem ab_sum_cg {f g : Nat → Nat} : ∀ n, (∀ k, k < n → f k = g k) → ab_sum f n = ab_sum g n
  | 0, _ => rfl
  | n + 1, h => by rw [ab_sum, ab_sum, ab_sum_cg n (fun k hk => h k (by omega)), h n (by omega)]
theorem ab_sum_le {f g : Nat → Nat} : ∀ n, (∀ k, k < n → f k ≤ g k) → ab_sum f n ≤ ab_sum g n
  | 0, _ => Nat.le_refl _
  | n + 1, h => by
    have h1 := ab_sum_le n (fun k hk => h k (by omega))
    have h2 := h n (by omega)
    rw [ab_sum, ab_sum]
    omega
/-- a pail is what it was and what came of each -/
theorem ab_hs_2 {a : ab_T} (hG : ab_G a) {t : Nat} (ht : t < 12) : ∀ n, ab_hs a n 2 t = min 99999 (a 2 t + ab_sum (fun k => ab_w a t k n) (a 0 7))
  | 0 => by
    have := hG.2.2.2.2.1 t ht
    show a 2 t = min 99999 (a 2 t + ab_sum (fun _ => 0) (a 0 7))
    rw [ab_sum_0]
    omega
  | n + 1 => by
    have ih := ab_hs_2 hG ht n
    have e7 : ab_hs a n 0 7 = a 0 7 := ab_hs_0 a (by decide) n
    rw [ab_hs, ab_hr_pm, ab_hs_hour, e7]
    by_cases e : (a 0 5 + n + 1) % 6 = 0
    · rw [if_pos e, ab_mk_2 (hG.hs n).pm ht, ab_pm_2, ih]
      have : ab_sum (fun k => ab_w a t k (n + 1)) (a 0 7) = ab_sum (fun k => ab_w a t k n) (a 0 7) + ab_sum (fun k => ab_cn (ab_pm (ab_hs a n)) k t) (a 0 7) := by
        rw [← ab_sum_add]
        refine ab_sum_cg _ (fun k _ => ?_)
        rw [ab_w, if_pos e]
      rw [this]
      omega
    · rw [if_neg e, ab_pm_2, ih]
      have : ab_sum (fun k => ab_w a t k (n + 1)) (a 0 7) = ab_sum (fun k => ab_w a t k n) (a 0 7) := by
        refine ab_sum_cg _ (fun k _ => ?_)
        rw [ab_w, if_neg e, Nat.add_zero]
      rw [this]
theorem ab_Q.w {k : Nat} {a b : ab_T} (h : ab_Q k a b) (t : Nat) : ∀ n, ab_w a t k n ≤ ab_w b t k n
  | 0 => Nat.le_refl _
  | n + 1 => by
    have e5 : a 0 5 = b 0 5 := h.eq (by omega)
    have h1 := h.w t n
    have h2 := (h.hs n).pm.cn t
    rw [ab_w, ab_w, e5]
    split <;> omega
theorem ab_cn_le {a : ab_T} (hG : ab_G a) {k : Nat} (hk : k < 8) (t : Nat) : ab_cn a k t ≤ 3752 := by
  have h1 := ab_gives_le hG hk
  have h2 : ab_left a k ≤ ab_gives a k := Nat.sub_le _ _
  unfold ab_cn
  repeat' split
  all_goals omega
theorem ab_w_le {a : ab_T} (hG : ab_G a) {k : Nat} (hk : k < 8) (t : Nat) : ∀ n, ab_w a t k n ≤ 3752 * ((a 0 5 + n) / 6 - a 0 5 / 6)
  | 0 => Nat.zero_le _
  | n + 1 => by
    have h1 := ab_w_le hG hk t n
    have h2 := ab_cn_le (hG.hs n).pm hk t
    rw [ab_w]
    split
    · rename_i e
      have : (a 0 5 + (n + 1)) / 6 - a 0 5 / 6 = (a 0 5 + n) / 6 - a 0 5 / 6 + 1 := by omega
      rw [this]
      omega
    · rename_i e
      have : (a 0 5 + (n + 1)) / 6 - a 0 5 / 6 = (a 0 5 + n) / 6 - a 0 5 / 6 := by omega
      rw [this]
      omega
