/-! AN HOUR, as numbers -/
def ab_F (o : Nat) (σ τ : bm_M) : Prop := ∀ q, q < o ∨ o + 10 < q → τ q = σ q
theorem ab_F.rf {o : Nat} {σ : bm_M} : ab_F o σ σ := fun _ _ => rfl
theorem ab_F.tr {o : Nat} {σ τ ρ : bm_M} (h : ab_F o σ τ) (h' : ab_F o τ ρ) : ab_F o σ ρ := fun q hq => (h' q hq).trans (h q hq)
theorem ab_F.up {o : Nat} {σ τ : bm_M} (h : ab_F o σ τ) {c : Nat} (hc : c ≤ 10) (i : Nat) (v : Int32) : ab_F o σ (bm_up τ (o + c) i v) := fun q hq => by
  rw [bm_up_ne τ i v (by omega)]
  exact h q hq
def ab_ok (c i v : Nat) : Prop := match c with
  | 0 => match i with
    | 3 => v ≤ 20
    | 4 => v ≤ 99
    | 7 => v ≤ 8
    | _ => True
  | 1 => v ≤ 99
  | 2 => v ≤ 99999
  | 3 => True
  | 4 => v ≤ 6
  | 5 => v ≤ 11
  | 6 => v ≤ 11
  | 7 => v ≤ 9
  | 8 => v ≤ 999
  | 9 => v ≤ 9999
  | _ => v ≤ 1
theorem ab_G_iff {a : ab_T} : ab_G a ↔ ∀ c i, ab_wd c i = true → ab_ok c i (a c i) := by
  constructor
  · intro h c i hw
    obtain ⟨h1, h2, h3, h4, h5, h6⟩ := h
    obtain ⟨c1, c2⟩ := ab_wd_lt hw
    match c, c1, hw with
    | 0, _, hw =>
      simp only [ab_wd, Bool.and_eq_true, decide_eq_true_eq] at hw
      rcases (show i = 3 ∨ i = 4 ∨ i = 5 ∨ i = 6 ∨ i = 7 by omega) with rfl | rfl | rfl | rfl | rfl
      · exact h1
      · exact h2
      · exact trivial
      · exact trivial
      · exact h3
    | 1, _, hw => exact h4 i (of_decide_eq_true hw)
    | 2, _, hw => exact h5 i (of_decide_eq_true hw)
    | 3, _, hw => exact trivial
    | 4, _, hw => exact (h6 i (by simpa [ab_wd] using hw)).1
    | 5, _, hw => exact (h6 i (by simpa [ab_wd] using hw)).2.1
    | 6, _, hw => exact (h6 i (by simpa [ab_wd] using hw)).2.2.1
    | 7, _, hw => exact (h6 i (by simpa [ab_wd] using hw)).2.2.2.1
    | 8, _, hw => exact (h6 i (by simpa [ab_wd] using hw)).2.2.2.2.1
    | 9, _, hw => exact (h6 i (by simpa [ab_wd] using hw)).2.2.2.2.2.1
    | 10, _, hw => exact (h6 i (by simpa [ab_wd] using hw)).2.2.2.2.2.2
  · intro h
    exact ⟨h 0 3 rfl, h 0 4 rfl, h 0 7 rfl, fun i hi => h 1 i (ab_w1 hi), fun i hi => h 2 i (ab_w2 hi), fun i hi => ⟨h 4 i (ab_w8 (by decide) (by decide) hi), h 5 i (ab_w8 (by decide) (by decide) hi), h 6 i (ab_w8 (by decide) (by decide) hi), h 7 i (ab_w8 (by decide) (by decide) hi), h 8 i (ab_w8 (by decide) (by decide) hi), h 9 i (ab_w8 (by decide) (by decide) hi), h 10 i (ab_w8 (by decide) (by decide) hi)⟩⟩
theorem ab_G.set {a : ab_T} (h : ab_G a) {c i v : Nat} (hv : ab_ok c i v) : ab_G (ab_set a c i v) := by
  rw [ab_G_iff] at h ⊢
  intro c' i' hw
  by_cases e : c' = c ∧ i' = i
  · obtain ⟨rfl, rfl⟩ := e
    rw [ab_set_self]
    exact hv
  · rw [ab_set_ne a v e]
    exact h c' i' hw
/-- a cow rings and eats -/
def ab_sp1 (a : ab_T) (k : Nat) : ab_T := if a 10 k = 0 then ab_set a 9 k (min 9999 (a 9 k + ab_rings a k)) else a
def ab_sp2 (a : ab_T) (k : Nat) : ab_T := ab_set a 1 (a 5 k) (a 1 (a 5 k) - ab_eats a k)
def ab_wan (a : ab_T) (k : Nat) : ab_T := ab_set a 5 k ((a 5 k + 1) % 12)
def ab_wea (a : ab_T) (k : Nat) : ab_T := ab_set a 8 k (min 999 (a 8 k + 1))
/-- there is less than it eats -/
def ab_sh (a : ab_T) (k : Nat) : Bool := decide (a 1 (a 5 k) < ab_eats a k)
def ab_spend (a : ab_T) (k : Nat) : ab_T := ab_wea (if ab_sh a k = true then ab_wan (ab_sp2 (ab_sp1 a k) k) k else ab_sp2 (ab_sp1 a k) k) k
theorem ab_sp1_ne (a : ab_T) (k c i : Nat) (h : c ≠ 9) : ab_sp1 a k c i = a c i := by
  unfold ab_sp1
  split
  · exact ab_set_nc a _ h
  · rfl
theorem ab_eats_sp1 (a : ab_T) (k : Nat) : ab_eats (ab_sp1 a k) k = ab_eats a k := by
  unfold ab_eats
  rw [ab_sp1_ne a k 4 k (by decide)]
theorem ab_eats_le (a : ab_T) (k : Nat) : ab_eats a k ≤ 5 := by
  unfold ab_eats
  repeat' split
  all_goals omega
theorem ab_rings_le {a : ab_T} (hG : ab_G a) {k : Nat} (hk : k < 8) : ab_rings a k ≤ 40 := by
  obtain ⟨b4, b5, b6, b7, b8, b9, b10⟩ := hG.2.2.2.2.2 k hk
  have b1 := hG.2.2.2.1 (a 5 k) (by omega)
  have bt := hG.2.1
  unfold ab_rings ab_plain
  repeat' split
  all_goals omega
theorem ab_gives_le {a : ab_T} (hG : ab_G a) {k : Nat} (hk : k < 8) : ab_gives a k ≤ 3752 := by
  obtain ⟨b4, b5, b6, b7, b8, b9, b10⟩ := hG.2.2.2.2.2 k hk
  unfold ab_gives
  repeat' split
  all_goals omega
theorem ab_G.sp1 {a : ab_T} (h : ab_G a) (k : Nat) : ab_G (ab_sp1 a k) := by
  unfold ab_sp1
  split
  · exact h.set (Nat.min_le_left _ _)
  · exact h
theorem ab_G.sp2 {a : ab_T} (h : ab_G a) {k : Nat} (hk : k < 8) : ab_G (ab_sp2 a k) := by
  have b5 := (h.2.2.2.2.2 k hk).2.1
  have b1 := h.2.2.2.1 (a 5 k) (by omega)
  exact h.set (show _ ≤ 99 by omega)
theorem ab_G.wan {a : ab_T} (h : ab_G a) (k : Nat) : ab_G (ab_wan a k) := h.set (show _ ≤ 11 by omega)
theorem ab_G.wea {a : ab_T} (h : ab_G a) (k : Nat) : ab_G (ab_wea a k) := h.set (Nat.min_le_left _ _)
theorem ab_G.spend {a : ab_T} (h : ab_G a) {k : Nat} (hk : k < 8) : ab_G (ab_spend a k) := by
  unfold ab_spend
  split
  · exact (((h.sp1 k).sp2 hk).wan k).wea k
  · exact ((h.sp1 k).sp2 hk).wea k
theorem ab_spend_0 (a : ab_T) (k i : Nat) : ab_spend a k 0 i = a 0 i := by
  unfold ab_spend ab_wea
  rw [ab_set_nc _ _ (by decide)]
  split
  · unfold ab_wan
    rw [ab_set_nc _ _ (by decide)]
    unfold ab_sp2
    rw [ab_set_nc _ _ (by decide), ab_sp1_ne a k 0 i (by decide)]
  · unfold ab_sp2
    rw [ab_set_nc _ _ (by decide), ab_sp1_ne a k 0 i (by decide)]
/-- the first n of them -/
def ab_sp (a : ab_T) : Nat → ab_T
  | 0 => a
  | n + 1 => ab_spend (ab_sp a n) n
def ab_wn (a : ab_T) : Nat → Bool
  | 0 => false
  | n + 1 => ab_wn a n || ab_sh (ab_sp a n) n
theorem ab_G.sp {a : ab_T} (h : ab_G a) : ∀ n, n ≤ 8 → ab_G (ab_sp a n)
  | 0, _ => h
  | n + 1, hn => (h.sp n (by omega)).spend (by omega)
theorem ab_sp_0 (a : ab_T) (i : Nat) : ∀ n, ab_sp a n 0 i = a 0 i
  | 0 => rfl
  | n + 1 => by rw [ab_sp, ab_spend_0, ab_sp_0 a i n]
/-- grass of the first n grows -/
def ab_gr (a : ab_T) : Nat → ab_T
  | 0 => a
  | n + 1 => ab_set (ab_gr a n) 1 n (min 99 (ab_gr a n 1 n + ab_gr a n 0 3))
theorem ab_G.gr {a : ab_T} (h : ab_G a) : ∀ n, ab_G (ab_gr a n)
  | 0 => h
  | n + 1 => (h.gr n).set (Nat.min_le_left _ _)
theorem ab_gr_ne (a : ab_T) (c i : Nat) (h : c ≠ 1) : ∀ n, ab_gr a n c i = a c i
  | 0 => rfl
  | n + 1 => by rw [ab_gr, ab_set_nc _ _ h, ab_gr_ne a c i h n]
/-- milk comes into a pail -/
def ab_fill (a : ab_T) (t v : Nat) : ab_T := ab_set a 2 t (min 99999 (a 2 t + v))
def ab_left (a : ab_T) (k : Nat) : Nat := ab_gives a k - ab_gives a k * a 0 4 / 100
def ab_b (a : ab_T) (k : Nat) : Nat := ab_bes a k 0 (a 0 7)
def ab_mk1 (a : ab_T) (k : Nat) : ab_T :=
  if ab_b a k < a 0 7 then ab_set (ab_fill (ab_fill a ((a 6 k + a 6 (ab_b a k)) % 12) (ab_left a k / 3)) (a 6 k) (ab_left a k - ab_left a k / 3)) 9 k 0
  else ab_set (ab_fill a (a 6 k) (ab_left a k)) 9 k 0
def ab_mk (a : ab_T) : Nat → ab_T
  | 0 => a
  | n + 1 => ab_mk1 (ab_mk a n) n
theorem ab_G.fill {a : ab_T} (h : ab_G a) (t v : Nat) : ab_G (ab_fill a t v) := h.set (Nat.min_le_left _ _)
theorem ab_G.mk1 {a : ab_T} (h : ab_G a) (k : Nat) : ab_G (ab_mk1 a k) := by
  unfold ab_mk1
  split
  · exact ((h.fill _ _).fill _ _).set (Nat.zero_le _)
  · exact (h.fill _ _).set (Nat.zero_le _)
theorem ab_G.mk {a : ab_T} (h : ab_G a) : ∀ n, ab_G (ab_mk a n)
  | 0 => h
  | n + 1 => (h.mk n).mk1 n
theorem ab_mk1_ne (a : ab_T) (k c i : Nat) (h2 : c ≠ 2) (h9 : c ≠ 9) : ab_mk1 a k c i = a c i := by
  unfold ab_mk1 ab_fill
  split
  · rw [ab_set_nc _ _ h9, ab_set_nc _ _ h2, ab_set_nc _ _ h2]
  · rw [ab_set_nc _ _ h9, ab_set_nc _ _ h2]
theorem ab_mk_ne (a : ab_T) (c i : Nat) (h2 : c ≠ 2) (h9 : c ≠ 9) : ∀ n, ab_mk a n c i = a c i
  | 0 => rfl
  | n + 1 => by rw [ab_mk, ab_mk1_ne _ _ _ _ h2 h9, ab_mk_ne a c i h2 h9 n]
def ab_tick (a : ab_T) : ab_T := ab_set a 0 5 (a 0 5 + 1)
/-- an hour goes by -/
def ab_hr (a : ab_T) : ab_T := if (a 0 5 + 1) % 6 = 0 then ab_mk (ab_tick (ab_gr (ab_sp a (a 0 7)) 12)) (a 0 7) else ab_tick (ab_gr (ab_sp a (a 0 7)) 12)
def ab_wand (a : ab_T) : Bool := ab_wn a (a 0 7)
def ab_hs (a : ab_T) : Nat → ab_T
  | 0 => a
  | n + 1 => ab_hr (ab_hs a n)
theorem ab_G.tick {a : ab_T} (h : ab_G a) : ab_G (ab_tick a) := h.set trivial
theorem ab_G.hr {a : ab_T} (h : ab_G a) : ab_G (ab_hr a) := by
  have hc := h.2.2.1
  unfold ab_hr
  split
  · exact (((h.sp _ hc).gr 12).tick).mk _
  · exact ((h.sp _ hc).gr 12).tick
theorem ab_G.hs {a : ab_T} (h : ab_G a) : ∀ n, ab_G (ab_hs a n)
  | 0 => h
  | n + 1 => (h.hs n).hr
theorem ab_hr_0 (a : ab_T) (i : Nat) : ab_hr a 0 i = if i = 5 then a 0 5 + 1 else a 0 i := by
  have h1 : ab_tick (ab_gr (ab_sp a (a 0 7)) 12) 0 i = if i = 5 then a 0 5 + 1 else a 0 i := by
    unfold ab_tick
    by_cases e : i = 5
    · subst e
      rw [ab_set_self, ab_gr_ne _ _ _ (by decide), ab_sp_0, if_pos rfl]
    · rw [ab_set_ni _ _ e, ab_gr_ne _ _ _ (by decide), ab_sp_0, if_neg e]
  unfold ab_hr
  split
  · rw [ab_mk_ne _ _ _ (by decide) (by decide)]
    exact h1
  · exact h1
theorem ab_hs_hour (a : ab_T) : ∀ n, ab_hs a n 0 5 = a 0 5 + n
  | 0 => rfl
  | n + 1 => by rw [ab_hs, ab_hr_0, if_pos rfl, ab_hs_hour a n]; omega
theorem ab_hs_0 (a : ab_T) {i : Nat} (h : i ≠ 5) : ∀ n, ab_hs a n 0 i = a 0 i
  | 0 => rfl
  | n + 1 => by rw [ab_hs, ab_hr_0, if_neg h, ab_hs_0 a h n]
theorem ab_bes_le (a : ab_T) (k : Nat) : ∀ n j, j ≤ ab_bes a k j n ∧ ab_bes a k j n ≤ j + n := by
  intro n
  induction n with
  | zero => intro j; exact ⟨Nat.le_refl _, Nat.le_refl _⟩
  | succ n ih =>
    intro j
    simp only [ab_bes]
    split
    · omega
    · have := ih (j + 1)
      omega
