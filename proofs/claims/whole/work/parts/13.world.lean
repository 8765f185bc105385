/-! THE WORLD of the little machine as the heap holds it -/
def bm_cz (ad : Nat → Nat) (fm : Value) : Value → Value
  | .ref k => .ref (ad k)
  | .retAddr _ => fm
  | v => v
def bm_flds (ad : Nat → Nat) (k : Nat) (f : Nat → Int32) : Nat → List Nat → List Value
  | _, [] => []
  | j, d :: ds => (if d = 0 then .int (f j) else .ref (ad (k + d))) :: bm_flds ad k f (j + 1) ds
def bm_cell (ad : Nat → Nat) (cI cJ : ClassId) (k : Nat) (f : Nat → Int32) : va_E :=
  if bm_oc k = 0 then
    if k = 36 then .inl (cJ, 4, .inr (.inr (.inr (.inr (fun i => if i < 4 then some (ad (37 + i)) else none)))))
    else .inl (cI, bm_al k, .inl f)
  else .inr (bm_oc k - 1, bm_flds ad k f 0 (bm_fs (bm_oc k - 1)))
def bm_ws (ad : Nat → Nat) (cI cJ : ClassId) (σ : bm_M) : va_W := (List.range 55).map (fun k => (ad k, bm_cell ad cI cJ k (σ k)))
theorem bm_ws_at {ad : Nat → Nat} {cI cJ : ClassId} {σ : bm_M} {k : Nat} (hk : k < 55) : (bm_ws ad cI cJ σ)[k]? = some (ad k, bm_cell ad cI cJ k (σ k)) := by
  simp [bm_ws, hk]
theorem bm_ws_get {ad : Nat → Nat} {cI cJ : ClassId} {σ : bm_M} {k : Nat} : (bm_ws ad cI cJ σ)[k]? = if k < 55 then some (ad k, bm_cell ad cI cJ k (σ k)) else none := by
  by_cases h : k < 55
  · rw [if_pos h, bm_ws_at h]
  · rw [if_neg h]
    simp [bm_ws]
    omega
theorem bm_ws_set {ad : Nat → Nat} {cI cJ : ClassId} {σ τ : bm_M} {k : Nat} {y : Nat × va_E} (hy : y = (ad k, bm_cell ad cI cJ k (τ k))) (ho : ∀ j, j ≠ k → τ j = σ j) : (bm_ws ad cI cJ σ).set k y = bm_ws ad cI cJ τ := by
  apply List.ext_getElem?
  intro j
  rw [List.getElem?_set, bm_ws_get, bm_ws_get]
  by_cases e : k = j
  · subst e
    by_cases h : k < 55
    · simp [h, hy, bm_ws]
    · simp [h, bm_ws]
  · rw [if_neg e, ho j (fun q => e q.symm)]
theorem bm_nth_out : ∀ (l : List Nat) (k : Nat), l.length ≤ k → bm_nth l k = 0
  | [], _, _ => rfl
  | _ :: l, 0, h => by simp at h
  | _ :: l, k + 1, h => bm_nth_out l k (by simpa using h)
theorem bm_al_in {k : Nat} (h : bm_al k ≠ 0) : k < 55 ∧ bm_oc k = 0 ∧ k ≠ 36 := by
  have hk : k < 55 := by
    rcases Nat.lt_or_ge k 55 with q | q
    · exact q
    · exact absurd (show bm_al k = 0 from bm_nth_out _ k q) h
  refine ⟨hk, ?_⟩
  have : ∀ k, k < 55 → bm_al k ≠ 0 → bm_oc k = 0 ∧ k ≠ 36 := by decide +kernel
  exact this k hk h
theorem bm_oc_in {k c : Nat} (h : bm_oc k = c) (hc : 1 ≤ c) : k < 55 := by
  rcases Nat.lt_or_ge k 55 with q | q
  · exact q
  · have : bm_oc k = 0 := bm_nth_out _ k q
    omega
theorem bm_oc_le (k : Nat) : bm_oc k ≤ 4 := by
  rcases Nat.lt_or_ge k 55 with q | q
  · have : ∀ k, k < 55 → bm_oc k ≤ 4 := by decide +kernel
    exact this k q
  · rw [show bm_oc k = 0 from bm_nth_out _ k q]
    omega
theorem bm_cell_arr {ad : Nat → Nat} {cI cJ : ClassId} {k : Nat} {f : Nat → Int32} (h : bm_al k ≠ 0) : bm_cell ad cI cJ k f = .inl (cI, bm_al k, .inl f) := by
  obtain ⟨-, h1, h2⟩ := bm_al_in h
  unfold bm_cell
  rw [if_pos h1, if_neg h2]
theorem bm_cell_obj {ad : Nat → Nat} {cI cJ : ClassId} {k c : Nat} {f : Nat → Int32} (h : bm_oc k = c) (hc : 1 ≤ c) : bm_cell ad cI cJ k f = .inr (c - 1, bm_flds ad k f 0 (bm_fs (c - 1))) := by
  subst h
  unfold bm_cell
  rw [if_neg (by omega)]
theorem bm_flds_at {ad : Nat → Nat} {k : Nat} {f : Nat → Int32} : ∀ (ds : List Nat) (j i d : Nat), ds[i]? = some d → (bm_flds ad k f j ds)[i]? = some (if d = 0 then .int (f (j + i)) else .ref (ad (k + d)))
  | [], _, _, _, h => by simp at h
  | a :: ds, j, 0, d, h => by
    cases h
    rfl
  | a :: ds, j, i + 1, d, h => by
    have := bm_flds_at (ad := ad) (k := k) (f := f) ds (j + 1) i d h
    rw [show j + (i + 1) = j + 1 + i by omega]
    exact this
theorem bm_flds_len {ad : Nat → Nat} {k : Nat} {f : Nat → Int32} : ∀ (ds : List Nat) (j : Nat), (bm_flds ad k f j ds).length = ds.length
  | [], _ => rfl
  | a :: ds, j => by simp [bm_flds, bm_flds_len ds (j + 1)]
theorem bm_flds_eq {ad : Nat → Nat} {k : Nat} {f g : Nat → Int32} : ∀ (ds : List Nat) (j : Nat), (∀ i, j ≤ i → f i = g i) → bm_flds ad k f j ds = bm_flds ad k g j ds
  | [], _, _ => rfl
  | a :: ds, j, h => by
    simp only [bm_flds]
    rw [h j (Nat.le_refl _), bm_flds_eq ds (j + 1) (fun i hi => h i (by omega))]
theorem bm_flds_set {ad : Nat → Nat} {k : Nat} {f : Nat → Int32} {v : Int32} : ∀ (ds : List Nat) (j i : Nat), ds[i]? = some 0 → (bm_flds ad k f j ds).set i (.int v) = bm_flds ad k (upd f (j + i) v) j ds
  | [], _, _, h => by simp at h
  | a :: ds, j, 0, h => by
    cases h
    simp only [bm_flds, List.set_cons_zero, if_pos]
    rw [bm_flds_eq (f := f) (g := upd f (j + 0) v) ds (j + 1) (fun i hi => by simp [upd]; intro q; omega)]
    simp [upd]
  | a :: ds, j, i + 1, h => by
    have := bm_flds_set (ad := ad) (k := k) (f := f) (v := v) ds (j + 1) i h
    simp only [bm_flds, List.set_cons_succ]
    rw [this, show j + 1 + i = j + (i + 1) by omega]
    congr 1
    by_cases ha : a = 0
    · rw [if_pos ha, if_pos ha]
      simp [upd]
    · rw [if_neg ha, if_neg ha]
theorem bm_up_self (σ : bm_M) (k i : Nat) (v : Int32) : bm_up σ k i v k = upd (σ k) i v := by simp [bm_up]
theorem bm_up_ne (σ : bm_M) {k j : Nat} (i : Nat) (v : Int32) (h : j ≠ k) : bm_up σ k i v j = σ j := by simp [bm_up, h]
theorem bm_cl_at {ci : Nat} (h : ci < 4) : bm_cl[ci]? = some (bm_RR ci, bm_TT ci, bm_NN ci) := by
  match ci, h with
  | 0, _ => rfl
  | 1, _ => rfl
  | 2, _ => rfl
  | 3, _ => rfl
theorem bm_lays {ci : Nat} (h : ci < 4) : ∀ w ∈ u_ws (bm_RR ci) (bm_TT ci) (bm_NN ci), w ∈ bm_T := by
  match ci, h with
  | 0, _ => exact bm_lays0
  | 1, _ => exact bm_lays1
  | 2, _ => exact bm_lays2
  | 3, _ => exact bm_lays3
theorem bm_ty_ok {ci : Nat} (h : ci < 4) : ∀ k, k < bm_NN ci → parseFieldDescriptor (bm_TT ci k).2.2.1 = some (bm_ty ci k) := by
  match ci, h with
  | 0, _ => exact tyX0_ok
  | 1, _ => exact tyX1_ok
  | 2, _ => exact tyX2_ok
  | 3, _ => exact tyX3_ok
theorem bm_nm_ok {ci : Nat} (h : ci < 4) : ∀ a, a < bm_NN ci → ∀ b, b < bm_NN ci → a ≠ b → (bm_TT ci a).2.1 ≠ (bm_TT ci b).2.1 := by
  match ci, h with
  | 0, _ => exact nmX0
  | 1, _ => exact nmX1
  | 2, _ => exact nmX2
  | 3, _ => exact nmX3
theorem bm_in_vp {i : Int32} {n : Nat} (h : bm_in i n = true) : vp_in i n := by
  simp only [bm_in, Bool.and_eq_true, Bool.not_eq_true', decide_eq_false_iff_not, decide_eq_true_eq] at h
  rintro (q | q)
  · exact h.1 q
  · omega
theorem bm_in_pos {i : Int32} {n : Nat} (h : bm_in i n = true) : n ≠ 0 := by
  simp only [bm_in, Bool.and_eq_true, Bool.not_eq_true', decide_eq_false_iff_not, decide_eq_true_eq] at h
  omega
/-- lengths and bytes of the texts -/
def bm_slen : List Nat := bm_rls.drop 80
def bm_sbyt : List (List Int32) := bm_rvs.drop 80
/-- what is only read -/
def bm_RO (A : Nat → Prop) (ad : Nat → Nat) (fm : Value) (X : bm_X) (U : State) : Prop :=
  va_T .int (ad 55) X.1 (fun j => .int (X.2 j)) A U U.heap ∧
  (va_Z "BellMilk" "EATS" "[I" (.ref (ad 56)) A U U.heap ∧ va_T .int (ad 56) 7 (fun j => .int (bm_rv X 56 j)) A U U.heap) ∧
  (va_Z "BellMilk" "ABOVE" "[I" (.ref (ad 57)) A U U.heap ∧ va_T .int (ad 57) 7 (fun j => .int (bm_rv X 57 j)) A U U.heap) ∧
  (va_Z "BellMilk" "MOST_OF" "[I" (.ref (ad 58)) A U U.heap ∧ va_T .int (ad 58) 7 (fun j => .int (bm_rv X 58 j)) A U U.heap) ∧
  va_Z "java/lang/String" "COMPACT_STRINGS" "Z" (.int 1) A U U.heap ∧
  va_Z "jdk/internal/util/Preconditions" "SIOOBE_FORMATTER" "Ljava/util/function/BiFunction;" fm A U U.heap ∧
  vk_S 15 bm_slen bm_sbyt (fun i => ad (60 + i)) (fun i => ad (80 + i)) A U U.heap ∧
  (∀ q ∈ bm_strs, vk_R (bm_cn q.1) q.2.2 (bm_tx q.2.1) (ad (60 + q.2.1)) U) ∧
  va_Nw (.fieldLinkNest "BellMilk$Herd" 74 "BellMilk" "EATS" "[I" "BellMilk") U
theorem bm_RO.go {A : Nat → Prop} {ad : Nat → Nat} {fm : Value} {X : bm_X} {s U : State} (h : bm_RO A ad fm X s) (hW : s.WarmedH U.vm) (hq : ∀ q : Nat, q < s.heap.size → ¬ A q → U.heap[q]? = s.heap[q]?) : bm_RO A ad fm X U := by
  obtain ⟨h1, ⟨h2, h3⟩, ⟨h4, h5⟩, ⟨h6, h7⟩, h8, h9, h10, h11, h12⟩ := h
  have hv := hW.alike
  exact ⟨(h1.moved hv).kept hq, ⟨(h2.moved hv).kept hq, (h3.moved hv).kept hq⟩, ⟨(h4.moved hv).kept hq, (h5.moved hv).kept hq⟩, ⟨(h6.moved hv).kept hq, (h7.moved hv).kept hq⟩, (h8.moved hv).kept hq, (h9.moved hv).kept hq, (h10.moved hv).kept hq, fun q hm => (h11 q hm).warm hW, va_Nw.warmF hW h12⟩
/-- the locals that are held -/
def bm_LR (ad : Nat → Nat) (fm : Value) (M : Nat) (L : List Value) (ls : Array Slot) : Prop := ls.size = bm_nL M ∧ lv_wf ls ∧ (∀ i, bm_get L i ≠ .null → ls[i]? = some (.val (bm_cz ad fm (bm_get L i)))) ∧ ∀ i, (bm_get L i).category = 2 → (bm_lg M).any (fun g => decide (g = i)) = true
def bm_lv (ad : Nat → Nat) (fm : Value) (L : List Value) (n : Nat) : List (Nat × Value) := (List.range n).filterMap (fun i => if bm_get L i = .null then none else some (i, bm_cz ad fm (bm_get L i)))
theorem bm_lv_mem {ad : Nat → Nat} {fm : Value} {L : List Value} {n : Nat} {q : Nat × Value} : q ∈ bm_lv ad fm L n ↔ q.1 < n ∧ bm_get L q.1 ≠ .null ∧ q.2 = bm_cz ad fm (bm_get L q.1) := by
  unfold bm_lv
  rw [List.mem_filterMap]
  constructor
  · rintro ⟨i, hi, h⟩
    by_cases hn : bm_get L i = .null
    · rw [if_pos hn] at h; cases h
    · rw [if_neg hn] at h
      cases h
      exact ⟨List.mem_range.mp hi, hn, rfl⟩
  · rintro ⟨h1, h2, h3⟩
    refine ⟨q.1, List.mem_range.mpr h1, ?_⟩
    rw [if_neg h2, ← h3]
theorem bm_LR.has {ad : Nat → Nat} {fm : Value} {M : Nat} {L : List Value} {ls : Array Slot} (h : bm_LR ad fm M L ls) : lv_has ls (bm_nL M) (bm_lv ad fm L (bm_nL M)) := by
  refine ⟨h.1, h.2.1, fun q hq => ?_⟩
  obtain ⟨h1, h2, h3⟩ := bm_lv_mem.mp hq
  rw [h3]
  exact h.2.2.1 q.1 h2
theorem bm_LR.lt {ad : Nat → Nat} {fm : Value} {M : Nat} {L : List Value} {ls : Array Slot} (h : bm_LR ad fm M L ls) {i : Nat} (hi : bm_get L i ≠ .null) : i < bm_nL M := by
  have := lv_lt (h.2.2.1 i hi)
  rw [h.1] at this
  exact this
theorem bm_get_put_ne : ∀ (L : List Value) (k i : Nat) (v : Value), i ≠ k → bm_get (bm_put L k v) i = bm_get L i
  | [], _, _, _, _ => rfl
  | a :: l, 0, 0, v, h => absurd rfl h
  | a :: l, 0, i + 1, v, _ => rfl
  | a :: l, k + 1, 0, v, _ => rfl
  | a :: l, k + 1, i + 1, v, h => bm_get_put_ne l k i v (fun q => h (by rw [q]))
theorem bm_get_put : ∀ (L : List Value) (k : Nat) (v : Value), bm_get (bm_put L k v) k = v ∨ bm_get (bm_put L k v) k = .null
  | [], _, _ => Or.inr rfl
  | a :: l, 0, v => Or.inl rfl
  | a :: l, k + 1, v => bm_get_put l k v
theorem bm_cz_cat {ad : Nat → Nat} {fm : Value} (hf : fm.category = 1) (v : Value) : (bm_cz ad fm v).category = v.category := by
  cases v <;> first | rfl | exact hf
theorem bm_lo_lt {M k : Nat} (h : bm_lo M k = true) : k < bm_nL M := by
  simp only [bm_lo, Bool.and_eq_true, decide_eq_true_eq] at h
  exact h.1
theorem bm_lo_ne {M k i : Nat} (h : bm_lo M k = true) (hi : (bm_lg M).any (fun g => decide (g = i)) = true) : i + 1 ≠ k := by
  simp only [bm_lo, Bool.and_eq_true, Bool.not_eq_true'] at h
  intro q
  obtain ⟨g, hg, he⟩ := List.any_eq_true.mp hi
  have : (bm_lg M).any (fun g => decide (g + 1 = k)) = true := List.any_eq_true.mpr ⟨g, hg, by simp at he; simp [he, q]⟩
  rw [h.2] at this
  cases this
theorem bm_LR.put {ad : Nat → Nat} {fm : Value} {M : Nat} {L : List Value} {ls ls' : Array Slot} {k : Nat} {v : Value} (hf : fm.category = 1) (h : bm_LR ad fm M L ls) (hk : bm_lo M k = true) (hv : v.category = 1) (h' : lv_has ls' (bm_nL M) ((k, bm_cz ad fm v) :: (bm_lv ad fm L (bm_nL M)).filter (fun q => !(q.1 == k) && !(q.1 + 1 == k && q.2.category == 2)))) : bm_LR ad fm M (bm_put L k v) ls' := by
  refine ⟨h'.1, h'.2.1, fun i hi => ?_, fun i hi => ?_⟩
  · by_cases e : i = k
    · subst e
      rcases bm_get_put L i v with q | q
      · rw [q]
        exact h'.2.2 (i, bm_cz ad fm v) List.mem_cons_self
      · exact absurd q hi
    · rw [bm_get_put_ne L k i v e] at hi ⊢
      refine h'.2.2 (i, bm_cz ad fm (bm_get L i)) (List.mem_cons_of_mem _ (List.mem_filter.mpr ⟨bm_lv_mem.mpr ⟨h.lt hi, hi, rfl⟩, ?_⟩))
      simp only [Bool.and_eq_true, Bool.not_eq_true', beq_eq_false_iff_ne, ne_eq, Bool.and_eq_false_iff]
      refine ⟨e, ?_⟩
      by_cases hc : (bm_get L i).category = 2
      · exact Or.inl (bm_lo_ne hk (h.2.2.2 i hc))
      · exact Or.inr (by rw [bm_cz_cat hf]; exact hc)
  · by_cases e : i = k
    · subst e
      rcases bm_get_put L i v with q | q
      · rw [q, hv] at hi; cases hi
      · rw [q] at hi; cases hi
    · rw [bm_get_put_ne L k i v e] at hi
      exact h.2.2.2 i hi
theorem bm_LR.put2 {ad : Nat → Nat} {fm : Value} {M : Nat} {L : List Value} {ls ls' : Array Slot} {k : Nat} {x : Int64} (hf : fm.category = 1) (h : bm_LR ad fm M L ls) (hk : bm_lo M k = true) (hg : (bm_lg M).any (fun g => decide (g = k)) = true) (h' : lv_has ls' (bm_nL M) ((k, .long x) :: (bm_lv ad fm L (bm_nL M)).filter (fun q => !(q.1 == k) && (!(q.1 == k + 1) && !(q.1 + 1 == k && q.2.category == 2))))) : bm_LR ad fm M (bm_put (bm_put L (k + 1) .null) k (.long x)) ls' := by
  refine ⟨h'.1, h'.2.1, fun i hi => ?_, fun i hi => ?_⟩
  · by_cases e : i = k
    · subst e
      rcases bm_get_put (bm_put L (i + 1) .null) i (.long x) with q | q
      · rw [q]
        exact h'.2.2 (i, .long x) List.mem_cons_self
      · exact absurd q hi
    · rw [bm_get_put_ne _ k i _ e] at hi ⊢
      by_cases e1 : i = k + 1
      · subst e1
        rcases bm_get_put L (k + 1) .null with q | q <;> exact absurd q hi
      · rw [bm_get_put_ne _ (k + 1) i _ e1] at hi ⊢
        refine h'.2.2 (i, bm_cz ad fm (bm_get L i)) (List.mem_cons_of_mem _ (List.mem_filter.mpr ⟨bm_lv_mem.mpr ⟨h.lt hi, hi, rfl⟩, ?_⟩))
        simp only [Bool.and_eq_true, Bool.not_eq_true', beq_eq_false_iff_ne, ne_eq, Bool.and_eq_false_iff]
        refine ⟨e, e1, ?_⟩
        by_cases hc : (bm_get L i).category = 2
        · exact Or.inl (bm_lo_ne hk (h.2.2.2 i hc))
        · exact Or.inr (by rw [bm_cz_cat hf]; exact hc)
  · by_cases e : i = k
    · subst e
      exact hg
    · rw [bm_get_put_ne _ k i _ e] at hi
      by_cases e1 : i = k + 1
      · subst e1
        rcases bm_get_put L (k + 1) .null with q | q <;> (rw [q] at hi; cases hi)
      · rw [bm_get_put_ne _ (k + 1) i _ e1] at hi
        exact h.2.2.2 i hi
theorem bm_dec {M j n : Nat} {i : Instr} (hd : decode (bm_cc M) (bm_pc M j) = .ok (bm_nthT (bm_rcd M) j).2) (h1 : (bm_nthT (bm_rcd M) j).2.1 = i) (h2 : (bm_nthT (bm_rcd M) j).2.2 = n) : decode (bm_cc M) (bm_pc M j) = .ok (i, n) := by
  rw [hd, ← h1, ← h2]
theorem bm_nthL_getD : ∀ (l : List (List Int32)) (k : Nat), bm_nthL l k = l.getD k []
  | [], _ => rfl
  | a :: l, 0 => rfl
  | a :: l, k + 1 => by
    show bm_nthL l k = _
    rw [bm_nthL_getD l k]
    simp
theorem bm_nth32_getD : ∀ (l : List Int32) (k : Nat), bm_nth32 l k = l.getD k 0
  | [], _ => rfl
  | a :: l, 0 => rfl
  | a :: l, k + 1 => by
    show bm_nth32 l k = _
    rw [bm_nth32_getD l k]
    simp
theorem bm_nth_getD : ∀ (l : List Nat) (k : Nat), bm_nth l k = l.getD k 0
  | [], _ => rfl
  | a :: l, 0 => rfl
  | a :: l, k + 1 => by
    show bm_nth l k = _
    rw [bm_nth_getD l k]
    simp
theorem bm_slen_at {X : bm_X} (i : Nat) : bm_slen.getD i 0 = bm_rl X (80 + i) := by
  have : bm_rl X (80 + i) = bm_nth bm_rls (80 + i) := by
    unfold bm_rl
    split
    · omega
    · rfl
  rw [this, bm_nth_getD, bm_slen]
  simp [List.getD]
theorem bm_sbyt_at {X : bm_X} (i j : Nat) : (bm_sbyt.getD i []).getD j 0 = bm_rv X (80 + i) j := by
  have : bm_rv X (80 + i) j = bm_nth32 (bm_nthL bm_rvs (80 + i)) j := by
    unfold bm_rv
    split
    · omega
    · rfl
  rw [this, bm_nth32_getD, bm_nthL_getD, bm_sbyt]
  congr 1
  simp [List.getD]
