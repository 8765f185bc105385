def iT (cI : ClassId) (h0 q1 : Nat) : va_W := [(h0, .inr (1, [.ref q1, .int (nI 0), .int (nI 0), .int (nI 0), .int (nI 0), .int (nI 0), .int (nI 0)])), (q1, .inl (cI, 120, .inl (fun _ => 0)))]
def iTat (dC : Nat → ClassId) (dI : Nat → Nat → Nat) (cI : ClassId) (A : Nat → Prop) (h0 : Nat) (u : Unit) (U : State) : Prop := ∃ q1, va_P (dC, dI) bm_cl (iT cI h0 q1) U.heap ∧ va_K (dC, dI) bm_cl [(cI, .int)] U ∧ va_D A (iT cI h0 q1)
set_option maxHeartbeats 4000000 in
set_option maxRecDepth 100000 in
theorem imX1 (l : Launch) (dC : Nat → ClassId) (dI : Nat → Nat → Nat) (cI : ClassId) (h0 sz : Nat) : Met l iyX1 ivX1 ({ frames := 1, cells := 1, slots := 120, locals := 40 }) (va_Pc [.ref h0] (fun U => U.heap.size = sz ∧ va_P (dC, dI) bm_cl [(h0, .inr (1, [.null, .int 0, .int 0, .int 0, .int 0, .int 0, .int 0]))] U.heap ∧ va_K (dC, dI) bm_cl [(cI, .int)] U ∧ va_D (fun _ => True) [(h0, .inr (1, [.null, .int 0, .int 0, .int 0, .int 0, .int 0, .int 0]))])) (va_Qv (fun u : Unit => True) (iTat dC dI cI (va_A [(h0, .inr (1, [.null, .int 0, .int 0, .int 0, .int 0, .int 0, .int 0]))] sz) h0) (va_A [(h0, .inr (1, [.null, .int 0, .int 0, .int 0, .int 0, .int 0, .int 0]))] sz)) 1 120 (va_A [(h0, .inr (1, [.null, .int 0, .int 0, .int 0, .int 0, .int 0, .int 0]))] sz) := by
  refine Met.ofW (cc := icX1) (maxL := 1) (ret := none) (by decide) rfl ?_
  intro p e s m args below meth c s₁ B hml hv
  obtain ⟨rfl, hsz, hP, hK, hD0⟩ := hv
  have hx := B.exec
  have hb := B.bytes
  have hr := B.returns
  have hts0 := atoms_spec (ws := ivX1) B.pre
  have hts := fun w (hw : w ∈ bm_T) => hts0 w (List.mem_cons_of_mem _ hw)
  have hown : s.vm.findClass RX1 = some m.cls := findClass_of_methodNamed B.named
  have hlocks := B.notSynchronized
  have hin : meth.name = "<init>" := (name_of_methodNamed B.named B.method).1
  have harr := hts (Cond.arrayClass .int) iw_165
  subst hsz
  have hD := hD0.self (sz := s.heap.size)
  generalize hAe : va_A [(h0, .inr (1, [.null, .int 0, .int 0, .int 0, .int 0, .int 0, .int 0]))] s.heap.size = A at hD ⊢
  have hA : ∀ q : Nat, s.heap.size ≤ q → A q := fun q h => by rw [← hAe]; exact Or.inr h
  have hS : va_S A s.heap s.heap [] := va_S.rf
  have hP : va_P (dC, dI) bm_cl [(h0, .inr (1, [.null, .int 0, .int 0, .int 0, .int 0, .int 0, .int 0]))] s.heap := hP
  have hl := lv_entry ([.ref h0]) (n := 1) (Nat.le_of_ble_eq_true rfl)
  rw [lg_entry_eq]
  generalize (lg_sl ([.ref h0]) ++ List.replicate (1 - (lg_sl ([.ref h0])).length) Slot.unset).toArray = ls at hl ⊢
  have hl : lv_has ls 1 [(0, .ref h0)] := hl
  refine lv_aload_n hx hb idX1_0 rfl (lv_at hl 0 rfl) ?_
  refine W.objInit hx hb hown (hts (Cond.methodLink RX1 3 objectInit) iw_171) (hts (Cond.instanceMethod objectInit) iw_89) (hts (Cond.code objectInit ⟨#[0xb1]⟩ 1 none) iw_90) rfl (by rw [hml]; exact hl.1) rfl idX1_1 (Nat.le_of_ble_eq_true rfl) (Nat.le_of_ble_eq_true rfl) ?_
  refine W.eq (g2 := F0 m 4 ls []) rfl ?_
  refine lv_aload_n hx hb idX1_4 rfl (lv_at hl 0 rfl) ?_
  refine lv_bipush (v := nI 120) hx hb idX1_5 (by decide) ?_
  refine gd_newa (N' := 120) hx hb harr hK 0 rfl hP hD hS hA (by decide) (by decide) (by decide) (Nat.le_of_ble_eq_true rfl) (Nat.le_of_ble_eq_true rfl) idX1_7 (fun q1 H hP hD hS => ?_)
  have hP : va_P (dC, dI) bm_cl [(h0, .inr (1, [.null, .int 0, .int 0, .int 0, .int 0, .int 0, .int 0])), (q1, .inl (cI, 120, .inl (fun _ => 0)))] H := hP
  have hD : va_D A [(h0, .inr (1, [.null, .int 0, .int 0, .int 0, .int 0, .int 0, .int 0])), (q1, .inl (cI, 120, .inl (fun _ => 0)))] := hD
  refine va_putF (D := (dC, dI)) (ci := 1) (v := .ref q1) (ty := .array .int) (C := RX1) (T := TX1) (N := 7) hx hb hts bm_lays1 tyX1 tyX1_ok nmX1 hown hK hP hD hS 0 rfl rfl 0 (by decide) (hts (Cond.fieldLink RX1 9 "BellMilk$Tape" "bytes" "[I") iw_172) (fun _ h9 => h9) rfl hin rfl (by decide +kernel) rfl rfl (Nat.le_of_ble_eq_true rfl) idX1_9 (fun H locs hP hD hS => ?_)
  have hP : va_P (dC, dI) bm_cl [(h0, .inr (1, [.ref q1, .int 0, .int 0, .int 0, .int 0, .int 0, .int 0])), (q1, .inl (cI, 120, .inl (fun _ => 0)))] H := hP
  have hD : va_D A [(h0, .inr (1, [.ref q1, .int 0, .int 0, .int 0, .int 0, .int 0, .int 0])), (q1, .inl (cI, 120, .inl (fun _ => 0)))] := hD
  refine lv_aload_n hx hb idX1_12 rfl (lv_at hl 0 rfl) ?_
  refine lv_iconst (v := nI 0) hx hb idX1_13 (by decide) ?_
  refine va_put (D := (dC, dI)) (ci := 1) (v := .int (nI 0)) (ty := .int) (C := RX1) (T := TX1) (N := 7) hx hb hts bm_lays1 tyX1 tyX1_ok nmX1 hown hK hP hD hS 0 rfl rfl 1 (by decide) (hts (Cond.fieldLink RX1 15 "BellMilk$Tape" "length" "I") iw_173) (fun _ h9 => h9) rfl (by decide +kernel) rfl rfl (Nat.le_of_ble_eq_true rfl) idX1_14 (fun H locs hP hD hS => ?_)
  have hP : va_P (dC, dI) bm_cl [(h0, .inr (1, [.ref q1, .int (nI 0), .int 0, .int 0, .int 0, .int 0, .int 0])), (q1, .inl (cI, 120, .inl (fun _ => 0)))] H := hP
  have hD : va_D A [(h0, .inr (1, [.ref q1, .int (nI 0), .int 0, .int 0, .int 0, .int 0, .int 0])), (q1, .inl (cI, 120, .inl (fun _ => 0)))] := hD
  refine lv_aload_n hx hb idX1_17 rfl (lv_at hl 0 rfl) ?_
  refine lv_iconst (v := nI 0) hx hb idX1_18 (by decide) ?_
  refine va_put (D := (dC, dI)) (ci := 1) (v := .int (nI 0)) (ty := .int) (C := RX1) (T := TX1) (N := 7) hx hb hts bm_lays1 tyX1 tyX1_ok nmX1 hown hK hP hD hS 0 rfl rfl 2 (by decide) (hts (Cond.fieldLink RX1 19 "BellMilk$Tape" "token" "I") iw_175) (fun _ h9 => h9) rfl (by decide +kernel) rfl rfl (Nat.le_of_ble_eq_true rfl) idX1_19 (fun H locs hP hD hS => ?_)
  have hP : va_P (dC, dI) bm_cl [(h0, .inr (1, [.ref q1, .int (nI 0), .int (nI 0), .int 0, .int 0, .int 0, .int 0])), (q1, .inl (cI, 120, .inl (fun _ => 0)))] H := hP
  have hD : va_D A [(h0, .inr (1, [.ref q1, .int (nI 0), .int (nI 0), .int 0, .int 0, .int 0, .int 0])), (q1, .inl (cI, 120, .inl (fun _ => 0)))] := hD
  refine lv_aload_n hx hb idX1_22 rfl (lv_at hl 0 rfl) ?_
  refine lv_iconst (v := nI 0) hx hb idX1_23 (by decide) ?_
  refine va_put (D := (dC, dI)) (ci := 1) (v := .int (nI 0)) (ty := .int) (C := RX1) (T := TX1) (N := 7) hx hb hts bm_lays1 tyX1 tyX1_ok nmX1 hown hK hP hD hS 0 rfl rfl 3 (by decide) (hts (Cond.fieldLink RX1 22 "BellMilk$Tape" "begin" "I") iw_176) (fun _ h9 => h9) rfl (by decide +kernel) rfl rfl (Nat.le_of_ble_eq_true rfl) idX1_24 (fun H locs hP hD hS => ?_)
  have hP : va_P (dC, dI) bm_cl [(h0, .inr (1, [.ref q1, .int (nI 0), .int (nI 0), .int (nI 0), .int 0, .int 0, .int 0])), (q1, .inl (cI, 120, .inl (fun _ => 0)))] H := hP
  have hD : va_D A [(h0, .inr (1, [.ref q1, .int (nI 0), .int (nI 0), .int (nI 0), .int 0, .int 0, .int 0])), (q1, .inl (cI, 120, .inl (fun _ => 0)))] := hD
  refine lv_aload_n hx hb idX1_27 rfl (lv_at hl 0 rfl) ?_
  refine lv_iconst (v := nI 0) hx hb idX1_28 (by decide) ?_
  refine va_put (D := (dC, dI)) (ci := 1) (v := .int (nI 0)) (ty := .int) (C := RX1) (T := TX1) (N := 7) hx hb hts bm_lays1 tyX1 tyX1_ok nmX1 hown hK hP hD hS 0 rfl rfl 4 (by decide) (hts (Cond.fieldLink RX1 25 "BellMilk$Tape" "end" "I") iw_178) (fun _ h9 => h9) rfl (by decide +kernel) rfl rfl (Nat.le_of_ble_eq_true rfl) idX1_29 (fun H locs hP hD hS => ?_)
  have hP : va_P (dC, dI) bm_cl [(h0, .inr (1, [.ref q1, .int (nI 0), .int (nI 0), .int (nI 0), .int (nI 0), .int 0, .int 0])), (q1, .inl (cI, 120, .inl (fun _ => 0)))] H := hP
  have hD : va_D A [(h0, .inr (1, [.ref q1, .int (nI 0), .int (nI 0), .int (nI 0), .int (nI 0), .int 0, .int 0])), (q1, .inl (cI, 120, .inl (fun _ => 0)))] := hD
  refine lv_aload_n hx hb idX1_32 rfl (lv_at hl 0 rfl) ?_
  refine lv_iconst (v := nI 0) hx hb idX1_33 (by decide) ?_
  refine va_put (D := (dC, dI)) (ci := 1) (v := .int (nI 0)) (ty := .int) (C := RX1) (T := TX1) (N := 7) hx hb hts bm_lays1 tyX1 tyX1_ok nmX1 hown hK hP hD hS 0 rfl rfl 5 (by decide) (hts (Cond.fieldLink RX1 28 "BellMilk$Tape" "value" "I") iw_179) (fun _ h9 => h9) rfl (by decide +kernel) rfl rfl (Nat.le_of_ble_eq_true rfl) idX1_34 (fun H locs hP hD hS => ?_)
  have hP : va_P (dC, dI) bm_cl [(h0, .inr (1, [.ref q1, .int (nI 0), .int (nI 0), .int (nI 0), .int (nI 0), .int (nI 0), .int 0])), (q1, .inl (cI, 120, .inl (fun _ => 0)))] H := hP
  have hD : va_D A [(h0, .inr (1, [.ref q1, .int (nI 0), .int (nI 0), .int (nI 0), .int (nI 0), .int (nI 0), .int 0])), (q1, .inl (cI, 120, .inl (fun _ => 0)))] := hD
  refine lv_aload_n hx hb idX1_37 rfl (lv_at hl 0 rfl) ?_
  refine lv_iconst (v := nI 0) hx hb idX1_38 (by decide) ?_
  refine va_put (D := (dC, dI)) (ci := 1) (v := .int (nI 0)) (ty := .int) (C := RX1) (T := TX1) (N := 7) hx hb hts bm_lays1 tyX1 tyX1_ok nmX1 hown hK hP hD hS 0 rfl rfl 6 (by decide) (hts (Cond.fieldLink RX1 31 "BellMilk$Tape" "items" "I") iw_180) (fun _ h9 => h9) rfl (by decide +kernel) rfl rfl (Nat.le_of_ble_eq_true rfl) idX1_39 (fun H locs hP hD hS => ?_)
  have hP : va_P (dC, dI) bm_cl [(h0, .inr (1, [.ref q1, .int (nI 0), .int (nI 0), .int (nI 0), .int (nI 0), .int (nI 0), .int (nI 0)])), (q1, .inl (cI, 120, .inl (fun _ => 0)))] H := hP
  have hD : va_D A [(h0, .inr (1, [.ref q1, .int (nI 0), .int (nI 0), .int (nI 0), .int (nI 0), .int (nI 0), .int (nI 0)])), (q1, .inl (cI, 120, .inl (fun _ => 0)))] := hD
  refine W.widen (k := 1) (n := 120) (Nat.le_of_ble_eq_true rfl) (Nat.le_of_ble_eq_true rfl) ?_
  exact W.vret hx hb hr (fun t ht hW => ⟨⟨(), rfl, trivial, q1, by rw [ht]; exact hP, va_K.moved hW.alike hK, hD⟩, hS.F ht⟩) hS.2.2 idX1_42
def iM (cI : ClassId) (h0 q1 q2 q3 q4 q5 q6 q7 q8 q9 : Nat) (g : Nat → Int32) : va_W := [(h0, .inr (3, [.ref q1, .ref q2, .ref q3, .int 0, .ref q4, .int 0, .int 0, .int 0, .ref q5, .int 0, .int 0, .int 0, .int 0, .ref q6, .ref q7, .ref q8, .ref q9])), (q1, .inl (cI, 95, .inl g)), (q2, .inl (cI, 95, .inl (fun _ => 0))), (q3, .inl (cI, 95, .inl (fun _ => 0))), (q4, .inl (cI, 7, .inl (fun _ => 0))), (q5, .inl (cI, 120, .inl (fun _ => 0))), (q6, .inl (cI, 4, .inl (fun _ => 0))), (q7, .inl (cI, 4, .inl (fun _ => 0))), (q8, .inl (cI, 160, .inl (fun _ => 0))), (q9, .inl (cI, 40, .inl (fun _ => 0)))]
def iMat (dC : Nat → ClassId) (dI : Nat → Nat → Nat) (cI : ClassId) (A : Nat → Prop) (h0 : Nat) (u : Nat → Int32) (U : State) : Prop := ∃ q1 q2 q3 q4 q5 q6 q7 q8 q9, va_P (dC, dI) bm_cl (iM cI h0 q1 q2 q3 q4 q5 q6 q7 q8 q9 u) U.heap ∧ va_K (dC, dI) bm_cl [(cI, .int)] U ∧ va_D A (iM cI h0 q1 q2 q3 q4 q5 q6 q7 q8 q9 u)
def im1 (i : Nat) (g : Nat → Int32) : Prop := ∀ j, g j = if 5 ≤ j ∧ j < 5 + i then nI 50 else if j = 1 then nI 1 else if j = 3 then nI 2 else 0
def im2 (i : Nat) (g : Nat → Int32) : Prop := ∀ j, g j = if 85 ≤ j ∧ j < 85 + i then -nI 1 else if 5 ≤ j ∧ j < 17 then nI 50 else if j = 1 then nI 1 else if j = 3 then nI 2 else 0
theorem im1_0 : im1 0 (upd (upd (fun _ => 0) 1 (nI 1)) 3 (nI 2)) := fun j => by
  unfold upd
  rw [if_neg (show ¬ (5 ≤ j ∧ j < 5 + 0) by omega)]
  by_cases a : j = 3
  · rw [if_pos a, if_neg (by omega), if_pos a]
  · rw [if_neg a]
    by_cases b : j = 1
    · rw [if_pos b, if_pos b]
    · rw [if_neg b, if_neg b, if_neg a]
theorem im1.next {i : Nat} {g : Nat → Int32} (h : im1 i g) : im1 (i + 1) (upd g (5 + i) (nI 50)) := fun j => by
  unfold upd
  by_cases a : j = 5 + i
  · rw [if_pos a, if_pos (by omega)]
  · rw [if_neg a, h j]
    by_cases b : 5 ≤ j ∧ j < 5 + i
    · rw [if_pos b, if_pos (by omega)]
    · rw [if_neg b, if_neg (show ¬ (5 ≤ j ∧ j < 5 + (i + 1)) by omega)]
theorem im1.two {g : Nat → Int32} (h : im1 12 g) : im2 0 g := fun j => by
  rw [h j, if_neg (show ¬ (85 ≤ j ∧ j < 85 + 0) by omega)]
theorem im2.next {i : Nat} {g : Nat → Int32} (h : im2 i g) : im2 (i + 1) (upd g (85 + i) (-nI 1)) := fun j => by
  unfold upd
  by_cases a : j = 85 + i
  · rw [if_pos a, if_pos (by omega)]
  · rw [if_neg a, h j]
    by_cases b : 85 ≤ j ∧ j < 85 + i
    · rw [if_pos b, if_pos (by omega)]
    · rw [if_neg b, if_neg (show ¬ (85 ≤ j ∧ j < 85 + (i + 1)) by omega)]
set_option maxHeartbeats 4000000 in
set_option maxRecDepth 100000 in
theorem imX3 (l : Launch) (dC : Nat → ClassId) (dI : Nat → Nat → Nat) (cI : ClassId) (h0 sz : Nat) : Met l iyX3 ivX3 ({ frames := 1, cells := 9, slots := 620, locals := 40 }) (va_Pc [.ref h0] (fun U => U.heap.size = sz ∧ va_P (dC, dI) bm_cl [(h0, .inr (3, [.null, .null, .null, .int 0, .null, .int 0, .int 0, .int 0, .null, .int 0, .int 0, .int 0, .int 0, .null, .null, .null, .null]))] U.heap ∧ va_K (dC, dI) bm_cl [(cI, .int)] U ∧ va_D (fun _ => True) [(h0, .inr (3, [.null, .null, .null, .int 0, .null, .int 0, .int 0, .int 0, .null, .int 0, .int 0, .int 0, .int 0, .null, .null, .null, .null]))])) (va_Qv (fun u : Nat → Int32 => im2 10 u) (iMat dC dI cI (va_A [(h0, .inr (3, [.null, .null, .null, .int 0, .null, .int 0, .int 0, .int 0, .null, .int 0, .int 0, .int 0, .int 0, .null, .null, .null, .null]))] sz) h0) (va_A [(h0, .inr (3, [.null, .null, .null, .int 0, .null, .int 0, .int 0, .int 0, .null, .int 0, .int 0, .int 0, .int 0, .null, .null, .null, .null]))] sz)) 9 620 (va_A [(h0, .inr (3, [.null, .null, .null, .int 0, .null, .int 0, .int 0, .int 0, .null, .int 0, .int 0, .int 0, .int 0, .null, .null, .null, .null]))] sz) := by
  refine Met.ofW (cc := icX3) (maxL := 2) (ret := none) (by decide) rfl ?_
  intro p e s m args below meth c s₁ B hml hv
  obtain ⟨rfl, hsz, hP, hK, hD0⟩ := hv
  have hx := B.exec
  have hb := B.bytes
  have hr := B.returns
  have hts0 := atoms_spec (ws := ivX3) B.pre
  have hts := fun w (hw : w ∈ bm_T) => hts0 w (List.mem_cons_of_mem _ hw)
  have hown : s.vm.findClass RX3 = some m.cls := findClass_of_methodNamed B.named
  have hlocks := B.notSynchronized
  have hin : meth.name = "<init>" := (name_of_methodNamed B.named B.method).1
  have harr := hts (Cond.arrayClass .int) iw_165
  subst hsz
  have hD := hD0.self (sz := s.heap.size)
  generalize hAe : va_A [(h0, .inr (3, [.null, .null, .null, .int 0, .null, .int 0, .int 0, .int 0, .null, .int 0, .int 0, .int 0, .int 0, .null, .null, .null, .null]))] s.heap.size = A at hD ⊢
  have hA : ∀ q : Nat, s.heap.size ≤ q → A q := fun q h => by rw [← hAe]; exact Or.inr h
  have hS : va_S A s.heap s.heap [] := va_S.rf
  have hP : va_P (dC, dI) bm_cl [(h0, .inr (3, [.null, .null, .null, .int 0, .null, .int 0, .int 0, .int 0, .null, .int 0, .int 0, .int 0, .int 0, .null, .null, .null, .null]))] s.heap := hP
  have hl := lv_entry ([.ref h0]) (n := 2) (Nat.le_of_ble_eq_true rfl)
  rw [lg_entry_eq]
  generalize (lg_sl ([.ref h0]) ++ List.replicate (2 - (lg_sl ([.ref h0])).length) Slot.unset).toArray = ls at hl ⊢
  have hl : lv_has ls 2 [(0, .ref h0)] := hl
  refine lv_aload_n hx hb idX3_0 rfl (lv_at hl 0 rfl) ?_
  refine W.objInit hx hb hown (hts (Cond.methodLink RX3 3 objectInit) iw_727) (hts (Cond.instanceMethod objectInit) iw_89) (hts (Cond.code objectInit ⟨#[0xb1]⟩ 1 none) iw_90) rfl (by rw [hml]; exact hl.1) rfl idX3_1 (Nat.le_of_ble_eq_true rfl) (Nat.le_of_ble_eq_true rfl) ?_
  refine W.eq (g2 := F0 m 4 ls []) rfl ?_
  refine lv_aload_n hx hb idX3_4 rfl (lv_at hl 0 rfl) ?_
  refine lv_bipush (v := nI 95) hx hb idX3_5 (by decide) ?_
  refine gd_newa (N' := 95) hx hb harr hK 0 rfl hP hD hS hA (by decide) (by decide) (by decide) (Nat.le_of_ble_eq_true rfl) (Nat.le_of_ble_eq_true rfl) idX3_7 (fun q1 H hP hD hS => ?_)
  have hP : va_P (dC, dI) bm_cl [(h0, .inr (3, [.null, .null, .null, .int 0, .null, .int 0, .int 0, .int 0, .null, .int 0, .int 0, .int 0, .int 0, .null, .null, .null, .null])), (q1, .inl (cI, 95, .inl (fun _ => 0)))] H := hP
  have hD : va_D A [(h0, .inr (3, [.null, .null, .null, .int 0, .null, .int 0, .int 0, .int 0, .null, .int 0, .int 0, .int 0, .int 0, .null, .null, .null, .null])), (q1, .inl (cI, 95, .inl (fun _ => 0)))] := hD
  refine va_putF (D := (dC, dI)) (ci := 3) (v := .ref q1) (ty := .array .int) (C := RX3) (T := TX3) (N := 17) hx hb hts bm_lays3 tyX3 tyX3_ok nmX3 hown hK hP hD hS 0 rfl rfl 0 (by decide) (hts (Cond.fieldLink RX3 9 "BellMilkModel" "s" "[I") iw_728) (fun _ h9 => h9) rfl hin rfl (by decide +kernel) rfl rfl (Nat.le_of_ble_eq_true rfl) idX3_9 (fun H locs hP hD hS => ?_)
  have hP : va_P (dC, dI) bm_cl [(h0, .inr (3, [.ref q1, .null, .null, .int 0, .null, .int 0, .int 0, .int 0, .null, .int 0, .int 0, .int 0, .int 0, .null, .null, .null, .null])), (q1, .inl (cI, 95, .inl (fun _ => 0)))] H := hP
  have hD : va_D A [(h0, .inr (3, [.ref q1, .null, .null, .int 0, .null, .int 0, .int 0, .int 0, .null, .int 0, .int 0, .int 0, .int 0, .null, .null, .null, .null])), (q1, .inl (cI, 95, .inl (fun _ => 0)))] := hD
  refine lv_aload_n hx hb idX3_12 rfl (lv_at hl 0 rfl) ?_
  refine lv_bipush (v := nI 95) hx hb idX3_13 (by decide) ?_
  refine gd_newa (N' := 95) hx hb harr hK 0 rfl hP hD hS hA (by decide) (by decide) (by decide) (Nat.le_of_ble_eq_true rfl) (Nat.le_of_ble_eq_true rfl) idX3_15 (fun q2 H hP hD hS => ?_)
  have hP : va_P (dC, dI) bm_cl [(h0, .inr (3, [.ref q1, .null, .null, .int 0, .null, .int 0, .int 0, .int 0, .null, .int 0, .int 0, .int 0, .int 0, .null, .null, .null, .null])), (q1, .inl (cI, 95, .inl (fun _ => 0))), (q2, .inl (cI, 95, .inl (fun _ => 0)))] H := hP
  have hD : va_D A [(h0, .inr (3, [.ref q1, .null, .null, .int 0, .null, .int 0, .int 0, .int 0, .null, .int 0, .int 0, .int 0, .int 0, .null, .null, .null, .null])), (q1, .inl (cI, 95, .inl (fun _ => 0))), (q2, .inl (cI, 95, .inl (fun _ => 0)))] := hD
  refine va_putF (D := (dC, dI)) (ci := 3) (v := .ref q2) (ty := .array .int) (C := RX3) (T := TX3) (N := 17) hx hb hts bm_lays3 tyX3 tyX3_ok nmX3 hown hK hP hD hS 0 rfl rfl 1 (by decide) (hts (Cond.fieldLink RX3 13 "BellMilkModel" "kept" "[I") iw_729) (fun _ h9 => h9) rfl hin rfl (by decide +kernel) rfl rfl (Nat.le_of_ble_eq_true rfl) idX3_17 (fun H locs hP hD hS => ?_)
  have hP : va_P (dC, dI) bm_cl [(h0, .inr (3, [.ref q1, .ref q2, .null, .int 0, .null, .int 0, .int 0, .int 0, .null, .int 0, .int 0, .int 0, .int 0, .null, .null, .null, .null])), (q1, .inl (cI, 95, .inl (fun _ => 0))), (q2, .inl (cI, 95, .inl (fun _ => 0)))] H := hP
  have hD : va_D A [(h0, .inr (3, [.ref q1, .ref q2, .null, .int 0, .null, .int 0, .int 0, .int 0, .null, .int 0, .int 0, .int 0, .int 0, .null, .null, .null, .null])), (q1, .inl (cI, 95, .inl (fun _ => 0))), (q2, .inl (cI, 95, .inl (fun _ => 0)))] := hD
  refine lv_aload_n hx hb idX3_20 rfl (lv_at hl 0 rfl) ?_
  refine lv_bipush (v := nI 95) hx hb idX3_21 (by decide) ?_
  refine gd_newa (N' := 95) hx hb harr hK 0 rfl hP hD hS hA (by decide) (by decide) (by decide) (Nat.le_of_ble_eq_true rfl) (Nat.le_of_ble_eq_true rfl) idX3_23 (fun q3 H hP hD hS => ?_)
  have hP : va_P (dC, dI) bm_cl [(h0, .inr (3, [.ref q1, .ref q2, .null, .int 0, .null, .int 0, .int 0, .int 0, .null, .int 0, .int 0, .int 0, .int 0, .null, .null, .null, .null])), (q1, .inl (cI, 95, .inl (fun _ => 0))), (q2, .inl (cI, 95, .inl (fun _ => 0))), (q3, .inl (cI, 95, .inl (fun _ => 0)))] H := hP
  have hD : va_D A [(h0, .inr (3, [.ref q1, .ref q2, .null, .int 0, .null, .int 0, .int 0, .int 0, .null, .int 0, .int 0, .int 0, .int 0, .null, .null, .null, .null])), (q1, .inl (cI, 95, .inl (fun _ => 0))), (q2, .inl (cI, 95, .inl (fun _ => 0))), (q3, .inl (cI, 95, .inl (fun _ => 0)))] := hD
  refine va_putF (D := (dC, dI)) (ci := 3) (v := .ref q3) (ty := .array .int) (C := RX3) (T := TX3) (N := 17) hx hb hts bm_lays3 tyX3 tyX3_ok nmX3 hown hK hP hD hS 0 rfl rfl 2 (by decide) (hts (Cond.fieldLink RX3 16 "BellMilkModel" "aside" "[I") iw_730) (fun _ h9 => h9) rfl hin rfl (by decide +kernel) rfl rfl (Nat.le_of_ble_eq_true rfl) idX3_25 (fun H locs hP hD hS => ?_)
  have hP : va_P (dC, dI) bm_cl [(h0, .inr (3, [.ref q1, .ref q2, .ref q3, .int 0, .null, .int 0, .int 0, .int 0, .null, .int 0, .int 0, .int 0, .int 0, .null, .null, .null, .null])), (q1, .inl (cI, 95, .inl (fun _ => 0))), (q2, .inl (cI, 95, .inl (fun _ => 0))), (q3, .inl (cI, 95, .inl (fun _ => 0)))] H := hP
  have hD : va_D A [(h0, .inr (3, [.ref q1, .ref q2, .ref q3, .int 0, .null, .int 0, .int 0, .int 0, .null, .int 0, .int 0, .int 0, .int 0, .null, .null, .null, .null])), (q1, .inl (cI, 95, .inl (fun _ => 0))), (q2, .inl (cI, 95, .inl (fun _ => 0))), (q3, .inl (cI, 95, .inl (fun _ => 0)))] := hD
  refine lv_aload_n hx hb idX3_28 rfl (lv_at hl 0 rfl) ?_
  refine lv_bipush (v := nI 7) hx hb idX3_29 (by decide) ?_
  refine gd_newa (N' := 7) hx hb harr hK 0 rfl hP hD hS hA (by decide) (by decide) (by decide) (Nat.le_of_ble_eq_true rfl) (Nat.le_of_ble_eq_true rfl) idX3_31 (fun q4 H hP hD hS => ?_)
  have hP : va_P (dC, dI) bm_cl [(h0, .inr (3, [.ref q1, .ref q2, .ref q3, .int 0, .null, .int 0, .int 0, .int 0, .null, .int 0, .int 0, .int 0, .int 0, .null, .null, .null, .null])), (q1, .inl (cI, 95, .inl (fun _ => 0))), (q2, .inl (cI, 95, .inl (fun _ => 0))), (q3, .inl (cI, 95, .inl (fun _ => 0))), (q4, .inl (cI, 7, .inl (fun _ => 0)))] H := hP
  have hD : va_D A [(h0, .inr (3, [.ref q1, .ref q2, .ref q3, .int 0, .null, .int 0, .int 0, .int 0, .null, .int 0, .int 0, .int 0, .int 0, .null, .null, .null, .null])), (q1, .inl (cI, 95, .inl (fun _ => 0))), (q2, .inl (cI, 95, .inl (fun _ => 0))), (q3, .inl (cI, 95, .inl (fun _ => 0))), (q4, .inl (cI, 7, .inl (fun _ => 0)))] := hD
  refine va_putF (D := (dC, dI)) (ci := 3) (v := .ref q4) (ty := .array .int) (C := RX3) (T := TX3) (N := 17) hx hb hts bm_lays3 tyX3 tyX3_ok nmX3 hown hK hP hD hS 0 rfl rfl 4 (by decide) (hts (Cond.fieldLink RX3 19 "BellMilkModel" "found" "[I") iw_732) (fun _ h9 => h9) rfl hin rfl (by decide +kernel) rfl rfl (Nat.le_of_ble_eq_true rfl) idX3_33 (fun H locs hP hD hS => ?_)
  have hP : va_P (dC, dI) bm_cl [(h0, .inr (3, [.ref q1, .ref q2, .ref q3, .int 0, .ref q4, .int 0, .int 0, .int 0, .null, .int 0, .int 0, .int 0, .int 0, .null, .null, .null, .null])), (q1, .inl (cI, 95, .inl (fun _ => 0))), (q2, .inl (cI, 95, .inl (fun _ => 0))), (q3, .inl (cI, 95, .inl (fun _ => 0))), (q4, .inl (cI, 7, .inl (fun _ => 0)))] H := hP
  have hD : va_D A [(h0, .inr (3, [.ref q1, .ref q2, .ref q3, .int 0, .ref q4, .int 0, .int 0, .int 0, .null, .int 0, .int 0, .int 0, .int 0, .null, .null, .null, .null])), (q1, .inl (cI, 95, .inl (fun _ => 0))), (q2, .inl (cI, 95, .inl (fun _ => 0))), (q3, .inl (cI, 95, .inl (fun _ => 0))), (q4, .inl (cI, 7, .inl (fun _ => 0)))] := hD
  refine lv_aload_n hx hb idX3_36 rfl (lv_at hl 0 rfl) ?_
  refine lv_bipush (v := nI 120) hx hb idX3_37 (by decide) ?_
  refine gd_newa (N' := 120) hx hb harr hK 0 rfl hP hD hS hA (by decide) (by decide) (by decide) (Nat.le_of_ble_eq_true rfl) (Nat.le_of_ble_eq_true rfl) idX3_39 (fun q5 H hP hD hS => ?_)
  have hP : va_P (dC, dI) bm_cl [(h0, .inr (3, [.ref q1, .ref q2, .ref q3, .int 0, .ref q4, .int 0, .int 0, .int 0, .null, .int 0, .int 0, .int 0, .int 0, .null, .null, .null, .null])), (q1, .inl (cI, 95, .inl (fun _ => 0))), (q2, .inl (cI, 95, .inl (fun _ => 0))), (q3, .inl (cI, 95, .inl (fun _ => 0))), (q4, .inl (cI, 7, .inl (fun _ => 0))), (q5, .inl (cI, 120, .inl (fun _ => 0)))] H := hP
  have hD : va_D A [(h0, .inr (3, [.ref q1, .ref q2, .ref q3, .int 0, .ref q4, .int 0, .int 0, .int 0, .null, .int 0, .int 0, .int 0, .int 0, .null, .null, .null, .null])), (q1, .inl (cI, 95, .inl (fun _ => 0))), (q2, .inl (cI, 95, .inl (fun _ => 0))), (q3, .inl (cI, 95, .inl (fun _ => 0))), (q4, .inl (cI, 7, .inl (fun _ => 0))), (q5, .inl (cI, 120, .inl (fun _ => 0)))] := hD
  refine va_putF (D := (dC, dI)) (ci := 3) (v := .ref q5) (ty := .array .int) (C := RX3) (T := TX3) (N := 17) hx hb hts bm_lays3 tyX3 tyX3_ok nmX3 hown hK hP hD hS 0 rfl rfl 8 (by decide) (hts (Cond.fieldLink RX3 22 "BellMilkModel" "tape" "[I") iw_736) (fun _ h9 => h9) rfl hin rfl (by decide +kernel) rfl rfl (Nat.le_of_ble_eq_true rfl) idX3_41 (fun H locs hP hD hS => ?_)
  have hP : va_P (dC, dI) bm_cl [(h0, .inr (3, [.ref q1, .ref q2, .ref q3, .int 0, .ref q4, .int 0, .int 0, .int 0, .ref q5, .int 0, .int 0, .int 0, .int 0, .null, .null, .null, .null])), (q1, .inl (cI, 95, .inl (fun _ => 0))), (q2, .inl (cI, 95, .inl (fun _ => 0))), (q3, .inl (cI, 95, .inl (fun _ => 0))), (q4, .inl (cI, 7, .inl (fun _ => 0))), (q5, .inl (cI, 120, .inl (fun _ => 0)))] H := hP
  have hD : va_D A [(h0, .inr (3, [.ref q1, .ref q2, .ref q3, .int 0, .ref q4, .int 0, .int 0, .int 0, .ref q5, .int 0, .int 0, .int 0, .int 0, .null, .null, .null, .null])), (q1, .inl (cI, 95, .inl (fun _ => 0))), (q2, .inl (cI, 95, .inl (fun _ => 0))), (q3, .inl (cI, 95, .inl (fun _ => 0))), (q4, .inl (cI, 7, .inl (fun _ => 0))), (q5, .inl (cI, 120, .inl (fun _ => 0)))] := hD
  refine lv_aload_n hx hb idX3_44 rfl (lv_at hl 0 rfl) ?_
  refine lv_iconst (v := nI 4) hx hb idX3_45 (by decide) ?_
  refine gd_newa (N' := 4) hx hb harr hK 0 rfl hP hD hS hA (by decide) (by decide) (by decide) (Nat.le_of_ble_eq_true rfl) (Nat.le_of_ble_eq_true rfl) idX3_46 (fun q6 H hP hD hS => ?_)
  have hP : va_P (dC, dI) bm_cl [(h0, .inr (3, [.ref q1, .ref q2, .ref q3, .int 0, .ref q4, .int 0, .int 0, .int 0, .ref q5, .int 0, .int 0, .int 0, .int 0, .null, .null, .null, .null])), (q1, .inl (cI, 95, .inl (fun _ => 0))), (q2, .inl (cI, 95, .inl (fun _ => 0))), (q3, .inl (cI, 95, .inl (fun _ => 0))), (q4, .inl (cI, 7, .inl (fun _ => 0))), (q5, .inl (cI, 120, .inl (fun _ => 0))), (q6, .inl (cI, 4, .inl (fun _ => 0)))] H := hP
  have hD : va_D A [(h0, .inr (3, [.ref q1, .ref q2, .ref q3, .int 0, .ref q4, .int 0, .int 0, .int 0, .ref q5, .int 0, .int 0, .int 0, .int 0, .null, .null, .null, .null])), (q1, .inl (cI, 95, .inl (fun _ => 0))), (q2, .inl (cI, 95, .inl (fun _ => 0))), (q3, .inl (cI, 95, .inl (fun _ => 0))), (q4, .inl (cI, 7, .inl (fun _ => 0))), (q5, .inl (cI, 120, .inl (fun _ => 0))), (q6, .inl (cI, 4, .inl (fun _ => 0)))] := hD
  refine va_putF (D := (dC, dI)) (ci := 3) (v := .ref q6) (ty := .array .int) (C := RX3) (T := TX3) (N := 17) hx hb hts bm_lays3 tyX3 tyX3_ok nmX3 hown hK hP hD hS 0 rfl rfl 13 (by decide) (hts (Cond.fieldLink RX3 25 "BellMilkModel" "bitsOf" "[I") iw_741) (fun _ h9 => h9) rfl hin rfl (by decide +kernel) rfl rfl (Nat.le_of_ble_eq_true rfl) idX3_48 (fun H locs hP hD hS => ?_)
  have hP : va_P (dC, dI) bm_cl [(h0, .inr (3, [.ref q1, .ref q2, .ref q3, .int 0, .ref q4, .int 0, .int 0, .int 0, .ref q5, .int 0, .int 0, .int 0, .int 0, .ref q6, .null, .null, .null])), (q1, .inl (cI, 95, .inl (fun _ => 0))), (q2, .inl (cI, 95, .inl (fun _ => 0))), (q3, .inl (cI, 95, .inl (fun _ => 0))), (q4, .inl (cI, 7, .inl (fun _ => 0))), (q5, .inl (cI, 120, .inl (fun _ => 0))), (q6, .inl (cI, 4, .inl (fun _ => 0)))] H := hP
  have hD : va_D A [(h0, .inr (3, [.ref q1, .ref q2, .ref q3, .int 0, .ref q4, .int 0, .int 0, .int 0, .ref q5, .int 0, .int 0, .int 0, .int 0, .ref q6, .null, .null, .null])), (q1, .inl (cI, 95, .inl (fun _ => 0))), (q2, .inl (cI, 95, .inl (fun _ => 0))), (q3, .inl (cI, 95, .inl (fun _ => 0))), (q4, .inl (cI, 7, .inl (fun _ => 0))), (q5, .inl (cI, 120, .inl (fun _ => 0))), (q6, .inl (cI, 4, .inl (fun _ => 0)))] := hD
  refine lv_aload_n hx hb idX3_51 rfl (lv_at hl 0 rfl) ?_
  refine lv_iconst (v := nI 4) hx hb idX3_52 (by decide) ?_
  refine gd_newa (N' := 4) hx hb harr hK 0 rfl hP hD hS hA (by decide) (by decide) (by decide) (Nat.le_of_ble_eq_true rfl) (Nat.le_of_ble_eq_true rfl) idX3_53 (fun q7 H hP hD hS => ?_)
  have hP : va_P (dC, dI) bm_cl [(h0, .inr (3, [.ref q1, .ref q2, .ref q3, .int 0, .ref q4, .int 0, .int 0, .int 0, .ref q5, .int 0, .int 0, .int 0, .int 0, .ref q6, .null, .null, .null])), (q1, .inl (cI, 95, .inl (fun _ => 0))), (q2, .inl (cI, 95, .inl (fun _ => 0))), (q3, .inl (cI, 95, .inl (fun _ => 0))), (q4, .inl (cI, 7, .inl (fun _ => 0))), (q5, .inl (cI, 120, .inl (fun _ => 0))), (q6, .inl (cI, 4, .inl (fun _ => 0))), (q7, .inl (cI, 4, .inl (fun _ => 0)))] H := hP
  have hD : va_D A [(h0, .inr (3, [.ref q1, .ref q2, .ref q3, .int 0, .ref q4, .int 0, .int 0, .int 0, .ref q5, .int 0, .int 0, .int 0, .int 0, .ref q6, .null, .null, .null])), (q1, .inl (cI, 95, .inl (fun _ => 0))), (q2, .inl (cI, 95, .inl (fun _ => 0))), (q3, .inl (cI, 95, .inl (fun _ => 0))), (q4, .inl (cI, 7, .inl (fun _ => 0))), (q5, .inl (cI, 120, .inl (fun _ => 0))), (q6, .inl (cI, 4, .inl (fun _ => 0))), (q7, .inl (cI, 4, .inl (fun _ => 0)))] := hD
  refine va_putF (D := (dC, dI)) (ci := 3) (v := .ref q7) (ty := .array .int) (C := RX3) (T := TX3) (N := 17) hx hb hts bm_lays3 tyX3 tyX3_ok nmX3 hown hK hP hD hS 0 rfl rfl 14 (by decide) (hts (Cond.fieldLink RX3 28 "BellMilkModel" "sizeOf" "[I") iw_742) (fun _ h9 => h9) rfl hin rfl (by decide +kernel) rfl rfl (Nat.le_of_ble_eq_true rfl) idX3_55 (fun H locs hP hD hS => ?_)
  have hP : va_P (dC, dI) bm_cl [(h0, .inr (3, [.ref q1, .ref q2, .ref q3, .int 0, .ref q4, .int 0, .int 0, .int 0, .ref q5, .int 0, .int 0, .int 0, .int 0, .ref q6, .ref q7, .null, .null])), (q1, .inl (cI, 95, .inl (fun _ => 0))), (q2, .inl (cI, 95, .inl (fun _ => 0))), (q3, .inl (cI, 95, .inl (fun _ => 0))), (q4, .inl (cI, 7, .inl (fun _ => 0))), (q5, .inl (cI, 120, .inl (fun _ => 0))), (q6, .inl (cI, 4, .inl (fun _ => 0))), (q7, .inl (cI, 4, .inl (fun _ => 0)))] H := hP
  have hD : va_D A [(h0, .inr (3, [.ref q1, .ref q2, .ref q3, .int 0, .ref q4, .int 0, .int 0, .int 0, .ref q5, .int 0, .int 0, .int 0, .int 0, .ref q6, .ref q7, .null, .null])), (q1, .inl (cI, 95, .inl (fun _ => 0))), (q2, .inl (cI, 95, .inl (fun _ => 0))), (q3, .inl (cI, 95, .inl (fun _ => 0))), (q4, .inl (cI, 7, .inl (fun _ => 0))), (q5, .inl (cI, 120, .inl (fun _ => 0))), (q6, .inl (cI, 4, .inl (fun _ => 0))), (q7, .inl (cI, 4, .inl (fun _ => 0)))] := hD
  refine lv_aload_n hx hb idX3_58 rfl (lv_at hl 0 rfl) ?_
  refine lv_sipush (v := nI 160) hx hb idX3_59 (by decide) ?_
  refine gd_newa (N' := 160) hx hb harr hK 0 rfl hP hD hS hA (by decide) (by decide) (by decide) (Nat.le_of_ble_eq_true rfl) (Nat.le_of_ble_eq_true rfl) idX3_62 (fun q8 H hP hD hS => ?_)
  have hP : va_P (dC, dI) bm_cl [(h0, .inr (3, [.ref q1, .ref q2, .ref q3, .int 0, .ref q4, .int 0, .int 0, .int 0, .ref q5, .int 0, .int 0, .int 0, .int 0, .ref q6, .ref q7, .null, .null])), (q1, .inl (cI, 95, .inl (fun _ => 0))), (q2, .inl (cI, 95, .inl (fun _ => 0))), (q3, .inl (cI, 95, .inl (fun _ => 0))), (q4, .inl (cI, 7, .inl (fun _ => 0))), (q5, .inl (cI, 120, .inl (fun _ => 0))), (q6, .inl (cI, 4, .inl (fun _ => 0))), (q7, .inl (cI, 4, .inl (fun _ => 0))), (q8, .inl (cI, 160, .inl (fun _ => 0)))] H := hP
  have hD : va_D A [(h0, .inr (3, [.ref q1, .ref q2, .ref q3, .int 0, .ref q4, .int 0, .int 0, .int 0, .ref q5, .int 0, .int 0, .int 0, .int 0, .ref q6, .ref q7, .null, .null])), (q1, .inl (cI, 95, .inl (fun _ => 0))), (q2, .inl (cI, 95, .inl (fun _ => 0))), (q3, .inl (cI, 95, .inl (fun _ => 0))), (q4, .inl (cI, 7, .inl (fun _ => 0))), (q5, .inl (cI, 120, .inl (fun _ => 0))), (q6, .inl (cI, 4, .inl (fun _ => 0))), (q7, .inl (cI, 4, .inl (fun _ => 0))), (q8, .inl (cI, 160, .inl (fun _ => 0)))] := hD
  refine va_putF (D := (dC, dI)) (ci := 3) (v := .ref q8) (ty := .array .int) (C := RX3) (T := TX3) (N := 17) hx hb hts bm_lays3 tyX3 tyX3_ok nmX3 hown hK hP hD hS 0 rfl rfl 15 (by decide) (hts (Cond.fieldLink RX3 31 "BellMilkModel" "number" "[I") iw_743) (fun _ h9 => h9) rfl hin rfl (by decide +kernel) rfl rfl (Nat.le_of_ble_eq_true rfl) idX3_64 (fun H locs hP hD hS => ?_)
  have hP : va_P (dC, dI) bm_cl [(h0, .inr (3, [.ref q1, .ref q2, .ref q3, .int 0, .ref q4, .int 0, .int 0, .int 0, .ref q5, .int 0, .int 0, .int 0, .int 0, .ref q6, .ref q7, .ref q8, .null])), (q1, .inl (cI, 95, .inl (fun _ => 0))), (q2, .inl (cI, 95, .inl (fun _ => 0))), (q3, .inl (cI, 95, .inl (fun _ => 0))), (q4, .inl (cI, 7, .inl (fun _ => 0))), (q5, .inl (cI, 120, .inl (fun _ => 0))), (q6, .inl (cI, 4, .inl (fun _ => 0))), (q7, .inl (cI, 4, .inl (fun _ => 0))), (q8, .inl (cI, 160, .inl (fun _ => 0)))] H := hP
  have hD : va_D A [(h0, .inr (3, [.ref q1, .ref q2, .ref q3, .int 0, .ref q4, .int 0, .int 0, .int 0, .ref q5, .int 0, .int 0, .int 0, .int 0, .ref q6, .ref q7, .ref q8, .null])), (q1, .inl (cI, 95, .inl (fun _ => 0))), (q2, .inl (cI, 95, .inl (fun _ => 0))), (q3, .inl (cI, 95, .inl (fun _ => 0))), (q4, .inl (cI, 7, .inl (fun _ => 0))), (q5, .inl (cI, 120, .inl (fun _ => 0))), (q6, .inl (cI, 4, .inl (fun _ => 0))), (q7, .inl (cI, 4, .inl (fun _ => 0))), (q8, .inl (cI, 160, .inl (fun _ => 0)))] := hD
  refine lv_aload_n hx hb idX3_67 rfl (lv_at hl 0 rfl) ?_
  refine lv_bipush (v := nI 40) hx hb idX3_68 (by decide) ?_
  refine gd_newa (N' := 40) hx hb harr hK 0 rfl hP hD hS hA (by decide) (by decide) (by decide) (Nat.le_of_ble_eq_true rfl) (Nat.le_of_ble_eq_true rfl) idX3_70 (fun q9 H hP hD hS => ?_)
  have hP : va_P (dC, dI) bm_cl [(h0, .inr (3, [.ref q1, .ref q2, .ref q3, .int 0, .ref q4, .int 0, .int 0, .int 0, .ref q5, .int 0, .int 0, .int 0, .int 0, .ref q6, .ref q7, .ref q8, .null])), (q1, .inl (cI, 95, .inl (fun _ => 0))), (q2, .inl (cI, 95, .inl (fun _ => 0))), (q3, .inl (cI, 95, .inl (fun _ => 0))), (q4, .inl (cI, 7, .inl (fun _ => 0))), (q5, .inl (cI, 120, .inl (fun _ => 0))), (q6, .inl (cI, 4, .inl (fun _ => 0))), (q7, .inl (cI, 4, .inl (fun _ => 0))), (q8, .inl (cI, 160, .inl (fun _ => 0))), (q9, .inl (cI, 40, .inl (fun _ => 0)))] H := hP
  have hD : va_D A [(h0, .inr (3, [.ref q1, .ref q2, .ref q3, .int 0, .ref q4, .int 0, .int 0, .int 0, .ref q5, .int 0, .int 0, .int 0, .int 0, .ref q6, .ref q7, .ref q8, .null])), (q1, .inl (cI, 95, .inl (fun _ => 0))), (q2, .inl (cI, 95, .inl (fun _ => 0))), (q3, .inl (cI, 95, .inl (fun _ => 0))), (q4, .inl (cI, 7, .inl (fun _ => 0))), (q5, .inl (cI, 120, .inl (fun _ => 0))), (q6, .inl (cI, 4, .inl (fun _ => 0))), (q7, .inl (cI, 4, .inl (fun _ => 0))), (q8, .inl (cI, 160, .inl (fun _ => 0))), (q9, .inl (cI, 40, .inl (fun _ => 0)))] := hD
  refine va_putF (D := (dC, dI)) (ci := 3) (v := .ref q9) (ty := .array .int) (C := RX3) (T := TX3) (N := 17) hx hb hts bm_lays3 tyX3 tyX3_ok nmX3 hown hK hP hD hS 0 rfl rfl 16 (by decide) (hts (Cond.fieldLink RX3 34 "BellMilkModel" "moved" "[I") iw_744) (fun _ h9 => h9) rfl hin rfl (by decide +kernel) rfl rfl (Nat.le_of_ble_eq_true rfl) idX3_72 (fun H locs hP hD hS => ?_)
  have hP : va_P (dC, dI) bm_cl [(h0, .inr (3, [.ref q1, .ref q2, .ref q3, .int 0, .ref q4, .int 0, .int 0, .int 0, .ref q5, .int 0, .int 0, .int 0, .int 0, .ref q6, .ref q7, .ref q8, .ref q9])), (q1, .inl (cI, 95, .inl (fun _ => 0))), (q2, .inl (cI, 95, .inl (fun _ => 0))), (q3, .inl (cI, 95, .inl (fun _ => 0))), (q4, .inl (cI, 7, .inl (fun _ => 0))), (q5, .inl (cI, 120, .inl (fun _ => 0))), (q6, .inl (cI, 4, .inl (fun _ => 0))), (q7, .inl (cI, 4, .inl (fun _ => 0))), (q8, .inl (cI, 160, .inl (fun _ => 0))), (q9, .inl (cI, 40, .inl (fun _ => 0)))] H := hP
  have hD : va_D A [(h0, .inr (3, [.ref q1, .ref q2, .ref q3, .int 0, .ref q4, .int 0, .int 0, .int 0, .ref q5, .int 0, .int 0, .int 0, .int 0, .ref q6, .ref q7, .ref q8, .ref q9])), (q1, .inl (cI, 95, .inl (fun _ => 0))), (q2, .inl (cI, 95, .inl (fun _ => 0))), (q3, .inl (cI, 95, .inl (fun _ => 0))), (q4, .inl (cI, 7, .inl (fun _ => 0))), (q5, .inl (cI, 120, .inl (fun _ => 0))), (q6, .inl (cI, 4, .inl (fun _ => 0))), (q7, .inl (cI, 4, .inl (fun _ => 0))), (q8, .inl (cI, 160, .inl (fun _ => 0))), (q9, .inl (cI, 40, .inl (fun _ => 0)))] := hD
  refine W.widen (k := 9) (n := 620) (Nat.le_of_ble_eq_true rfl) (Nat.le_of_ble_eq_true rfl) ?_
  have hP : va_P (dC, dI) bm_cl (iM cI h0 q1 q2 q3 q4 q5 q6 q7 q8 q9 (fun _ => 0)) H := hP
  have hD : va_D A (iM cI h0 q1 q2 q3 q4 q5 q6 q7 q8 q9 (fun _ => 0)) := hD
  have hlt : ∀ i N : Nat, i < N → N < 2147483648 → ¬ nI N ≤ nI i := fun i N h h2 => nI_ge h h2
  have two : ∀ (n i : Nat), i + n = 10 → ∀ (g : Nat → Int32) (H : Heap) (locs : List Loc) (ls : Array Slot), im2 i g → va_P (dC, dI) bm_cl (iM cI h0 q1 q2 q3 q4 q5 q6 q7 q8 q9 g) H → va_D A (iM cI h0 q1 q2 q3 q4 q5 q6 q7 q8 q9 g) → va_S A s.heap H locs → lv_has ls 2 [(1, .int (nI i)), (0, .ref h0)] → W p l e (headSpec ivX3 { frames := 1, cells := 9, slots := 620, locals := 40 }).room s m #[Value.ref h0] below meth c H locs 9 620 (MQ below (va_Qv (fun u : Nat → Int32 => im2 10 u) (iMat dC dI cI A h0) A) #[Value.ref h0] s 9 620 A) (F0 m 115 ls []) := by
    intro n
    induction n with
    | zero =>
      intro i hi g H locs ls hg hP hD hS hl
      refine lv_iload_n hx hb idX3_115 rfl (lv_at hl 0 rfl) ?_
      refine lv_bipush (v := nI 10) hx hb idX3_116 (by decide) ?_
      refine lv_icmp_ge (tgt := 137) hx hb idX3_118 (by decide) (fun _ => ?_) (fun h => absurd (by rw [show i = 10 by omega]; exact Int32.le_refl _) h)
      exact W.vret hx hb hr (fun t ht hW => ⟨⟨g, rfl, by rw [show (10 : Nat) = i by omega]; exact hg, q1, q2, q3, q4, q5, q6, q7, q8, q9, by rw [ht]; exact hP, va_K.moved hW.alike hK, hD⟩, hS.F ht⟩) hS.2.2 idX3_137
    | succ n ih =>
      intro i hi g H locs ls hg hP hD hS hl
      refine lv_iload_n hx hb idX3_115 rfl (lv_at hl 0 rfl) ?_
      refine lv_bipush (v := nI 10) hx hb idX3_116 (by decide) ?_
      refine lv_icmp_ge (tgt := 137) hx hb idX3_118 (by decide) (fun h => absurd h (hlt i 10 (by omega) (by decide))) (fun _ => ?_)
      refine lv_aload_n hx hb idX3_121 rfl (lv_at hl 1 rfl) ?_
      refine va_get (C := RX3) (T := TX3) (N := 17) (ci := 3) hx hb hts bm_lays3 hown hK hP 0 rfl rfl 0 (by decide) (hts (Cond.fieldLink RX3 9 "BellMilkModel" "s" "[I") iw_728) (fun _ h9 => h9) rfl idX3_122 ?_
      refine lv_bipush (v := nI 85) hx hb idX3_125 (by decide) ?_
      refine lv_iload_n hx hb idX3_127 rfl (lv_at hl 0 rfl) ?_
      refine lv_iadd hx hb idX3_128 ?_
      rw [nI_add]
      refine lv_iconst (v := -nI 1) hx hb idX3_129 (by decide) ?_
      refine va_iast hx hb hK hP hD hS 1 0 (cA := cI) (n := 95) (f := g) rfl rfl (nI_in (show 85 + i < 95 by omega) (by decide)) idX3_130 (fun H locs hP hD hS => ?_)
      rw [nI_clamp (by omega)] at hP hD
      refine lv_iinc (lv' := [(1, .int (nI (i + 1))), (0, .ref h0)]) hx hb idX3_131 hl (k := 0) rfl (nI_1 i) (by decide) rfl (fun ls hl => ?_)
      refine lv_goto (tgt := 115) hx hb idX3_134 (by decide) ?_
      exact ih (i + 1) (by omega) _ H locs ls hg.next hP hD hS hl
  have one : ∀ (n i : Nat), i + n = 12 → ∀ (g : Nat → Int32) (H : Heap) (locs : List Loc) (ls : Array Slot), im1 i g → va_P (dC, dI) bm_cl (iM cI h0 q1 q2 q3 q4 q5 q6 q7 q8 q9 g) H → va_D A (iM cI h0 q1 q2 q3 q4 q5 q6 q7 q8 q9 g) → va_S A s.heap H locs → lv_has ls 2 [(1, .int (nI i)), (0, .ref h0)] → W p l e (headSpec ivX3 { frames := 1, cells := 9, slots := 620, locals := 40 }).room s m #[Value.ref h0] below meth c H locs 9 620 (MQ below (va_Qv (fun u : Nat → Int32 => im2 10 u) (iMat dC dI cI A h0) A) #[Value.ref h0] s 9 620 A) (F0 m 91 ls []) := by
    intro n
    induction n with
    | zero =>
      intro i hi g H locs ls hg hP hD hS hl
      refine lv_iload_n hx hb idX3_91 rfl (lv_at hl 0 rfl) ?_
      refine lv_bipush (v := nI 12) hx hb idX3_92 (by decide) ?_
      refine lv_icmp_ge (tgt := 113) hx hb idX3_94 (by decide) (fun _ => ?_) (fun h => absurd (by rw [show i = 12 by omega]; exact Int32.le_refl _) h)
      refine lv_iconst (v := nI 0) hx hb idX3_113 (by decide) ?_
      refine lv_istore_n (lv' := [(1, .int (nI 0)), (0, .ref h0)]) hx hb idX3_114 rfl hl (by decide) rfl (fun ls hl => ?_)
      exact two 10 0 (by omega) g H locs ls (im1.two (by rw [show (12 : Nat) = i by omega]; exact hg)) hP hD hS hl
    | succ n ih =>
      intro i hi g H locs ls hg hP hD hS hl
      refine lv_iload_n hx hb idX3_91 rfl (lv_at hl 0 rfl) ?_
      refine lv_bipush (v := nI 12) hx hb idX3_92 (by decide) ?_
      refine lv_icmp_ge (tgt := 113) hx hb idX3_94 (by decide) (fun h => absurd h (hlt i 12 (by omega) (by decide))) (fun _ => ?_)
      refine lv_aload_n hx hb idX3_97 rfl (lv_at hl 1 rfl) ?_
      refine va_get (C := RX3) (T := TX3) (N := 17) (ci := 3) hx hb hts bm_lays3 hown hK hP 0 rfl rfl 0 (by decide) (hts (Cond.fieldLink RX3 9 "BellMilkModel" "s" "[I") iw_728) (fun _ h9 => h9) rfl idX3_98 ?_
      refine lv_iconst (v := nI 5) hx hb idX3_101 (by decide) ?_
      refine lv_iload_n hx hb idX3_102 rfl (lv_at hl 0 rfl) ?_
      refine lv_iadd hx hb idX3_103 ?_
      rw [nI_add]
      refine lv_bipush (v := nI 50) hx hb idX3_104 (by decide) ?_
      refine va_iast hx hb hK hP hD hS 1 0 (cA := cI) (n := 95) (f := g) rfl rfl (nI_in (show 5 + i < 95 by omega) (by decide)) idX3_106 (fun H locs hP hD hS => ?_)
      rw [nI_clamp (by omega)] at hP hD
      refine lv_iinc (lv' := [(1, .int (nI (i + 1))), (0, .ref h0)]) hx hb idX3_107 hl (k := 0) rfl (nI_1 i) (by decide) rfl (fun ls hl => ?_)
      refine lv_goto (tgt := 91) hx hb idX3_110 (by decide) ?_
      exact ih (i + 1) (by omega) _ H locs ls hg.next hP hD hS hl
  refine lv_aload_n hx hb idX3_75 rfl (lv_at hl 0 rfl) ?_
  refine va_get (C := RX3) (T := TX3) (N := 17) (ci := 3) hx hb hts bm_lays3 hown hK hP 0 rfl rfl 0 (by decide) (hts (Cond.fieldLink RX3 9 "BellMilkModel" "s" "[I") iw_728) (fun _ h9 => h9) rfl idX3_76 ?_
  refine lv_iconst (v := nI 1) hx hb idX3_79 (by decide) ?_
  refine lv_iconst (v := nI 1) hx hb idX3_80 (by decide) ?_
  refine va_iast hx hb hK hP hD hS 1 0 (cA := cI) (n := 95) (f := (fun _ => 0)) rfl rfl (nI_in (show 1 < 95 by omega) (by decide)) idX3_81 (fun H locs hP hD hS => ?_)
  rw [nI_clamp (by omega)] at hP hD
  have hP : va_P (dC, dI) bm_cl (iM cI h0 q1 q2 q3 q4 q5 q6 q7 q8 q9 (upd (fun _ => 0) 1 (nI 1))) H := hP
  have hD : va_D A (iM cI h0 q1 q2 q3 q4 q5 q6 q7 q8 q9 (upd (fun _ => 0) 1 (nI 1))) := hD
  refine lv_aload_n hx hb idX3_82 rfl (lv_at hl 0 rfl) ?_
  refine va_get (C := RX3) (T := TX3) (N := 17) (ci := 3) hx hb hts bm_lays3 hown hK hP 0 rfl rfl 0 (by decide) (hts (Cond.fieldLink RX3 9 "BellMilkModel" "s" "[I") iw_728) (fun _ h9 => h9) rfl idX3_83 ?_
  refine lv_iconst (v := nI 3) hx hb idX3_86 (by decide) ?_
  refine lv_iconst (v := nI 2) hx hb idX3_87 (by decide) ?_
  refine va_iast hx hb hK hP hD hS 1 0 (cA := cI) (n := 95) (f := (upd (fun _ => 0) 1 (nI 1))) rfl rfl (nI_in (show 3 < 95 by omega) (by decide)) idX3_88 (fun H locs hP hD hS => ?_)
  rw [nI_clamp (by omega)] at hP hD
  refine lv_iconst (v := nI 0) hx hb idX3_89 (by decide) ?_
  refine lv_istore_n (lv' := [(1, .int (nI 0)), (0, .ref h0)]) hx hb idX3_90 rfl hl (by decide) rfl (fun ls hl => ?_)
  exact one 12 0 (by omega) _ H _ ls im1_0 hP hD hS hl
