theorem iu_step {g : Nat → Int32} {i : Nat} {v : Int32} (h : ∀ j, j < i → g j = v) : ∀ j, j < i + 1 → upd g i v j = v := fun j hj => by
  unfold upd
  by_cases q : j = i
  · rw [if_pos q]
  · rw [if_neg q]
    exact h j (by omega)
def iH (cI : ClassId) (h0 q1 q2 q3 q4 q5 q6 q7 q8 q9 q10 : Nat) (g1 g3 : Nat → Int32) : va_W := [(h0, .inr (0, [.ref q1, .ref q2, .ref q3, .int (nI 2), .int (nI 0), .int (nI 0), .int (nI 1), .int (nI 0), .ref q4, .ref q5, .ref q6, .ref q7, .ref q8, .ref q9, .ref q10])), (q1, .inl (cI, 12, .inl g1)), (q2, .inl (cI, 12, .inl (fun _ => 0))), (q3, .inl (cI, 10, .inl g3)), (q4, .inl (cI, 8, .inl (fun _ => 0))), (q5, .inl (cI, 8, .inl (fun _ => 0))), (q6, .inl (cI, 8, .inl (fun _ => 0))), (q7, .inl (cI, 8, .inl (fun _ => 0))), (q8, .inl (cI, 8, .inl (fun _ => 0))), (q9, .inl (cI, 8, .inl (fun _ => 0))), (q10, .inl (cI, 8, .inl (fun _ => 0)))]
def iHat (dC : Nat → ClassId) (dI : Nat → Nat → Nat) (cI : ClassId) (A : Nat → Prop) (h0 : Nat) (u : (Nat → Int32) × (Nat → Int32)) (U : State) : Prop := ∃ q1 q2 q3 q4 q5 q6 q7 q8 q9 q10, va_P (dC, dI) bm_cl (iH cI h0 q1 q2 q3 q4 q5 q6 q7 q8 q9 q10 u.1 u.2) U.heap ∧ va_K (dC, dI) bm_cl [(cI, .int)] U ∧ va_D A (iH cI h0 q1 q2 q3 q4 q5 q6 q7 q8 q9 q10 u.1 u.2)
set_option maxHeartbeats 4000000 in
set_option maxRecDepth 100000 in
theorem imX0 (l : Launch) (dC : Nat → ClassId) (dI : Nat → Nat → Nat) (cI : ClassId) (h0 sz : Nat) : Met l iyX0 ivX0 ({ frames := 1, cells := 10, slots := 90, locals := 40 }) (va_Pc [.ref h0] (fun U => U.heap.size = sz ∧ va_P (dC, dI) bm_cl [(h0, .inr (0, [.null, .null, .null, .int 0, .int 0, .int 0, .int 0, .int 0, .null, .null, .null, .null, .null, .null, .null]))] U.heap ∧ va_K (dC, dI) bm_cl [(cI, .int)] U ∧ va_D (fun _ => True) [(h0, .inr (0, [.null, .null, .null, .int 0, .int 0, .int 0, .int 0, .int 0, .null, .null, .null, .null, .null, .null, .null]))])) (va_Qv (fun u : (Nat → Int32) × (Nat → Int32) => (∀ i, i < 12 → u.1 i = nI 50) ∧ ∀ i, i < 10 → u.2 i = -nI 1) (iHat dC dI cI (va_A [(h0, .inr (0, [.null, .null, .null, .int 0, .int 0, .int 0, .int 0, .int 0, .null, .null, .null, .null, .null, .null, .null]))] sz) h0) (va_A [(h0, .inr (0, [.null, .null, .null, .int 0, .int 0, .int 0, .int 0, .int 0, .null, .null, .null, .null, .null, .null, .null]))] sz)) 10 90 (va_A [(h0, .inr (0, [.null, .null, .null, .int 0, .int 0, .int 0, .int 0, .int 0, .null, .null, .null, .null, .null, .null, .null]))] sz) := by
  refine Met.ofW (cc := icX0) (maxL := 2) (ret := none) (by decide) rfl ?_
  intro p e s m args below meth c s₁ B hml hv
  obtain ⟨rfl, hsz, hP, hK, hD0⟩ := hv
  have hx := B.exec
  have hb := B.bytes
  have hr := B.returns
  have hts0 := atoms_spec (ws := ivX0) B.pre
  have hts := fun w (hw : w ∈ bm_T) => hts0 w (List.mem_cons_of_mem _ hw)
  have hown : s.vm.findClass RX0 = some m.cls := findClass_of_methodNamed B.named
  have hlocks := B.notSynchronized
  have hin : meth.name = "<init>" := (name_of_methodNamed B.named B.method).1
  have harr := hts (Cond.arrayClass .int) iw_165
  subst hsz
  have hD := hD0.self (sz := s.heap.size)
  generalize hAe : va_A [(h0, .inr (0, [.null, .null, .null, .int 0, .int 0, .int 0, .int 0, .int 0, .null, .null, .null, .null, .null, .null, .null]))] s.heap.size = A at hD ⊢
  have hA : ∀ q : Nat, s.heap.size ≤ q → A q := fun q h => by rw [← hAe]; exact Or.inr h
  have hS : va_S A s.heap s.heap [] := va_S.rf
  have hP : va_P (dC, dI) bm_cl [(h0, .inr (0, [.null, .null, .null, .int 0, .int 0, .int 0, .int 0, .int 0, .null, .null, .null, .null, .null, .null, .null]))] s.heap := hP
  have hl := lv_entry ([.ref h0]) (n := 2) (Nat.le_of_ble_eq_true rfl)
  rw [lg_entry_eq]
  generalize (lg_sl ([.ref h0]) ++ List.replicate (2 - (lg_sl ([.ref h0])).length) Slot.unset).toArray = ls at hl ⊢
  have hl : lv_has ls 2 [(0, .ref h0)] := hl
  refine lv_aload_n hx hb idX0_0 rfl (lv_at hl 0 rfl) ?_
  refine W.objInit hx hb hown (hts (Cond.methodLink RX0 3 objectInit) iw_96) (hts (Cond.instanceMethod objectInit) iw_89) (hts (Cond.code objectInit ⟨#[0xb1]⟩ 1 none) iw_90) rfl (by rw [hml]; exact hl.1) rfl idX0_1 (Nat.le_of_ble_eq_true rfl) (Nat.le_of_ble_eq_true rfl) ?_
  refine W.eq (g2 := F0 m 4 ls []) rfl ?_
  refine lv_aload_n hx hb idX0_4 rfl (lv_at hl 0 rfl) ?_
  refine lv_bipush (v := nI 12) hx hb idX0_5 (by decide) ?_
  refine gd_newa (N' := 12) hx hb harr hK 0 rfl hP hD hS hA (by decide) (by decide) (by decide) (Nat.le_of_ble_eq_true rfl) (Nat.le_of_ble_eq_true rfl) idX0_7 (fun q1 H hP hD hS => ?_)
  have hP : va_P (dC, dI) bm_cl [(h0, .inr (0, [.null, .null, .null, .int 0, .int 0, .int 0, .int 0, .int 0, .null, .null, .null, .null, .null, .null, .null])), (q1, .inl (cI, 12, .inl (fun _ => 0)))] H := hP
  have hD : va_D A [(h0, .inr (0, [.null, .null, .null, .int 0, .int 0, .int 0, .int 0, .int 0, .null, .null, .null, .null, .null, .null, .null])), (q1, .inl (cI, 12, .inl (fun _ => 0)))] := hD
  refine va_putF (D := (dC, dI)) (ci := 0) (v := .ref q1) (ty := .array .int) (C := RX0) (T := TX0) (N := 15) hx hb hts bm_lays0 tyX0 tyX0_ok nmX0 hown hK hP hD hS 0 rfl rfl 0 (by decide) (hts (Cond.fieldLink RX0 9 "BellMilk$Herd" "grass" "[I") iw_97) (fun _ h9 => h9) rfl hin rfl (by decide +kernel) rfl rfl (Nat.le_of_ble_eq_true rfl) idX0_9 (fun H locs hP hD hS => ?_)
  have hP : va_P (dC, dI) bm_cl [(h0, .inr (0, [.ref q1, .null, .null, .int 0, .int 0, .int 0, .int 0, .int 0, .null, .null, .null, .null, .null, .null, .null])), (q1, .inl (cI, 12, .inl (fun _ => 0)))] H := hP
  have hD : va_D A [(h0, .inr (0, [.ref q1, .null, .null, .int 0, .int 0, .int 0, .int 0, .int 0, .null, .null, .null, .null, .null, .null, .null])), (q1, .inl (cI, 12, .inl (fun _ => 0)))] := hD
  refine lv_aload_n hx hb idX0_12 rfl (lv_at hl 0 rfl) ?_
  refine lv_bipush (v := nI 12) hx hb idX0_13 (by decide) ?_
  refine gd_newa (N' := 12) hx hb harr hK 0 rfl hP hD hS hA (by decide) (by decide) (by decide) (Nat.le_of_ble_eq_true rfl) (Nat.le_of_ble_eq_true rfl) idX0_15 (fun q2 H hP hD hS => ?_)
  have hP : va_P (dC, dI) bm_cl [(h0, .inr (0, [.ref q1, .null, .null, .int 0, .int 0, .int 0, .int 0, .int 0, .null, .null, .null, .null, .null, .null, .null])), (q1, .inl (cI, 12, .inl (fun _ => 0))), (q2, .inl (cI, 12, .inl (fun _ => 0)))] H := hP
  have hD : va_D A [(h0, .inr (0, [.ref q1, .null, .null, .int 0, .int 0, .int 0, .int 0, .int 0, .null, .null, .null, .null, .null, .null, .null])), (q1, .inl (cI, 12, .inl (fun _ => 0))), (q2, .inl (cI, 12, .inl (fun _ => 0)))] := hD
  refine va_putF (D := (dC, dI)) (ci := 0) (v := .ref q2) (ty := .array .int) (C := RX0) (T := TX0) (N := 15) hx hb hts bm_lays0 tyX0 tyX0_ok nmX0 hown hK hP hD hS 0 rfl rfl 1 (by decide) (hts (Cond.fieldLink RX0 15 "BellMilk$Herd" "pails" "[I") iw_100) (fun _ h9 => h9) rfl hin rfl (by decide +kernel) rfl rfl (Nat.le_of_ble_eq_true rfl) idX0_17 (fun H locs hP hD hS => ?_)
  have hP : va_P (dC, dI) bm_cl [(h0, .inr (0, [.ref q1, .ref q2, .null, .int 0, .int 0, .int 0, .int 0, .int 0, .null, .null, .null, .null, .null, .null, .null])), (q1, .inl (cI, 12, .inl (fun _ => 0))), (q2, .inl (cI, 12, .inl (fun _ => 0)))] H := hP
  have hD : va_D A [(h0, .inr (0, [.ref q1, .ref q2, .null, .int 0, .int 0, .int 0, .int 0, .int 0, .null, .null, .null, .null, .null, .null, .null])), (q1, .inl (cI, 12, .inl (fun _ => 0))), (q2, .inl (cI, 12, .inl (fun _ => 0)))] := hD
  refine lv_aload_n hx hb idX0_20 rfl (lv_at hl 0 rfl) ?_
  refine lv_bipush (v := nI 10) hx hb idX0_21 (by decide) ?_
  refine gd_newa (N' := 10) hx hb harr hK 0 rfl hP hD hS hA (by decide) (by decide) (by decide) (Nat.le_of_ble_eq_true rfl) (Nat.le_of_ble_eq_true rfl) idX0_23 (fun q3 H hP hD hS => ?_)
  have hP : va_P (dC, dI) bm_cl [(h0, .inr (0, [.ref q1, .ref q2, .null, .int 0, .int 0, .int 0, .int 0, .int 0, .null, .null, .null, .null, .null, .null, .null])), (q1, .inl (cI, 12, .inl (fun _ => 0))), (q2, .inl (cI, 12, .inl (fun _ => 0))), (q3, .inl (cI, 10, .inl (fun _ => 0)))] H := hP
  have hD : va_D A [(h0, .inr (0, [.ref q1, .ref q2, .null, .int 0, .int 0, .int 0, .int 0, .int 0, .null, .null, .null, .null, .null, .null, .null])), (q1, .inl (cI, 12, .inl (fun _ => 0))), (q2, .inl (cI, 12, .inl (fun _ => 0))), (q3, .inl (cI, 10, .inl (fun _ => 0)))] := hD
  refine va_putF (D := (dC, dI)) (ci := 0) (v := .ref q3) (ty := .array .int) (C := RX0) (T := TX0) (N := 15) hx hb hts bm_lays0 tyX0 tyX0_ok nmX0 hown hK hP hD hS 0 rfl rfl 2 (by decide) (hts (Cond.fieldLink RX0 18 "BellMilk$Herd" "spots" "[I") iw_102) (fun _ h9 => h9) rfl hin rfl (by decide +kernel) rfl rfl (Nat.le_of_ble_eq_true rfl) idX0_25 (fun H locs hP hD hS => ?_)
  have hP : va_P (dC, dI) bm_cl [(h0, .inr (0, [.ref q1, .ref q2, .ref q3, .int 0, .int 0, .int 0, .int 0, .int 0, .null, .null, .null, .null, .null, .null, .null])), (q1, .inl (cI, 12, .inl (fun _ => 0))), (q2, .inl (cI, 12, .inl (fun _ => 0))), (q3, .inl (cI, 10, .inl (fun _ => 0)))] H := hP
  have hD : va_D A [(h0, .inr (0, [.ref q1, .ref q2, .ref q3, .int 0, .int 0, .int 0, .int 0, .int 0, .null, .null, .null, .null, .null, .null, .null])), (q1, .inl (cI, 12, .inl (fun _ => 0))), (q2, .inl (cI, 12, .inl (fun _ => 0))), (q3, .inl (cI, 10, .inl (fun _ => 0)))] := hD
  refine lv_aload_n hx hb idX0_28 rfl (lv_at hl 0 rfl) ?_
  refine lv_iconst (v := nI 2) hx hb idX0_29 (by decide) ?_
  refine va_put (D := (dC, dI)) (ci := 0) (v := .int (nI 2)) (ty := .int) (C := RX0) (T := TX0) (N := 15) hx hb hts bm_lays0 tyX0 tyX0_ok nmX0 hown hK hP hD hS 0 rfl rfl 3 (by decide) (hts (Cond.fieldLink RX0 21 "BellMilk$Herd" "grows" "I") iw_104) (fun _ h9 => h9) rfl (by decide +kernel) rfl rfl (Nat.le_of_ble_eq_true rfl) idX0_30 (fun H locs hP hD hS => ?_)
  have hP : va_P (dC, dI) bm_cl [(h0, .inr (0, [.ref q1, .ref q2, .ref q3, .int (nI 2), .int 0, .int 0, .int 0, .int 0, .null, .null, .null, .null, .null, .null, .null])), (q1, .inl (cI, 12, .inl (fun _ => 0))), (q2, .inl (cI, 12, .inl (fun _ => 0))), (q3, .inl (cI, 10, .inl (fun _ => 0)))] H := hP
  have hD : va_D A [(h0, .inr (0, [.ref q1, .ref q2, .ref q3, .int (nI 2), .int 0, .int 0, .int 0, .int 0, .null, .null, .null, .null, .null, .null, .null])), (q1, .inl (cI, 12, .inl (fun _ => 0))), (q2, .inl (cI, 12, .inl (fun _ => 0))), (q3, .inl (cI, 10, .inl (fun _ => 0)))] := hD
  refine lv_aload_n hx hb idX0_33 rfl (lv_at hl 0 rfl) ?_
  refine lv_iconst (v := nI 0) hx hb idX0_34 (by decide) ?_
  refine va_put (D := (dC, dI)) (ci := 0) (v := .int (nI 0)) (ty := .int) (C := RX0) (T := TX0) (N := 15) hx hb hts bm_lays0 tyX0 tyX0_ok nmX0 hown hK hP hD hS 0 rfl rfl 4 (by decide) (hts (Cond.fieldLink RX0 25 "BellMilk$Herd" "thunder" "I") iw_107) (fun _ h9 => h9) rfl (by decide +kernel) rfl rfl (Nat.le_of_ble_eq_true rfl) idX0_35 (fun H locs hP hD hS => ?_)
  have hP : va_P (dC, dI) bm_cl [(h0, .inr (0, [.ref q1, .ref q2, .ref q3, .int (nI 2), .int (nI 0), .int 0, .int 0, .int 0, .null, .null, .null, .null, .null, .null, .null])), (q1, .inl (cI, 12, .inl (fun _ => 0))), (q2, .inl (cI, 12, .inl (fun _ => 0))), (q3, .inl (cI, 10, .inl (fun _ => 0)))] H := hP
  have hD : va_D A [(h0, .inr (0, [.ref q1, .ref q2, .ref q3, .int (nI 2), .int (nI 0), .int 0, .int 0, .int 0, .null, .null, .null, .null, .null, .null, .null])), (q1, .inl (cI, 12, .inl (fun _ => 0))), (q2, .inl (cI, 12, .inl (fun _ => 0))), (q3, .inl (cI, 10, .inl (fun _ => 0)))] := hD
  refine lv_aload_n hx hb idX0_38 rfl (lv_at hl 0 rfl) ?_
  refine lv_iconst (v := nI 0) hx hb idX0_39 (by decide) ?_
  refine va_put (D := (dC, dI)) (ci := 0) (v := .int (nI 0)) (ty := .int) (C := RX0) (T := TX0) (N := 15) hx hb hts bm_lays0 tyX0 tyX0_ok nmX0 hown hK hP hD hS 0 rfl rfl 5 (by decide) (hts (Cond.fieldLink RX0 28 "BellMilk$Herd" "hour" "I") iw_110) (fun _ h9 => h9) rfl (by decide +kernel) rfl rfl (Nat.le_of_ble_eq_true rfl) idX0_40 (fun H locs hP hD hS => ?_)
  have hP : va_P (dC, dI) bm_cl [(h0, .inr (0, [.ref q1, .ref q2, .ref q3, .int (nI 2), .int (nI 0), .int (nI 0), .int 0, .int 0, .null, .null, .null, .null, .null, .null, .null])), (q1, .inl (cI, 12, .inl (fun _ => 0))), (q2, .inl (cI, 12, .inl (fun _ => 0))), (q3, .inl (cI, 10, .inl (fun _ => 0)))] H := hP
  have hD : va_D A [(h0, .inr (0, [.ref q1, .ref q2, .ref q3, .int (nI 2), .int (nI 0), .int (nI 0), .int 0, .int 0, .null, .null, .null, .null, .null, .null, .null])), (q1, .inl (cI, 12, .inl (fun _ => 0))), (q2, .inl (cI, 12, .inl (fun _ => 0))), (q3, .inl (cI, 10, .inl (fun _ => 0)))] := hD
  refine lv_aload_n hx hb idX0_43 rfl (lv_at hl 0 rfl) ?_
  refine lv_iconst (v := nI 1) hx hb idX0_44 (by decide) ?_
  refine va_put (D := (dC, dI)) (ci := 0) (v := .int (nI 1)) (ty := .int) (C := RX0) (T := TX0) (N := 15) hx hb hts bm_lays0 tyX0 tyX0_ok nmX0 hown hK hP hD hS 0 rfl rfl 6 (by decide) (hts (Cond.fieldLink RX0 31 "BellMilk$Herd" "z" "I") iw_112) (fun _ h9 => h9) rfl (by decide +kernel) rfl rfl (Nat.le_of_ble_eq_true rfl) idX0_45 (fun H locs hP hD hS => ?_)
  have hP : va_P (dC, dI) bm_cl [(h0, .inr (0, [.ref q1, .ref q2, .ref q3, .int (nI 2), .int (nI 0), .int (nI 0), .int (nI 1), .int 0, .null, .null, .null, .null, .null, .null, .null])), (q1, .inl (cI, 12, .inl (fun _ => 0))), (q2, .inl (cI, 12, .inl (fun _ => 0))), (q3, .inl (cI, 10, .inl (fun _ => 0)))] H := hP
  have hD : va_D A [(h0, .inr (0, [.ref q1, .ref q2, .ref q3, .int (nI 2), .int (nI 0), .int (nI 0), .int (nI 1), .int 0, .null, .null, .null, .null, .null, .null, .null])), (q1, .inl (cI, 12, .inl (fun _ => 0))), (q2, .inl (cI, 12, .inl (fun _ => 0))), (q3, .inl (cI, 10, .inl (fun _ => 0)))] := hD
  refine lv_aload_n hx hb idX0_48 rfl (lv_at hl 0 rfl) ?_
  refine lv_iconst (v := nI 0) hx hb idX0_49 (by decide) ?_
  refine va_put (D := (dC, dI)) (ci := 0) (v := .int (nI 0)) (ty := .int) (C := RX0) (T := TX0) (N := 15) hx hb hts bm_lays0 tyX0 tyX0_ok nmX0 hown hK hP hD hS 0 rfl rfl 7 (by decide) (hts (Cond.fieldLink RX0 34 "BellMilk$Herd" "cows" "I") iw_114) (fun _ h9 => h9) rfl (by decide +kernel) rfl rfl (Nat.le_of_ble_eq_true rfl) idX0_50 (fun H locs hP hD hS => ?_)
  have hP : va_P (dC, dI) bm_cl [(h0, .inr (0, [.ref q1, .ref q2, .ref q3, .int (nI 2), .int (nI 0), .int (nI 0), .int (nI 1), .int (nI 0), .null, .null, .null, .null, .null, .null, .null])), (q1, .inl (cI, 12, .inl (fun _ => 0))), (q2, .inl (cI, 12, .inl (fun _ => 0))), (q3, .inl (cI, 10, .inl (fun _ => 0)))] H := hP
  have hD : va_D A [(h0, .inr (0, [.ref q1, .ref q2, .ref q3, .int (nI 2), .int (nI 0), .int (nI 0), .int (nI 1), .int (nI 0), .null, .null, .null, .null, .null, .null, .null])), (q1, .inl (cI, 12, .inl (fun _ => 0))), (q2, .inl (cI, 12, .inl (fun _ => 0))), (q3, .inl (cI, 10, .inl (fun _ => 0)))] := hD
  refine lv_aload_n hx hb idX0_53 rfl (lv_at hl 0 rfl) ?_
  refine lv_bipush (v := nI 8) hx hb idX0_54 (by decide) ?_
  refine gd_newa (N' := 8) hx hb harr hK 0 rfl hP hD hS hA (by decide) (by decide) (by decide) (Nat.le_of_ble_eq_true rfl) (Nat.le_of_ble_eq_true rfl) idX0_56 (fun q4 H hP hD hS => ?_)
  have hP : va_P (dC, dI) bm_cl [(h0, .inr (0, [.ref q1, .ref q2, .ref q3, .int (nI 2), .int (nI 0), .int (nI 0), .int (nI 1), .int (nI 0), .null, .null, .null, .null, .null, .null, .null])), (q1, .inl (cI, 12, .inl (fun _ => 0))), (q2, .inl (cI, 12, .inl (fun _ => 0))), (q3, .inl (cI, 10, .inl (fun _ => 0))), (q4, .inl (cI, 8, .inl (fun _ => 0)))] H := hP
  have hD : va_D A [(h0, .inr (0, [.ref q1, .ref q2, .ref q3, .int (nI 2), .int (nI 0), .int (nI 0), .int (nI 1), .int (nI 0), .null, .null, .null, .null, .null, .null, .null])), (q1, .inl (cI, 12, .inl (fun _ => 0))), (q2, .inl (cI, 12, .inl (fun _ => 0))), (q3, .inl (cI, 10, .inl (fun _ => 0))), (q4, .inl (cI, 8, .inl (fun _ => 0)))] := hD
  refine va_putF (D := (dC, dI)) (ci := 0) (v := .ref q4) (ty := .array .int) (C := RX0) (T := TX0) (N := 15) hx hb hts bm_lays0 tyX0 tyX0_ok nmX0 hown hK hP hD hS 0 rfl rfl 8 (by decide) (hts (Cond.fieldLink RX0 37 "BellMilk$Herd" "kind" "[I") iw_117) (fun _ h9 => h9) rfl hin rfl (by decide +kernel) rfl rfl (Nat.le_of_ble_eq_true rfl) idX0_58 (fun H locs hP hD hS => ?_)
  have hP : va_P (dC, dI) bm_cl [(h0, .inr (0, [.ref q1, .ref q2, .ref q3, .int (nI 2), .int (nI 0), .int (nI 0), .int (nI 1), .int (nI 0), .ref q4, .null, .null, .null, .null, .null, .null])), (q1, .inl (cI, 12, .inl (fun _ => 0))), (q2, .inl (cI, 12, .inl (fun _ => 0))), (q3, .inl (cI, 10, .inl (fun _ => 0))), (q4, .inl (cI, 8, .inl (fun _ => 0)))] H := hP
  have hD : va_D A [(h0, .inr (0, [.ref q1, .ref q2, .ref q3, .int (nI 2), .int (nI 0), .int (nI 0), .int (nI 1), .int (nI 0), .ref q4, .null, .null, .null, .null, .null, .null])), (q1, .inl (cI, 12, .inl (fun _ => 0))), (q2, .inl (cI, 12, .inl (fun _ => 0))), (q3, .inl (cI, 10, .inl (fun _ => 0))), (q4, .inl (cI, 8, .inl (fun _ => 0)))] := hD
  refine lv_aload_n hx hb idX0_61 rfl (lv_at hl 0 rfl) ?_
  refine lv_bipush (v := nI 8) hx hb idX0_62 (by decide) ?_
  refine gd_newa (N' := 8) hx hb harr hK 0 rfl hP hD hS hA (by decide) (by decide) (by decide) (Nat.le_of_ble_eq_true rfl) (Nat.le_of_ble_eq_true rfl) idX0_64 (fun q5 H hP hD hS => ?_)
  have hP : va_P (dC, dI) bm_cl [(h0, .inr (0, [.ref q1, .ref q2, .ref q3, .int (nI 2), .int (nI 0), .int (nI 0), .int (nI 1), .int (nI 0), .ref q4, .null, .null, .null, .null, .null, .null])), (q1, .inl (cI, 12, .inl (fun _ => 0))), (q2, .inl (cI, 12, .inl (fun _ => 0))), (q3, .inl (cI, 10, .inl (fun _ => 0))), (q4, .inl (cI, 8, .inl (fun _ => 0))), (q5, .inl (cI, 8, .inl (fun _ => 0)))] H := hP
  have hD : va_D A [(h0, .inr (0, [.ref q1, .ref q2, .ref q3, .int (nI 2), .int (nI 0), .int (nI 0), .int (nI 1), .int (nI 0), .ref q4, .null, .null, .null, .null, .null, .null])), (q1, .inl (cI, 12, .inl (fun _ => 0))), (q2, .inl (cI, 12, .inl (fun _ => 0))), (q3, .inl (cI, 10, .inl (fun _ => 0))), (q4, .inl (cI, 8, .inl (fun _ => 0))), (q5, .inl (cI, 8, .inl (fun _ => 0)))] := hD
  refine va_putF (D := (dC, dI)) (ci := 0) (v := .ref q5) (ty := .array .int) (C := RX0) (T := TX0) (N := 15) hx hb hts bm_lays0 tyX0 tyX0_ok nmX0 hown hK hP hD hS 0 rfl rfl 9 (by decide) (hts (Cond.fieldLink RX0 40 "BellMilk$Herd" "place" "[I") iw_119) (fun _ h9 => h9) rfl hin rfl (by decide +kernel) rfl rfl (Nat.le_of_ble_eq_true rfl) idX0_66 (fun H locs hP hD hS => ?_)
  have hP : va_P (dC, dI) bm_cl [(h0, .inr (0, [.ref q1, .ref q2, .ref q3, .int (nI 2), .int (nI 0), .int (nI 0), .int (nI 1), .int (nI 0), .ref q4, .ref q5, .null, .null, .null, .null, .null])), (q1, .inl (cI, 12, .inl (fun _ => 0))), (q2, .inl (cI, 12, .inl (fun _ => 0))), (q3, .inl (cI, 10, .inl (fun _ => 0))), (q4, .inl (cI, 8, .inl (fun _ => 0))), (q5, .inl (cI, 8, .inl (fun _ => 0)))] H := hP
  have hD : va_D A [(h0, .inr (0, [.ref q1, .ref q2, .ref q3, .int (nI 2), .int (nI 0), .int (nI 0), .int (nI 1), .int (nI 0), .ref q4, .ref q5, .null, .null, .null, .null, .null])), (q1, .inl (cI, 12, .inl (fun _ => 0))), (q2, .inl (cI, 12, .inl (fun _ => 0))), (q3, .inl (cI, 10, .inl (fun _ => 0))), (q4, .inl (cI, 8, .inl (fun _ => 0))), (q5, .inl (cI, 8, .inl (fun _ => 0)))] := hD
  refine lv_aload_n hx hb idX0_69 rfl (lv_at hl 0 rfl) ?_
  refine lv_bipush (v := nI 8) hx hb idX0_70 (by decide) ?_
  refine gd_newa (N' := 8) hx hb harr hK 0 rfl hP hD hS hA (by decide) (by decide) (by decide) (Nat.le_of_ble_eq_true rfl) (Nat.le_of_ble_eq_true rfl) idX0_72 (fun q6 H hP hD hS => ?_)
  have hP : va_P (dC, dI) bm_cl [(h0, .inr (0, [.ref q1, .ref q2, .ref q3, .int (nI 2), .int (nI 0), .int (nI 0), .int (nI 1), .int (nI 0), .ref q4, .ref q5, .null, .null, .null, .null, .null])), (q1, .inl (cI, 12, .inl (fun _ => 0))), (q2, .inl (cI, 12, .inl (fun _ => 0))), (q3, .inl (cI, 10, .inl (fun _ => 0))), (q4, .inl (cI, 8, .inl (fun _ => 0))), (q5, .inl (cI, 8, .inl (fun _ => 0))), (q6, .inl (cI, 8, .inl (fun _ => 0)))] H := hP
  have hD : va_D A [(h0, .inr (0, [.ref q1, .ref q2, .ref q3, .int (nI 2), .int (nI 0), .int (nI 0), .int (nI 1), .int (nI 0), .ref q4, .ref q5, .null, .null, .null, .null, .null])), (q1, .inl (cI, 12, .inl (fun _ => 0))), (q2, .inl (cI, 12, .inl (fun _ => 0))), (q3, .inl (cI, 10, .inl (fun _ => 0))), (q4, .inl (cI, 8, .inl (fun _ => 0))), (q5, .inl (cI, 8, .inl (fun _ => 0))), (q6, .inl (cI, 8, .inl (fun _ => 0)))] := hD
  refine va_putF (D := (dC, dI)) (ci := 0) (v := .ref q6) (ty := .array .int) (C := RX0) (T := TX0) (N := 15) hx hb hts bm_lays0 tyX0 tyX0_ok nmX0 hown hK hP hD hS 0 rfl rfl 10 (by decide) (hts (Cond.fieldLink RX0 43 "BellMilk$Herd" "tone" "[I") iw_122) (fun _ h9 => h9) rfl hin rfl (by decide +kernel) rfl rfl (Nat.le_of_ble_eq_true rfl) idX0_74 (fun H locs hP hD hS => ?_)
  have hP : va_P (dC, dI) bm_cl [(h0, .inr (0, [.ref q1, .ref q2, .ref q3, .int (nI 2), .int (nI 0), .int (nI 0), .int (nI 1), .int (nI 0), .ref q4, .ref q5, .ref q6, .null, .null, .null, .null])), (q1, .inl (cI, 12, .inl (fun _ => 0))), (q2, .inl (cI, 12, .inl (fun _ => 0))), (q3, .inl (cI, 10, .inl (fun _ => 0))), (q4, .inl (cI, 8, .inl (fun _ => 0))), (q5, .inl (cI, 8, .inl (fun _ => 0))), (q6, .inl (cI, 8, .inl (fun _ => 0)))] H := hP
  have hD : va_D A [(h0, .inr (0, [.ref q1, .ref q2, .ref q3, .int (nI 2), .int (nI 0), .int (nI 0), .int (nI 1), .int (nI 0), .ref q4, .ref q5, .ref q6, .null, .null, .null, .null])), (q1, .inl (cI, 12, .inl (fun _ => 0))), (q2, .inl (cI, 12, .inl (fun _ => 0))), (q3, .inl (cI, 10, .inl (fun _ => 0))), (q4, .inl (cI, 8, .inl (fun _ => 0))), (q5, .inl (cI, 8, .inl (fun _ => 0))), (q6, .inl (cI, 8, .inl (fun _ => 0)))] := hD
  refine lv_aload_n hx hb idX0_77 rfl (lv_at hl 0 rfl) ?_
  refine lv_bipush (v := nI 8) hx hb idX0_78 (by decide) ?_
  refine gd_newa (N' := 8) hx hb harr hK 0 rfl hP hD hS hA (by decide) (by decide) (by decide) (Nat.le_of_ble_eq_true rfl) (Nat.le_of_ble_eq_true rfl) idX0_80 (fun q7 H hP hD hS => ?_)
  have hP : va_P (dC, dI) bm_cl [(h0, .inr (0, [.ref q1, .ref q2, .ref q3, .int (nI 2), .int (nI 0), .int (nI 0), .int (nI 1), .int (nI 0), .ref q4, .ref q5, .ref q6, .null, .null, .null, .null])), (q1, .inl (cI, 12, .inl (fun _ => 0))), (q2, .inl (cI, 12, .inl (fun _ => 0))), (q3, .inl (cI, 10, .inl (fun _ => 0))), (q4, .inl (cI, 8, .inl (fun _ => 0))), (q5, .inl (cI, 8, .inl (fun _ => 0))), (q6, .inl (cI, 8, .inl (fun _ => 0))), (q7, .inl (cI, 8, .inl (fun _ => 0)))] H := hP
  have hD : va_D A [(h0, .inr (0, [.ref q1, .ref q2, .ref q3, .int (nI 2), .int (nI 0), .int (nI 0), .int (nI 1), .int (nI 0), .ref q4, .ref q5, .ref q6, .null, .null, .null, .null])), (q1, .inl (cI, 12, .inl (fun _ => 0))), (q2, .inl (cI, 12, .inl (fun _ => 0))), (q3, .inl (cI, 10, .inl (fun _ => 0))), (q4, .inl (cI, 8, .inl (fun _ => 0))), (q5, .inl (cI, 8, .inl (fun _ => 0))), (q6, .inl (cI, 8, .inl (fun _ => 0))), (q7, .inl (cI, 8, .inl (fun _ => 0)))] := hD
  refine va_putF (D := (dC, dI)) (ci := 0) (v := .ref q7) (ty := .array .int) (C := RX0) (T := TX0) (N := 15) hx hb hts bm_lays0 tyX0 tyX0_ok nmX0 hown hK hP hD hS 0 rfl rfl 11 (by decide) (hts (Cond.fieldLink RX0 46 "BellMilk$Herd" "swings" "[I") iw_125) (fun _ h9 => h9) rfl hin rfl (by decide +kernel) rfl rfl (Nat.le_of_ble_eq_true rfl) idX0_82 (fun H locs hP hD hS => ?_)
  have hP : va_P (dC, dI) bm_cl [(h0, .inr (0, [.ref q1, .ref q2, .ref q3, .int (nI 2), .int (nI 0), .int (nI 0), .int (nI 1), .int (nI 0), .ref q4, .ref q5, .ref q6, .ref q7, .null, .null, .null])), (q1, .inl (cI, 12, .inl (fun _ => 0))), (q2, .inl (cI, 12, .inl (fun _ => 0))), (q3, .inl (cI, 10, .inl (fun _ => 0))), (q4, .inl (cI, 8, .inl (fun _ => 0))), (q5, .inl (cI, 8, .inl (fun _ => 0))), (q6, .inl (cI, 8, .inl (fun _ => 0))), (q7, .inl (cI, 8, .inl (fun _ => 0)))] H := hP
  have hD : va_D A [(h0, .inr (0, [.ref q1, .ref q2, .ref q3, .int (nI 2), .int (nI 0), .int (nI 0), .int (nI 1), .int (nI 0), .ref q4, .ref q5, .ref q6, .ref q7, .null, .null, .null])), (q1, .inl (cI, 12, .inl (fun _ => 0))), (q2, .inl (cI, 12, .inl (fun _ => 0))), (q3, .inl (cI, 10, .inl (fun _ => 0))), (q4, .inl (cI, 8, .inl (fun _ => 0))), (q5, .inl (cI, 8, .inl (fun _ => 0))), (q6, .inl (cI, 8, .inl (fun _ => 0))), (q7, .inl (cI, 8, .inl (fun _ => 0)))] := hD
  refine lv_aload_n hx hb idX0_85 rfl (lv_at hl 0 rfl) ?_
  refine lv_bipush (v := nI 8) hx hb idX0_86 (by decide) ?_
  refine gd_newa (N' := 8) hx hb harr hK 0 rfl hP hD hS hA (by decide) (by decide) (by decide) (Nat.le_of_ble_eq_true rfl) (Nat.le_of_ble_eq_true rfl) idX0_88 (fun q8 H hP hD hS => ?_)
  have hP : va_P (dC, dI) bm_cl [(h0, .inr (0, [.ref q1, .ref q2, .ref q3, .int (nI 2), .int (nI 0), .int (nI 0), .int (nI 1), .int (nI 0), .ref q4, .ref q5, .ref q6, .ref q7, .null, .null, .null])), (q1, .inl (cI, 12, .inl (fun _ => 0))), (q2, .inl (cI, 12, .inl (fun _ => 0))), (q3, .inl (cI, 10, .inl (fun _ => 0))), (q4, .inl (cI, 8, .inl (fun _ => 0))), (q5, .inl (cI, 8, .inl (fun _ => 0))), (q6, .inl (cI, 8, .inl (fun _ => 0))), (q7, .inl (cI, 8, .inl (fun _ => 0))), (q8, .inl (cI, 8, .inl (fun _ => 0)))] H := hP
  have hD : va_D A [(h0, .inr (0, [.ref q1, .ref q2, .ref q3, .int (nI 2), .int (nI 0), .int (nI 0), .int (nI 1), .int (nI 0), .ref q4, .ref q5, .ref q6, .ref q7, .null, .null, .null])), (q1, .inl (cI, 12, .inl (fun _ => 0))), (q2, .inl (cI, 12, .inl (fun _ => 0))), (q3, .inl (cI, 10, .inl (fun _ => 0))), (q4, .inl (cI, 8, .inl (fun _ => 0))), (q5, .inl (cI, 8, .inl (fun _ => 0))), (q6, .inl (cI, 8, .inl (fun _ => 0))), (q7, .inl (cI, 8, .inl (fun _ => 0))), (q8, .inl (cI, 8, .inl (fun _ => 0)))] := hD
  refine va_putF (D := (dC, dI)) (ci := 0) (v := .ref q8) (ty := .array .int) (C := RX0) (T := TX0) (N := 15) hx hb hts bm_lays0 tyX0 tyX0_ok nmX0 hown hK hP hD hS 0 rfl rfl 12 (by decide) (hts (Cond.fieldLink RX0 49 "BellMilk$Herd" "wear" "[I") iw_128) (fun _ h9 => h9) rfl hin rfl (by decide +kernel) rfl rfl (Nat.le_of_ble_eq_true rfl) idX0_90 (fun H locs hP hD hS => ?_)
  have hP : va_P (dC, dI) bm_cl [(h0, .inr (0, [.ref q1, .ref q2, .ref q3, .int (nI 2), .int (nI 0), .int (nI 0), .int (nI 1), .int (nI 0), .ref q4, .ref q5, .ref q6, .ref q7, .ref q8, .null, .null])), (q1, .inl (cI, 12, .inl (fun _ => 0))), (q2, .inl (cI, 12, .inl (fun _ => 0))), (q3, .inl (cI, 10, .inl (fun _ => 0))), (q4, .inl (cI, 8, .inl (fun _ => 0))), (q5, .inl (cI, 8, .inl (fun _ => 0))), (q6, .inl (cI, 8, .inl (fun _ => 0))), (q7, .inl (cI, 8, .inl (fun _ => 0))), (q8, .inl (cI, 8, .inl (fun _ => 0)))] H := hP
  have hD : va_D A [(h0, .inr (0, [.ref q1, .ref q2, .ref q3, .int (nI 2), .int (nI 0), .int (nI 0), .int (nI 1), .int (nI 0), .ref q4, .ref q5, .ref q6, .ref q7, .ref q8, .null, .null])), (q1, .inl (cI, 12, .inl (fun _ => 0))), (q2, .inl (cI, 12, .inl (fun _ => 0))), (q3, .inl (cI, 10, .inl (fun _ => 0))), (q4, .inl (cI, 8, .inl (fun _ => 0))), (q5, .inl (cI, 8, .inl (fun _ => 0))), (q6, .inl (cI, 8, .inl (fun _ => 0))), (q7, .inl (cI, 8, .inl (fun _ => 0))), (q8, .inl (cI, 8, .inl (fun _ => 0)))] := hD
  refine lv_aload_n hx hb idX0_93 rfl (lv_at hl 0 rfl) ?_
  refine lv_bipush (v := nI 8) hx hb idX0_94 (by decide) ?_
  refine gd_newa (N' := 8) hx hb harr hK 0 rfl hP hD hS hA (by decide) (by decide) (by decide) (Nat.le_of_ble_eq_true rfl) (Nat.le_of_ble_eq_true rfl) idX0_96 (fun q9 H hP hD hS => ?_)
  have hP : va_P (dC, dI) bm_cl [(h0, .inr (0, [.ref q1, .ref q2, .ref q3, .int (nI 2), .int (nI 0), .int (nI 0), .int (nI 1), .int (nI 0), .ref q4, .ref q5, .ref q6, .ref q7, .ref q8, .null, .null])), (q1, .inl (cI, 12, .inl (fun _ => 0))), (q2, .inl (cI, 12, .inl (fun _ => 0))), (q3, .inl (cI, 10, .inl (fun _ => 0))), (q4, .inl (cI, 8, .inl (fun _ => 0))), (q5, .inl (cI, 8, .inl (fun _ => 0))), (q6, .inl (cI, 8, .inl (fun _ => 0))), (q7, .inl (cI, 8, .inl (fun _ => 0))), (q8, .inl (cI, 8, .inl (fun _ => 0))), (q9, .inl (cI, 8, .inl (fun _ => 0)))] H := hP
  have hD : va_D A [(h0, .inr (0, [.ref q1, .ref q2, .ref q3, .int (nI 2), .int (nI 0), .int (nI 0), .int (nI 1), .int (nI 0), .ref q4, .ref q5, .ref q6, .ref q7, .ref q8, .null, .null])), (q1, .inl (cI, 12, .inl (fun _ => 0))), (q2, .inl (cI, 12, .inl (fun _ => 0))), (q3, .inl (cI, 10, .inl (fun _ => 0))), (q4, .inl (cI, 8, .inl (fun _ => 0))), (q5, .inl (cI, 8, .inl (fun _ => 0))), (q6, .inl (cI, 8, .inl (fun _ => 0))), (q7, .inl (cI, 8, .inl (fun _ => 0))), (q8, .inl (cI, 8, .inl (fun _ => 0))), (q9, .inl (cI, 8, .inl (fun _ => 0)))] := hD
  refine va_putF (D := (dC, dI)) (ci := 0) (v := .ref q9) (ty := .array .int) (C := RX0) (T := TX0) (N := 15) hx hb hts bm_lays0 tyX0 tyX0_ok nmX0 hown hK hP hD hS 0 rfl rfl 13 (by decide) (hts (Cond.fieldLink RX0 52 "BellMilk$Herd" "rung" "[I") iw_129) (fun _ h9 => h9) rfl hin rfl (by decide +kernel) rfl rfl (Nat.le_of_ble_eq_true rfl) idX0_98 (fun H locs hP hD hS => ?_)
  have hP : va_P (dC, dI) bm_cl [(h0, .inr (0, [.ref q1, .ref q2, .ref q3, .int (nI 2), .int (nI 0), .int (nI 0), .int (nI 1), .int (nI 0), .ref q4, .ref q5, .ref q6, .ref q7, .ref q8, .ref q9, .null])), (q1, .inl (cI, 12, .inl (fun _ => 0))), (q2, .inl (cI, 12, .inl (fun _ => 0))), (q3, .inl (cI, 10, .inl (fun _ => 0))), (q4, .inl (cI, 8, .inl (fun _ => 0))), (q5, .inl (cI, 8, .inl (fun _ => 0))), (q6, .inl (cI, 8, .inl (fun _ => 0))), (q7, .inl (cI, 8, .inl (fun _ => 0))), (q8, .inl (cI, 8, .inl (fun _ => 0))), (q9, .inl (cI, 8, .inl (fun _ => 0)))] H := hP
  have hD : va_D A [(h0, .inr (0, [.ref q1, .ref q2, .ref q3, .int (nI 2), .int (nI 0), .int (nI 0), .int (nI 1), .int (nI 0), .ref q4, .ref q5, .ref q6, .ref q7, .ref q8, .ref q9, .null])), (q1, .inl (cI, 12, .inl (fun _ => 0))), (q2, .inl (cI, 12, .inl (fun _ => 0))), (q3, .inl (cI, 10, .inl (fun _ => 0))), (q4, .inl (cI, 8, .inl (fun _ => 0))), (q5, .inl (cI, 8, .inl (fun _ => 0))), (q6, .inl (cI, 8, .inl (fun _ => 0))), (q7, .inl (cI, 8, .inl (fun _ => 0))), (q8, .inl (cI, 8, .inl (fun _ => 0))), (q9, .inl (cI, 8, .inl (fun _ => 0)))] := hD
  refine lv_aload_n hx hb idX0_101 rfl (lv_at hl 0 rfl) ?_
  refine lv_bipush (v := nI 8) hx hb idX0_102 (by decide) ?_
  refine gd_newa (N' := 8) hx hb harr hK 0 rfl hP hD hS hA (by decide) (by decide) (by decide) (Nat.le_of_ble_eq_true rfl) (Nat.le_of_ble_eq_true rfl) idX0_104 (fun q10 H hP hD hS => ?_)
  have hP : va_P (dC, dI) bm_cl [(h0, .inr (0, [.ref q1, .ref q2, .ref q3, .int (nI 2), .int (nI 0), .int (nI 0), .int (nI 1), .int (nI 0), .ref q4, .ref q5, .ref q6, .ref q7, .ref q8, .ref q9, .null])), (q1, .inl (cI, 12, .inl (fun _ => 0))), (q2, .inl (cI, 12, .inl (fun _ => 0))), (q3, .inl (cI, 10, .inl (fun _ => 0))), (q4, .inl (cI, 8, .inl (fun _ => 0))), (q5, .inl (cI, 8, .inl (fun _ => 0))), (q6, .inl (cI, 8, .inl (fun _ => 0))), (q7, .inl (cI, 8, .inl (fun _ => 0))), (q8, .inl (cI, 8, .inl (fun _ => 0))), (q9, .inl (cI, 8, .inl (fun _ => 0))), (q10, .inl (cI, 8, .inl (fun _ => 0)))] H := hP
  have hD : va_D A [(h0, .inr (0, [.ref q1, .ref q2, .ref q3, .int (nI 2), .int (nI 0), .int (nI 0), .int (nI 1), .int (nI 0), .ref q4, .ref q5, .ref q6, .ref q7, .ref q8, .ref q9, .null])), (q1, .inl (cI, 12, .inl (fun _ => 0))), (q2, .inl (cI, 12, .inl (fun _ => 0))), (q3, .inl (cI, 10, .inl (fun _ => 0))), (q4, .inl (cI, 8, .inl (fun _ => 0))), (q5, .inl (cI, 8, .inl (fun _ => 0))), (q6, .inl (cI, 8, .inl (fun _ => 0))), (q7, .inl (cI, 8, .inl (fun _ => 0))), (q8, .inl (cI, 8, .inl (fun _ => 0))), (q9, .inl (cI, 8, .inl (fun _ => 0))), (q10, .inl (cI, 8, .inl (fun _ => 0)))] := hD
  refine va_putF (D := (dC, dI)) (ci := 0) (v := .ref q10) (ty := .array .int) (C := RX0) (T := TX0) (N := 15) hx hb hts bm_lays0 tyX0 tyX0_ok nmX0 hown hK hP hD hS 0 rfl rfl 14 (by decide) (hts (Cond.fieldLink RX0 55 "BellMilk$Herd" "muffled" "[I") iw_131) (fun _ h9 => h9) rfl hin rfl (by decide +kernel) rfl rfl (Nat.le_of_ble_eq_true rfl) idX0_106 (fun H locs hP hD hS => ?_)
  have hP : va_P (dC, dI) bm_cl [(h0, .inr (0, [.ref q1, .ref q2, .ref q3, .int (nI 2), .int (nI 0), .int (nI 0), .int (nI 1), .int (nI 0), .ref q4, .ref q5, .ref q6, .ref q7, .ref q8, .ref q9, .ref q10])), (q1, .inl (cI, 12, .inl (fun _ => 0))), (q2, .inl (cI, 12, .inl (fun _ => 0))), (q3, .inl (cI, 10, .inl (fun _ => 0))), (q4, .inl (cI, 8, .inl (fun _ => 0))), (q5, .inl (cI, 8, .inl (fun _ => 0))), (q6, .inl (cI, 8, .inl (fun _ => 0))), (q7, .inl (cI, 8, .inl (fun _ => 0))), (q8, .inl (cI, 8, .inl (fun _ => 0))), (q9, .inl (cI, 8, .inl (fun _ => 0))), (q10, .inl (cI, 8, .inl (fun _ => 0)))] H := hP
  have hD : va_D A [(h0, .inr (0, [.ref q1, .ref q2, .ref q3, .int (nI 2), .int (nI 0), .int (nI 0), .int (nI 1), .int (nI 0), .ref q4, .ref q5, .ref q6, .ref q7, .ref q8, .ref q9, .ref q10])), (q1, .inl (cI, 12, .inl (fun _ => 0))), (q2, .inl (cI, 12, .inl (fun _ => 0))), (q3, .inl (cI, 10, .inl (fun _ => 0))), (q4, .inl (cI, 8, .inl (fun _ => 0))), (q5, .inl (cI, 8, .inl (fun _ => 0))), (q6, .inl (cI, 8, .inl (fun _ => 0))), (q7, .inl (cI, 8, .inl (fun _ => 0))), (q8, .inl (cI, 8, .inl (fun _ => 0))), (q9, .inl (cI, 8, .inl (fun _ => 0))), (q10, .inl (cI, 8, .inl (fun _ => 0)))] := hD
  refine W.widen (k := 10) (n := 90) (Nat.le_of_ble_eq_true rfl) (Nat.le_of_ble_eq_true rfl) ?_
  have hP : va_P (dC, dI) bm_cl (iH cI h0 q1 q2 q3 q4 q5 q6 q7 q8 q9 q10 (fun _ => 0) (fun _ => 0)) H := hP
  have hD : va_D A (iH cI h0 q1 q2 q3 q4 q5 q6 q7 q8 q9 q10 (fun _ => 0) (fun _ => 0)) := hD
  have hlt : ∀ i N : Nat, i < N → N < 2147483648 → ¬ nI N ≤ nI i := fun i N h h2 => nI_ge h h2
  have two : ∀ (n i : Nat), i + n = 10 → ∀ (g1 g3 : Nat → Int32) (H : Heap) (locs : List Loc) (ls : Array Slot), (∀ j, j < 12 → g1 j = nI 50) → (∀ j, j < i → g3 j = -nI 1) → va_P (dC, dI) bm_cl (iH cI h0 q1 q2 q3 q4 q5 q6 q7 q8 q9 q10 g1 g3) H → va_D A (iH cI h0 q1 q2 q3 q4 q5 q6 q7 q8 q9 q10 g1 g3) → va_S A s.heap H locs → lv_has ls 2 [(1, .int (nI i)), (0, .ref h0)] → W p l e (headSpec ivX0 { frames := 1, cells := 10, slots := 90, locals := 40 }).room s m #[Value.ref h0] below meth c H locs 10 90 (MQ below (va_Qv (fun u : (Nat → Int32) × (Nat → Int32) => (∀ i, i < 12 → u.1 i = nI 50) ∧ ∀ i, i < 10 → u.2 i = -nI 1) (iHat dC dI cI A h0) A) #[Value.ref h0] s 10 90 A) (F0 m 133 ls []) := by
    intro n
    induction n with
    | zero =>
      intro i hi g1 g3 H locs ls hg1 hg3 hP hD hS hl
      refine lv_iload_n hx hb idX0_133 rfl (lv_at hl 0 rfl) ?_
      refine lv_bipush (v := nI 10) hx hb idX0_134 (by decide) ?_
      refine lv_icmp_ge (tgt := 152) hx hb idX0_136 (by decide) (fun _ => ?_) (fun h => absurd (by rw [show i = 10 by omega]; exact Int32.le_refl _) h)
      exact W.vret hx hb hr (fun t ht hW => ⟨⟨(g1, g3), rfl, ⟨hg1, fun j hj => hg3 j (by omega)⟩, q1, q2, q3, q4, q5, q6, q7, q8, q9, q10, by rw [ht]; exact hP, va_K.moved hW.alike hK, hD⟩, hS.F ht⟩) hS.2.2 idX0_152
    | succ n ih =>
      intro i hi g1 g3 H locs ls hg1 hg3 hP hD hS hl
      refine lv_iload_n hx hb idX0_133 rfl (lv_at hl 0 rfl) ?_
      refine lv_bipush (v := nI 10) hx hb idX0_134 (by decide) ?_
      refine lv_icmp_ge (tgt := 152) hx hb idX0_136 (by decide) (fun h => absurd h (hlt i 10 (by omega) (by decide))) (fun _ => ?_)
      refine lv_aload_n hx hb idX0_139 rfl (lv_at hl 1 rfl) ?_
      refine va_get (C := RX0) (T := TX0) (N := 15) (ci := 0) hx hb hts bm_lays0 hown hK hP 0 rfl rfl 2 (by decide) (hts (Cond.fieldLink RX0 18 "BellMilk$Herd" "spots" "[I") iw_102) (fun _ h9 => h9) rfl idX0_140 ?_
      refine lv_iload_n hx hb idX0_143 rfl (lv_at hl 0 rfl) ?_
      refine lv_iconst (v := -nI 1) hx hb idX0_144 (by decide) ?_
      refine va_iast hx hb hK hP hD hS 3 0 (cA := cI) (n := 10) (f := g3) rfl rfl (nI_in (show i < 10 by omega) (by decide)) idX0_145 (fun H locs hP hD hS => ?_)
      rw [nI_clamp (by omega)] at hP hD
      refine lv_iinc (lv' := [(1, .int (nI (i + 1))), (0, .ref h0)]) hx hb idX0_146 hl (k := 0) rfl (nI_1 i) (by decide) rfl (fun ls hl => ?_)
      refine lv_goto (tgt := 133) hx hb idX0_149 (by decide) ?_
      exact ih (i + 1) (by omega) g1 (upd g3 i (-nI 1)) H locs ls hg1 (iu_step hg3) hP hD hS hl
  have one : ∀ (n i : Nat), i + n = 12 → ∀ (g1 : Nat → Int32) (H : Heap) (locs : List Loc) (ls : Array Slot), (∀ j, j < i → g1 j = nI 50) → va_P (dC, dI) bm_cl (iH cI h0 q1 q2 q3 q4 q5 q6 q7 q8 q9 q10 g1 (fun _ => 0)) H → va_D A (iH cI h0 q1 q2 q3 q4 q5 q6 q7 q8 q9 q10 g1 (fun _ => 0)) → va_S A s.heap H locs → lv_has ls 2 [(1, .int (nI i)), (0, .ref h0)] → W p l e (headSpec ivX0 { frames := 1, cells := 10, slots := 90, locals := 40 }).room s m #[Value.ref h0] below meth c H locs 10 90 (MQ below (va_Qv (fun u : (Nat → Int32) × (Nat → Int32) => (∀ i, i < 12 → u.1 i = nI 50) ∧ ∀ i, i < 10 → u.2 i = -nI 1) (iHat dC dI cI A h0) A) #[Value.ref h0] s 10 90 A) (F0 m 111 ls []) := by
    intro n
    induction n with
    | zero =>
      intro i hi g1 H locs ls hg1 hP hD hS hl
      refine lv_iload_n hx hb idX0_111 rfl (lv_at hl 0 rfl) ?_
      refine lv_bipush (v := nI 12) hx hb idX0_112 (by decide) ?_
      refine lv_icmp_ge (tgt := 131) hx hb idX0_114 (by decide) (fun _ => ?_) (fun h => absurd (by rw [show i = 12 by omega]; exact Int32.le_refl _) h)
      refine lv_iconst (v := nI 0) hx hb idX0_131 (by decide) ?_
      refine lv_istore_n (lv' := [(1, .int (nI 0)), (0, .ref h0)]) hx hb idX0_132 rfl hl (by decide) rfl (fun ls hl => ?_)
      exact two 10 0 (by omega) g1 (fun _ => 0) H locs ls (fun j hj => hg1 j (by omega)) (fun j hj => absurd hj (by omega)) hP hD hS hl
    | succ n ih =>
      intro i hi g1 H locs ls hg1 hP hD hS hl
      refine lv_iload_n hx hb idX0_111 rfl (lv_at hl 0 rfl) ?_
      refine lv_bipush (v := nI 12) hx hb idX0_112 (by decide) ?_
      refine lv_icmp_ge (tgt := 131) hx hb idX0_114 (by decide) (fun h => absurd h (hlt i 12 (by omega) (by decide))) (fun _ => ?_)
      refine lv_aload_n hx hb idX0_117 rfl (lv_at hl 1 rfl) ?_
      refine va_get (C := RX0) (T := TX0) (N := 15) (ci := 0) hx hb hts bm_lays0 hown hK hP 0 rfl rfl 0 (by decide) (hts (Cond.fieldLink RX0 9 "BellMilk$Herd" "grass" "[I") iw_97) (fun _ h9 => h9) rfl idX0_118 ?_
      refine lv_iload_n hx hb idX0_121 rfl (lv_at hl 0 rfl) ?_
      refine lv_bipush (v := nI 50) hx hb idX0_122 (by decide) ?_
      refine va_iast hx hb hK hP hD hS 1 0 (cA := cI) (n := 12) (f := g1) rfl rfl (nI_in (show i < 12 by omega) (by decide)) idX0_124 (fun H locs hP hD hS => ?_)
      rw [nI_clamp (by omega)] at hP hD
      refine lv_iinc (lv' := [(1, .int (nI (i + 1))), (0, .ref h0)]) hx hb idX0_125 hl (k := 0) rfl (nI_1 i) (by decide) rfl (fun ls hl => ?_)
      refine lv_goto (tgt := 111) hx hb idX0_128 (by decide) ?_
      exact ih (i + 1) (by omega) (upd g1 i (nI 50)) H locs ls (iu_step hg1) hP hD hS hl
  refine lv_iconst (v := nI 0) hx hb idX0_109 (by decide) ?_
  refine lv_istore_n (lv' := [(1, .int (nI 0)), (0, .ref h0)]) hx hb idX0_110 rfl hl (by decide) rfl (fun ls hl => ?_)
  exact one 12 0 (by omega) (fun _ => 0) H _ ls (fun j hj => absurd hj (by omega)) hP hD hS hl
