theorem ic_law : bm_cc 211 = code := rfl
theorem ic_pc : bm_pc 211 8 = 16 := by decide +kernel
theorem bm_flds_ad {ad bd : Nat → Nat} {k : Nat} {f : Nat → Int32} : ∀ (ds : List Nat) (j : Nat), (∀ d ∈ ds, ad (k + d) = bd (k + d)) → bm_flds ad k f j ds = bm_flds bd k f j ds
  | [], _, _ => rfl
  | d :: ds, j, h => by
    simp only [bm_flds]
    rw [h d List.mem_cons_self, bm_flds_ad ds (j + 1) (fun d' hd => h d' (List.mem_cons_of_mem _ hd))]
theorem iC_in : ∀ k, k < 45 → bm_oc k ≠ 0 → ∀ d ∈ bm_fs (bm_oc k - 1), k + d < 45 := by decide +kernel
theorem iC_cell {ad bd : Nat → Nat} {cI cJ : ClassId} {k : Nat} {f : Nat → Int32} (h : ∀ k, k < 45 → ad k = bd k) (hk : k < 45) : bm_cell ad cI cJ k f = bm_cell bd cI cJ k f := by
  unfold bm_cell
  by_cases c : bm_oc k = 0
  · rw [if_pos c, if_pos c]
    by_cases e : k = 36
    · rw [if_pos e, if_pos e]
      have : (fun i : Nat => if i < 4 then some (ad (37 + i)) else none) = (fun i : Nat => if i < 4 then some (bd (37 + i)) else none) := by
        funext i
        by_cases q : i < 4
        · rw [if_pos q, if_pos q, h (37 + i) (by omega)]
        · rw [if_neg q, if_neg q]
      rw [this]
    · rw [if_neg e, if_neg e]
  · rw [if_neg c, if_neg c, bm_flds_ad (ad := ad) (bd := bd) _ 0 (fun d hd => h _ (iC_in k hk c d hd))]
theorem iC_ws {ad adC : Nat → Nat} {cI cJ : ClassId} {σ : bm_M} {g : Nat → Int32} {q m1 m2 m3 m4 m5 m6 m7 m8 m9 : Nat} (h : ∀ k, k < 45 → ad k = adC k) (h45 : ad 45 = q) (h46 : ad 46 = m1) (h47 : ad 47 = m2) (h48 : ad 48 = m3) (h49 : ad 49 = m4) (h50 : ad 50 = m5) (h51 : ad 51 = m6) (h52 : ad 52 = m7) (h53 : ad 53 = m8) (h54 : ad 54 = m9) : bm_ws ad cI cJ (iZ σ g) = iC adC cI cJ σ ++ iM cI q m1 m2 m3 m4 m5 m6 m7 m8 m9 g := by
  unfold bm_ws iC
  rw [show List.range 55 = List.range 45 ++ [45, 46, 47, 48, 49, 50, 51, 52, 53, 54] from rfl, List.map_append]
  congr 1
  · apply List.map_congr_left
    intro k hk
    have hk : k < 45 := List.mem_range.mp hk
    rw [h k hk, iC_cell h hk]
    unfold iZ
    rw [if_pos hk]
  · subst h45 h46 h47 h48 h49 h50 h51 h52 h53 h54
    rfl
theorem iC_D {ad : Nat → Nat} {cI cJ : ClassId} {σ τ : bm_M} {A : Nat → Prop} (h : va_D A (bm_ws ad cI cJ σ)) : va_D A (bm_ws ad cI cJ τ) := by
  refine ⟨fun i j p q hp hq e => ?_, fun k q hq => ?_⟩
  · rw [bm_ws_get] at hp hq
    by_cases hi : i < 55
    · by_cases hj : j < 55
      · rw [if_pos hi] at hp
        rw [if_pos hj] at hq
        cases hp
        cases hq
        exact h.1 i j _ _ (bm_ws_at hi) (bm_ws_at hj) e
      · rw [if_neg hj] at hq
        cases hq
    · rw [if_neg hi] at hp
      cases hp
  · rw [bm_ws_get] at hq
    by_cases hk : k < 55
    · rw [if_pos hk] at hq
      cases hq
      have hq := h.2 k (ad k, bm_cell ad cI cJ k (σ k)) (bm_ws_at hk)
      exact hq
    · rw [if_neg hk] at hq
      cases hq
theorem iw_84 : Cond.instantiable RX2 10 ∈ bm_T := bm_one 84 (by decide +kernel) (by decide +kernel)
theorem iw_723 : Cond.instantiable RX3 17 ∈ bm_T := bm_one 723 (by decide +kernel) (by decide +kernel)
theorem iw_83 : Cond.classLink R_law 7 RX2 ∈ bm_T := bm_one 83 (by decide +kernel) (by decide +kernel)
theorem iw_72 : Cond.initialized RX2 ∈ bm_T := bm_one 72 (by decide +kernel) (by decide +kernel)
theorem iw_85 : Cond.methodLink R_law 9 iyX2 ∈ bm_T := bm_one 85 (by decide +kernel) (by decide +kernel)
theorem iw_86 : Cond.instanceMethod iyX2 ∈ bm_T := bm_one 86 (by decide +kernel) (by decide +kernel)
theorem iw_722 : Cond.classLink R_law 10 RX3 ∈ bm_T := bm_one 722 (by decide +kernel) (by decide +kernel)
theorem iw_75 : Cond.initialized RX3 ∈ bm_T := bm_one 75 (by decide +kernel) (by decide +kernel)
theorem iw_724 : Cond.methodLink R_law 12 iyX3 ∈ bm_T := bm_one 724 (by decide +kernel) (by decide +kernel)
theorem iw_725 : Cond.instanceMethod iyX3 ∈ bm_T := bm_one 725 (by decide +kernel) (by decide +kernel)
set_option maxHeartbeats 4000000 in
set_option maxRecDepth 100000 in
theorem whole_start {p : Program} {e : Env} {s : State} {m : MethodId} {below : List Frame} {meth : Method} {c : Code} (l : Launch) (hflags : l.flags = flags0) {b L : Nat} {xs : Nat → Int32} (hL : L ≤ 3072) (C0 : lw_At p s m meth c b L xs) : W p l e room_1 s m #[Value.ref b] below meth c s.heap [] 0 0 (lw_Z below #[Value.ref b] s) (entryFrame m ([Value.ref b] : List Value).toArray 4) := by
  obtain ⟨hx, hb, hr, hml, hown, htl, hX, hbl, hlocks, hgv⟩ := id C0
  have hgf : ∀ w ∈ gv_fl, w.before #[Value.ref b] s = true := flat_of_before _ hgv
  have hts : ∀ w ∈ bm_T, w.before #[Value.ref b] s = true := fun w hw => htl w (List.mem_filter.mp hw).1
  have harr := hts (Cond.arrayClass .int) iw_165
  have hA : ∀ q : Nat, s.heap.size ≤ q → (fun q : Nat => s.heap.size ≤ q) q := fun _ h => h
  have hnA : ∀ a : Nat, a < s.heap.size → ¬ (fun q : Nat => s.heap.size ≤ q) a := fun a h => Nat.not_le.mpr h
  obtain ⟨rd, fm, hrd, hfm, hRO⟩ := gv_RO hgf htl hnA hX hbl
  obtain ⟨c0, iS0, hKn0⟩ := u_known (C := RX0) (T := TX0) (N := 15) (n := 15) hts bm_lays0 (hts (Cond.instantiable RX0 15) iw_92)
  obtain ⟨c1, iS1, hKn1⟩ := u_known (C := RX1) (T := TX1) (N := 7) (n := 7) hts bm_lays1 (hts (Cond.instantiable RX1 7) iw_167)
  obtain ⟨c2, iS2, hKn2⟩ := u_known (C := RX2) (T := TX2) (N := 10) (n := 10) hts bm_lays2 (hts (Cond.instantiable RX2 10) iw_84)
  obtain ⟨c3, iS3, hKn3⟩ := u_known (C := RX3) (T := TX3) (N := 17) (n := 17) hts bm_lays3 (hts (Cond.instantiable RX3 17) iw_723)
  obtain ⟨dC, dI, hKc⟩ : ∃ (dC : Nat → ClassId) (dI : Nat → Nat → Nat), ∀ (k : Nat) (q : vw_C), bm_cl[k]? = some q → u_Kn s q.1 q.2.1 q.2.2 (dC k) (dI k) := by
    refine ⟨fun k => if k = 0 then c0 else if k = 1 then c1 else if k = 2 then c2 else c3, fun k => if k = 0 then iS0 else if k = 1 then iS1 else if k = 2 then iS2 else iS3, ?_⟩
    intro k q hq
    match k, hq with
    | 0, hq => cases hq; exact hKn0
    | 1, hq => cases hq; exact hKn1
    | 2, hq => cases hq; exact hKn2
    | 3, hq => cases hq; exact hKn3
    | k + 4, hq => simp [bm_cl] at hq
  obtain ⟨cI, kI, cmp, hI1, hI2, hI3⟩ := Cond.arrayClass_spec harr
  obtain ⟨comp, cJ, kJ, hJ1, hJ2, hJ3, hJ4⟩ := gd_over (htl _ gv_NEST.2.2)
  have ec : comp = cI := Option.some.inj (hJ1.symm.trans hI1)
  subst ec
  have hAO : gd_AO comp cJ s := ⟨kJ, hJ2, hJ3, hJ4⟩
  have hKI : ArrOfT s comp .int ∧ va_RA s comp .int := ⟨fun N z => ⟨(fun q hq => by cases hq), kI, hI2, cmp, hI3⟩, hI1⟩
  have hKJ : ArrOfT s cJ (.array .int) ∧ va_RA s cJ (.array .int) := ⟨fun N z => ⟨(fun q hq => by cases hq), kJ, hJ2, comp, hJ3⟩, hJ4⟩
  have hK : va_K (dC, dI) bm_cl [(comp, .int)] s := ⟨hKc, fun k q hk => by
    match k, hk with
    | 0, hk => cases hk; exact hKI
    | k + 1, hk => simp at hk⟩
  have hK2 : va_K (dC, dI) bm_cl [(comp, .int), (cJ, .array .int)] s := ⟨hKc, fun k q hk => by
    match k, hk with
    | 0, hk => cases hk; exact hKI
    | 1, hk => cases hk; exact hKJ
    | k + 2, hk => simp at hk⟩
  have hNw : va_Nw (.methodLinkNest RX2 24 iyX1 RX2) s := va_Nw.of rfl (htl _ gv_NEST.2.1)
  have hS : va_S (fun q : Nat => s.heap.size ≤ q) s.heap s.heap [] := va_S.rf
  have hP : va_P (dC, dI) bm_cl [] s.heap := fun k q h => by simp at h
  have hD : va_D (fun q : Nat => s.heap.size ≤ q) [] := ⟨fun i j p q h => by simp at h, fun k q h => by simp at h⟩
  have hl := lv_entry ([.ref b]) (n := 4) (Nat.le_of_ble_eq_true rfl)
  rw [lg_entry_eq]
  generalize (lg_sl ([.ref b]) ++ List.replicate (4 - (lg_sl ([.ref b])).length) Slot.unset).toArray = ls at hl ⊢
  have hl : lv_has ls 4 [(0, .ref b)] := hl
  refine va_new (ci := 2) (fs := [.null, .null, .null, .int 0, .null, .null, .null, .null, .null, .null]) (C := RX2) (T := TX2) (N := 10) hx hb hts bm_lays2 tyX2 tyX2_ok hown (hts (Cond.classLink R_law 7 RX2) iw_83) (hts (Cond.instantiable RX2 10) iw_84) (hts (Cond.initialized RX2) iw_72) hK hP hD hS hA rfl (fun j hj => by rcases (show j = 0 ∨ j = 1 ∨ j = 2 ∨ j = 3 ∨ j = 4 ∨ j = 5 ∨ j = 6 ∨ j = 7 ∨ j = 8 ∨ j = 9 by omega) with rfl | rfl | rfl | rfl | rfl | rfl | rfl | rfl | rfl | rfl <;> rfl) (Nat.le_of_ble_eq_true rfl) (Nat.le_of_ble_eq_true rfl) idL_0 (fun q0 H hP hD hS => ?_)
  have hP : va_P (dC, dI) bm_cl ([(q0, .inr (2, [.null, .null, .null, .int 0, .null, .null, .null, .null, .null, .null]))]) H := hP
  have hD : va_D (fun q : Nat => s.heap.size ≤ q) ([(q0, .inr (2, [.null, .null, .null, .int 0, .null, .null, .null, .null, .null, .null]))]) := hD
  refine W.widen (k := 1) (n := 10) (by decide) (by decide) ?_
  refine lv_dup hx hb idL_3 rfl ?_
  have hPc := hP.sub (ws' := [(q0, .inr (2, [.null, .null, .null, .int 0, .null, .null, .null, .null, .null, .null]))]) [0] rfl
  have hDc := hD.sub (ws' := [(q0, .inr (2, [.null, .null, .null, .int 0, .null, .null, .null, .null, .null, .null]))]) [0] (by decide) rfl
  have hFc := va_free (wc := [(q0, .inr (2, [.null, .null, .null, .int 0, .null, .null, .null, .null, .null, .null]))]) hD hS hA [0] rfl
  refine va_callv (va_runI (As := []) (rest := [.ref q0]) ⟨hx, hb, hml, hown, hts⟩ (imX2 l dC dI comp cJ q0 H.size) (cwI 0 hts igX2 rfl rfl rfl (hts (Cond.initialized RX2) iw_72) (hts (Cond.methodLink R_law 9 iyX2) iw_85) (hts (Cond.instanceMethod iyX2) iw_86) rfl (by decide +kernel) ⟨Nat.le_of_ble_eq_true rfl, Nat.le_of_ble_eq_true rfl⟩) ⟨fun a U g mk q => by obtain ⟨q0, q1, qP, qK, qD, qO, qN⟩ := q; exact ⟨q0, q1, qP, va_K.moved (u := U) (U := U.calling g mk a) (Vm.Alike.refl U.vm) qK, qD, gd_AO.moved (u := U) (U := U.calling g mk a) (Vm.Alike.refl U.vm) qO, va_Nw.same rfl (u := U) (U := U.calling g mk a) rfl qN⟩, fun U hU hW => ⟨rfl, by rw [hU], by rw [hU]; exact hPc, va_K.moved hW.alike hK, hDc.weaken (fun _ _ _ _ => trivial), hAO.moved hW.alike, va_Nw.warmM hW hNw⟩⟩ rfl rfl hl.1 rfl (lv_room (Nat.le_of_ble_eq_true rfl)) idL_4 ⟨Nat.le_of_ble_eq_true rfl, Nat.le_of_ble_eq_true rfl⟩) hS (fun q _ h => hFc q h) hFc (fun σ t H1 locs ht hvm hσ hB hz1 hk1 hS => ?_)
  obtain ⟨adC, had0, hP1, -, hD1⟩ := hB
  rw [ht] at hP1
  obtain ⟨hP, hD⟩ := va_join (wr := []) (w1 := iC adC comp cJ σ) hP hD [0] [] rfl rfl (by decide) (by decide) hk1 hFc hP1 hD1
  generalize H1 = H at hP hS ⊢
  have hP : va_P (dC, dI) bm_cl (iC adC comp cJ σ) H := hP
  have hD : va_D (fun q : Nat => s.heap.size ≤ q) (iC adC comp cJ σ) := hD
  refine W.widen (k := 45) (n := 639) (by decide) (by decide) ?_
  refine lv_astore_n (lv' := [(1, .ref q0), (0, .ref b)]) hx hb idL_7 rfl hl (by decide) rfl (fun ls hl => ?_)
  refine va_new (ci := 3) (fs := [.null, .null, .null, .int 0, .null, .int 0, .int 0, .int 0, .null, .int 0, .int 0, .int 0, .int 0, .null, .null, .null, .null]) (C := RX3) (T := TX3) (N := 17) hx hb hts bm_lays3 tyX3 tyX3_ok hown (hts (Cond.classLink R_law 10 RX3) iw_722) (hts (Cond.instantiable RX3 17) iw_723) (hts (Cond.initialized RX3) iw_75) hK hP hD hS hA rfl (fun j hj => by rcases (show j = 0 ∨ j = 1 ∨ j = 2 ∨ j = 3 ∨ j = 4 ∨ j = 5 ∨ j = 6 ∨ j = 7 ∨ j = 8 ∨ j = 9 ∨ j = 10 ∨ j = 11 ∨ j = 12 ∨ j = 13 ∨ j = 14 ∨ j = 15 ∨ j = 16 by omega) with rfl | rfl | rfl | rfl | rfl | rfl | rfl | rfl | rfl | rfl | rfl | rfl | rfl | rfl | rfl | rfl | rfl <;> rfl) (Nat.le_of_ble_eq_true rfl) (Nat.le_of_ble_eq_true rfl) idL_8 (fun q1 H hP hD hS => ?_)
  have hP : va_P (dC, dI) bm_cl (iC adC comp cJ σ ++ [(q1, .inr (3, [.null, .null, .null, .int 0, .null, .int 0, .int 0, .int 0, .null, .int 0, .int 0, .int 0, .int 0, .null, .null, .null, .null]))]) H := hP
  have hD : va_D (fun q : Nat => s.heap.size ≤ q) (iC adC comp cJ σ ++ [(q1, .inr (3, [.null, .null, .null, .int 0, .null, .int 0, .int 0, .int 0, .null, .int 0, .int 0, .int 0, .int 0, .null, .null, .null, .null]))]) := hD
  refine W.widen (k := 46) (n := 656) (by decide) (by decide) ?_
  refine lv_dup hx hb idL_11 rfl ?_
  have hlen : (iC adC comp cJ σ).length = 45 := by
    unfold iC
    rw [List.length_map, List.length_range]
  have hat : (iC adC comp cJ σ ++ [(q1, .inr (3, [.null, .null, .null, .int 0, .null, .int 0, .int 0, .int 0, .null, .int 0, .int 0, .int 0, .int 0, .null, .null, .null, .null]))])[45]? = some (q1, .inr (3, [.null, .null, .null, .int 0, .null, .int 0, .int 0, .int 0, .null, .int 0, .int 0, .int 0, .int 0, .null, .null, .null, .null])) := by
    rw [List.getElem?_append_right (by omega), hlen]
    rfl
  have hfr : (List.range 45).map (fun i => (iC adC comp cJ σ ++ [(q1, .inr (3, [.null, .null, .null, .int 0, .null, .int 0, .int 0, .int 0, .null, .int 0, .int 0, .int 0, .int 0, .null, .null, .null, .null]))])[i]?) = (iC adC comp cJ σ).map some := by
    apply List.ext_getElem?
    intro i
    rw [List.getElem?_map, List.getElem?_map]
    by_cases hi : i < 45
    · rw [List.getElem?_range hi, Option.map_some, List.getElem?_append_left (by omega)]
      rw [List.getElem?_eq_getElem (by omega)]
      rfl
    · rw [List.getElem?_eq_none (by rw [List.length_range]; omega), List.getElem?_eq_none (by omega)]
      rfl
  have hPc := hP.sub (ws' := [(q1, .inr (3, [.null, .null, .null, .int 0, .null, .int 0, .int 0, .int 0, .null, .int 0, .int 0, .int 0, .int 0, .null, .null, .null, .null]))]) [45] (by simp only [List.filterMap_cons, List.filterMap_nil, hat])
  have hDc := hD.sub (ws' := [(q1, .inr (3, [.null, .null, .null, .int 0, .null, .int 0, .int 0, .int 0, .null, .int 0, .int 0, .int 0, .int 0, .null, .null, .null, .null]))]) [45] (by decide) (by simp only [List.map_cons, List.map_nil, hat])
  have hFc := va_free (wc := [(q1, .inr (3, [.null, .null, .null, .int 0, .null, .int 0, .int 0, .int 0, .null, .int 0, .int 0, .int 0, .int 0, .null, .null, .null, .null]))]) hD hS hA [45] (by simp only [List.map_cons, List.map_nil, hat])
  refine va_callv (va_runI (As := []) (rest := [.ref q1]) ⟨hx, hb, hml, hown, hts⟩ (imX3 l dC dI comp q1 H.size) (cwI 0 hts igX3 rfl rfl rfl (hts (Cond.initialized RX3) iw_75) (hts (Cond.methodLink R_law 12 iyX3) iw_724) (hts (Cond.instanceMethod iyX3) iw_725) rfl (by decide +kernel) ⟨Nat.le_of_ble_eq_true rfl, Nat.le_of_ble_eq_true rfl⟩) ⟨fun a U g mk q => by obtain ⟨q0, q1, qP, qK, qD⟩ := q; exact ⟨q0, q1, qP, va_K.moved (u := U) (U := U.calling g mk a) (Vm.Alike.refl U.vm) qK, qD⟩, fun U hU hW => ⟨rfl, by rw [hU], by rw [hU]; exact hPc, va_K.moved hW.alike hK, hDc.weaken (fun _ _ _ _ => trivial)⟩⟩ rfl rfl hl.1 rfl (lv_room (Nat.le_of_ble_eq_true rfl)) idL_12 ⟨Nat.le_of_ble_eq_true rfl, Nat.le_of_ble_eq_true rfl⟩) hS (fun q _ h => hFc q h) hFc (fun g t H1 locs ht hvm hg hB hz1 hk1 hS => ?_)
  obtain ⟨m1, m2, m3, m4, m5, m6, m7, m8, m9, hP1, -, hD1⟩ := hB
  rw [ht] at hP1
  obtain ⟨hP, hD⟩ := va_join (wr := iC adC comp cJ σ) (w1 := iM comp q1 m1 m2 m3 m4 m5 m6 m7 m8 m9 g) hP hD [45] (List.range 45) (by simp only [List.map_cons, List.map_nil, hat]) hfr (by decide) (by decide) hk1 hFc hP1 hD1
  generalize H1 = H at hP hS ⊢
  refine W.widen (k := 55) (n := 1276) (by decide) (by decide) ?_
  refine lv_astore_n (lv' := [(2, .ref q1), (1, .ref q0), (0, .ref b)]) hx hb idL_15 rfl hl (by decide) rfl (fun ls hl => ?_)
  obtain ⟨ad, hlo, hmi, hhi⟩ : ∃ ad : Nat → Nat, (∀ k, k < 45 → ad k = adC k) ∧ (∀ k, k < 10 → ad (45 + k) = ([q1, m1, m2, m3, m4, m5, m6, m7, m8, m9] : List Nat).getD k 0) ∧ ∀ k, 55 ≤ k → ad k = rd k := by
    refine ⟨fun k => if k < 45 then adC k else if k < 55 then ([q1, m1, m2, m3, m4, m5, m6, m7, m8, m9] : List Nat).getD (k - 45) 0 else rd k, fun k hk => if_pos hk, fun k hk => ?_, fun k hk => ?_⟩
    · dsimp only
      rw [if_neg (by omega), if_pos (by omega), show 45 + k - 45 = k by omega]
    · dsimp only
      rw [if_neg (by omega), if_neg (by omega)]
  have hws : bm_ws ad comp cJ (iZ σ g) = iC adC comp cJ σ ++ iM comp q1 m1 m2 m3 m4 m5 m6 m7 m8 m9 g := iC_ws hlo (hmi 0 (by decide)) (hmi 1 (by decide)) (hmi 2 (by decide)) (hmi 3 (by decide)) (hmi 4 (by decide)) (hmi 5 (by decide)) (hmi 6 (by decide)) (hmi 7 (by decide)) (hmi 8 (by decide)) (hmi 9 (by decide))
  rw [← hws] at hP hD
  have hDw : ∀ τ, va_D (fun q : Nat => s.heap.size ≤ q) (bm_ws ad comp cJ τ) := fun τ => iC_D hD
  obtain ⟨ρ, hρ⟩ := lq_law (L, xs) hL (iZ_R hσ hg)
  have hev : bm_evC bm_code (L, xs) 211 8 [.ref 55, .ref 0, .ref 45, .null] [] (iZ σ g) = some (.int (nI 1), ρ) := (bb_211_8 (L, xs) (iZ σ g) .null).trans hρ
  obtain ⟨n, hn⟩ := bm_ev_iff.mp hev
  have hLR : bm_LR ad fm 211 [.ref 55, .ref 0, .ref 45, .null] ls := by
    obtain ⟨l1, l2, l3⟩ := hl
    refine ⟨l1, l2, fun i hi => ?_, fun i hi => ?_⟩
    · match i, hi with
      | 0, _ => rw [l3 (0, .ref b) (by simp)]; show _ = some (Slot.val (Value.ref (ad 55))); rw [hhi 55 (by decide), hrd]
      | 1, _ => rw [l3 (1, .ref q0) (by simp)]; show _ = some (Slot.val (Value.ref (ad 0))); rw [hlo 0 (by decide), had0]
      | 2, _ => rw [l3 (2, .ref q1) (by simp)]; show _ = some (Slot.val (Value.ref (ad 45))); rw [hmi 0 (by decide)]; rfl
      | 3, hi => exact absurd rfl hi
      | i + 4, hi => exact absurd rfl hi
    · match i, hi with
      | 0, hi => cases hi
      | 1, hi => cases hi
      | 2, hi => cases hi
      | 3, hi => cases hi
      | i + 4, hi => cases hi
  have C : bm_Ctx dC dI ad comp cJ (fun q : Nat => s.heap.size ≤ q) (L, xs) fm p room_1 s m #[Value.ref b] c 55 1276 211 := ⟨hx, hb.trans ic_law.symm, hml, hown, hts, hK2, hDw, hRO ad hhi, hfm, by decide +kernel, by decide +kernel, by decide, by decide⟩
  have K := bm_snd (l := l) (X := (L, xs)) hDw hfm bm_facts n 211 8 [.ref 55, .ref 0, .ref 45, .null] [] (iZ σ g) (.int (nI 1)) ρ (by decide) hn p e room_1 s m #[Value.ref b] below meth c 55 1276 (lw_Z below #[Value.ref b] s) C (fun pcr H locs ls st real hfin hdec hP1 hS1 => by
    rw [ic_law] at hdec
    rcases hfin with ⟨x, ty, e1, rfl, rfl, -, -⟩ | ⟨e1, -⟩ | ⟨x, e1, -⟩ | ⟨x, e1, -⟩
    · have ex : nI 1 = x := Value.int.inj e1
      subst ex
      refine W.widen (k := 600000) (n := 7302250) (by decide) (by decide) ?_
      refine va_forget (fun q hq => hS1.2.2 q hq) ?_
      exact lw_ret hx hb hr hlocks hdec
    · cases e1
    · cases e1
    · cases e1) H _ ls hP hS hLR
  rw [ic_pc] at K
  exact K
