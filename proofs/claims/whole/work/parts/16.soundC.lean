/-! CALLS -/
def bm_rm (d : Nat) : Room := { frames := d, cells := 0, slots := 0, locals := 40 * d }
def bm_ov (ad : Nat → Nat) (fm : Value) : Value → Option Value
  | .null => none
  | v => some (bm_cz ad fm v)
def bm_Pc (dC : Nat → ClassId) (dI : Nat → Nat → Nat) (ad : Nat → Nat) (cI cJ : ClassId) (A : Nat → Prop) (X : bm_X) (fm : Value) (as : List Value) (σ : bm_M) : Array Value → State → Prop := va_Pc (as.map (bm_cz ad fm)) (fun U => va_P (dC, dI) bm_cl (bm_ws ad cI cJ σ) U.heap ∧ va_K (dC, dI) bm_cl [(cI, .int), (cJ, .array .int)] U ∧ bm_RO A ad fm X U)
def bm_Qc (dC : Nat → ClassId) (dI : Nat → Nat → Nat) (ad : Nat → Nat) (cI cJ : ClassId) (A : Nat → Prop) (fm : Value) (r : Value) (τ : bm_M) : Array Value → State → Outcome → State → Prop := fun _ st oc t => (oc = .returned (bm_ov ad fm r) ∧ va_P (dC, dI) bm_cl (bm_ws ad cI cJ τ) t.heap) ∧ va_F A st t
def bm_wsM (M : Nat) : List Cond := Cond.code (bm_y M) (bm_cc M) (bm_nL M) (bm_rt M) :: bm_T
/-- a method's contract: from such a memory it comes to such a value and such a memory -/
def bm_Met (l : Launch) (dC : Nat → ClassId) (dI : Nat → Nat → Nat) (ad : Nat → Nat) (cI cJ : ClassId) (A : Nat → Prop) (X : bm_X) (fm : Value) (M : Nat) (as : List Value) (σ : bm_M) (r : Value) (τ : bm_M) : Prop :=
  Met l (bm_y M) (bm_wsM M) (bm_rm (bm_dp M)) (bm_Pc dC dI ad cI cJ A X fm as σ) (bm_Qc dC dI ad cI cJ A fm r τ) 0 0 A
set_option maxRecDepth 100000 in
theorem bm_meta : ∀ M, M < 211 → ((bm_y M).cls ≠ "java/lang/invoke/MethodHandle" ∧ (bm_y M).cls ≠ "java/lang/invoke/VarHandle" ∧ (parseMethodDescriptor (bm_y M).desc).map (fun d => d.parameters.length) = some (bm_ar M)) ∧ plainName (bm_y M).cls = true ∧ bm_cn (bm_cl0 M) = (bm_y M).cls ∧ bm_pc M 0 = 0 ∧ (bm_sta M = true → M ∈ bm_stats) ∧ (bm_sta M = false → M ∈ bm_insts) ∧ (bm_sta M = false → bm_cl0 M < 4 ∨ bm_cl0 M = 6) ∧ (bm_cl0 M < 4 → bm_RR (bm_cl0 M) = (bm_y M).cls) ∧ (bm_cl0 M = 6 → (bm_y M).cls = "java/lang/String") := by decide +kernel
theorem bm_goodM {M : Nat} (h : M < 211) : GoodIn bm_T (bm_wsM M) := by
  intro w hw
  rcases List.mem_cons.mp hw with rfl | hw
  · exact ⟨bm_code_in M (List.mem_range.mpr h), good_of_word rfl⟩
  · exact ⟨hw, good_of_word (List.mem_filter.mp hw).2⟩
theorem bm_st_ex {b : Nat} (h : bm_st b = true) : ∃ j : Nat, j < 15 ∧ b = 60 + j := by
  simp only [bm_st, Bool.and_eq_true, Nat.ble_eq] at h
  exact ⟨b - 60, by omega, by omega⟩
section BC
variable {l : Launch} {dC : Nat → ClassId} {dI : Nat → Nat → Nat} {ad : Nat → Nat} {cI cJ : ClassId} {A : Nat → Prop} {X : bm_X} {fm : Value} {p : Program} {e : Env} {R : Room} {s : State} {m : MethodId} {args : Array Value} {below : List Frame} {meth : Method} {c : Code} {cells slots : Nat} {Q : State → Prop} {M pc : Nat} {L S : List Value} {σ : bm_M}
theorem bm_blind {as : List Value} : FrameBlind (bm_Pc dC dI ad cI cJ A X fm as σ) := fun a U g mk q => by
  obtain ⟨q0, q1, q2, q3⟩ := q
  exact ⟨q0, q1, va_K.moved (u := U) (U := U.calling g mk a) (Vm.Alike.refl U.vm) q2, bm_RO.go (s := U) (U := U.calling g mk a) q3 (State.WarmedH.refl U) (fun _ _ _ => rfl)⟩
theorem bm_callB {N : Nat} {own : String} {index : Nat} (hN : N < 211) (hts : ∀ w ∈ bm_T, w.before args s = true) (hl : Cond.methodLink own index (bm_y N) ∈ bm_T) (h1 : bm_dp N + 1 ≤ R.frames) (h2 : 8 + (bm_nL N + 11) + 40 * bm_dp N ≤ R.locals) : CallB R s args own index (bm_y N) (bm_cc N) (bm_nL N) (bm_rt N) (bm_wsM N) (bm_rm (bm_dp N)) 0 0 (bm_ar N) :=
  callB_of (bm_ar N) hts (bm_goodM hN) rfl rfl rfl (hts _ (bm_ini_in N (List.mem_range.mpr hN))) (hts _ hl) (bm_meta N hN).1 ⟨h1, h2⟩
theorem bm_callW {r : Value} {τ : bm_M} {rest st0 : List Value} {H : Heap} {locs : List Loc} {ls : Array Slot} {a : Array Value} {pb : Nat} (hr : va_Run p l e R s m args below meth c H locs cells slots 0 0 (F0 m pb ls st0) rest (bm_Qc dC dI ad cI cJ A fm r τ a) A) (hS : va_S A s.heap H locs)
    (kk : ∀ (H1 : Heap) (locs1 : List Loc), va_P (dC, dI) bm_cl (bm_ws ad cI cJ τ) H1 → va_S A s.heap H1 locs1 → W p l e R s m args below meth c H1 locs1 cells slots Q (F0 m (pb + 3) ls ((bm_ov ad fm r).toList ++ rest))) : W p l e R s m args below meth c H locs cells slots Q (F0 m pb ls st0) := by
  intro T hT X
  obtain ⟨v, st₀, t, T', Ls, h0, X', hL, e1, e2, ⟨⟨hv, hp⟩, hz, hk⟩, st⟩ := hr T hT X
  cases hv
  rw [h0] at hz hk
  obtain ⟨t2, a1, b1⟩ := kk T'.heap (locs ++ Ls) (by rw [e1]; exact hp) ⟨Nat.le_trans hS.1 (by rw [e1]; exact hz), fun q h1 h2 => by rw [e1, hk q (Nat.lt_of_lt_of_le h1 hS.1) h2]; exact hS.2.1 q h1 h2, fun q hq => by
      rcases List.mem_append.mp hq with h | h
      · exact hS.2.2 q h
      · exact hL q h⟩ T' rfl X'
  exact ⟨t2, st t2 a1, b1⟩
theorem bm_take_drop : ∀ (n : Nat) (l acc : List Value), (bm_take n l acc).reverse ++ bm_drop n l = acc.reverse ++ l
  | 0, l, acc => rfl
  | n + 1, [], acc => by simp [bm_take, bm_drop]
  | n + 1, a :: l, acc => by
    show (bm_take n l (a :: acc)).reverse ++ bm_drop n l = _
    rw [bm_take_drop n l (a :: acc)]
    simp

theorem bs_invoke (C : (bm_Ctx dC dI ad cI cJ A X fm p R s m args c cells slots M)) {n : Nat} {real : Instr} {as rest S' : List Value} {r : Value} {τ : bm_M} (hn : bm_pc M (pc + 1) = bm_pc M pc + 3) (hdec : decode (bm_cc M) (bm_pc M pc) = .ok (real, 3)) (hinv : bm_inv (bm_cl0 M) M (n / 4096) n real = true) (hg : bm_cg n as rest = true) (hS0 : S = as.reverse ++ rest) (hM : bm_Met l dC dI ad cI cJ A X fm (n / 4096) as σ r τ) (hS' : S'.map (bm_cz ad fm) = (bm_ov ad fm r).toList ++ rest.map (bm_cz ad fm)) (k : (bm_Wg l dC dI ad cI cJ A fm p e R s m args below meth c cells slots Q M (pc + 1) (L) (S') (τ))) : (bm_Wg l dC dI ad cI cJ A fm p e R s m args below meth c cells slots Q M (pc) (L) (S) (σ)) := by
  obtain ⟨hx, hb, hml, hown, hts, hK, hD, hRO, hfm, hR1, hR2, hR3, hR4⟩ := C
  simp only [bm_inv, Bool.and_eq_true, decide_eq_true_eq] at hinv
  obtain ⟨⟨⟨⟨⟨⟨⟨i1, i2⟩, i3⟩, i4⟩, i5⟩, i6⟩, i7⟩, i8⟩ := hinv
  obtain ⟨q, hq, he⟩ := List.any_eq_true.mp i8
  simp only [Bool.and_eq_true, decide_eq_true_eq] at he
  obtain ⟨⟨e1, e2⟩, e3⟩ := he
  have hlk := bm_links_in q hq
  unfold bm_lkC at hlk
  rw [e1, e2] at hlk
  simp only [bm_cg, Bool.and_eq_true, Nat.ble_eq, Nat.beq_eq] at hg
  obtain ⟨c1, c2, c3, c4⟩ := hg
  obtain ⟨m1, m2, m3, m4, m5, m6, m7, m8, m9⟩ := bm_meta _ i1
  have hcb : CallB R s args (bm_cn (bm_cl0 M)) q.2.2 (bm_y (n / 4096)) (bm_cc (n / 4096)) (bm_nL (n / 4096)) (bm_rt (n / 4096)) (bm_wsM (n / 4096)) (bm_rm (bm_dp (n / 4096))) 0 0 (bm_ar (n / 4096)) := bm_callB i1 hts hlk (by omega) (by omega)
  intro H locs ls hP hS hL
  have hcat : ((rest.map (bm_cz ad fm)).map fun v => v.category).sum ≤ 8 := by rw [bm_cat_eq hfm]; exact c1
  have hpre : ∀ U : State, U.heap = H → s.WarmedH U.vm → bm_Pc dC dI ad cI cJ A X fm as σ (as.map (bm_cz ad fm)).toArray U := fun U hU hW => ⟨rfl, by rw [hU]; exact hP, va_K.moved hW.alike hK, hRO.go hW (fun q h1 h2 => by rw [hU]; exact hS.2.1 q h1 h2)⟩
  have kk : ∀ (H1 : Heap) (locs1 : List Loc), va_P (dC, dI) bm_cl (bm_ws ad cI cJ τ) H1 → va_S A s.heap H1 locs1 → W p l e R s m args below meth c H1 locs1 cells slots Q (F0 m (bm_pc M pc + 3) ls ((bm_ov ad fm r).toList ++ rest.map (bm_cz ad fm))) := fun H1 locs1 hP1 hS1 => by
    have k := k H1 locs1 ls hP1 hS1 hL
    rw [hn, hS'] at k
    exact k
  cases hst : bm_sta (n / 4096) with
  | true =>
    rw [hst] at e3 i3
    simp only [if_true, Nat.add_zero] at e3 i3
    subst e3
    exact bm_callW (va_runS ⟨hx, hb, hml, hown, hts⟩ hM ⟨hcb, hts _ (bm_stat_in _ (m5 hst))⟩ ⟨bm_blind, hpre⟩ rfl (by rw [List.length_map, c2, i3]) hL.1 (by show S.map _ = _; rw [hS0, List.map_append, List.map_reverse]) (lv_room hcat) hdec ⟨by omega, by omega⟩) hS kk
  | false =>
    rw [hst] at e3 i3 i7
    simp only [Bool.false_eq_true, if_false] at e3 i3 i7
    subst e3
    have hrec : ∃ (b : Nat) (As : List Value), as = .ref b :: As ∧ ∃ cellB : Cell, H[ad b]? = some cellB ∧ cellB.vm.isStatics = false ∧ s.vm.findClass (bm_y (n / 4096)).cls = some cellB.cls := by
      rcases m7 hst with h4 | h6
      · rw [if_neg (by omega)] at i7
        rw [← i7] at c4
        match as, c4 with
        | .ref b :: As, c4 =>
          have h5 : bm_oc b = bm_cl0 (n / 4096) + 1 := by
            match hcl : bm_cl0 (n / 4096), h4 with
            | 0, _ => rw [hcl] at c4; simp only [bm_rcv, Bool.and_eq_true, Nat.beq_eq] at c4; exact c4.2
            | 1, _ => rw [hcl] at c4; simp only [bm_rcv, Bool.and_eq_true, Nat.beq_eq] at c4; exact c4.2
            | 2, _ => rw [hcl] at c4; simp only [bm_rcv, Bool.and_eq_true, Nat.beq_eq] at c4; exact c4.2
            | 3, _ => rw [hcl] at c4; simp only [bm_rcv, Bool.and_eq_true, Nat.beq_eq] at c4; exact c4.2
          refine ⟨b, As, rfl, ?_⟩
          rw [← m8 h4]
          exact va_recv hK hP (bm_cl_at h4) (q0 := b) (by rw [bm_ws_at (bm_oc_in h5 (by omega)), bm_cell_obj h5 (by omega)]; rfl)
        | [], c4 => exact absurd c4 (by match hcl : bm_cl0 (n / 4096), h4 with | 0, _ => (simp [bm_rcv]) | 1, _ => (simp [bm_rcv]) | 2, _ => (simp [bm_rcv]) | 3, _ => (simp [bm_rcv]))
        | .int _ :: _, c4 => exact absurd c4 (by match hcl : bm_cl0 (n / 4096), h4 with | 0, _ => (simp [bm_rcv]) | 1, _ => (simp [bm_rcv]) | 2, _ => (simp [bm_rcv]) | 3, _ => (simp [bm_rcv]))
        | .long _ :: _, c4 => exact absurd c4 (by match hcl : bm_cl0 (n / 4096), h4 with | 0, _ => (simp [bm_rcv]) | 1, _ => (simp [bm_rcv]) | 2, _ => (simp [bm_rcv]) | 3, _ => (simp [bm_rcv]))
        | .float _ :: _, c4 => exact absurd c4 (by match hcl : bm_cl0 (n / 4096), h4 with | 0, _ => (simp [bm_rcv]) | 1, _ => (simp [bm_rcv]) | 2, _ => (simp [bm_rcv]) | 3, _ => (simp [bm_rcv]))
        | .double _ :: _, c4 => exact absurd c4 (by match hcl : bm_cl0 (n / 4096), h4 with | 0, _ => (simp [bm_rcv]) | 1, _ => (simp [bm_rcv]) | 2, _ => (simp [bm_rcv]) | 3, _ => (simp [bm_rcv]))
        | .null :: _, c4 => exact absurd c4 (by match hcl : bm_cl0 (n / 4096), h4 with | 0, _ => (simp [bm_rcv]) | 1, _ => (simp [bm_rcv]) | 2, _ => (simp [bm_rcv]) | 3, _ => (simp [bm_rcv]))
        | .retAddr _ :: _, c4 => exact absurd c4 (by match hcl : bm_cl0 (n / 4096), h4 with | 0, _ => (simp [bm_rcv]) | 1, _ => (simp [bm_rcv]) | 2, _ => (simp [bm_rcv]) | 3, _ => (simp [bm_rcv]))
      · rw [if_pos h6] at i7
        rw [← i7] at c4
        match as, c4 with
        | .ref b :: As, c4 =>
          simp only [bm_rcv, Bool.and_eq_true] at c4
          obtain ⟨j, hj, rfl⟩ := bm_st_ex c4.2
          refine ⟨60 + j, As, rfl, ?_⟩
          rw [m9 h6]
          exact vk_recv (adK := fun i => ad (60 + i)) (i := j) hRO.2.2.2.2.2.2.1 hj hS
        | [], c4 => exact absurd c4 (by simp [bm_rcv])
        | .int _ :: _, c4 => exact absurd c4 (by simp [bm_rcv])
        | .long _ :: _, c4 => exact absurd c4 (by simp [bm_rcv])
        | .float _ :: _, c4 => exact absurd c4 (by simp [bm_rcv])
        | .double _ :: _, c4 => exact absurd c4 (by simp [bm_rcv])
        | .null :: _, c4 => exact absurd c4 (by simp [bm_rcv])
        | .retAddr _ :: _, c4 => exact absurd c4 (by simp [bm_rcv])
    obtain ⟨b, As, rfl, hcell⟩ := hrec
    exact bm_callW (va_runV (C := (bm_y (n / 4096)).cls) (b := ad b) (As := As.map (bm_cz ad fm)) ⟨hx, hb, hml, hown, hts⟩ hM ⟨hcb, hts _ (bm_instM_in _ (m6 hst)), hts _ (bm_sel_in _ (m6 hst))⟩ ⟨bm_blind, hcell, hpre⟩ rfl (by rw [List.length_map]; simp only [List.length_cons] at c2; omega) hL.1 (by show S.map _ = _; rw [hS0]; simp [bm_cz]) (lv_room hcat) hdec ⟨by omega, by omega⟩) hS kk
end BC
