/-! ONE STEP: what an instruction of the little machine does, the machine does -/
/-- what a frame stands on -/
def bm_Ctx (dC : Nat → ClassId) (dI : Nat → Nat → Nat) (ad : Nat → Nat) (cI cJ : ClassId) (A : Nat → Prop) (X : bm_X) (fm : Value) (p : Program) (R : Room) (s : State) (m : MethodId) (args : Array Value) (c : Code) (cells slots M : Nat) : Prop :=
  p.tables.exec = Jvm.exec ∧ c.code = bm_cc M ∧ c.maxLocals = bm_nL M ∧ s.vm.findClass (bm_cn (bm_cl0 M)) = some m.cls ∧ (∀ w ∈ bm_T, w.before args s = true) ∧ va_K (dC, dI) bm_cl [(cI, .int), (cJ, .array .int)] s ∧ (∀ σ, va_D A (bm_ws ad cI cJ σ)) ∧ bm_RO A ad fm X s ∧ fm.category = 1 ∧ bm_dp M ≤ R.frames ∧ 40 * bm_dp M ≤ R.locals ∧ cells ≤ R.cells ∧ slots ≤ R.slots
def bm_Wg (l : Launch) (dC : Nat → ClassId) (dI : Nat → Nat → Nat) (ad : Nat → Nat) (cI cJ : ClassId) (A : Nat → Prop) (fm : Value) (p : Program) (e : Env) (R : Room) (s : State) (m : MethodId) (args : Array Value) (below : List Frame) (meth : Method) (c : Code) (cells slots : Nat) (Q : State → Prop) (M pc : Nat) (L S : List Value) (σ : bm_M) : Prop :=
  ∀ (H : Heap) (locs : List Loc) (ls : Array Slot), va_P (dC, dI) bm_cl (bm_ws ad cI cJ σ) H → va_S A s.heap H locs → bm_LR ad fm M L ls → W p l e R s m args below meth c H locs cells slots Q (F0 m (bm_pc M pc) ls (S.map (bm_cz ad fm)))
theorem bm_cst_in {cls len : Nat} {real : Instr} {v : Int32} (h : bm_cst cls real len v = true) : ∃ i, Cond.constant (bm_cn cls) i v ∈ bm_T ∧ ((real = .ldc i ∧ len = 2) ∨ (real = .ldc_w i ∧ len = 3)) := by
  obtain ⟨q, hq, he⟩ := List.any_eq_true.mp h
  simp only [Bool.and_eq_true, Bool.or_eq_true, decide_eq_true_eq] at he
  obtain ⟨⟨e1, e2⟩, e3⟩ := he
  refine ⟨q.2.2, ?_, e3⟩
  have := bm_consts_in q hq
  unfold bm_coC at this
  rw [e1, e2] at this
  exact this
theorem bm_cstL_in {cls len : Nat} {real : Instr} {v : Int64} (h : bm_cstL cls real len v = true) : ∃ i, Cond.constantLong (bm_cn cls) i v ∈ bm_T ∧ real = .ldc2_w i ∧ len = 3 := by
  obtain ⟨q, hq, he⟩ := List.any_eq_true.mp h
  simp only [Bool.and_eq_true, decide_eq_true_eq] at he
  obtain ⟨⟨e1, e2⟩, e3⟩ := he
  refine ⟨q.2.2, ?_, e3⟩
  have := bm_constsL_in q hq
  unfold bm_clC at this
  rw [e1, e2] at this
  exact this
theorem bm_fld_in {cls ci slot : Nat} {f : Nat → Instr} {real : Instr} (h : bm_fld cls ci slot f real = true) : ∃ i, Cond.fieldLink (bm_cn cls) i ((bm_TT ci slot).1) ((bm_TT ci slot).2.1) ((bm_TT ci slot).2.2.1) ∈ bm_T ∧ real = f i := by
  obtain ⟨q, hq, he⟩ := List.any_eq_true.mp h
  simp only [Bool.and_eq_true, decide_eq_true_eq] at he
  obtain ⟨⟨⟨e1, e2⟩, e3⟩, e4⟩ := he
  refine ⟨q.2.2.2, ?_, e4⟩
  have := bm_fields_in q hq
  unfold bm_flC at this
  rw [e1, e2, e3] at this
  exact this
theorem bm_prim_in {cls k : Nat} {real : Instr} (h : bm_prims.any (fun q => decide (q.1 = cls) && decide (q.2.1 = k) && decide (real = .invokestatic q.2.2)) = true) : ∃ i, Cond.methodLink (bm_cn cls) i (bm_prN k) ∈ bm_T ∧ real = .invokestatic i := by
  obtain ⟨q, hq, he⟩ := List.any_eq_true.mp h
  simp only [Bool.and_eq_true, decide_eq_true_eq] at he
  obtain ⟨⟨e1, e2⟩, e3⟩ := he
  refine ⟨q.2.2, ?_, e3⟩
  have := bm_prims_in q hq
  unfold bm_prC at this
  rw [e1, e2] at this
  exact this
def bm_cnd (cd : Jvm.ClassFile.Cond) (x y : Int32) : Prop := match cd with
  | .eq => x = y
  | .ne => ¬ x = y
  | .lt => x < y
  | .ge => ¬ x < y
  | .gt => y < x
  | .le => ¬ y < x
theorem bm_f4_eq {k : Nat} (h : k < 4) : ((bm_f4 k : Fin 4) : Nat) = k := Nat.mod_eq_of_lt h
section BS
variable {l : Launch} {dC : Nat → ClassId} {dI : Nat → Nat → Nat} {ad : Nat → Nat} {cI cJ : ClassId} {A : Nat → Prop} {X : bm_X} {fm : Value} {p : Program} {e : Env} {R : Room} {s : State} {m : MethodId} {args : Array Value} {below : List Frame} {meth : Method} {c : Code} {cells slots : Nat} {Q : State → Prop} {M pc : Nat} {L S : List Value} {σ : bm_M}

theorem bs_iadd (C : (bm_Ctx dC dI ad cI cJ A X fm p R s m args c cells slots M)) (hf : bm_fact M pc .iadd) {x y : Int32} (k : (bm_Wg l dC dI ad cI cJ A fm p e R s m args below meth c cells slots Q M (pc + 1) (L) (.int (x + y) :: S) (σ))) : (bm_Wg l dC dI ad cI cJ A fm p e R s m args below meth c cells slots Q M (pc) (L) (.int y :: .int x :: S) (σ)) := by
  obtain ⟨hx, hb, hml, hown, hts, hK, hD, hRO, hfm, hR1, hR2, hR3, hR4⟩ := C
  obtain ⟨hd, hr⟩ := hf
  simp only [bm_rel, Bool.and_eq_true, Bool.or_eq_true, decide_eq_true_eq] at hr
  obtain ⟨⟨hn, h1⟩, h2⟩ := hr
  intro H locs ls hP hS hL
  have k := k H locs ls hP hS hL
  rw [hn] at k
  exact lv_iadd hx hb (bm_dec hd h1 h2) k
theorem bs_isub (C : (bm_Ctx dC dI ad cI cJ A X fm p R s m args c cells slots M)) (hf : bm_fact M pc .isub) {x y : Int32} (k : (bm_Wg l dC dI ad cI cJ A fm p e R s m args below meth c cells slots Q M (pc + 1) (L) (.int (x - y) :: S) (σ))) : (bm_Wg l dC dI ad cI cJ A fm p e R s m args below meth c cells slots Q M (pc) (L) (.int y :: .int x :: S) (σ)) := by
  obtain ⟨hx, hb, hml, hown, hts, hK, hD, hRO, hfm, hR1, hR2, hR3, hR4⟩ := C
  obtain ⟨hd, hr⟩ := hf
  simp only [bm_rel, Bool.and_eq_true, Bool.or_eq_true, decide_eq_true_eq] at hr
  obtain ⟨⟨hn, h1⟩, h2⟩ := hr
  intro H locs ls hP hS hL
  have k := k H locs ls hP hS hL
  rw [hn] at k
  exact lv_isub hx hb (bm_dec hd h1 h2) k
theorem bs_imul (C : (bm_Ctx dC dI ad cI cJ A X fm p R s m args c cells slots M)) (hf : bm_fact M pc .imul) {x y : Int32} (k : (bm_Wg l dC dI ad cI cJ A fm p e R s m args below meth c cells slots Q M (pc + 1) (L) (.int (x * y) :: S) (σ))) : (bm_Wg l dC dI ad cI cJ A fm p e R s m args below meth c cells slots Q M (pc) (L) (.int y :: .int x :: S) (σ)) := by
  obtain ⟨hx, hb, hml, hown, hts, hK, hD, hRO, hfm, hR1, hR2, hR3, hR4⟩ := C
  obtain ⟨hd, hr⟩ := hf
  simp only [bm_rel, Bool.and_eq_true, Bool.or_eq_true, decide_eq_true_eq] at hr
  obtain ⟨⟨hn, h1⟩, h2⟩ := hr
  intro H locs ls hP hS hL
  have k := k H locs ls hP hS hL
  rw [hn] at k
  exact lv_imul hx hb (bm_dec hd h1 h2) k
theorem bs_iand (C : (bm_Ctx dC dI ad cI cJ A X fm p R s m args c cells slots M)) (hf : bm_fact M pc .iand) {x y : Int32} (k : (bm_Wg l dC dI ad cI cJ A fm p e R s m args below meth c cells slots Q M (pc + 1) (L) (.int (x &&& y) :: S) (σ))) : (bm_Wg l dC dI ad cI cJ A fm p e R s m args below meth c cells slots Q M (pc) (L) (.int y :: .int x :: S) (σ)) := by
  obtain ⟨hx, hb, hml, hown, hts, hK, hD, hRO, hfm, hR1, hR2, hR3, hR4⟩ := C
  obtain ⟨hd, hr⟩ := hf
  simp only [bm_rel, Bool.and_eq_true, Bool.or_eq_true, decide_eq_true_eq] at hr
  obtain ⟨⟨hn, h1⟩, h2⟩ := hr
  intro H locs ls hP hS hL
  have k := k H locs ls hP hS hL
  rw [hn] at k
  exact lv_iand hx hb (bm_dec hd h1 h2) k
theorem bs_ior (C : (bm_Ctx dC dI ad cI cJ A X fm p R s m args c cells slots M)) (hf : bm_fact M pc .ior) {x y : Int32} (k : (bm_Wg l dC dI ad cI cJ A fm p e R s m args below meth c cells slots Q M (pc + 1) (L) (.int (x ||| y) :: S) (σ))) : (bm_Wg l dC dI ad cI cJ A fm p e R s m args below meth c cells slots Q M (pc) (L) (.int y :: .int x :: S) (σ)) := by
  obtain ⟨hx, hb, hml, hown, hts, hK, hD, hRO, hfm, hR1, hR2, hR3, hR4⟩ := C
  obtain ⟨hd, hr⟩ := hf
  simp only [bm_rel, Bool.and_eq_true, Bool.or_eq_true, decide_eq_true_eq] at hr
  obtain ⟨⟨hn, h1⟩, h2⟩ := hr
  intro H locs ls hP hS hL
  have k := k H locs ls hP hS hL
  rw [hn] at k
  exact lv_ior hx hb (bm_dec hd h1 h2) k
theorem bs_ishl (C : (bm_Ctx dC dI ad cI cJ A X fm p R s m args c cells slots M)) (hf : bm_fact M pc .ishl) {x y : Int32} (k : (bm_Wg l dC dI ad cI cJ A fm p e R s m args below meth c cells slots Q M (pc + 1) (L) (.int (bm_shl x y) :: S) (σ))) : (bm_Wg l dC dI ad cI cJ A fm p e R s m args below meth c cells slots Q M (pc) (L) (.int y :: .int x :: S) (σ)) := by
  obtain ⟨hx, hb, hml, hown, hts, hK, hD, hRO, hfm, hR1, hR2, hR3, hR4⟩ := C
  obtain ⟨hd, hr⟩ := hf
  simp only [bm_rel, Bool.and_eq_true, Bool.or_eq_true, decide_eq_true_eq] at hr
  obtain ⟨⟨hn, h1⟩, h2⟩ := hr
  intro H locs ls hP hS hL
  have k := k H locs ls hP hS hL
  rw [hn] at k
  exact lv_ishl hx hb (bm_dec hd h1 h2) k
theorem bs_ishr (C : (bm_Ctx dC dI ad cI cJ A X fm p R s m args c cells slots M)) (hf : bm_fact M pc .ishr) {x y : Int32} (k : (bm_Wg l dC dI ad cI cJ A fm p e R s m args below meth c cells slots Q M (pc + 1) (L) (.int (bm_shr x y) :: S) (σ))) : (bm_Wg l dC dI ad cI cJ A fm p e R s m args below meth c cells slots Q M (pc) (L) (.int y :: .int x :: S) (σ)) := by
  obtain ⟨hx, hb, hml, hown, hts, hK, hD, hRO, hfm, hR1, hR2, hR3, hR4⟩ := C
  obtain ⟨hd, hr⟩ := hf
  simp only [bm_rel, Bool.and_eq_true, Bool.or_eq_true, decide_eq_true_eq] at hr
  obtain ⟨⟨hn, h1⟩, h2⟩ := hr
  intro H locs ls hP hS hL
  have k := k H locs ls hP hS hL
  rw [hn] at k
  exact lv_ishr hx hb (bm_dec hd h1 h2) k
theorem bs_iushr (C : (bm_Ctx dC dI ad cI cJ A X fm p R s m args c cells slots M)) (hf : bm_fact M pc .iushr) {x y : Int32} (k : (bm_Wg l dC dI ad cI cJ A fm p e R s m args below meth c cells slots Q M (pc + 1) (L) (.int (bm_ushr x y) :: S) (σ))) : (bm_Wg l dC dI ad cI cJ A fm p e R s m args below meth c cells slots Q M (pc) (L) (.int y :: .int x :: S) (σ)) := by
  obtain ⟨hx, hb, hml, hown, hts, hK, hD, hRO, hfm, hR1, hR2, hR3, hR4⟩ := C
  obtain ⟨hd, hr⟩ := hf
  simp only [bm_rel, Bool.and_eq_true, Bool.or_eq_true, decide_eq_true_eq] at hr
  obtain ⟨⟨hn, h1⟩, h2⟩ := hr
  intro H locs ls hP hS hL
  have k := k H locs ls hP hS hL
  rw [hn] at k
  exact lv_iushr (v := bm_ushr x y) hx hb (bm_dec hd h1 h2) rfl k
theorem bs_idiv (C : (bm_Ctx dC dI ad cI cJ A X fm p R s m args c cells slots M)) (hf : bm_fact M pc .idiv) {x y : Int32} (hz : bm_nz y = true) (k : (bm_Wg l dC dI ad cI cJ A fm p e R s m args below meth c cells slots Q M (pc + 1) (L) (.int (x / y) :: S) (σ))) : (bm_Wg l dC dI ad cI cJ A fm p e R s m args below meth c cells slots Q M (pc) (L) (.int y :: .int x :: S) (σ)) := by
  obtain ⟨hx, hb, hml, hown, hts, hK, hD, hRO, hfm, hR1, hR2, hR3, hR4⟩ := C
  obtain ⟨hd, hr⟩ := hf
  simp only [bm_rel, Bool.and_eq_true, Bool.or_eq_true, decide_eq_true_eq] at hr
  obtain ⟨⟨hn, h1⟩, h2⟩ := hr
  intro H locs ls hP hS hL
  have k := k H locs ls hP hS hL
  rw [hn] at k
  exact lv_idiv hx hb (bm_dec hd h1 h2) (by simpa [bm_nz] using hz) k
theorem bs_irem (C : (bm_Ctx dC dI ad cI cJ A X fm p R s m args c cells slots M)) (hf : bm_fact M pc .irem) {x y : Int32} (hz : bm_nz y = true) (k : (bm_Wg l dC dI ad cI cJ A fm p e R s m args below meth c cells slots Q M (pc + 1) (L) (.int (bm_rem x y) :: S) (σ))) : (bm_Wg l dC dI ad cI cJ A fm p e R s m args below meth c cells slots Q M (pc) (L) (.int y :: .int x :: S) (σ)) := by
  obtain ⟨hx, hb, hml, hown, hts, hK, hD, hRO, hfm, hR1, hR2, hR3, hR4⟩ := C
  obtain ⟨hd, hr⟩ := hf
  simp only [bm_rel, Bool.and_eq_true, Bool.or_eq_true, decide_eq_true_eq] at hr
  obtain ⟨⟨hn, h1⟩, h2⟩ := hr
  intro H locs ls hP hS hL
  have k := k H locs ls hP hS hL
  rw [hn] at k
  exact lv_irem hx hb (bm_dec hd h1 h2) (by simpa [bm_nz] using hz) k
theorem bs_ladd (C : (bm_Ctx dC dI ad cI cJ A X fm p R s m args c cells slots M)) (hf : bm_fact M pc .ladd) {x y : Int64} (k : (bm_Wg l dC dI ad cI cJ A fm p e R s m args below meth c cells slots Q M (pc + 1) (L) (.long (x + y) :: S) (σ))) : (bm_Wg l dC dI ad cI cJ A fm p e R s m args below meth c cells slots Q M (pc) (L) (.long y :: .long x :: S) (σ)) := by
  obtain ⟨hx, hb, hml, hown, hts, hK, hD, hRO, hfm, hR1, hR2, hR3, hR4⟩ := C
  obtain ⟨hd, hr⟩ := hf
  simp only [bm_rel, Bool.and_eq_true, Bool.or_eq_true, decide_eq_true_eq] at hr
  obtain ⟨⟨hn, h1⟩, h2⟩ := hr
  intro H locs ls hP hS hL
  have k := k H locs ls hP hS hL
  rw [hn] at k
  exact lv_ladd hx hb (bm_dec hd h1 h2) k
theorem bs_lmul (C : (bm_Ctx dC dI ad cI cJ A X fm p R s m args c cells slots M)) (hf : bm_fact M pc .lmul) {x y : Int64} (k : (bm_Wg l dC dI ad cI cJ A fm p e R s m args below meth c cells slots Q M (pc + 1) (L) (.long (x * y) :: S) (σ))) : (bm_Wg l dC dI ad cI cJ A fm p e R s m args below meth c cells slots Q M (pc) (L) (.long y :: .long x :: S) (σ)) := by
  obtain ⟨hx, hb, hml, hown, hts, hK, hD, hRO, hfm, hR1, hR2, hR3, hR4⟩ := C
  obtain ⟨hd, hr⟩ := hf
  simp only [bm_rel, Bool.and_eq_true, Bool.or_eq_true, decide_eq_true_eq] at hr
  obtain ⟨⟨hn, h1⟩, h2⟩ := hr
  intro H locs ls hP hS hL
  have k := k H locs ls hP hS hL
  rw [hn] at k
  exact lv_lmul hx hb (bm_dec hd h1 h2) k
theorem bs_ldiv (C : (bm_Ctx dC dI ad cI cJ A X fm p R s m args c cells slots M)) (hf : bm_fact M pc .ldiv) {x y : Int64} (hz : bm_nzl y = true) (k : (bm_Wg l dC dI ad cI cJ A fm p e R s m args below meth c cells slots Q M (pc + 1) (L) (.long (x / y) :: S) (σ))) : (bm_Wg l dC dI ad cI cJ A fm p e R s m args below meth c cells slots Q M (pc) (L) (.long y :: .long x :: S) (σ)) := by
  obtain ⟨hx, hb, hml, hown, hts, hK, hD, hRO, hfm, hR1, hR2, hR3, hR4⟩ := C
  obtain ⟨hd, hr⟩ := hf
  simp only [bm_rel, Bool.and_eq_true, Bool.or_eq_true, decide_eq_true_eq] at hr
  obtain ⟨⟨hn, h1⟩, h2⟩ := hr
  intro H locs ls hP hS hL
  have k := k H locs ls hP hS hL
  rw [hn] at k
  exact lv_ldiv hx hb (bm_dec hd h1 h2) (by simpa [bm_nzl] using hz) k
theorem bs_lrem (C : (bm_Ctx dC dI ad cI cJ A X fm p R s m args c cells slots M)) (hf : bm_fact M pc .lrem) {x y : Int64} (hz : bm_nzl y = true) (k : (bm_Wg l dC dI ad cI cJ A fm p e R s m args below meth c cells slots Q M (pc + 1) (L) (.long (bm_lrem x y) :: S) (σ))) : (bm_Wg l dC dI ad cI cJ A fm p e R s m args below meth c cells slots Q M (pc) (L) (.long y :: .long x :: S) (σ)) := by
  obtain ⟨hx, hb, hml, hown, hts, hK, hD, hRO, hfm, hR1, hR2, hR3, hR4⟩ := C
  obtain ⟨hd, hr⟩ := hf
  simp only [bm_rel, Bool.and_eq_true, Bool.or_eq_true, decide_eq_true_eq] at hr
  obtain ⟨⟨hn, h1⟩, h2⟩ := hr
  intro H locs ls hP hS hL
  have k := k H locs ls hP hS hL
  rw [hn] at k
  exact lv_lrem hx hb (bm_dec hd h1 h2) (by simpa [bm_nzl] using hz) k
theorem bs_lcmp (C : (bm_Ctx dC dI ad cI cJ A X fm p R s m args c cells slots M)) (hf : bm_fact M pc .lcmp) {x y : Int64} (k : (bm_Wg l dC dI ad cI cJ A fm p e R s m args below meth c cells slots Q M (pc + 1) (L) (.int (lg_cmp x y) :: S) (σ))) : (bm_Wg l dC dI ad cI cJ A fm p e R s m args below meth c cells slots Q M (pc) (L) (.long y :: .long x :: S) (σ)) := by
  obtain ⟨hx, hb, hml, hown, hts, hK, hD, hRO, hfm, hR1, hR2, hR3, hR4⟩ := C
  obtain ⟨hd, hr⟩ := hf
  simp only [bm_rel, Bool.and_eq_true, Bool.or_eq_true, decide_eq_true_eq] at hr
  obtain ⟨⟨hn, h1⟩, h2⟩ := hr
  intro H locs ls hP hS hL
  have k := k H locs ls hP hS hL
  rw [hn] at k
  exact W.lcmp hx hb (bm_dec hd h1 h2) k
theorem bs_i2l (C : (bm_Ctx dC dI ad cI cJ A X fm p R s m args c cells slots M)) (hf : bm_fact M pc .i2l) {x : Int32} (k : (bm_Wg l dC dI ad cI cJ A fm p e R s m args below meth c cells slots Q M (pc + 1) (L) (.long x.toInt64 :: S) (σ))) : (bm_Wg l dC dI ad cI cJ A fm p e R s m args below meth c cells slots Q M (pc) (L) (.int x :: S) (σ)) := by
  obtain ⟨hx, hb, hml, hown, hts, hK, hD, hRO, hfm, hR1, hR2, hR3, hR4⟩ := C
  obtain ⟨hd, hr⟩ := hf
  simp only [bm_rel, Bool.and_eq_true, Bool.or_eq_true, decide_eq_true_eq] at hr
  obtain ⟨⟨hn, h1⟩, h2⟩ := hr
  intro H locs ls hP hS hL
  have k := k H locs ls hP hS hL
  rw [hn] at k
  exact lv_i2l hx hb (bm_dec hd h1 h2) rfl k
theorem bs_i2b (C : (bm_Ctx dC dI ad cI cJ A X fm p R s m args c cells slots M)) (hf : bm_fact M pc .i2b) {x : Int32} (k : (bm_Wg l dC dI ad cI cJ A fm p e R s m args below meth c cells slots Q M (pc + 1) (L) (.int x.toInt8.toInt32 :: S) (σ))) : (bm_Wg l dC dI ad cI cJ A fm p e R s m args below meth c cells slots Q M (pc) (L) (.int x :: S) (σ)) := by
  obtain ⟨hx, hb, hml, hown, hts, hK, hD, hRO, hfm, hR1, hR2, hR3, hR4⟩ := C
  obtain ⟨hd, hr⟩ := hf
  simp only [bm_rel, Bool.and_eq_true, Bool.or_eq_true, decide_eq_true_eq] at hr
  obtain ⟨⟨hn, h1⟩, h2⟩ := hr
  intro H locs ls hP hS hL
  have k := k H locs ls hP hS hL
  rw [hn] at k
  exact lv_i2b hx hb (bm_dec hd h1 h2) rfl k
theorem bs_i2s (C : (bm_Ctx dC dI ad cI cJ A X fm p R s m args c cells slots M)) (hf : bm_fact M pc .i2s) {x : Int32} (k : (bm_Wg l dC dI ad cI cJ A fm p e R s m args below meth c cells slots Q M (pc + 1) (L) (.int x.toInt16.toInt32 :: S) (σ))) : (bm_Wg l dC dI ad cI cJ A fm p e R s m args below meth c cells slots Q M (pc) (L) (.int x :: S) (σ)) := by
  obtain ⟨hx, hb, hml, hown, hts, hK, hD, hRO, hfm, hR1, hR2, hR3, hR4⟩ := C
  obtain ⟨hd, hr⟩ := hf
  simp only [bm_rel, Bool.and_eq_true, Bool.or_eq_true, decide_eq_true_eq] at hr
  obtain ⟨⟨hn, h1⟩, h2⟩ := hr
  intro H locs ls hP hS hL
  have k := k H locs ls hP hS hL
  rw [hn] at k
  exact lv_i2s hx hb (bm_dec hd h1 h2) rfl k
theorem bs_i2c (C : (bm_Ctx dC dI ad cI cJ A X fm p R s m args c cells slots M)) (hf : bm_fact M pc .i2c) {x : Int32} (k : (bm_Wg l dC dI ad cI cJ A fm p e R s m args below meth c cells slots Q M (pc + 1) (L) (.int (x.toUInt32 % 65536).toInt32 :: S) (σ))) : (bm_Wg l dC dI ad cI cJ A fm p e R s m args below meth c cells slots Q M (pc) (L) (.int x :: S) (σ)) := by
  obtain ⟨hx, hb, hml, hown, hts, hK, hD, hRO, hfm, hR1, hR2, hR3, hR4⟩ := C
  obtain ⟨hd, hr⟩ := hf
  simp only [bm_rel, Bool.and_eq_true, Bool.or_eq_true, decide_eq_true_eq] at hr
  obtain ⟨⟨hn, h1⟩, h2⟩ := hr
  intro H locs ls hP hS hL
  have k := k H locs ls hP hS hL
  rw [hn] at k
  exact lv_i2c hx hb (bm_dec hd h1 h2) rfl k
theorem bs_dupI (C : (bm_Ctx dC dI ad cI cJ A X fm p R s m args c cells slots M)) (hf : bm_fact M pc .dup) {x : Int32} (k : (bm_Wg l dC dI ad cI cJ A fm p e R s m args below meth c cells slots Q M (pc + 1) (L) (.int x :: .int x :: S) (σ))) : (bm_Wg l dC dI ad cI cJ A fm p e R s m args below meth c cells slots Q M (pc) (L) (.int x :: S) (σ)) := by
  obtain ⟨hx, hb, hml, hown, hts, hK, hD, hRO, hfm, hR1, hR2, hR3, hR4⟩ := C
  obtain ⟨hd, hr⟩ := hf
  simp only [bm_rel, Bool.and_eq_true, Bool.or_eq_true, decide_eq_true_eq] at hr
  obtain ⟨⟨hn, h1⟩, h2⟩ := hr
  intro H locs ls hP hS hL
  have k := k H locs ls hP hS hL
  rw [hn] at k
  exact lv_dup hx hb (bm_dec hd h1 h2) rfl k
theorem bs_dupA (C : (bm_Ctx dC dI ad cI cJ A X fm p R s m args c cells slots M)) (hf : bm_fact M pc .dup) {x : Nat} (k : (bm_Wg l dC dI ad cI cJ A fm p e R s m args below meth c cells slots Q M (pc + 1) (L) (.ref x :: .ref x :: S) (σ))) : (bm_Wg l dC dI ad cI cJ A fm p e R s m args below meth c cells slots Q M (pc) (L) (.ref x :: S) (σ)) := by
  obtain ⟨hx, hb, hml, hown, hts, hK, hD, hRO, hfm, hR1, hR2, hR3, hR4⟩ := C
  obtain ⟨hd, hr⟩ := hf
  simp only [bm_rel, Bool.and_eq_true, Bool.or_eq_true, decide_eq_true_eq] at hr
  obtain ⟨⟨hn, h1⟩, h2⟩ := hr
  intro H locs ls hP hS hL
  have k := k H locs ls hP hS hL
  rw [hn] at k
  exact lv_dup hx hb (bm_dec hd h1 h2) rfl k
theorem bs_dup2 (C : (bm_Ctx dC dI ad cI cJ A X fm p R s m args c cells slots M)) (hf : bm_fact M pc .dup2) {x : Int32} {y : Nat} (k : (bm_Wg l dC dI ad cI cJ A fm p e R s m args below meth c cells slots Q M (pc + 1) (L) (.int x :: .ref y :: .int x :: .ref y :: S) (σ))) : (bm_Wg l dC dI ad cI cJ A fm p e R s m args below meth c cells slots Q M (pc) (L) (.int x :: .ref y :: S) (σ)) := by
  obtain ⟨hx, hb, hml, hown, hts, hK, hD, hRO, hfm, hR1, hR2, hR3, hR4⟩ := C
  obtain ⟨hd, hr⟩ := hf
  simp only [bm_rel, Bool.and_eq_true, Bool.or_eq_true, decide_eq_true_eq] at hr
  obtain ⟨⟨hn, h1⟩, h2⟩ := hr
  intro H locs ls hP hS hL
  have k := k H locs ls hP hS hL
  rw [hn] at k
  exact lv_dup2_11 hx hb (bm_dec hd h1 h2) rfl rfl k
theorem bs_pop (C : (bm_Ctx dC dI ad cI cJ A X fm p R s m args c cells slots M)) (hf : bm_fact M pc .pop) {x : Int32} (k : (bm_Wg l dC dI ad cI cJ A fm p e R s m args below meth c cells slots Q M (pc + 1) (L) (S) (σ))) : (bm_Wg l dC dI ad cI cJ A fm p e R s m args below meth c cells slots Q M (pc) (L) (.int x :: S) (σ)) := by
  obtain ⟨hx, hb, hml, hown, hts, hK, hD, hRO, hfm, hR1, hR2, hR3, hR4⟩ := C
  obtain ⟨hd, hr⟩ := hf
  simp only [bm_rel, Bool.and_eq_true, Bool.or_eq_true, decide_eq_true_eq] at hr
  obtain ⟨⟨hn, h1⟩, h2⟩ := hr
  intro H locs ls hP hS hL
  have k := k H locs ls hP hS hL
  rw [hn] at k
  exact lv_pop hx hb (bm_dec hd h1 h2) rfl k
theorem bs_iload (C : (bm_Ctx dC dI ad cI cJ A X fm p R s m args c cells slots M)) {j : Nat} (hf : bm_fact M pc (.iload j)) {x : Int32} (hg : bm_get L j = .int x) (k : (bm_Wg l dC dI ad cI cJ A fm p e R s m args below meth c cells slots Q M (pc + 1) (L) (.int x :: S) (σ))) : (bm_Wg l dC dI ad cI cJ A fm p e R s m args below meth c cells slots Q M (pc) (L) (S) (σ)) := by
  obtain ⟨hx, hb, hml, hown, hts, hK, hD, hRO, hfm, hR1, hR2, hR3, hR4⟩ := C
  obtain ⟨hd, hr⟩ := hf
  simp only [bm_rel, Bool.and_eq_true, Bool.or_eq_true, decide_eq_true_eq] at hr
  obtain ⟨hn, hr⟩ := hr
  intro H locs ls hP hS hL
  have k := k H locs ls hP hS hL
  rw [hn] at k
  have hv := hL.2.2.1 j (by rw [hg]; intro q; cases q)
  rw [hg] at hv
  rcases hr with ⟨h1, h2⟩ | ⟨⟨h0, h1⟩, h2⟩
  · rw [h2] at k
    exact lv_iload hx hb (bm_dec hd h1 h2) hv k
  · rw [h2] at k
    exact lv_iload_n hx hb (bm_dec hd h1 h2) (bm_f4_eq h0) hv k
theorem bs_aload (C : (bm_Ctx dC dI ad cI cJ A X fm p R s m args c cells slots M)) {j : Nat} (hf : bm_fact M pc (.aload j)) {x : Nat} (hg : bm_get L j = .ref x) (k : (bm_Wg l dC dI ad cI cJ A fm p e R s m args below meth c cells slots Q M (pc + 1) (L) (.ref x :: S) (σ))) : (bm_Wg l dC dI ad cI cJ A fm p e R s m args below meth c cells slots Q M (pc) (L) (S) (σ)) := by
  obtain ⟨hx, hb, hml, hown, hts, hK, hD, hRO, hfm, hR1, hR2, hR3, hR4⟩ := C
  obtain ⟨hd, hr⟩ := hf
  simp only [bm_rel, Bool.and_eq_true, Bool.or_eq_true, decide_eq_true_eq] at hr
  obtain ⟨hn, hr⟩ := hr
  intro H locs ls hP hS hL
  have k := k H locs ls hP hS hL
  rw [hn] at k
  have hv := hL.2.2.1 j (by rw [hg]; intro q; cases q)
  rw [hg] at hv
  rcases hr with ⟨h1, h2⟩ | ⟨⟨h0, h1⟩, h2⟩
  · rw [h2] at k
    exact lv_aload hx hb (bm_dec hd h1 h2) hv k
  · rw [h2] at k
    exact lv_aload_n hx hb (bm_dec hd h1 h2) (bm_f4_eq h0) hv k
theorem bs_lload (C : (bm_Ctx dC dI ad cI cJ A X fm p R s m args c cells slots M)) {j : Nat} (hf : bm_fact M pc (.lload j)) {x : Int64} (hg : bm_get L j = .long x) (k : (bm_Wg l dC dI ad cI cJ A fm p e R s m args below meth c cells slots Q M (pc + 1) (L) (.long x :: S) (σ))) : (bm_Wg l dC dI ad cI cJ A fm p e R s m args below meth c cells slots Q M (pc) (L) (S) (σ)) := by
  obtain ⟨hx, hb, hml, hown, hts, hK, hD, hRO, hfm, hR1, hR2, hR3, hR4⟩ := C
  obtain ⟨hd, hr⟩ := hf
  simp only [bm_rel, Bool.and_eq_true, Bool.or_eq_true, decide_eq_true_eq] at hr
  obtain ⟨hn, hr⟩ := hr
  intro H locs ls hP hS hL
  have k := k H locs ls hP hS hL
  rw [hn] at k
  have hv := hL.2.2.1 j (by rw [hg]; intro q; cases q)
  rw [hg] at hv
  rcases hr with ⟨h1, h2⟩ | ⟨⟨h0, h1⟩, h2⟩
  · rw [h2] at k
    exact lv_lload hx hb (bm_dec hd h1 h2) hv k
  · rw [h2] at k
    exact lv_lload_n hx hb (bm_dec hd h1 h2) (bm_f4_eq h0) hv k
theorem bs_istore (C : (bm_Ctx dC dI ad cI cJ A X fm p R s m args c cells slots M)) {j : Nat} (hf : bm_fact M pc (.istore j)) {x : Int32} (k : (bm_Wg l dC dI ad cI cJ A fm p e R s m args below meth c cells slots Q M (pc + 1) (bm_put L j (.int x)) (S) (σ))) : (bm_Wg l dC dI ad cI cJ A fm p e R s m args below meth c cells slots Q M (pc) (L) (.int x :: S) (σ)) := by
  obtain ⟨hx, hb, hml, hown, hts, hK, hD, hRO, hfm, hR1, hR2, hR3, hR4⟩ := C
  obtain ⟨hd, hr⟩ := hf
  simp only [bm_rel, Bool.and_eq_true, Bool.or_eq_true, decide_eq_true_eq] at hr
  obtain ⟨⟨hn, ho⟩, hr⟩ := hr
  intro H locs ls hP hS hL
  rcases hr with ⟨h1, h2⟩ | ⟨⟨h0, h1⟩, h2⟩
  · refine lv_istore hx hb (bm_dec hd h1 h2) hL.has (bm_lo_lt ho) rfl (fun ls' hl' => ?_)
    have k := k H locs ls' hP hS (hL.put hfm ho rfl hl')
    rw [hn, h2] at k
    exact k
  · refine lv_istore_n hx hb (bm_dec hd h1 h2) (bm_f4_eq h0) hL.has (bm_lo_lt ho) rfl (fun ls' hl' => ?_)
    have k := k H locs ls' hP hS (hL.put hfm ho rfl hl')
    rw [hn, h2] at k
    exact k
theorem bs_astore (C : (bm_Ctx dC dI ad cI cJ A X fm p R s m args c cells slots M)) {j : Nat} (hf : bm_fact M pc (.astore j)) {x : Nat} (k : (bm_Wg l dC dI ad cI cJ A fm p e R s m args below meth c cells slots Q M (pc + 1) (bm_put L j (.ref x)) (S) (σ))) : (bm_Wg l dC dI ad cI cJ A fm p e R s m args below meth c cells slots Q M (pc) (L) (.ref x :: S) (σ)) := by
  obtain ⟨hx, hb, hml, hown, hts, hK, hD, hRO, hfm, hR1, hR2, hR3, hR4⟩ := C
  obtain ⟨hd, hr⟩ := hf
  simp only [bm_rel, Bool.and_eq_true, Bool.or_eq_true, decide_eq_true_eq] at hr
  obtain ⟨⟨hn, ho⟩, hr⟩ := hr
  intro H locs ls hP hS hL
  rcases hr with ⟨h1, h2⟩ | ⟨⟨h0, h1⟩, h2⟩
  · refine lv_astore hx hb (bm_dec hd h1 h2) hL.has (bm_lo_lt ho) rfl (fun ls' hl' => ?_)
    have k := k H locs ls' hP hS (hL.put hfm ho rfl hl')
    rw [hn, h2] at k
    exact k
  · refine lv_astore_n hx hb (bm_dec hd h1 h2) (bm_f4_eq h0) hL.has (bm_lo_lt ho) rfl (fun ls' hl' => ?_)
    have k := k H locs ls' hP hS (hL.put hfm ho rfl hl')
    rw [hn, h2] at k
    exact k
theorem bs_lstore (C : (bm_Ctx dC dI ad cI cJ A X fm p R s m args c cells slots M)) {j : Nat} (hf : bm_fact M pc (.lstore j)) {x : Int64} (k : (bm_Wg l dC dI ad cI cJ A fm p e R s m args below meth c cells slots Q M (pc + 1) (bm_put (bm_put L (j + 1) .null) j (.long x)) (S) (σ))) : (bm_Wg l dC dI ad cI cJ A fm p e R s m args below meth c cells slots Q M (pc) (L) (.long x :: S) (σ)) := by
  obtain ⟨hx, hb, hml, hown, hts, hK, hD, hRO, hfm, hR1, hR2, hR3, hR4⟩ := C
  obtain ⟨hd, hr⟩ := hf
  simp only [bm_rel, Bool.and_eq_true, Bool.or_eq_true, decide_eq_true_eq] at hr
  obtain ⟨⟨⟨⟨hn, ho⟩, h5⟩, h6⟩, hr⟩ := hr
  intro H locs ls hP hS hL
  rcases hr with ⟨h1, h2⟩ | ⟨⟨h0, h1⟩, h2⟩
  · refine lv_lstore hx hb (bm_dec hd h1 h2) hL.has h5 rfl (fun ls' hl' => ?_)
    have k := k H locs ls' hP hS (hL.put2 hfm ho h6 hl')
    rw [hn, h2] at k
    exact k
  · refine lv_lstore_n hx hb (bm_dec hd h1 h2) (bm_f4_eq h0) hL.has h5 rfl (fun ls' hl' => ?_)
    have k := k H locs ls' hP hS (hL.put2 hfm ho h6 hl')
    rw [hn, h2] at k
    exact k
theorem bs_iinc (C : (bm_Ctx dC dI ad cI cJ A X fm p R s m args c cells slots M)) {j : Nat} {n : Int} (hf : bm_fact M pc (.iinc j n)) {x y : Int32} (hg : bm_get L j = .int x) (hy : y = x + bm_iv n) (k : (bm_Wg l dC dI ad cI cJ A fm p e R s m args below meth c cells slots Q M (pc + 1) (bm_put L j (.int y)) (S) (σ))) : (bm_Wg l dC dI ad cI cJ A fm p e R s m args below meth c cells slots Q M (pc) (L) (S) (σ)) := by
  obtain ⟨hx, hb, hml, hown, hts, hK, hD, hRO, hfm, hR1, hR2, hR3, hR4⟩ := C
  obtain ⟨hd, hr⟩ := hf
  simp only [bm_rel, Bool.and_eq_true, Bool.or_eq_true, decide_eq_true_eq] at hr
  obtain ⟨⟨⟨⟨hn, ho⟩, h1⟩, h2⟩, h3⟩ := hr
  intro H locs ls hP hS hL
  obtain ⟨q, hq⟩ := List.getElem?_of_mem (bm_lv_mem (ad := ad) (fm := fm) (L := L) (n := bm_nL M) (q := (j, .int x)) |>.mpr ⟨bm_lo_lt ho, (by rw [hg]; exact fun q => by cases q), (by rw [hg]; rfl)⟩)
  refine lv_iinc (v := y) hx hb (bm_dec hd h1 h2) hL.has hq (by rw [h3, hy]) (bm_lo_lt ho) rfl (fun ls' hl' => ?_)
  have k := k H locs ls' hP hS (hL.put hfm ho rfl hl')
  rw [hn] at k
  exact k
theorem bs_ldc (C : (bm_Ctx dC dI ad cI cJ A X fm p R s m args c cells slots M)) {n : Nat} (hf : bm_fact M pc (.ldc n)) (k : (bm_Wg l dC dI ad cI cJ A fm p e R s m args below meth c cells slots Q M (pc + 1) (L) (.int (nI n) :: S) (σ))) : (bm_Wg l dC dI ad cI cJ A fm p e R s m args below meth c cells slots Q M (pc) (L) (S) (σ)) := by
  obtain ⟨hx, hb, hml, hown, hts, hK, hD, hRO, hfm, hR1, hR2, hR3, hR4⟩ := C
  obtain ⟨hd, hr⟩ := hf
  simp only [bm_rel, Bool.and_eq_true, Bool.or_eq_true, decide_eq_true_eq] at hr
  obtain ⟨hn, hr⟩ := hr
  intro H locs ls hP hS hL
  have k := k H locs ls hP hS hL
  rw [hn] at k
  rcases hr with ((⟨⟨h1, h2⟩, h3⟩ | ⟨⟨h1, h2⟩, h3⟩) | ⟨⟨h1, h2⟩, h3⟩) | hr
  · rw [h2] at k
    exact lv_iconst hx hb (bm_dec hd h1 h2) h3 k
  · rw [h2] at k
    exact lv_bipush hx hb (bm_dec hd h1 h2) h3 k
  · rw [h2] at k
    exact lv_sipush hx hb (bm_dec hd h1 h2) h3 k
  · obtain ⟨i, hi, ⟨h1, h2⟩ | ⟨h1, h2⟩⟩ := bm_cst_in hr
    · rw [h2] at k
      exact lv_ldc hx hb hown (hts _ hi) (bm_dec hd h1 h2) k
    · rw [h2] at k
      exact lv_ldcw hx hb hown (hts _ hi) (bm_dec hd h1 h2) k
theorem bs_ldc_w (C : (bm_Ctx dC dI ad cI cJ A X fm p R s m args c cells slots M)) {n : Nat} (hf : bm_fact M pc (.ldc_w n)) (k : (bm_Wg l dC dI ad cI cJ A fm p e R s m args below meth c cells slots Q M (pc + 1) (L) (.int (-nI n) :: S) (σ))) : (bm_Wg l dC dI ad cI cJ A fm p e R s m args below meth c cells slots Q M (pc) (L) (S) (σ)) := by
  obtain ⟨hx, hb, hml, hown, hts, hK, hD, hRO, hfm, hR1, hR2, hR3, hR4⟩ := C
  obtain ⟨hd, hr⟩ := hf
  simp only [bm_rel, Bool.and_eq_true, Bool.or_eq_true, decide_eq_true_eq] at hr
  obtain ⟨hn, hr⟩ := hr
  intro H locs ls hP hS hL
  have k := k H locs ls hP hS hL
  rw [hn] at k
  rcases hr with ⟨⟨h1, h2⟩, h3⟩ | hr
  · rw [h2] at k
    exact lv_iconst hx hb (bm_dec hd h1 h2) h3 k
  · obtain ⟨i, hi, ⟨h1, h2⟩ | ⟨h1, h2⟩⟩ := bm_cst_in hr
    · rw [h2] at k
      exact lv_ldc hx hb hown (hts _ hi) (bm_dec hd h1 h2) k
    · rw [h2] at k
      exact lv_ldcw hx hb hown (hts _ hi) (bm_dec hd h1 h2) k
theorem bs_ldc2_w (C : (bm_Ctx dC dI ad cI cJ A X fm p R s m args c cells slots M)) {n : Nat} (hf : bm_fact M pc (.ldc2_w n)) (k : (bm_Wg l dC dI ad cI cJ A fm p e R s m args below meth c cells slots Q M (pc + 1) (L) (.long (lN n) :: S) (σ))) : (bm_Wg l dC dI ad cI cJ A fm p e R s m args below meth c cells slots Q M (pc) (L) (S) (σ)) := by
  obtain ⟨hx, hb, hml, hown, hts, hK, hD, hRO, hfm, hR1, hR2, hR3, hR4⟩ := C
  obtain ⟨hd, hr⟩ := hf
  simp only [bm_rel, Bool.and_eq_true, Bool.or_eq_true, decide_eq_true_eq] at hr
  obtain ⟨hn, hr⟩ := hr
  intro H locs ls hP hS hL
  have k := k H locs ls hP hS hL
  rw [hn] at k
  rcases hr with ⟨⟨h1, h0⟩, h2⟩ | hr
  · rw [h2] at k
    exact lv_lconst hx hb (bm_dec hd h1 h2) (by show Int64.ofNat (n % 2) = _; rw [Nat.mod_eq_of_lt h0]; rfl) k
  · obtain ⟨i, hi, h1, h2⟩ := bm_cstL_in hr
    rw [h2] at k
    exact lv_ldc2 hx hb hown (hts _ hi) (bm_dec hd h1 h2) k
theorem bs_f2d (C : (bm_Ctx dC dI ad cI cJ A X fm p R s m args c cells slots M)) (hf : bm_fact M pc .f2d) (k : (bm_Wg l dC dI ad cI cJ A fm p e R s m args below meth c cells slots Q M (pc + 1) (L) (.long (-1) :: S) (σ))) : (bm_Wg l dC dI ad cI cJ A fm p e R s m args below meth c cells slots Q M (pc) (L) (S) (σ)) := by
  obtain ⟨hx, hb, hml, hown, hts, hK, hD, hRO, hfm, hR1, hR2, hR3, hR4⟩ := C
  obtain ⟨hd, hr⟩ := hf
  simp only [bm_rel, Bool.and_eq_true, Bool.or_eq_true, decide_eq_true_eq] at hr
  obtain ⟨hn, hr⟩ := hr
  intro H locs ls hP hS hL
  have k := k H locs ls hP hS hL
  rw [hn] at k
  obtain ⟨i, hi, h1, h2⟩ := bm_cstL_in hr
  rw [h2] at k
  exact lv_ldc2 hx hb hown (hts _ hi) (bm_dec hd h1 h2) k
theorem bm_st_above : Cond.fieldLink "BellMilk" 256 "BellMilk" "ABOVE" "[I" ∈ bm_T := bm_one 668 (by decide +kernel) (by decide +kernel)
theorem bm_st_most : Cond.fieldLink "BellMilk" 107 "BellMilk" "MOST_OF" "[I" ∈ bm_T := bm_one 320 (by decide +kernel) (by decide +kernel)
theorem bm_st_comp : Cond.fieldLink "java/lang/String" 38 "java/lang/String" "COMPACT_STRINGS" "Z" ∈ bm_T := bm_one 578 (by decide +kernel) (by decide +kernel)
theorem bm_st_fmt : Cond.fieldLink "java/lang/String" 1053 "jdk/internal/util/Preconditions" "SIOOBE_FORMATTER" "Ljava/util/function/BiFunction;" ∈ bm_T := bm_one 594 (by decide +kernel) (by decide +kernel)
theorem bm_st_val : Cond.fieldLink "java/lang/String" 9 "java/lang/String" "value" "[B" ∈ bm_T := bm_one 1214 (by decide +kernel) (by decide +kernel)
theorem bm_st_cod : Cond.fieldLink "java/lang/String" 15 "java/lang/String" "coder" "B" ∈ bm_T := bm_one 1215 (by decide +kernel) (by decide +kernel)
theorem bs_getstatic (C : (bm_Ctx dC dI ad cI cJ A X fm p R s m args c cells slots M)) {n : Nat} (hf : bm_fact M pc (.getstatic n)) (k : (bm_Wg l dC dI ad cI cJ A fm p e R s m args below meth c cells slots Q M (pc + 1) (L) (.ref n :: S) (σ))) : (bm_Wg l dC dI ad cI cJ A fm p e R s m args below meth c cells slots Q M (pc) (L) (S) (σ)) := by
  obtain ⟨hx, hb, hml, hown, hts, hK, hD, hRO, hfm, hR1, hR2, hR3, hR4⟩ := C
  obtain ⟨hd, hr⟩ := hf
  simp only [bm_rel, Bool.and_eq_true, Bool.or_eq_true, decide_eq_true_eq] at hr
  obtain ⟨⟨hn, h2⟩, hr⟩ := hr
  intro H locs ls hP hS hL
  have k := k H locs ls hP hS hL
  rw [hn, h2] at k
  obtain ⟨r1, ⟨r2, -⟩, ⟨r3, -⟩, ⟨r4, -⟩, -, -, -, -, r5⟩ := hRO
  rcases hr with (⟨⟨e1, e2⟩, h1⟩ | ⟨⟨e1, e2⟩, h1⟩) | ⟨⟨e1, e2⟩, h1⟩
  · subst e1
    rw [e2] at hown
    exact va_getsN hx hb r2 hS hown (va_tabs rfl rfl r5) (fun _ h => h) (bm_dec hd h1 h2) k
  · subst e1
    rw [e2] at hown
    exact va_gets hx hb r3 hS hown (hts _ bm_st_above) (fun _ h => h) (bm_dec hd h1 h2) k
  · subst e1
    rw [e2] at hown
    exact va_gets hx hb r4 hS hown (hts _ bm_st_most) (fun _ h => h) (bm_dec hd h1 h2) k
theorem bs_fconst (C : (bm_Ctx dC dI ad cI cJ A X fm p R s m args c cells slots M)) {n : Fin 3} (hf : bm_fact M pc (.fconst n)) (k : (bm_Wg l dC dI ad cI cJ A fm p e R s m args below meth c cells slots Q M (pc + 1) (L) (.int (nI 1) :: S) (σ))) : (bm_Wg l dC dI ad cI cJ A fm p e R s m args below meth c cells slots Q M (pc) (L) (S) (σ)) := by
  obtain ⟨hx, hb, hml, hown, hts, hK, hD, hRO, hfm, hR1, hR2, hR3, hR4⟩ := C
  obtain ⟨hd, hr⟩ := hf
  simp only [bm_rel, Bool.and_eq_true, Bool.or_eq_true, decide_eq_true_eq] at hr
  obtain ⟨⟨⟨hn, h2⟩, e2⟩, h1⟩ := hr
  intro H locs ls hP hS hL
  have k := k H locs ls hP hS hL
  rw [hn, h2] at k
  rw [e2] at hown
  exact va_gets hx hb hRO.2.2.2.2.1 hS hown (hts _ bm_st_comp) (fun _ h => h) (bm_dec hd h1 h2) k
theorem bs_dconst (C : (bm_Ctx dC dI ad cI cJ A X fm p R s m args c cells slots M)) {n : Fin 2} (hf : bm_fact M pc (.dconst n)) (k : (bm_Wg l dC dI ad cI cJ A fm p e R s m args below meth c cells slots Q M (pc + 1) (L) (.retAddr 0 :: S) (σ))) : (bm_Wg l dC dI ad cI cJ A fm p e R s m args below meth c cells slots Q M (pc) (L) (S) (σ)) := by
  obtain ⟨hx, hb, hml, hown, hts, hK, hD, hRO, hfm, hR1, hR2, hR3, hR4⟩ := C
  obtain ⟨hd, hr⟩ := hf
  simp only [bm_rel, Bool.and_eq_true, Bool.or_eq_true, decide_eq_true_eq] at hr
  obtain ⟨⟨⟨hn, h2⟩, e2⟩, h1⟩ := hr
  intro H locs ls hP hS hL
  have k := k H locs ls hP hS hL
  rw [hn, h2] at k
  rw [e2] at hown
  exact va_gets hx hb hRO.2.2.2.2.2.1 hS hown (hts _ bm_st_fmt) (fun _ h => h) (bm_dec hd h1 h2) k
theorem bm_ldcSW {cc : ByteArray} {pc : Nat} {H : Heap} {locs : List Loc} {ls : Array Slot} {rest : List Value} (hexec : p.tables.exec = Jvm.exec) (hb : c.code = cc) {own tx : String} {index q : Nat} (hown : s.vm.findClass own = some m.cls) (hZ : vk_R own index tx q s) (hdg : decode cc pc = .ok (.ldc_w index, 3))
    (k : W p l e R s m args below meth c H locs cells slots Q (F0 m (pc + 3) ls (.ref q :: rest))) : W p l e R s m args below meth c H locs cells slots Q (F0 m pc ls rest) := by
  intro T hT X
  obtain ⟨t, a1, b1⟩ := k T hT X
  exact ⟨t, X.ldcStringW hexec hown (text := tx) (a := q) hZ.1 hZ.2 (g := F0 m pc ls rest) rfl (by rw [hb]; exact hdg) t a1, b1⟩
theorem bs_anewarray (C : (bm_Ctx dC dI ad cI cJ A X fm p R s m args c cells slots M)) {n : Nat} (hf : bm_fact M pc (.anewarray n)) (k : (bm_Wg l dC dI ad cI cJ A fm p e R s m args below meth c cells slots Q M (pc + 1) (L) (.ref n :: S) (σ))) : (bm_Wg l dC dI ad cI cJ A fm p e R s m args below meth c cells slots Q M (pc) (L) (S) (σ)) := by
  obtain ⟨hx, hb, hml, hown, hts, hK, hD, hRO, hfm, hR1, hR2, hR3, hR4⟩ := C
  obtain ⟨hd, hr⟩ := hf
  simp only [bm_rel, Bool.and_eq_true, Bool.or_eq_true, decide_eq_true_eq] at hr
  obtain ⟨hn, hr⟩ := hr
  obtain ⟨q, hq, he⟩ := List.any_eq_true.mp hr
  simp only [Bool.and_eq_true, Bool.or_eq_true, decide_eq_true_eq] at he
  obtain ⟨⟨e1, e2⟩, hr2⟩ := he
  clear hr
  intro H locs ls hP hS hL
  have k := k H locs ls hP hS hL
  have hZ := hRO.2.2.2.2.2.2.2.1 q hq
  rw [e1] at hZ
  subst e2
  rw [hn] at k
  rcases hr2 with ⟨h1, h2⟩ | ⟨h1, h2⟩
  · rw [h2] at k
    exact va_ldcS hx hb hown hZ (bm_dec hd h1 h2) k
  · rw [h2] at k
    exact bm_ldcSW hx hb hown hZ (bm_dec hd h1 h2) k
theorem bs_iaload (C : (bm_Ctx dC dI ad cI cJ A X fm p R s m args c cells slots M)) (hf : bm_fact M pc .iaload) {i : Int32} {q : Nat} (hi : bm_in i (bm_al q) = true) (k : (bm_Wg l dC dI ad cI cJ A fm p e R s m args below meth c cells slots Q M (pc + 1) (L) (.int (σ q i.toNatClampNeg) :: S) (σ))) : (bm_Wg l dC dI ad cI cJ A fm p e R s m args below meth c cells slots Q M (pc) (L) (.int i :: .ref q :: S) (σ)) := by
  obtain ⟨hx, hb, hml, hown, hts, hK, hD, hRO, hfm, hR1, hR2, hR3, hR4⟩ := C
  obtain ⟨hd, hr⟩ := hf
  simp only [bm_rel, Bool.and_eq_true, Bool.or_eq_true, decide_eq_true_eq] at hr
  obtain ⟨⟨hn, h1⟩, h2⟩ := hr
  intro H locs ls hP hS hL
  have k := k H locs ls hP hS hL
  rw [hn] at k
  exact va_iald hx hb hK hP q 0 (by rw [bm_ws_at (bm_al_in (bm_in_pos hi)).1, bm_cell_arr (bm_in_pos hi)]) rfl (bm_in_vp hi) (bm_dec hd h1 h2) k
theorem bs_iastore (C : (bm_Ctx dC dI ad cI cJ A X fm p R s m args c cells slots M)) (hf : bm_fact M pc .iastore) {i v : Int32} {q : Nat} (hi : bm_in i (bm_al q) = true) (k : (bm_Wg l dC dI ad cI cJ A fm p e R s m args below meth c cells slots Q M (pc + 1) (L) (S) (bm_up σ q i.toNatClampNeg v))) : (bm_Wg l dC dI ad cI cJ A fm p e R s m args below meth c cells slots Q M (pc) (L) (.int v :: .int i :: .ref q :: S) (σ)) := by
  obtain ⟨hx, hb, hml, hown, hts, hK, hD, hRO, hfm, hR1, hR2, hR3, hR4⟩ := C
  obtain ⟨hd, hr⟩ := hf
  simp only [bm_rel, Bool.and_eq_true, Bool.or_eq_true, decide_eq_true_eq] at hr
  obtain ⟨⟨hn, h1⟩, h2⟩ := hr
  intro H locs ls hP hS hL
  refine va_iast hx hb hK hP (hD σ) hS q 0 (by rw [bm_ws_at (bm_al_in (bm_in_pos hi)).1, bm_cell_arr (bm_in_pos hi)]) rfl (bm_in_vp hi) (bm_dec hd h1 h2) (fun H1 locs1 hP1 _ hS1 => ?_)
  rw [bm_ws_set (τ := bm_up σ q i.toNatClampNeg v) (by rw [bm_cell_arr (bm_in_pos hi), bm_up_self]) (fun j hj => bm_up_ne σ _ _ hj)] at hP1
  have k := k H1 locs1 ls hP1 hS1 hL
  rw [hn] at k
  exact k
theorem bs_aaload (C : (bm_Ctx dC dI ad cI cJ A X fm p R s m args c cells slots M)) (hf : bm_fact M pc .aaload) {i : Int32} (hi : bm_in i 4 = true) (k : (bm_Wg l dC dI ad cI cJ A fm p e R s m args below meth c cells slots Q M (pc + 1) (L) (.ref (37 + i.toNatClampNeg) :: S) (σ))) : (bm_Wg l dC dI ad cI cJ A fm p e R s m args below meth c cells slots Q M (pc) (L) (.int i :: .ref 36 :: S) (σ)) := by
  obtain ⟨hx, hb, hml, hown, hts, hK, hD, hRO, hfm, hR1, hR2, hR3, hR4⟩ := C
  obtain ⟨hd, hr⟩ := hf
  simp only [bm_rel, Bool.and_eq_true, Bool.or_eq_true, decide_eq_true_eq] at hr
  obtain ⟨⟨hn, h1⟩, h2⟩ := hr
  intro H locs ls hP hS hL
  have k := k H locs ls hP hS hL
  rw [hn] at k
  exact by
    have hlt : i.toNatClampNeg < 4 := by
      simp only [bm_in, Bool.and_eq_true, decide_eq_true_eq] at hi
      exact hi.2
    have ha : (bm_ws ad cI cJ σ)[36]? = some (ad 36, .inl (cJ, 4, .inr (.inr (.inr (.inr (fun i => if i < 4 then some (ad (37 + i)) else none)))))) := by
      rw [bm_ws_at (by decide)]
      rfl
    exact W.aald (v := va_rf (some (ad (37 + i.toNatClampNeg)))) (ty := .array .int) hx hb (hP 36 _ ha) ((hK.2 1 _ rfl).1 4 (fun j => va_rf (if j < 4 then some (ad (37 + j)) else none))) rfl (fun q => by cases q) (by show ¬ (i < 0 ∨ (arrV _ _ _).slots.size ≤ _); rw [arrV_size]; exact bm_in_vp hi) (by show (arrV _ _ _).slots[_]? = _; rw [arrV_read _ _ hlt]; show some (va_rf (if i.toNatClampNeg < 4 then some (ad (37 + i.toNatClampNeg)) else none)) = _; rw [if_pos hlt]) rfl rfl (bm_dec hd h1 h2) k
theorem bs_saload (C : (bm_Ctx dC dI ad cI cJ A X fm p R s m args c cells slots M)) (hf : bm_fact M pc .saload) {i : Int32} {q : Nat} (h5 : (Nat.ble 55 q && Nat.ble q 58) = true) (hi : bm_in i (bm_rl X q) = true) (k : (bm_Wg l dC dI ad cI cJ A fm p e R s m args below meth c cells slots Q M (pc + 1) (L) (.int (bm_rv X q i.toNatClampNeg) :: S) (σ))) : (bm_Wg l dC dI ad cI cJ A fm p e R s m args below meth c cells slots Q M (pc) (L) (.int i :: .ref q :: S) (σ)) := by
  obtain ⟨hx, hb, hml, hown, hts, hK, hD, hRO, hfm, hR1, hR2, hR3, hR4⟩ := C
  obtain ⟨hd, hr⟩ := hf
  simp only [bm_rel, Bool.and_eq_true, Bool.or_eq_true, decide_eq_true_eq] at hr
  obtain ⟨⟨hn, h1⟩, h2⟩ := hr
  obtain ⟨r1, ⟨-, r2⟩, ⟨-, r3⟩, ⟨-, r4⟩, -⟩ := hRO
  intro H locs ls hP hS hL
  have k := k H locs ls hP hS hL
  rw [hn] at k
  simp only [Bool.and_eq_true, Nat.ble_eq] at h5
  rcases (show q = 55 ∨ q = 56 ∨ q = 57 ∨ q = 58 by omega) with rfl | rfl | rfl | rfl
  · exact va_ti hx hb r1 hS (bm_in_vp hi) rfl (bm_dec hd h1 h2) k
  · exact va_ti hx hb r2 hS (bm_in_vp hi) rfl (bm_dec hd h1 h2) k
  · exact va_ti hx hb r3 hS (bm_in_vp hi) rfl (bm_dec hd h1 h2) k
  · exact va_ti hx hb r4 hS (bm_in_vp hi) rfl (bm_dec hd h1 h2) k
theorem bs_arraylength (C : (bm_Ctx dC dI ad cI cJ A X fm p R s m args c cells slots M)) (hf : bm_fact M pc .arraylength) {q : Nat} (h5 : (Nat.ble 55 q && Nat.ble q 58) = true) (k : (bm_Wg l dC dI ad cI cJ A fm p e R s m args below meth c cells slots Q M (pc + 1) (L) (.int (nI (bm_rl X q)) :: S) (σ))) : (bm_Wg l dC dI ad cI cJ A fm p e R s m args below meth c cells slots Q M (pc) (L) (.ref q :: S) (σ)) := by
  obtain ⟨hx, hb, hml, hown, hts, hK, hD, hRO, hfm, hR1, hR2, hR3, hR4⟩ := C
  obtain ⟨hd, hr⟩ := hf
  simp only [bm_rel, Bool.and_eq_true, Bool.or_eq_true, decide_eq_true_eq] at hr
  obtain ⟨⟨hn, h1⟩, h2⟩ := hr
  obtain ⟨r1, ⟨-, r2⟩, ⟨-, r3⟩, ⟨-, r4⟩, -⟩ := hRO
  intro H locs ls hP hS hL
  have k := k H locs ls hP hS hL
  rw [hn] at k
  simp only [Bool.and_eq_true, Nat.ble_eq] at h5
  rcases (show q = 55 ∨ q = 56 ∨ q = 57 ∨ q = 58 by omega) with rfl | rfl | rfl | rfl
  · exact va_tlen hx hb r1 hS rfl (bm_dec hd h1 h2) k
  · exact va_tlen hx hb r2 hS rfl (bm_dec hd h1 h2) k
  · exact va_tlen hx hb r3 hS rfl (bm_dec hd h1 h2) k
  · exact va_tlen hx hb r4 hS rfl (bm_dec hd h1 h2) k
theorem bs_fsub (C : (bm_Ctx dC dI ad cI cJ A X fm p R s m args c cells slots M)) (hf : bm_fact M pc .fsub) {q : Nat} (h5 : bm_sv q = true) (k : (bm_Wg l dC dI ad cI cJ A fm p e R s m args below meth c cells slots Q M (pc + 1) (L) (.int (nI (bm_rl X q)) :: S) (σ))) : (bm_Wg l dC dI ad cI cJ A fm p e R s m args below meth c cells slots Q M (pc) (L) (.ref q :: S) (σ)) := by
  obtain ⟨hx, hb, hml, hown, hts, hK, hD, hRO, hfm, hR1, hR2, hR3, hR4⟩ := C
  obtain ⟨hd, hr⟩ := hf
  simp only [bm_rel, Bool.and_eq_true, Bool.or_eq_true, decide_eq_true_eq] at hr
  obtain ⟨⟨hn, h1⟩, h2⟩ := hr
  obtain ⟨j, hj, rfl⟩ : ∃ j, j < 15 ∧ q = 80 + j := by
    simp only [bm_sv, Bool.and_eq_true, Nat.ble_eq] at h5
    exact ⟨q - 80, by omega, by omega⟩
  have hT := (hRO.2.2.2.2.2.2.1.1 j hj).2.2.2
  rw [bm_slen_at (X := X)] at hT
  intro H locs ls hP hS hL
  have k := k H locs ls hP hS hL
  rw [hn] at k
  exact va_tlen hx hb hT hS rfl (bm_dec hd h1 h2) k
theorem bs_baload (C : (bm_Ctx dC dI ad cI cJ A X fm p R s m args c cells slots M)) (hf : bm_fact M pc .baload) {i : Int32} {q : Nat} (h5 : bm_sv q = true) (hi : bm_in i (bm_rl X q) = true) (k : (bm_Wg l dC dI ad cI cJ A fm p e R s m args below meth c cells slots Q M (pc + 1) (L) (.int (bm_rv X q i.toNatClampNeg) :: S) (σ))) : (bm_Wg l dC dI ad cI cJ A fm p e R s m args below meth c cells slots Q M (pc) (L) (.int i :: .ref q :: S) (σ)) := by
  obtain ⟨hx, hb, hml, hown, hts, hK, hD, hRO, hfm, hR1, hR2, hR3, hR4⟩ := C
  obtain ⟨hd, hr⟩ := hf
  simp only [bm_rel, Bool.and_eq_true, Bool.or_eq_true, decide_eq_true_eq] at hr
  obtain ⟨⟨hn, h1⟩, h2⟩ := hr
  obtain ⟨j, hj, rfl⟩ : ∃ j, j < 15 ∧ q = 80 + j := by
    simp only [bm_sv, Bool.and_eq_true, Nat.ble_eq] at h5
    exact ⟨q - 80, by omega, by omega⟩
  have hT := (hRO.2.2.2.2.2.2.1.1 j hj).2.2.2
  rw [bm_slen_at (X := X)] at hT
  intro H locs ls hP hS hL
  have k := k H locs ls hP hS hL
  rw [hn] at k
  exact va_tb hx hb hT hS (bm_in_vp hi) (by show Value.int ((bm_sbyt.getD j []).getD i.toNatClampNeg 0) = _; rw [bm_sbyt_at (X := X)]; rfl) (bm_dec hd h1 h2) k
theorem bs_f2l (C : (bm_Ctx dC dI ad cI cJ A X fm p R s m args c cells slots M)) (hf : bm_fact M pc .f2l) {q : Nat} (h5 : bm_st q = true) (k : (bm_Wg l dC dI ad cI cJ A fm p e R s m args below meth c cells slots Q M (pc + 1) (L) (.ref (q + 20) :: S) (σ))) : (bm_Wg l dC dI ad cI cJ A fm p e R s m args below meth c cells slots Q M (pc) (L) (.ref q :: S) (σ)) := by
  obtain ⟨hx, hb, hml, hown, hts, hK, hD, hRO, hfm, hR1, hR2, hR3, hR4⟩ := C
  obtain ⟨hd, hr⟩ := hf
  simp only [bm_rel, Bool.and_eq_true, Bool.or_eq_true, decide_eq_true_eq] at hr
  obtain ⟨⟨⟨hn, h2⟩, e2⟩, h1⟩ := hr
  obtain ⟨j, hj, rfl⟩ : ∃ j, j < 15 ∧ q = 60 + j := by
    simp only [bm_st, Bool.and_eq_true, Nat.ble_eq] at h5
    exact ⟨q - 60, by omega, by omega⟩
  have hT := hRO.2.2.2.2.2.2.1.1 j hj
  intro H locs ls hP hS hL
  have k := k H locs ls hP hS hL
  rw [hn] at k
  rw [e2] at hown
  rw [show 60 + j + 20 = 80 + j by omega] at k
  exact vk_getf hx hb hT.2.2.1 hS hown (hts _ bm_st_val) (fun _ h => h) (bm_dec hd h1 h2) k
theorem bs_fadd (C : (bm_Ctx dC dI ad cI cJ A X fm p R s m args c cells slots M)) (hf : bm_fact M pc .fadd) {q : Nat} (h5 : bm_st q = true) (k : (bm_Wg l dC dI ad cI cJ A fm p e R s m args below meth c cells slots Q M (pc + 1) (L) (.int (nI 0) :: S) (σ))) : (bm_Wg l dC dI ad cI cJ A fm p e R s m args below meth c cells slots Q M (pc) (L) (.ref q :: S) (σ)) := by
  obtain ⟨hx, hb, hml, hown, hts, hK, hD, hRO, hfm, hR1, hR2, hR3, hR4⟩ := C
  obtain ⟨hd, hr⟩ := hf
  simp only [bm_rel, Bool.and_eq_true, Bool.or_eq_true, decide_eq_true_eq] at hr
  obtain ⟨⟨⟨hn, h2⟩, e2⟩, h1⟩ := hr
  obtain ⟨j, hj, rfl⟩ : ∃ j, j < 15 ∧ q = 60 + j := by
    simp only [bm_st, Bool.and_eq_true, Nat.ble_eq] at h5
    exact ⟨q - 60, by omega, by omega⟩
  have hT := hRO.2.2.2.2.2.2.1.1 j hj
  intro H locs ls hP hS hL
  have k := k H locs ls hP hS hL
  rw [hn] at k
  rw [e2] at hown
  exact vk_getf hx hb hT.2.1 hS hown (hts _ bm_st_cod) (fun _ h => h) (bm_dec hd h1 h2) k
theorem bs_getfield (C : (bm_Ctx dC dI ad cI cJ A X fm p R s m args c cells slots M)) {n : Nat} (hf : bm_fact M pc (.getfield n)) {q : Nat} (ho : bm_oc q = n / 32) (k : (bm_Wg l dC dI ad cI cJ A fm p e R s m args below meth c cells slots Q M (pc + 1) (L) (.int (σ q (n % 32)) :: S) (σ))) : (bm_Wg l dC dI ad cI cJ A fm p e R s m args below meth c cells slots Q M (pc) (L) (.ref q :: S) (σ)) := by
  obtain ⟨hx, hb, hml, hown, hts, hK, hD, hRO, hfm, hR1, hR2, hR3, hR4⟩ := C
  obtain ⟨hd, hr⟩ := hf
  simp only [bm_rel, Bool.and_eq_true, Bool.or_eq_true, decide_eq_true_eq] at hr
  obtain ⟨⟨⟨⟨⟨⟨hn, h2⟩, g1⟩, g2⟩, g3⟩, g4⟩, g5⟩ := hr
  obtain ⟨i, hi, h1⟩ := bm_fld_in g5
  intro H locs ls hP hS hL
  have k := k H locs ls hP hS hL
  rw [hn] at k
  have hc : n / 32 - 1 < 4 := by omega
  exact va_get (D := (dC, dI)) hx hb hts (bm_lays hc) hown hK hP q (by rw [bm_ws_at (bm_oc_in ho g1), bm_cell_obj ho g1]) (bm_cl_at hc) (n % 32) g3 (hts _ hi) (fun _ h => h) (by rw [bm_flds_at _ 0 _ _ g4, Nat.zero_add]; rfl) (bm_dec hd h1 h2) k
theorem bs_instanceof (C : (bm_Ctx dC dI ad cI cJ A X fm p R s m args c cells slots M)) {n : Nat} (hf : bm_fact M pc (.instanceof n)) {q : Nat} (ho : bm_oc q = n / 64 / 32) (k : (bm_Wg l dC dI ad cI cJ A fm p e R s m args below meth c cells slots Q M (pc + 1) (L) (.ref (q + n % 64) :: S) (σ))) : (bm_Wg l dC dI ad cI cJ A fm p e R s m args below meth c cells slots Q M (pc) (L) (.ref q :: S) (σ)) := by
  obtain ⟨hx, hb, hml, hown, hts, hK, hD, hRO, hfm, hR1, hR2, hR3, hR4⟩ := C
  obtain ⟨hd, hr⟩ := hf
  simp only [bm_rel, Bool.and_eq_true, Bool.or_eq_true, decide_eq_true_eq] at hr
  obtain ⟨⟨⟨⟨⟨⟨⟨hn, h2⟩, g1⟩, g2⟩, g3⟩, g4⟩, g6⟩, g5⟩ := hr
  obtain ⟨i, hi, h1⟩ := bm_fld_in g5
  intro H locs ls hP hS hL
  have k := k H locs ls hP hS hL
  rw [hn] at k
  have hc : n / 64 / 32 - 1 < 4 := by omega
  exact va_get (D := (dC, dI)) hx hb hts (bm_lays hc) hown hK hP q (by rw [bm_ws_at (bm_oc_in ho g1), bm_cell_obj ho g1]) (bm_cl_at hc) (n / 64 % 32) g3 (hts _ hi) (fun _ h => h) (by rw [bm_flds_at _ 0 _ _ g4, if_neg (by omega)]; rfl) (bm_dec hd h1 h2) k
theorem bs_putfield (C : (bm_Ctx dC dI ad cI cJ A X fm p R s m args c cells slots M)) {n : Nat} (hf : bm_fact M pc (.putfield n)) {q : Nat} {v : Int32} (ho : bm_oc q = n / 32) (k : (bm_Wg l dC dI ad cI cJ A fm p e R s m args below meth c cells slots Q M (pc + 1) (L) (S) (bm_up σ q (n % 32) v))) : (bm_Wg l dC dI ad cI cJ A fm p e R s m args below meth c cells slots Q M (pc) (L) (.int v :: .ref q :: S) (σ)) := by
  obtain ⟨hx, hb, hml, hown, hts, hK, hD, hRO, hfm, hR1, hR2, hR3, hR4⟩ := C
  obtain ⟨hd, hr⟩ := hf
  simp only [bm_rel, Bool.and_eq_true, Bool.or_eq_true, decide_eq_true_eq] at hr
  obtain ⟨⟨⟨⟨⟨⟨⟨⟨hn, h2⟩, g1⟩, g2⟩, g3⟩, g4⟩, g6⟩, g7⟩, g5⟩ := hr
  obtain ⟨i, hi, h1⟩ := bm_fld_in g5
  have hc : n / 32 - 1 < 4 := by omega
  intro H locs ls hP hS hL
  refine va_put (D := (dC, dI)) (v := .int v) (ty := .int) hx hb hts (bm_lays hc) (bm_ty (n / 32 - 1)) (bm_ty_ok hc) (bm_nm_ok hc) hown hK hP (hD σ) hS q (by rw [bm_ws_at (bm_oc_in ho g1), bm_cell_obj ho g1]) (bm_cl_at hc) (n % 32) g3 (hts _ hi) (fun _ h => h) g7 (by rw [bm_ty_ok hc _ g3, g6]) rfl rfl (by rw [bm_flds_len]; exact (List.getElem?_eq_some_iff.mp g4).1) (bm_dec hd h1 h2) (fun H1 locs1 hP1 _ hS1 => ?_)
  rw [bm_flds_set _ 0 _ g4, Nat.zero_add, bm_ws_set (τ := bm_up σ q (n % 32) v) (by rw [bm_cell_obj ho g1, bm_up_self]) (fun j hj => bm_up_ne σ _ _ hj)] at hP1
  have k := k H1 locs1 ls hP1 hS1 hL
  rw [hn] at k
  exact k
theorem bm_bo_of {v : Int32} (h : bm_bo v = true) : v = 0 ∨ v = 1 := by simpa [bm_bo] using h
theorem bs_checkcast (C : (bm_Ctx dC dI ad cI cJ A X fm p R s m args c cells slots M)) {n : Nat} (hf : bm_fact M pc (.checkcast n)) {q : Nat} {v : Int32} (ho : bm_oc q = n / 32) (hv : bm_bo v = true) (k : (bm_Wg l dC dI ad cI cJ A fm p e R s m args below meth c cells slots Q M (pc + 1) (L) (S) (bm_up σ q (n % 32) v))) : (bm_Wg l dC dI ad cI cJ A fm p e R s m args below meth c cells slots Q M (pc) (L) (.int v :: .ref q :: S) (σ)) := by
  obtain ⟨hx, hb, hml, hown, hts, hK, hD, hRO, hfm, hR1, hR2, hR3, hR4⟩ := C
  obtain ⟨hd, hr⟩ := hf
  simp only [bm_rel, Bool.and_eq_true, Bool.or_eq_true, decide_eq_true_eq] at hr
  obtain ⟨⟨⟨⟨⟨⟨⟨⟨hn, h2⟩, g1⟩, g2⟩, g3⟩, g4⟩, g6⟩, g7⟩, g5⟩ := hr
  obtain ⟨i, hi, h1⟩ := bm_fld_in g5
  have hc : n / 32 - 1 < 4 := by omega
  intro H locs ls hP hS hL
  refine va_put (D := (dC, dI)) (v := .int v) (ty := .boolean) hx hb hts (bm_lays hc) (bm_ty (n / 32 - 1)) (bm_ty_ok hc) (bm_nm_ok hc) hown hK hP (hD σ) hS q (by rw [bm_ws_at (bm_oc_in ho g1), bm_cell_obj ho g1]) (bm_cl_at hc) (n % 32) g3 (hts _ hi) (fun _ h => h) g7 (by rw [bm_ty_ok hc _ g3, g6]) (by rcases bm_bo_of hv with rfl | rfl <;> rfl) (by rcases bm_bo_of hv with rfl | rfl <;> rfl) (by rw [bm_flds_len]; exact (List.getElem?_eq_some_iff.mp g4).1) (bm_dec hd h1 h2) (fun H1 locs1 hP1 _ hS1 => ?_)
  rw [bm_flds_set _ 0 _ g4, Nat.zero_add, bm_ws_set (τ := bm_up σ q (n % 32) v) (by rw [bm_cell_obj ho g1, bm_up_self]) (fun j hj => bm_up_ne σ _ _ hj)] at hP1
  have k := k H1 locs1 ls hP1 hS1 hL
  rw [hn] at k
  exact k
theorem bs_goto (C : (bm_Ctx dC dI ad cI cJ A X fm p R s m args c cells slots M)) {t : Int} (hf : bm_fact M pc (.goto t)) (k : (bm_Wg l dC dI ad cI cJ A fm p e R s m args below meth c cells slots Q M (t.toNat) (L) (S) (σ))) : (bm_Wg l dC dI ad cI cJ A fm p e R s m args below meth c cells slots Q M (pc) (L) (S) (σ)) := by
  obtain ⟨hx, hb, hml, hown, hts, hK, hD, hRO, hfm, hR1, hR2, hR3, hR4⟩ := C
  obtain ⟨hd, hr⟩ := hf
  simp only [bm_rel, Bool.and_eq_true, Bool.or_eq_true, decide_eq_true_eq] at hr
  obtain ⟨h1, h2⟩ := hr
  intro H locs ls hP hS hL
  have k := k H locs ls hP hS hL
  exact lv_goto (tgt := bm_pc M t.toNat) hx hb (bm_dec hd h1 h2) (by omega) k
theorem bs_if_icmp (C : (bm_Ctx dC dI ad cI cJ A X fm p R s m args c cells slots M)) {cd : Jvm.ClassFile.Cond} {t : Int} (hf : bm_fact M pc (.if_icmp cd t)) {x y : Int32}
    (k1 : bm_cnd cd x y → (bm_Wg l dC dI ad cI cJ A fm p e R s m args below meth c cells slots Q M (t.toNat) (L) (S) (σ)))
    (k2 : ¬ bm_cnd cd x y → (bm_Wg l dC dI ad cI cJ A fm p e R s m args below meth c cells slots Q M (pc + 1) (L) (S) (σ))) : (bm_Wg l dC dI ad cI cJ A fm p e R s m args below meth c cells slots Q M (pc) (L) (.int y :: .int x :: S) (σ)) := by
  obtain ⟨hx, hb, hml, hown, hts, hK, hD, hRO, hfm, hR1, hR2, hR3, hR4⟩ := C
  obtain ⟨hd, hr⟩ := hf
  simp only [bm_rel, Bool.and_eq_true, Bool.or_eq_true, decide_eq_true_eq] at hr
  obtain ⟨⟨hn, h1⟩, h2⟩ := hr
  intro H locs ls hP hS hL
  have k1 := fun h => k1 h H locs ls hP hS hL
  have k2 := fun h => k2 h H locs ls hP hS hL
  rw [hn] at k2
  cases cd
  · exact lv_icmp_eq (tgt := bm_pc M t.toNat) hx hb (bm_dec hd h1 h2) (by omega) k1 k2
  · exact lv_icmp_ne (tgt := bm_pc M t.toNat) hx hb (bm_dec hd h1 h2) (by omega) k1 (fun h => k2 (fun q => q h))
  · exact lv_icmp_lt (tgt := bm_pc M t.toNat) hx hb (bm_dec hd h1 h2) (by omega) k1 k2
  · exact lv_icmp_ge (tgt := bm_pc M t.toNat) hx hb (bm_dec hd h1 h2) (by omega) (fun h => k1 (by first | exact h | exact Int32.not_lt.mpr h)) (fun h => k2 (by first | exact h | exact fun q => h (Int32.not_lt.mp q)))
  · exact lv_icmp_gt (tgt := bm_pc M t.toNat) hx hb (bm_dec hd h1 h2) (by omega) k1 k2
  · exact lv_icmp_le (tgt := bm_pc M t.toNat) hx hb (bm_dec hd h1 h2) (by omega) (fun h => k1 (by first | exact h | exact Int32.not_lt.mpr h)) (fun h => k2 (by first | exact h | exact fun q => h (Int32.not_lt.mp q)))
theorem bs_ifCond (C : (bm_Ctx dC dI ad cI cJ A X fm p R s m args c cells slots M)) {cd : Jvm.ClassFile.Cond} {t : Int} (hf : bm_fact M pc (.ifCond cd t)) {x : Int32}
    (k1 : bm_cnd cd x 0 → (bm_Wg l dC dI ad cI cJ A fm p e R s m args below meth c cells slots Q M (t.toNat) (L) (S) (σ)))
    (k2 : ¬ bm_cnd cd x 0 → (bm_Wg l dC dI ad cI cJ A fm p e R s m args below meth c cells slots Q M (pc + 1) (L) (S) (σ))) : (bm_Wg l dC dI ad cI cJ A fm p e R s m args below meth c cells slots Q M (pc) (L) (.int x :: S) (σ)) := by
  obtain ⟨hx, hb, hml, hown, hts, hK, hD, hRO, hfm, hR1, hR2, hR3, hR4⟩ := C
  obtain ⟨hd, hr⟩ := hf
  simp only [bm_rel, Bool.and_eq_true, Bool.or_eq_true, decide_eq_true_eq] at hr
  obtain ⟨⟨hn, h1⟩, h2⟩ := hr
  intro H locs ls hP hS hL
  have k1 := fun h => k1 h H locs ls hP hS hL
  have k2 := fun h => k2 h H locs ls hP hS hL
  rw [hn] at k2
  cases cd
  · exact lv_if_eq (tgt := bm_pc M t.toNat) hx hb (bm_dec hd h1 h2) (by omega) k1 k2
  · exact lv_if_ne (tgt := bm_pc M t.toNat) hx hb (bm_dec hd h1 h2) (by omega) k1 (fun h => k2 (fun q => q h))
  · exact lv_if_lt (tgt := bm_pc M t.toNat) hx hb (bm_dec hd h1 h2) (by omega) k1 k2
  · exact lv_if_ge (tgt := bm_pc M t.toNat) hx hb (bm_dec hd h1 h2) (by omega) (fun h => k1 (by first | exact h | exact Int32.not_lt.mpr h)) (fun h => k2 (by first | exact h | exact fun q => h (Int32.not_lt.mp q)))
  · exact lv_if_gt (tgt := bm_pc M t.toNat) hx hb (bm_dec hd h1 h2) (by omega) k1 k2
  · exact lv_if_le (tgt := bm_pc M t.toNat) hx hb (bm_dec hd h1 h2) (by omega) (fun h => k1 (by first | exact h | exact Int32.not_lt.mpr h)) (fun h => k2 (by first | exact h | exact fun q => h (Int32.not_lt.mp q)))
theorem bm_cat_eq {S : List Value} (hf : fm.category = 1) : ((S.map (bm_cz ad fm)).map fun v => v.category).sum = bm_cat S := by
  induction S with
  | nil => rfl
  | cons v S ih =>
    simp only [List.map_cons, List.sum_cons, ih, bm_cz_cat hf]
    cases v <;> simp [bm_cat, Value.category] <;> omega
end BS
