def bm_iv (n : Int) : Int32 := match n with
  | .ofNat n => nI n
  | .negSucc n => -nI (n + 1)
def bm_nthT : List (Nat × Instr × Nat) → Nat → Nat × Instr × Nat
  | [], _ => (0, .nop, 0)
  | a :: _, 0 => a
  | _ :: l, n + 1 => bm_nthT l n
/-- the place of an instruction in the bytes of its method -/
def bm_pc (M j : Nat) : Nat := (bm_nthT (bm_rcd M) j).1
def bm_f4 (k : Nat) : Fin 4 := ⟨k % 4, Nat.mod_lt _ (by decide)⟩
def bm_rtn (t : Option FieldType) : Nat := match t with
  | none => 0
  | some .long => 2
  | some (.array _) => 3
  | some (.object _) => 3
  | some _ => 1
def bm_tsw (M : Nat) (pc : Int) : Int → List (Int × Int) → List Int → Bool
  | _, [], [] => true
  | v, (a, t) :: l, o :: os => decide (a = v) && decide (pc + o = (bm_pc M t.toNat : Int)) && bm_tsw M pc (v + 1) l os
  | _, _, _ => false
def bm_lsw (M : Nat) (pc : Int) : List (Int × Int) → List (Int × Int) → Bool
  | [], [] => true
  | (a, t) :: l, (b, o) :: os => decide (a = b) && decide (0 ≤ a) && decide (a < 2147483648) && decide (pc + o = (bm_pc M t.toNat : Int)) && bm_lsw M pc l os
  | _, _ => false
def bm_lo (M k : Nat) : Bool := decide (k < bm_nL M) && !((bm_lg M).any (fun g => decide (g + 1 = k)))
def bm_cst (cls : Nat) (real : Instr) (len : Nat) (v : Int32) : Bool := bm_consts.any (fun q => decide (q.1 = cls) && decide (q.2.1 = v) && ((decide (real = .ldc q.2.2) && decide (len = 2)) || (decide (real = .ldc_w q.2.2) && decide (len = 3))))
def bm_cstL (cls : Nat) (real : Instr) (len : Nat) (v : Int64) : Bool := bm_constsL.any (fun q => decide (q.1 = cls) && decide (q.2.1 = v) && (decide (real = .ldc2_w q.2.2) && decide (len = 3)))
def bm_fld (cls ci slot : Nat) (f : Nat → Instr) (real : Instr) : Bool := bm_fields.any (fun q => decide (q.1 = cls) && decide (q.2.1 = ci) && decide (q.2.2.1 = slot) && decide (real = f q.2.2.2))
def bm_inv (cls M m n : Nat) (real : Instr) : Bool := decide (m < 211) && decide (n / 8 % 4 = bm_rtn (bm_rt m)) && decide (n / 32 % 8 = bm_ar m + (if bm_sta m then 0 else 1)) && decide (n / 256 % 16 = bm_nL m) && decide (bm_dp m + 1 ≤ bm_dp M) && decide (bm_nL m ≤ 20) && decide ((if bm_sta m then (if bm_lg m = [0, 2, 4] then 6 else 0) else if bm_cl0 m = 6 then 5 else bm_cl0 m + 1) = n % 8) && bm_links.any (fun q => decide (q.1 = cls) && decide (q.2.1 = m) && decide (real = if bm_sta m then .invokestatic q.2.2 else .invokevirtual q.2.2))
/-- an instruction of the little machine and the one of the class file that it stands for -/
def bm_rel (M pc nx : Nat) (i real : Instr) (len : Nat) : Bool := match i with
  | .nop => true
  | .ldc n => decide (nx = pc + len) && ((decide (real = .iconst n) && decide (len = 1) && decide (Int32.ofInt n = nI n)) || (decide (real = .bipush n) && decide (len = 2) && decide ((Int8.ofInt n).toInt32 = nI n)) || (decide (real = .sipush n) && decide (len = 3) && decide ((Int16.ofInt n).toInt32 = nI n)) || bm_cst (bm_cl0 M) real len (nI n))
  | .ldc_w n => decide (nx = pc + len) && ((decide (real = .iconst (-(n : Int))) && decide (len = 1) && decide (Int32.ofInt (-(n : Int)) = -nI n)) || bm_cst (bm_cl0 M) real len (-nI n))
  | .ldc2_w n => decide (nx = pc + len) && ((decide (real = .lconst ⟨n % 2, Nat.mod_lt _ (by decide)⟩) && decide (n < 2) && decide (len = 1)) || bm_cstL (bm_cl0 M) real len (lN n))
  | .f2d => decide (nx = pc + len) && bm_cstL (bm_cl0 M) real len (-1)
  | .getstatic n => decide (nx = pc + len) && decide (len = 3) && ((decide (n = 56) && decide (bm_cl0 M = 0) && decide (real = .getstatic 74)) || (decide (n = 57) && decide (bm_cl0 M = 2) && decide (real = .getstatic 256)) || (decide (n = 58) && decide (bm_cl0 M = 2) && decide (real = .getstatic 107)))
  | .anewarray n => decide (nx = pc + len) && bm_strs.any (fun q => decide (q.1 = bm_cl0 M) && decide (60 + q.2.1 = n) && ((decide (real = .ldc q.2.2) && decide (len = 2)) || (decide (real = .ldc_w q.2.2) && decide (len = 3))))
  | .fconst _ => decide (nx = pc + len) && decide (len = 3) && decide (bm_cl0 M = 6) && decide (real = .getstatic 38)
  | .dconst _ => decide (nx = pc + len) && decide (len = 3) && decide (bm_cl0 M = 6) && decide (real = .getstatic 1053)
  | .iload k => decide (nx = pc + len) && ((decide (real = .iload k) && decide (len = 2)) || (decide (k < 4) && decide (real = .iload_n (bm_f4 k)) && decide (len = 1)))
  | .aload k => decide (nx = pc + len) && ((decide (real = .aload k) && decide (len = 2)) || (decide (k < 4) && decide (real = .aload_n (bm_f4 k)) && decide (len = 1)))
  | .lload k => decide (nx = pc + len) && ((decide (real = .lload k) && decide (len = 2)) || (decide (k < 4) && decide (real = .lload_n (bm_f4 k)) && decide (len = 1)))
  | .istore k => decide (nx = pc + len) && bm_lo M k && ((decide (real = .istore k) && decide (len = 2)) || (decide (k < 4) && decide (real = .istore_n (bm_f4 k)) && decide (len = 1)))
  | .astore k => decide (nx = pc + len) && bm_lo M k && ((decide (real = .astore k) && decide (len = 2)) || (decide (k < 4) && decide (real = .astore_n (bm_f4 k)) && decide (len = 1)))
  | .lstore k => decide (nx = pc + len) && bm_lo M k && decide (k + 1 < bm_nL M) && (bm_lg M).any (fun g => decide (g = k)) && ((decide (real = .lstore k) && decide (len = 2)) || (decide (k < 4) && decide (real = .lstore_n (bm_f4 k)) && decide (len = 1)))
  | .iinc k n => decide (nx = pc + 3) && bm_lo M k && decide (real = .iinc k n) && decide (len = 3) && decide (Int32.ofInt n = bm_iv n)
  | .dup | .dup2 | .pop | .iadd | .isub | .imul | .iand | .ior | .idiv | .irem | .ishl | .ishr | .iushr | .ladd | .lmul | .ldiv | .lrem | .lcmp | .i2l | .i2b | .i2s | .i2c | .iaload | .iastore | .aaload | .baload | .arraylength => decide (nx = pc + 1) && decide (real = i) && decide (len = 1)
  | .saload => decide (nx = pc + 1) && decide (real = .iaload) && decide (len = 1)
  | .fsub => decide (nx = pc + 1) && decide (real = .arraylength) && decide (len = 1)
  | .dmul => decide (nx = pc + 3) && decide (len = 3) && decide (1 ≤ bm_dp M) && bm_prims.any (fun q => decide (q.1 = bm_cl0 M) && decide (q.2.1 = 0) && decide (real = .invokestatic q.2.2))
  | .dadd => decide (nx = pc + 3) && decide (len = 3) && decide (1 ≤ bm_dp M) && bm_prims.any (fun q => decide (q.1 = bm_cl0 M) && decide (q.2.1 = 1) && decide (real = .invokestatic q.2.2))
  | .dastore => decide (nx = pc + 3) && decide (len = 3) && decide (1 ≤ bm_dp M) && bm_prims.any (fun q => decide (q.1 = bm_cl0 M) && decide (q.2.1 = 2) && decide (real = .invokestatic q.2.2))
  | .goto t => decide (real = .goto ((bm_pc M t.toNat : Int) - pc)) && decide (len = 3)
  | .if_icmp c t => decide (nx = pc + 3) && decide (real = .if_icmp c ((bm_pc M t.toNat : Int) - pc)) && decide (len = 3)
  | .ifCond c t => decide (nx = pc + 3) && decide (real = .ifCond c ((bm_pc M t.toNat : Int) - pc)) && decide (len = 3)
  | .lookupswitch d ps => match real with
    | .tableswitch dd lo hi offs => decide ((pc : Int) + dd = (bm_pc M d.toNat : Int)) && decide (0 ≤ lo) && decide (hi < 2147483648) && decide (hi + 1 = lo + ps.toList.length) && bm_tsw M pc lo ps.toList offs.toList
    | .lookupswitch dd ps' => decide ((pc : Int) + dd = (bm_pc M d.toNat : Int)) && ((ps'.toList.zip (ps'.toList.drop 1)).all (fun (a, next) => a.1 < next.1)) && bm_lsw M pc ps.toList ps'.toList
    | _ => false
  | .getfield n => decide (nx = pc + 3) && decide (len = 3) && decide (1 ≤ n / 32) && decide (n / 32 ≤ 4) && decide (n % 32 < bm_NN (n / 32 - 1)) && decide ((bm_fs (n / 32 - 1))[n % 32]? = some 0) && bm_fld (bm_cl0 M) (n / 32 - 1) (n % 32) .getfield real
  | .instanceof n => decide (nx = pc + 3) && decide (len = 3) && decide (1 ≤ n / 64 / 32) && decide (n / 64 / 32 ≤ 4) && decide (n / 64 % 32 < bm_NN (n / 64 / 32 - 1)) && decide ((bm_fs (n / 64 / 32 - 1))[n / 64 % 32]? = some (n % 64)) && decide (1 ≤ n % 64) && bm_fld (bm_cl0 M) (n / 64 / 32 - 1) (n / 64 % 32) .getfield real
  | .putfield n => decide (nx = pc + 3) && decide (len = 3) && decide (1 ≤ n / 32) && decide (n / 32 ≤ 4) && decide (n % 32 < bm_NN (n / 32 - 1)) && decide ((bm_fs (n / 32 - 1))[n % 32]? = some 0) && decide (bm_ty (n / 32 - 1) (n % 32) = .int) && decide ((bm_TT (n / 32 - 1) (n % 32)).2.2.2 = false) && bm_fld (bm_cl0 M) (n / 32 - 1) (n % 32) .putfield real
  | .checkcast n => decide (nx = pc + 3) && decide (len = 3) && decide (1 ≤ n / 32) && decide (n / 32 ≤ 4) && decide (n % 32 < bm_NN (n / 32 - 1)) && decide ((bm_fs (n / 32 - 1))[n % 32]? = some 0) && decide (bm_ty (n / 32 - 1) (n % 32) = .boolean) && decide ((bm_TT (n / 32 - 1) (n % 32)).2.2.2 = false) && bm_fld (bm_cl0 M) (n / 32 - 1) (n % 32) .putfield real
  | .f2l => decide (nx = pc + 3) && decide (len = 3) && decide (bm_cl0 M = 6) && decide (real = .getfield 9)
  | .fadd => decide (nx = pc + 3) && decide (len = 3) && decide (bm_cl0 M = 6) && decide (real = .getfield 15)
  | .invokevirtual n => decide (nx = pc + 3) && decide (len = 3) && bm_inv (bm_cl0 M) M (n / 4096) n real
  | .invokespecial n => decide (nx = pc + 3) && decide (len = 3) && bm_inv (bm_cl0 M) M (n / 4096) n real
  | .ireturn => decide (real = .ireturn) && decide (len = 1) && decide (bm_rt M = some .int)
  | .freturn => decide (real = .ireturn) && decide (len = 1) && decide (bm_rt M = some .boolean)
  | .d2f => decide (real = .ireturn) && decide (len = 1) && decide (bm_rt M = some .byte)
  | .d2i => decide (real = .ireturn) && decide (len = 1) && decide (bm_rt M = some .char)
  | .lreturn => decide (real = .lreturn) && decide (len = 1) && decide (bm_rt M = some .long)
  | .areturn => decide (real = .areturn) && decide (len = 1) && decide (bm_rt M = some (.array .int))
  | .return_ => decide (real = .return_) && decide (len = 1) && decide (bm_rt M = none)
  | _ => false
def bm_chk1 (M : Nat) (cc : ByteArray) (q : Nat × Instr × Nat) (nx : Nat) (i : Instr) : Bool := decide (decode cc q.1 = .ok q.2) && bm_rel M q.1 nx i q.2.1 q.2.2
def bm_chkG (M : Nat) (cc : ByteArray) : List Instr → List (Nat × Instr × Nat) → Bool
  | [], _ => true
  | _ :: _, [] => false
  | i :: is, q :: rs => bm_chk1 M cc q (bm_nthT rs 0).1 i && bm_chkG M cc is rs
def bm_chkM (M : Nat) : Bool := bm_chkG M (bm_cc M) (bm_code M) (bm_rcd M)
def bm_chkS (M a n : Nat) : Bool := bm_chkG M (bm_cc M) (((bm_code M).drop a).take n) ((bm_rcd M).drop a)
/-- what a check says of an instruction -/
def bm_fact (M j : Nat) (i : Instr) : Prop := decode (bm_cc M) (bm_pc M j) = .ok (bm_nthT (bm_rcd M) j).2 ∧ bm_rel M (bm_pc M j) (bm_pc M (j + 1)) i (bm_nthT (bm_rcd M) j).2.1 (bm_nthT (bm_rcd M) j).2.2 = true
theorem bm_chkG_at {M : Nat} {cc : ByteArray} : ∀ (is : List Instr) (rs : List (Nat × Instr × Nat)), bm_chkG M cc is rs = true → ∀ (j : Nat) (i : Instr), bm_nthI is j = some i → bm_chk1 M cc (bm_nthT rs j) (bm_nthT rs (j + 1)).1 i = true
  | [], _, _, j, i, h => by cases h
  | _ :: _, [], h, _, _, _ => by cases h
  | a :: is, q :: rs, h, 0, i, hj => by
    have h := (Bool.and_eq_true _ _).mp h
    cases hj
    exact h.1
  | a :: is, q :: rs, h, j + 1, i, hj => bm_chkG_at is rs ((Bool.and_eq_true _ _).mp h).2 j i hj
theorem bm_fact_of {M j : Nat} {i : Instr} (h : bm_chk1 M (bm_cc M) (bm_nthT (bm_rcd M) j) (bm_nthT (bm_rcd M) (j + 1)).1 i = true) : bm_fact M j i := by
  have h := (Bool.and_eq_true _ _).mp h
  exact ⟨of_decide_eq_true h.1, h.2⟩
theorem bm_fact_M {M : Nat} (h : bm_chkM M = true) (j : Nat) (i : Instr) (hj : bm_nthI (bm_code M) j = some i) : bm_fact M j i := bm_fact_of (bm_chkG_at _ _ h j i hj)
theorem bm_nthT_drop : ∀ (a : Nat) (rs : List (Nat × Instr × Nat)) (j : Nat), bm_nthT (rs.drop a) j = bm_nthT rs (a + j)
  | 0, rs, j => by rw [Nat.zero_add]; rfl
  | a + 1, [], j => by simp [bm_nthT]
  | a + 1, q :: rs, j => by
    rw [show a + 1 + j = (a + j) + 1 by omega]
    exact bm_nthT_drop a rs j
theorem bm_nthI_drop : ∀ (a : Nat) (is : List Instr) (j : Nat), bm_nthI (is.drop a) j = bm_nthI is (a + j)
  | 0, rs, j => by rw [Nat.zero_add]; rfl
  | a + 1, [], j => by simp [bm_nthI]
  | a + 1, q :: rs, j => by
    rw [show a + 1 + j = (a + j) + 1 by omega]
    exact bm_nthI_drop a rs j
theorem bm_nthI_take : ∀ (n : Nat) (is : List Instr) (j : Nat), j < n → bm_nthI (is.take n) j = bm_nthI is j
  | 0, _, _, h => absurd h (Nat.not_lt_zero _)
  | n + 1, [], j, _ => by simp
  | n + 1, q :: rs, 0, _ => rfl
  | n + 1, q :: rs, j + 1, h => bm_nthI_take n rs j (Nat.lt_of_succ_lt_succ h)
theorem bm_fact_S {M a n : Nat} (h : bm_chkS M a n = true) (j : Nat) (i : Instr) (h1 : a ≤ j) (h2 : j < a + n) (hj : bm_nthI (bm_code M) j = some i) : bm_fact M j i := by
  obtain ⟨k, rfl⟩ : ∃ k, j = a + k := ⟨j - a, by omega⟩
  have h3 := bm_chkG_at _ _ h k i (by rw [bm_nthI_take n _ k (by omega), bm_nthI_drop]; exact hj)
  rw [bm_nthT_drop, bm_nthT_drop] at h3
  exact bm_fact_of h3
