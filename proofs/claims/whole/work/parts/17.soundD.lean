/-! THE WHOLE: a run of the little machine is one of the machine -/
/-- a return, with what it leaves -/
def bm_fin (ad : Nat → Nat) (M : Nat) (r : Value) (real : Instr) (st : List Value) : Prop :=
  (∃ (x : Int32) (ty : FieldType), r = .int x ∧ real = .ireturn ∧ st = [.int x] ∧ bm_rt M = some ty ∧ narrow ty (.int x) = .int x) ∨ (r = .null ∧ real = .return_ ∧ st = [] ∧ bm_rt M = none) ∨ (∃ x : Int64, r = .long x ∧ real = .lreturn ∧ st = [.long x] ∧ bm_rt M = some .long) ∨ (∃ x : Nat, r = .ref x ∧ real = .areturn ∧ st = [.ref (ad x)] ∧ ∃ t, bm_rt M = some (.array t))
theorem bm_gd_of {b : Bool} {x : bm_R} {r : Value × bm_M} (h : bm_gd b x = some r) : b = true ∧ x = some r := by
  cases b with
  | true => exact ⟨rfl, h⟩
  | false => cases h
theorem bm_sg_of {b : Bool} {x : bm_R} {r : Value × bm_M} (h : bm_sg b x = some r) : b = true ∧ x = some r := by
  cases b with
  | true => exact ⟨rfl, h⟩
  | false => cases h
theorem bm_cond_of {b : Bool} {x y : bm_R} {r : Value × bm_M} (h : cond b x y = some r) : (b = true ∧ x = some r) ∨ (b = false ∧ y = some r) := by
  cases b with
  | true => exact Or.inl ⟨rfl, h⟩
  | false => exact Or.inr ⟨rfl, h⟩
theorem bm_cmp_of {γ : Nat → List Value → bm_M → bm_R} {κ : Nat → List Value → List Value → bm_M → bm_R} {cd : Jvm.ClassFile.Cond} {x y : Int32} {t pc : Nat} {L S : List Value} {σ : bm_M} {r : Value × bm_M} (h : bm_pick γ κ (bm_cmp cd x y t pc L S σ) = some r) : (bm_cnd cd x y → κ t L S σ = some r) ∧ (¬ bm_cnd cd x y → κ (pc + 1) L S σ = some r) := by
  cases cd
  · rcases bm_cond_of (b := decide (x = y)) h with ⟨h1, h2⟩ | ⟨h1, h2⟩
    · exact ⟨fun _ => h2, fun q => absurd (of_decide_eq_true h1) q⟩
    · have h1 := of_decide_eq_false h1
      exact ⟨fun q => absurd q h1, fun _ => h2⟩
  · rcases bm_cond_of (b := decide (x = y)) h with ⟨h1, h2⟩ | ⟨h1, h2⟩
    · exact ⟨fun q => absurd (of_decide_eq_true h1) q, fun _ => h2⟩
    · exact ⟨fun _ => h2, fun q => absurd (of_decide_eq_false h1) q⟩
  · rcases bm_cond_of (b := decide (x < y)) h with ⟨h1, h2⟩ | ⟨h1, h2⟩
    · exact ⟨fun _ => h2, fun q => absurd (of_decide_eq_true h1) q⟩
    · have h1 := of_decide_eq_false h1
      exact ⟨fun q => absurd q h1, fun _ => h2⟩
  · rcases bm_cond_of (b := decide (x < y)) h with ⟨h1, h2⟩ | ⟨h1, h2⟩
    · exact ⟨fun q => absurd (of_decide_eq_true h1) q, fun _ => h2⟩
    · exact ⟨fun _ => h2, fun q => absurd (of_decide_eq_false h1) q⟩
  · rcases bm_cond_of (b := decide (y < x)) h with ⟨h1, h2⟩ | ⟨h1, h2⟩
    · exact ⟨fun _ => h2, fun q => absurd (of_decide_eq_true h1) q⟩
    · have h1 := of_decide_eq_false h1
      exact ⟨fun q => absurd q h1, fun _ => h2⟩
  · rcases bm_cond_of (b := decide (y < x)) h with ⟨h1, h2⟩ | ⟨h1, h2⟩
    · exact ⟨fun q => absurd (of_decide_eq_true h1) q, fun _ => h2⟩
    · exact ⟨fun _ => h2, fun q => absurd (of_decide_eq_false h1) q⟩
/-- what a call may be given -/
def bm_aok (M : Nat) (as : List Value) : Prop := (bm_nol as = true ∨ ((∃ x y z, as = [.long x, .long y, .long z]) ∧ bm_lg M = [0, 2, 4])) ∧ (bm_spread as).length ≤ bm_nL M
section BW
variable {l : Launch} {dC : Nat → ClassId} {dI : Nat → Nat → Nat} {ad : Nat → Nat} {cI cJ : ClassId} {A : Nat → Prop} {X : bm_X} {fm : Value} {p : Program} {e : Env} {R : Room} {s : State} {m : MethodId} {args : Array Value} {below : List Frame} {meth : Method} {c : Code} {cells slots : Nat} {Q : State → Prop} {M pc : Nat} {L S : List Value} {σ : bm_M}
theorem bm_nol_tail {v : Value} {l : List Value} (h : bm_nol (v :: l) = true) : bm_nol l = true := by
  cases v <;> first | exact h | (simp [bm_nol] at h; done)
theorem bm_rcv_aok {rc : Nat} {as : List Value} (h : bm_rcv rc as = true) : (rc ≠ 6 ∧ bm_nol as = true) ∨ (rc = 6 ∧ ∃ x y z, as = [.long x, .long y, .long z]) := by
  unfold bm_rcv at h
  split at h
  · exact Or.inl ⟨by decide, h⟩
  · split at h
    · simp only [Bool.and_eq_true] at h
      exact Or.inl ⟨by decide, h.1⟩
    · cases h
  · split at h
    · exact Or.inr ⟨rfl, _, _, _, rfl⟩
    · cases h
  · split at h
    · simp only [Bool.and_eq_true] at h
      exact Or.inl ⟨by assumption, h.1⟩
    · cases h
theorem bm_callstep (C : (bm_Ctx dC dI ad cI cJ A X fm p R s m args c cells slots M)) {n : Nat} {real : Instr} {γ : Nat → List Value → bm_M → bm_R} {κ : Nat → List Value → List Value → bm_M → bm_R} {r : Value} {τ : bm_M} (hn : bm_pc M (pc + 1) = bm_pc M pc + 3) (hdec : decode (bm_cc M) (bm_pc M pc) = .ok (real, 3)) (hinv : bm_inv (bm_cl0 M) M (n / 4096) n real = true) (hg : bm_cg n (bm_take (n / 32 % 8) S []) (bm_drop (n / 32 % 8) S) = true)
    (hrun : bm_do γ κ (.inr (.inl (n / 4096, n / 8 % 4, bm_pad (n / 256 % 16) (bm_spread (bm_take (n / 32 % 8) S [])), pc + 1, L, bm_drop (n / 32 % 8) S, σ))) = some (r, τ))
    (IHκ : ∀ pc L S σ, κ pc L S σ = some (r, τ) → bm_Wg l dC dI ad cI cJ A fm p e R s m args below meth c cells slots Q M pc L S σ) (IHγ : ∀ N as σ r' τ', N < 211 → bm_aok N as → γ N (bm_pad (bm_nL N) (bm_spread as)) σ = some (r', τ') → bm_Met l dC dI ad cI cJ A X fm N as σ r' τ') : (bm_Wg l dC dI ad cI cJ A fm p e R s m args below meth c cells slots Q M (pc) (L) (S) (σ)) := by
  have hi := hinv
  simp only [bm_inv, Bool.and_eq_true, decide_eq_true_eq] at hi
  obtain ⟨⟨⟨⟨⟨⟨⟨i1, i2⟩, i3⟩, i4⟩, i5⟩, i6⟩, i7⟩, i8⟩ := hi
  have hc := hg
  simp only [bm_cg, Bool.and_eq_true, Nat.ble_eq, Nat.beq_eq] at hc
  obtain ⟨c1, c2, c3, c4⟩ := hc
  have hS0 : S = (bm_take (n / 32 % 8) S []).reverse ++ bm_drop (n / 32 % 8) S := by rw [bm_take_drop]; rfl
  generalize bm_take (n / 32 % 8) S [] = as at *
  generalize bm_drop (n / 32 % 8) S = rest at *
  rw [i4] at hrun c3
  have haok : bm_aok (n / 4096) as := by
    refine ⟨?_, c3⟩
    rcases bm_rcv_aok c4 with ⟨-, h⟩ | ⟨h6, h⟩
    · exact Or.inl h
    · refine Or.inr ⟨h, ?_⟩
      rw [h6] at i7
      by_cases h1 : bm_sta (n / 4096) = true
      · rw [if_pos h1] at i7
        by_cases h2 : bm_lg (n / 4096) = [0, 2, 4]
        · exact h2
        · rw [if_neg h2] at i7; omega
      · rw [if_neg h1] at i7
        have := (bm_meta _ i1).2.2.2.2.2.2.1 (by simpa using h1)
        split at i7 <;> omega
  cases hr : γ (n / 4096) (bm_pad (bm_nL (n / 4096)) (bm_spread as)) σ with
  | none =>
    simp only [bm_do] at hrun
    rw [hr] at hrun
    split at hrun <;> simp [bm_bV, bm_bI, bm_bL, bm_bA] at hrun
  | some q =>
    obtain ⟨r', τ'⟩ := q
    have hM := IHγ _ as σ r' τ' i1 haok hr
    simp only [bm_do] at hrun
    rw [hr] at hrun
    split at hrun
    · cases r' <;> first | (simp [bm_bV] at hrun; done) | exact bs_invoke C hn hdec hinv hg hS0 hM rfl (IHκ _ _ _ _ hrun)
    · cases r' <;> first | (simp [bm_bI] at hrun; done) | exact bs_invoke C hn hdec hinv hg hS0 hM rfl (IHκ _ _ _ _ hrun)
    · cases r' <;> first | (simp [bm_bL] at hrun; done) | exact bs_invoke C hn hdec hinv hg hS0 hM rfl (IHκ _ _ _ _ hrun)
    · cases r' <;> first | (simp [bm_bA] at hrun; done) | exact bs_invoke C hn hdec hinv hg hS0 hM rfl (IHκ _ _ _ _ hrun)
theorem bm_nar_by {x : Int32} (h : bm_by x = true) : narrow .byte (.int x) = .int x := by
  rw [narrow_byte]
  congr 1
  simp only [bm_by, Bool.and_eq_true, Bool.not_eq_true', decide_eq_false_iff_not, decide_eq_true_eq, Int32.lt_iff_toInt_lt] at h
  apply Int32.toInt_inj.mp
  have h1 : (128 : Int32).toInt = 128 := by decide
  have h0 : (0 : Int32).toInt = 0 := by decide
  rw [h0, h1] at h
  rw [Int8.toInt_toInt32, Int32.toInt_toInt8, Int.bmod_eq_of_le (by omega) (by omega)]
theorem bm_nar_ch {x : Int32} (h : bm_ch x = true) : narrow .char (.int x) = .int x := by
  simp only [bm_ch, Bool.and_eq_true, Bool.not_eq_true', decide_eq_false_iff_not, decide_eq_true_eq] at h
  obtain ⟨h0, h1⟩ := h
  obtain ⟨j, hj, rfl⟩ := nI_of h0
  have h2 : j < 65536 := (nI_ltI hj (by decide)).mp (show nI j < nI 65536 from h1)
  have h3 : (UInt32.ofNat j).toUInt16.toUInt32 = UInt32.ofNat j := by
    apply UInt32.toNat_inj.mp
    simp
    omega
  show Value.int ((UInt32.ofNat j).toUInt16.toUInt32.toInt32) = Value.int (nI j)
  rw [h3]
  rfl
set_option maxHeartbeats 4000000 in
theorem bm_step (C : (bm_Ctx dC dI ad cI cJ A X fm p R s m args c cells slots M)) {i : Instr} (hf : bm_fact M pc i) {γ : Nat → List Value → bm_M → bm_R} {κ : Nat → List Value → List Value → bm_M → bm_R} {r : Value} {τ : bm_M} (hrun : bm_pick γ κ (bm_alts X i pc L S σ) = some (r, τ))
    (IHκ : ∀ pc L S σ, κ pc L S σ = some (r, τ) → bm_Wg l dC dI ad cI cJ A fm p e R s m args below meth c cells slots Q M pc L S σ) (IHγ : ∀ N as σ r' τ', N < 211 → bm_aok N as → γ N (bm_pad (bm_nL N) (bm_spread as)) σ = some (r', τ') → bm_Met l dC dI ad cI cJ A X fm N as σ r' τ')
    (hret : (∀ (pcr : Nat) (H : Heap) (locs : List Loc) (ls : Array Slot) (st : List Value) (real : Instr), bm_fin ad M r real st → decode (bm_cc M) pcr = .ok (real, 1) → va_P (dC, dI) bm_cl (bm_ws ad cI cJ τ) H → va_S A s.heap H locs → W p l e R s m args below meth c H locs cells slots Q (F0 m pcr ls st))) : (bm_Wg l dC dI ad cI cJ A fm p e R s m args below meth c cells slots Q M (pc) (L) (S) (σ)) := by
  cases i with
  | iadd =>
    simp only [bm_alts] at hrun
    split at hrun
    · exact bs_iadd C hf (IHκ _ _ _ _ hrun)
    · cases hrun
  | isub =>
    simp only [bm_alts] at hrun
    split at hrun
    · exact bs_isub C hf (IHκ _ _ _ _ hrun)
    · cases hrun
  | imul =>
    simp only [bm_alts] at hrun
    split at hrun
    · exact bs_imul C hf (IHκ _ _ _ _ hrun)
    · cases hrun
  | iand =>
    simp only [bm_alts] at hrun
    split at hrun
    · exact bs_iand C hf (IHκ _ _ _ _ hrun)
    · cases hrun
  | ior =>
    simp only [bm_alts] at hrun
    split at hrun
    · exact bs_ior C hf (IHκ _ _ _ _ hrun)
    · cases hrun
  | ishl =>
    simp only [bm_alts] at hrun
    split at hrun
    · exact bs_ishl C hf (IHκ _ _ _ _ hrun)
    · cases hrun
  | ishr =>
    simp only [bm_alts] at hrun
    split at hrun
    · exact bs_ishr C hf (IHκ _ _ _ _ hrun)
    · cases hrun
  | iushr =>
    simp only [bm_alts] at hrun
    split at hrun
    · exact bs_iushr C hf (IHκ _ _ _ _ hrun)
    · cases hrun
  | ladd =>
    simp only [bm_alts] at hrun
    split at hrun
    · exact bs_ladd C hf (IHκ _ _ _ _ hrun)
    · cases hrun
  | lmul =>
    simp only [bm_alts] at hrun
    split at hrun
    · exact bs_lmul C hf (IHκ _ _ _ _ hrun)
    · cases hrun
  | lcmp =>
    simp only [bm_alts] at hrun
    split at hrun
    · exact bs_lcmp C hf (IHκ _ _ _ _ hrun)
    · cases hrun
  | i2l =>
    simp only [bm_alts] at hrun
    split at hrun
    · exact bs_i2l C hf (IHκ _ _ _ _ hrun)
    · cases hrun
  | i2b =>
    simp only [bm_alts] at hrun
    split at hrun
    · exact bs_i2b C hf (IHκ _ _ _ _ hrun)
    · cases hrun
  | i2s =>
    simp only [bm_alts] at hrun
    split at hrun
    · exact bs_i2s C hf (IHκ _ _ _ _ hrun)
    · cases hrun
  | i2c =>
    simp only [bm_alts] at hrun
    split at hrun
    · exact bs_i2c C hf (IHκ _ _ _ _ hrun)
    · cases hrun
  | dup2 =>
    simp only [bm_alts] at hrun
    split at hrun
    · exact bs_dup2 C hf (IHκ _ _ _ _ hrun)
    · cases hrun
  | pop =>
    simp only [bm_alts] at hrun
    split at hrun
    · exact bs_pop C hf (IHκ _ _ _ _ hrun)
    · cases hrun
  | dup =>
    simp only [bm_alts] at hrun
    split at hrun
    · exact bs_dupI C hf (IHκ _ _ _ _ hrun)
    · exact bs_dupA C hf (IHκ _ _ _ _ hrun)
    · cases hrun
  | ldc n =>
    exact bs_ldc C hf (IHκ _ _ _ _ hrun)
  | ldc_w n =>
    exact bs_ldc_w C hf (IHκ _ _ _ _ hrun)
  | ldc2_w n =>
    exact bs_ldc2_w C hf (IHκ _ _ _ _ hrun)
  | getstatic n =>
    exact bs_getstatic C hf (IHκ _ _ _ _ hrun)
  | anewarray n =>
    exact bs_anewarray C hf (IHκ _ _ _ _ hrun)
  | fconst n =>
    exact bs_fconst C hf (IHκ _ _ _ _ hrun)
  | dconst n =>
    exact bs_dconst C hf (IHκ _ _ _ _ hrun)
  | f2d =>
    exact bs_f2d C hf (IHκ _ _ _ _ hrun)
  | iload j =>
    simp only [bm_alts] at hrun
    split at hrun
    · exact bs_iload C hf (by assumption) (IHκ _ _ _ _ hrun)
    · cases hrun
  | aload j =>
    simp only [bm_alts] at hrun
    split at hrun
    · exact bs_aload C hf (by assumption) (IHκ _ _ _ _ hrun)
    · cases hrun
  | lload j =>
    simp only [bm_alts] at hrun
    split at hrun
    · exact bs_lload C hf (by assumption) (IHκ _ _ _ _ hrun)
    · cases hrun
  | istore j =>
    simp only [bm_alts] at hrun
    split at hrun
    · exact bs_istore C hf (IHκ _ _ _ _ hrun)
    · cases hrun
  | astore j =>
    simp only [bm_alts] at hrun
    split at hrun
    · exact bs_astore C hf (IHκ _ _ _ _ hrun)
    · cases hrun
  | lstore j =>
    simp only [bm_alts] at hrun
    split at hrun
    · exact bs_lstore C hf (IHκ _ _ _ _ hrun)
    · cases hrun
  | iinc j n =>
    simp only [bm_alts] at hrun
    split at hrun
    · cases n with
      | ofNat n => exact bs_iinc C hf (by assumption) rfl (IHκ _ _ _ _ hrun)
      | negSucc n => exact bs_iinc C hf (by assumption) (by rw [Int32.sub_eq_add_neg]; rfl) (IHκ _ _ _ _ hrun)
    · cases hrun
  | idiv =>
    simp only [bm_alts] at hrun
    split at hrun
    · obtain ⟨hg, hrun⟩ := bm_sg_of hrun
      exact bs_idiv C hf hg (IHκ _ _ _ _ hrun)
    · cases hrun
  | irem =>
    simp only [bm_alts] at hrun
    split at hrun
    · obtain ⟨hg, hrun⟩ := bm_sg_of hrun
      exact bs_irem C hf hg (IHκ _ _ _ _ hrun)
    · cases hrun
  | ldiv =>
    simp only [bm_alts] at hrun
    split at hrun
    · obtain ⟨hg, hrun⟩ := bm_gd_of hrun
      exact bs_ldiv C hf hg (IHκ _ _ _ _ hrun)
    · cases hrun
  | lrem =>
    simp only [bm_alts] at hrun
    split at hrun
    · obtain ⟨hg, hrun⟩ := bm_gd_of hrun
      exact bs_lrem C hf hg (IHκ _ _ _ _ hrun)
    · cases hrun
  | dmul =>
    simp only [bm_alts] at hrun
    split at hrun
    · obtain ⟨hg, hrun⟩ := bm_sg_of hrun
      exact bs_dmul C hf hg (IHκ _ _ _ _ hrun)
    · cases hrun
  | dadd =>
    simp only [bm_alts] at hrun
    split at hrun
    · obtain ⟨hg, hrun⟩ := bm_sg_of hrun
      exact bs_dadd C hf hg (IHκ _ _ _ _ hrun)
    · cases hrun
  | goto t =>
    exact bs_goto C hf (IHκ _ _ _ _ hrun)
  | if_icmp cd t =>
    simp only [bm_alts] at hrun
    split at hrun
    · obtain ⟨h1, h2⟩ := bm_cmp_of hrun
      exact bs_if_icmp C hf (fun h => IHκ _ _ _ _ (h1 h)) (fun h => IHκ _ _ _ _ (h2 h))
    · cases hrun
  | ifCond cd t =>
    simp only [bm_alts] at hrun
    split at hrun
    · obtain ⟨h1, h2⟩ := bm_cmp_of hrun
      exact bs_ifCond C hf (fun h => IHκ _ _ _ _ (h1 h)) (fun h => IHκ _ _ _ _ (h2 h))
    · cases hrun
  | lookupswitch d ps =>
    simp only [bm_alts] at hrun
    split at hrun
    · rw [bm_sw_tg] at hrun
      exact bs_switch C hf (IHκ _ _ _ _ hrun)
    · cases hrun
  | getfield n =>
    simp only [bm_alts] at hrun
    split at hrun
    · obtain ⟨hg, hrun⟩ := bm_sg_of hrun
      exact bs_getfield C hf (Nat.eq_of_beq_eq_true hg) (IHκ _ _ _ _ hrun)
    · cases hrun
  | instanceof n =>
    simp only [bm_alts] at hrun
    split at hrun
    · obtain ⟨hg, hrun⟩ := bm_sg_of hrun
      exact bs_instanceof C hf (Nat.eq_of_beq_eq_true hg) (IHκ _ _ _ _ hrun)
    · cases hrun
  | putfield n =>
    simp only [bm_alts] at hrun
    split at hrun
    · obtain ⟨hg, hrun⟩ := bm_sg_of hrun
      exact bs_putfield C hf (Nat.eq_of_beq_eq_true hg) (IHκ _ _ _ _ hrun)
    · cases hrun
  | checkcast n =>
    simp only [bm_alts] at hrun
    split at hrun
    · obtain ⟨hg, hrun⟩ := bm_gd_of hrun
      rw [Bool.and_eq_true] at hg
      exact bs_checkcast C hf (Nat.eq_of_beq_eq_true hg.1) hg.2 (IHκ _ _ _ _ hrun)
    · cases hrun
  | iaload =>
    simp only [bm_alts] at hrun
    split at hrun
    · obtain ⟨hg, hrun⟩ := bm_gd_of hrun
      exact bs_iaload C hf hg (IHκ _ _ _ _ hrun)
    · cases hrun
  | iastore =>
    simp only [bm_alts] at hrun
    split at hrun
    · obtain ⟨hg, hrun⟩ := bm_gd_of hrun
      exact bs_iastore C hf hg (IHκ _ _ _ _ hrun)
    · cases hrun
  | aaload =>
    simp only [bm_alts] at hrun
    split at hrun
    · obtain ⟨hg, hrun2⟩ := bm_gd_of hrun
      clear hrun
      rw [Bool.and_eq_true] at hg
      have h36 := Nat.eq_of_beq_eq_true hg.1
      subst h36
      exact bs_aaload C hf hg.2 (IHκ _ _ _ _ hrun2)
    · cases hrun
  | saload =>
    simp only [bm_alts] at hrun
    split at hrun
    · obtain ⟨hg, hrun⟩ := bm_gd_of hrun
      rw [Bool.and_eq_true] at hg
      exact bs_saload C hf hg.1 hg.2 (IHκ _ _ _ _ hrun)
    · cases hrun
  | baload =>
    simp only [bm_alts] at hrun
    split at hrun
    · obtain ⟨hg, hrun⟩ := bm_gd_of hrun
      rw [Bool.and_eq_true] at hg
      exact bs_baload C hf hg.1 hg.2 (IHκ _ _ _ _ hrun)
    · cases hrun
  | arraylength =>
    simp only [bm_alts] at hrun
    split at hrun
    · obtain ⟨hg, hrun⟩ := bm_sg_of hrun
      exact bs_arraylength C hf hg (IHκ _ _ _ _ hrun)
    · cases hrun
  | fsub =>
    simp only [bm_alts] at hrun
    split at hrun
    · obtain ⟨hg, hrun⟩ := bm_gd_of hrun
      exact bs_fsub C hf hg (IHκ _ _ _ _ hrun)
    · cases hrun
  | f2l =>
    simp only [bm_alts] at hrun
    split at hrun
    · obtain ⟨hg, hrun⟩ := bm_gd_of hrun
      exact bs_f2l C hf hg (IHκ _ _ _ _ hrun)
    · cases hrun
  | fadd =>
    simp only [bm_alts] at hrun
    split at hrun
    · obtain ⟨hg, hrun⟩ := bm_gd_of hrun
      exact bs_fadd C hf hg (IHκ _ _ _ _ hrun)
    · cases hrun
  | dastore =>
    simp only [bm_alts] at hrun
    split at hrun
    · obtain ⟨hg, hrun⟩ := bm_gd_of hrun
      rw [Bool.and_eq_true] at hg
      exact bs_dastore C hf hg.1 hg.2 (IHκ _ _ _ _ hrun)
    · cases hrun
  | invokevirtual n =>
    obtain ⟨hg, hrun⟩ := bm_sg_of hrun
    obtain ⟨hd, hr⟩ := hf
    simp only [bm_rel, Bool.and_eq_true, decide_eq_true_eq] at hr
    exact bm_callstep C hr.1.1 (bm_dec hd rfl hr.1.2) hr.2 hg hrun IHκ IHγ
  | invokespecial n =>
    obtain ⟨hg, hrun⟩ := bm_gd_of hrun
    obtain ⟨hd, hr⟩ := hf
    simp only [bm_rel, Bool.and_eq_true, decide_eq_true_eq] at hr
    exact bm_callstep C hr.1.1 (bm_dec hd rfl hr.1.2) hr.2 hg hrun IHκ IHγ
  | ireturn =>
    simp only [bm_alts] at hrun
    split at hrun
    · obtain ⟨hd, hr⟩ := hf
      simp only [bm_rel, Bool.and_eq_true, decide_eq_true_eq] at hr
      cases hrun
      intro H locs ls hP hS hL
      exact hret _ H locs ls _ _ (Or.inl ⟨_, .int, rfl, rfl, rfl, hr.2, rfl⟩) (bm_dec hd hr.1.1 hr.1.2) hP hS
    · cases hrun
  | freturn =>
    simp only [bm_alts] at hrun
    split at hrun
    · obtain ⟨hd, hr⟩ := hf
      simp only [bm_rel, Bool.and_eq_true, decide_eq_true_eq] at hr
      obtain ⟨hg, hrun⟩ := bm_gd_of hrun
      cases hrun
      intro H locs ls hP hS hL
      exact hret _ H locs ls _ _ (Or.inl ⟨_, .boolean, rfl, rfl, rfl, hr.2, by rcases bm_bo_of hg with rfl | rfl <;> rfl⟩) (bm_dec hd hr.1.1 hr.1.2) hP hS
    · cases hrun
  | d2f =>
    simp only [bm_alts] at hrun
    split at hrun
    · obtain ⟨hd, hr⟩ := hf
      simp only [bm_rel, Bool.and_eq_true, decide_eq_true_eq] at hr
      obtain ⟨hg, hrun⟩ := bm_gd_of hrun
      cases hrun
      intro H locs ls hP hS hL
      exact hret _ H locs ls _ _ (Or.inl ⟨_, .byte, rfl, rfl, rfl, hr.2, bm_nar_by hg⟩) (bm_dec hd hr.1.1 hr.1.2) hP hS
    · cases hrun
  | d2i =>
    simp only [bm_alts] at hrun
    split at hrun
    · obtain ⟨hd, hr⟩ := hf
      simp only [bm_rel, Bool.and_eq_true, decide_eq_true_eq] at hr
      obtain ⟨hg, hrun⟩ := bm_gd_of hrun
      cases hrun
      intro H locs ls hP hS hL
      exact hret _ H locs ls _ _ (Or.inl ⟨_, .char, rfl, rfl, rfl, hr.2, bm_nar_ch hg⟩) (bm_dec hd hr.1.1 hr.1.2) hP hS
    · cases hrun
  | lreturn =>
    simp only [bm_alts] at hrun
    split at hrun
    · obtain ⟨hd, hr⟩ := hf
      simp only [bm_rel, Bool.and_eq_true, decide_eq_true_eq] at hr
      cases hrun
      intro H locs ls hP hS hL
      exact hret _ H locs ls _ _ (Or.inr (Or.inr (Or.inl ⟨_, rfl, rfl, rfl, hr.2⟩))) (bm_dec hd hr.1.1 hr.1.2) hP hS
    · cases hrun
  | areturn =>
    simp only [bm_alts] at hrun
    split at hrun
    · obtain ⟨hd, hr⟩ := hf
      simp only [bm_rel, Bool.and_eq_true, decide_eq_true_eq] at hr
      cases hrun
      intro H locs ls hP hS hL
      exact hret _ H locs ls _ _ (Or.inr (Or.inr (Or.inr ⟨_, rfl, rfl, rfl, _, hr.2⟩))) (bm_dec hd hr.1.1 hr.1.2) hP hS
    · cases hrun
  | return_ =>
    simp only [bm_alts] at hrun
    split at hrun
    · obtain ⟨hd, hr⟩ := hf
      simp only [bm_rel, Bool.and_eq_true, decide_eq_true_eq] at hr
      cases hrun
      intro H locs ls hP hS hL
      exact hret _ H locs ls _ _ (Or.inr (Or.inl ⟨rfl, rfl, rfl, hr.2⟩)) (bm_dec hd hr.1.1 hr.1.2) hP hS
    · cases hrun
  | _ => cases hrun

/-- a run of so many steps, in any frame -/
def bm_Snd (l : Launch) (dC : Nat → ClassId) (dI : Nat → Nat → Nat) (ad : Nat → Nat) (cI cJ : ClassId) (A : Nat → Prop) (X : bm_X) (fm : Value) (n : Nat) : Prop :=
  ∀ (M pc : Nat) (L S : List Value) (σ : bm_M) (r : Value) (τ : bm_M), M < 212 → bm_run bm_code X n M pc L S σ = some (r, τ) → ∀ (p : Program) (e : Env) (R : Room) (s : State) (m : MethodId) (args : Array Value) (below : List Frame) (meth : Method) (c : Code) (cells slots : Nat) (Q : State → Prop), (bm_Ctx dC dI ad cI cJ A X fm p R s m args c cells slots M) → (∀ (pcr : Nat) (H : Heap) (locs : List Loc) (ls : Array Slot) (st : List Value) (real : Instr), bm_fin ad M r real st → decode (bm_cc M) pcr = .ok (real, 1) → va_P (dC, dI) bm_cl (bm_ws ad cI cJ τ) H → va_S A s.heap H locs → W p l e R s m args below meth c H locs cells slots Q (F0 m pcr ls st)) → bm_Wg l dC dI ad cI cJ A fm p e R s m args below meth c cells slots Q M pc L S σ
theorem bm_get_pad : ∀ (n : Nat) (l : List Value) (i : Nat), bm_get (bm_pad n l) i = bm_get l i
  | 0, _, _ => rfl
  | n + 1, [], 0 => rfl
  | n + 1, [], i + 1 => bm_get_pad n [] i
  | n + 1, a :: l, 0 => rfl
  | n + 1, a :: l, i + 1 => bm_get_pad n l i
theorem bm_nol_cat : ∀ {l : List Value}, bm_nol l = true → ∀ v ∈ l, v.category = 1
  | [], _, v, hv => by cases hv
  | a :: l, h, v, hv => by
    rcases List.mem_cons.mp hv with rfl | hv
    · cases v <;> first | rfl | (simp [bm_nol] at h; done)
    · exact bm_nol_cat (bm_nol_tail h) v hv
theorem bm_nol_spread : ∀ {l : List Value}, bm_nol l = true → bm_spread l = l
  | [], _ => rfl
  | a :: l, h => by
    have := bm_nol_spread (bm_nol_tail h)
    cases a <;> first | (simp [bm_spread, this]; done) | (simp [bm_nol] at h; done)
theorem bm_get_mem : ∀ (l : List Value) (i : Nat), bm_get l i ≠ .null → bm_get l i ∈ l
  | [], _, h => absurd rfl h
  | a :: l, 0, _ => List.mem_cons_self
  | a :: l, i + 1, h => List.mem_cons_of_mem _ (bm_get_mem l i h)
theorem bm_entry1 (hfm : fm.category = 1) : ∀ (l : List Value) (off i : Nat), bm_nol l = true → bm_get l i ≠ .null → (off + i, bm_cz ad fm (bm_get l i)) ∈ lv_args off (l.map (bm_cz ad fm))
  | [], _, _, _, h => absurd rfl h
  | a :: l, off, 0, _, _ => List.mem_cons_self
  | a :: l, off, i + 1, hn, h => by
    have h1 := bm_nol_cat hn a List.mem_cons_self
    show _ ∈ (off, bm_cz ad fm a) :: lv_args (if (bm_cz ad fm a).category = 2 then off + 2 else off + 1) (l.map (bm_cz ad fm))
    rw [bm_cz_cat hfm, h1, if_neg (by decide)]
    have := bm_entry1 hfm l (off + 1) i (bm_nol_tail hn) h
    rw [show off + (i + 1) = off + 1 + i by omega]
    exact List.mem_cons_of_mem _ this
theorem bm_sl_len (hfm : fm.category = 1) : ∀ (l : List Value), bm_nol l = true → (lg_sl (l.map (bm_cz ad fm))).length = l.length
  | [], _ => rfl
  | a :: l, h => by
    have h1 := bm_nol_cat h a List.mem_cons_self
    have := bm_sl_len hfm l (bm_nol_tail h)
    simp only [lg_sl, List.map_cons, List.flatMap_cons, List.length_append] at this ⊢
    rw [this, bm_cz_cat hfm, h1]
    simp
    omega
theorem bm_entry (hfm : fm.category = 1) {as : List Value} (ha : bm_aok M as) : bm_LR ad fm M (bm_pad (bm_nL M) (bm_spread as)) ((lg_sl (as.map (bm_cz ad fm)) ++ List.replicate (bm_nL M - (lg_sl (as.map (bm_cz ad fm))).length) Slot.unset).toArray) := by
  obtain ⟨h | ⟨⟨x, y, z, rfl⟩, hlg⟩, hlen⟩ := ha
  · rw [bm_nol_spread h] at hlen ⊢
    have hl := lv_entry (as.map (bm_cz ad fm)) (n := bm_nL M) (by rw [bm_sl_len hfm as h]; exact hlen)
    refine ⟨hl.1, hl.2.1, fun i hi => ?_, fun i hi => ?_⟩
    · rw [bm_get_pad] at hi ⊢
      have := bm_entry1 (ad := ad) hfm as 0 i h hi
      rw [Nat.zero_add] at this
      exact hl.2.2 _ this
    · rw [bm_get_pad] at hi
      have : bm_get as i ≠ .null := fun q => by rw [q] at hi; cases hi
      rw [bm_nol_cat h _ (bm_get_mem as i this)] at hi
      cases hi
  · have hl := lv_entry ([.long x, .long y, .long z] : List Value) (n := bm_nL M) hlen
    refine ⟨hl.1, hl.2.1, fun i hi => ?_, fun i hi => ?_⟩
    · rw [bm_get_pad] at hi ⊢
      match i, hi with
      | 0, _ => exact hl.2.2 (0, .long x) (by simp [lv_args, Value.category])
      | 1, hi => exact absurd rfl hi
      | 2, _ => exact hl.2.2 (2, .long y) (by simp [lv_args, Value.category])
      | 3, hi => exact absurd rfl hi
      | 4, _ => exact hl.2.2 (4, .long z) (by simp [lv_args, Value.category])
      | 5, hi => exact absurd rfl hi
      | n + 6, hi => exact absurd rfl hi
    · rw [bm_get_pad] at hi
      rw [hlg]
      match i, hi with
      | 0, _ => rfl
      | 1, hi => cases hi
      | 2, _ => rfl
      | 3, hi => cases hi
      | 4, _ => rfl
      | 5, hi => cases hi
      | n + 6, hi => cases hi
theorem bm_met_of {n : Nat} (hS : bm_Snd l dC dI ad cI cJ A X fm n) (hD : ∀ σ, va_D A (bm_ws ad cI cJ σ)) (hfm : fm.category = 1) {N : Nat} {as : List Value} {r : Value} {τ : bm_M} (hN : N < 211) (ha : bm_aok N as) (hrun : bm_run bm_code X n N 0 (bm_pad (bm_nL N) (bm_spread as)) [] σ = some (r, τ)) : bm_Met l dC dI ad cI cJ A X fm N as σ r τ := by
  obtain ⟨m1, m2, m3, m4, -⟩ := bm_meta N hN
  refine Met.ofW (cc := bm_cc N) (maxL := bm_nL N) (ret := bm_rt N) m2 rfl ?_
  intro p e s m args below meth c s₁ B hml hv
  obtain ⟨rfl, hP, hK, hRO⟩ := hv
  have hts0 := atoms_spec (ws := bm_wsM N) B.pre
  have hown : s.vm.findClass (bm_y N).cls = some m.cls := findClass_of_methodNamed B.named
  rw [← m3] at hown
  have C : bm_Ctx dC dI ad cI cJ A X fm p (headSpec (bm_wsM N) (bm_rm (bm_dp N))).room s m (as.map (bm_cz ad fm)).toArray c 0 0 N := ⟨B.exec, B.bytes, hml, hown, fun w hw => hts0 w (List.mem_cons_of_mem _ hw), hK, hD, hRO, hfm, Nat.le_refl _, Nat.le_refl _, Nat.le_refl _, Nat.le_refl _⟩
  have h := hS N 0 _ [] σ r τ (by omega) hrun p e _ s m _ below meth c 0 0 (MQ below (bm_Qc dC dI ad cI cJ A fm r τ) (as.map (bm_cz ad fm)).toArray s 0 0 A) C ?_ s.heap [] _ hP va_S.rf (bm_entry hfm ha)
  · rw [m4] at h
    rw [lg_entry_eq]
    exact h
  · intro pcr H locs ls st real hfin hdec hP1 hS1
    have hx := B.exec
    have hb := B.bytes
    have hlocks := B.notSynchronized
    have hrt := B.returns
    rcases hfin with ⟨x, ty, rfl, rfl, rfl, e1, e2⟩ | ⟨rfl, rfl, rfl, e1⟩ | ⟨x, rfl, rfl, rfl, e1⟩ | ⟨x, rfl, rfl, rfl, t, e1⟩
    · exact W.zret hx hb (hrt.trans e1) e2 (fun t ht hW => ⟨⟨rfl, by rw [ht]; exact hP1⟩, hS1.F ht⟩) hS1.2.2 hdec
    · exact W.vret hx hb (hrt.trans e1) (fun t ht hW => ⟨⟨rfl, by rw [ht]; exact hP1⟩, hS1.F ht⟩) hS1.2.2 hdec
    · exact W.lret hx hb (hrt.trans e1) (fun t ht hW => ⟨⟨rfl, by rw [ht]; exact hP1⟩, hS1.F ht⟩) hS1.2.2 hdec
    · exact W.aret hx hb (hrt.trans e1) (Or.inr ⟨t, rfl⟩) (Or.inr ⟨_, rfl⟩) (fun t ht hW => ⟨⟨rfl, by rw [ht]; exact hP1⟩, hS1.F ht⟩) hS1.2.2 hdec
theorem bm_snd (hD : ∀ σ, va_D A (bm_ws ad cI cJ σ)) (hfm : fm.category = 1) (hF : ∀ M j i, M < 212 → bm_nthI (bm_code M) j = some i → bm_fact M j i) : ∀ n, bm_Snd l dC dI ad cI cJ A X fm n
  | 0 => by
    intro M pc L S σ r τ _ h
    cases h
  | n + 1 => by
    intro M pc L S σ r τ hM hrun p e R s m args below meth c cells slots Q C hret
    have ih := bm_snd hD hfm hF n
    have hrun : bm_pick (fun m L τ => bm_run bm_code X n m 0 L [] τ) (fun pc L S τ => bm_run bm_code X n M pc L S τ) (bm_altO X (bm_nthI (bm_code M) pc) pc L S σ) = some (r, τ) := hrun
    cases hi : bm_nthI (bm_code M) pc with
    | none =>
      rw [hi] at hrun
      cases hrun
    | some i =>
      rw [hi] at hrun
      exact bm_step C (hF M pc i hM hi) hrun (fun pc L S σ h => ih M pc L S σ r τ hM h p e R s m args below meth c cells slots Q C hret) (fun N as σ r' τ' hN ha h => bm_met_of ih hD hfm hN ha h) hret
end BW
