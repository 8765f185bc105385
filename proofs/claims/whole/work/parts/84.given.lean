/-! WHAT IS GIVEN at the start: arrays of numbers, texts -/
def gv_fl : List Cond := flatC (Jvm.Cond.and given_1 narrow_1)
def gv_tm (i : Nat) : Term := if i < 14 then .string "BellMilk$Tape" (bm_nth [119, 121, 123, 125, 127, 129, 131, 89, 98, 102, 106, 62, 71, 76] i) else .string "BellMilkModel" 317
set_option maxRecDepth 100000 in
theorem gv_ex : ∀ i, i < 15 → Cond.exactly (gv_tm i) "java/lang/String" ∈ gv_fl := by decide +kernel
set_option maxRecDepth 100000 in
theorem gv_co : ∀ i, i < 15 → Cond.eq (.field (gv_tm i) "java/lang/String" "coder" "B") (.int 0) ∈ gv_fl := by decide +kernel
set_option maxRecDepth 100000 in
theorem gv_ar : ∀ i, i < 15 → Cond.arrayOf (.field (gv_tm i) "java/lang/String" "value" "[B") .byte ∈ gv_fl := by decide +kernel
set_option maxRecDepth 100000 in
theorem gv_le : ∀ i, i < 15 → Cond.eq (.length (.field (gv_tm i) "java/lang/String" "value" "[B")) (.int (Int32.ofNat (bm_slen.getD i 0))) ∈ gv_fl := by decide +kernel
set_option maxRecDepth 100000 in
theorem gv_el : ∀ i, i < 15 → ∀ j, j < bm_slen.getD i 0 → Cond.eq (.elem (.field (gv_tm i) "java/lang/String" "value" "[B") (.int (Int32.ofNat j))) (.int ((bm_sbyt.getD i []).getD j 0)) ∈ gv_fl := by decide +kernel
theorem gv_sm : ∀ i, i < 15 → bm_slen.getD i 0 < 10 := by decide +kernel
theorem gv_df : ∀ i, i < 15 → ∀ j, j < 15 → bm_slen.getD i 0 = bm_slen.getD j 0 → (∀ t, t < bm_slen.getD i 0 → (bm_sbyt.getD i []).getD t 0 = (bm_sbyt.getD j []).getD t 0) → i = j := by decide +kernel
set_option maxRecDepth 100000 in
theorem gv_sr : ∀ q ∈ bm_strs, Cond.stringRef (bm_cn q.1) q.2.2 (bm_tx q.2.1) ∈ lw_tbl := by decide +kernel
set_option maxRecDepth 100000 in
theorem gv_pr : ∀ q ∈ bm_strs, q.2.1 < 15 ∧ (Term.string (bm_cn q.1) q.2.2 = gv_tm q.2.1 ∨ Cond.eq (gv_tm q.2.1) (Term.string (bm_cn q.1) q.2.2) ∈ gv_fl) := by decide +kernel
theorem gv_one {args : Array Value} {s : State} {A : Nat → Prop} (hs : ∀ w ∈ gv_fl, w.before args s = true) (hA : ∀ a : Nat, a < s.heap.size → ¬ A a) {i : Nat} (hi : i < 15) : ∃ k v : Nat, (gv_tm i).eval args s none [] s = some (.ref k) ∧ va_O "java/lang/String" k A s s.heap ∧ va_OF "java/lang/String" "coder" "B" (.int 0) k A s s.heap ∧ va_OF "java/lang/String" "value" "[B" (.ref v) k A s s.heap ∧ va_T .byte v (bm_slen.getD i 0) (fun j => .int ((bm_sbyt.getD i []).getD j 0)) A s s.heap := by
  obtain ⟨adK, adV, h1, h2⟩ := vk_Sof (args := args) (s := s) (N := 1) (tm := fun _ => gv_tm i) (len := [bm_slen.getD i 0]) (byt := [bm_sbyt.getD i []]) (A := A)
    (fun j hj => by
      have := gv_sm i hi
      have h0 : j = 0 := by omega
      subst h0
      show bm_slen.getD i 0 < 2 ^ 31
      omega)
    (fun j hj => hs _ (gv_ex i hi)) (fun j hj => hs _ (gv_co i hi)) (fun j hj => hs _ (gv_ar i hi))
    (fun j hj => by
      have h0 : j = 0 := by omega
      subst h0
      exact hs _ (gv_le i hi))
    (fun j hj t ht => by
      have h0 : j = 0 := by omega
      subst h0
      exact hs _ (gv_el i hi t ht))
    (fun j t hj ht hne => absurd (by omega) hne) hA
  obtain ⟨g1, g2, g3, g4⟩ := h1.1 0 (by decide)
  exact ⟨adK 0, adV 0, h2 0 (by decide), g1, g2, g3, g4⟩
theorem gv_S {args : Array Value} {s : State} {A : Nat → Prop} (hs : ∀ w ∈ gv_fl, w.before args s = true) (hA : ∀ a : Nat, a < s.heap.size → ¬ A a) : ∃ adK adV : Nat → Nat, vk_S 15 bm_slen bm_sbyt adK adV A s s.heap ∧ ∀ i, i < 15 → (gv_tm i).eval args s none [] s = some (.ref (adK i)) := by
  have h0 : ∀ i : Nat, ∃ q : Nat × Nat, i < 15 → (gv_tm i).eval args s none [] s = some (.ref q.1) ∧ va_O "java/lang/String" q.1 A s s.heap ∧ va_OF "java/lang/String" "coder" "B" (.int 0) q.1 A s s.heap ∧ va_OF "java/lang/String" "value" "[B" (.ref q.2) q.1 A s s.heap ∧ va_T .byte q.2 (bm_slen.getD i 0) (fun j => .int ((bm_sbyt.getD i []).getD j 0)) A s s.heap := by
    intro i
    by_cases hi : i < 15
    · obtain ⟨k, v, h⟩ := gv_one hs hA hi
      exact ⟨(k, v), fun _ => h⟩
    · exact ⟨(0, 0), fun h => absurd h hi⟩
  obtain ⟨ad, had⟩ := Classical.axiomOfChoice h0
  refine ⟨fun i => (ad i).1, fun i => (ad i).2, ⟨fun i hi => (had i hi).2, fun i j hi hj e => ?_⟩, fun i hi => (had i hi).1⟩
  have e : (ad i).1 = (ad j).1 := e
  obtain ⟨-, -, -, ⟨cf, k, n, f, cell, a1, a2, a3, a4, a5, a6⟩, ⟨ce, b1, b2, b3, b4, b5, b6, b7⟩⟩ := had i hi
  obtain ⟨-, -, -, ⟨cf', k', n', f', cell', a1', a2', a3', a4', a5', a6'⟩, ⟨ce', b1', b2', b3', b4', b5', b6', b7'⟩⟩ := had j hj
  cases Option.some.inj (a1.symm.trans a1')
  rw [← e] at a3'
  cases Option.some.inj (a3.symm.trans a3')
  have ev : (ad i).2 = (ad j).2 := by
    exact Value.ref.inj (Option.some.inj (a5.symm.trans a5'))
  rw [← ev] at b1'
  cases Option.some.inj (b1.symm.trans b1')
  have s1 := gv_sm i hi
  have s2 := gv_sm j hj
  have el : bm_slen.getD i 0 = bm_slen.getD j 0 := (nI_eq (by omega) (by omega)).mp (b5.symm.trans b5')
  refine gv_df i hi j hj el (fun t ht => ?_)
  have q1 := b6 t ht
  have q2 := b6' t (by omega)
  exact Value.int.inj (Option.some.inj (q1.symm.trans q2))
theorem gv_R {args : Array Value} {s : State} {adK : Nat → Nat} (hs : ∀ w ∈ gv_fl, w.before args s = true) (ht : ∀ w ∈ lw_tbl, w.before args s = true) (hk : ∀ i, i < 15 → (gv_tm i).eval args s none [] s = some (.ref (adK i))) : ∀ q ∈ bm_strs, vk_R (bm_cn q.1) q.2.2 (bm_tx q.2.1) (adK q.2.1) s := by
  intro q hq
  obtain ⟨h1, h2⟩ := gv_pr q hq
  refine vk_R.of (A := args) (ht _ (gv_sr q hq)) ?_
  rcases h2 with h2 | h2
  · rw [h2]
    exact hk _ h1
  · exact va_eqR (hs _ h2) (hk _ h1)
theorem gv_arr {args : Array Value} {s : State} {A : Nat → Prop} (X : bm_X) (nm : String) (k : Nat) (hk : k ≠ 55) (hs : ∀ w ∈ gv_fl, w.before args s = true) (ht : ∀ w ∈ lw_tbl, w.before args s = true) (hA : ∀ a : Nat, a < s.heap.size → ¬ A a) (hl : Cond.laysStatic "BellMilk" nm "[I" ∈ lw_tbl) (h1 : Cond.arrayOf (.static "BellMilk" nm "[I") .int ∈ gv_fl) (h2 : Cond.eq (.length (.static "BellMilk" nm "[I")) (.int (Int32.ofNat 7)) ∈ gv_fl) (h3 : ∀ j, j < 7 → Cond.eq (.elem (.static "BellMilk" nm "[I") (.int (Int32.ofNat j))) (.int (bm_nth32 (bm_nthL bm_rvs k) j)) ∈ gv_fl) : ∃ t : Nat, va_Z "BellMilk" nm "[I" (.ref t) A s s.heap ∧ va_T .int t 7 (fun j => .int (bm_rv X k j)) A s s.heap := by
  have er : ∀ j, bm_rv X k j = bm_nth32 (bm_nthL bm_rvs k) j := fun j => by
    unfold bm_rv
    split
    · exact absurd rfl hk
    · rfl
  obtain ⟨t, e, hT⟩ := va_Tof (args := args) (s := s) (tm := .static "BellMilk" nm "[I") (ty := .int) (N := 7) (f := fun j => .int (bm_rv X k j)) (A := A) (by decide) (hs _ h1) (va_eqt (hs _ h2)) (fun j hj => by rw [er]; exact va_eqt (hs _ (h3 j hj))) hA
  exact ⟨t, va_Zof (ht _ hl) (ht (Cond.initialized "BellMilk") (List.mem_of_getElem? (i := 72) (by decide +kernel))) e hA, hT⟩
set_option maxRecDepth 100000 in
theorem gv_EATS : Cond.laysStatic "BellMilk" "EATS" "[I" ∈ lw_tbl ∧ Cond.arrayOf (.static "BellMilk" "EATS" "[I") .int ∈ gv_fl ∧ Cond.eq (.length (.static "BellMilk" "EATS" "[I")) (.int (Int32.ofNat 7)) ∈ gv_fl ∧ ∀ j, j < 7 → Cond.eq (.elem (.static "BellMilk" "EATS" "[I") (.int (Int32.ofNat j))) (.int (bm_nth32 (bm_nthL bm_rvs 56) j)) ∈ gv_fl := by decide +kernel
set_option maxRecDepth 100000 in
theorem gv_ABOVE : Cond.laysStatic "BellMilk" "ABOVE" "[I" ∈ lw_tbl ∧ Cond.arrayOf (.static "BellMilk" "ABOVE" "[I") .int ∈ gv_fl ∧ Cond.eq (.length (.static "BellMilk" "ABOVE" "[I")) (.int (Int32.ofNat 7)) ∈ gv_fl ∧ ∀ j, j < 7 → Cond.eq (.elem (.static "BellMilk" "ABOVE" "[I") (.int (Int32.ofNat j))) (.int (bm_nth32 (bm_nthL bm_rvs 57) j)) ∈ gv_fl := by decide +kernel
set_option maxRecDepth 100000 in
theorem gv_MOST : Cond.laysStatic "BellMilk" "MOST_OF" "[I" ∈ lw_tbl ∧ Cond.arrayOf (.static "BellMilk" "MOST_OF" "[I") .int ∈ gv_fl ∧ Cond.eq (.length (.static "BellMilk" "MOST_OF" "[I")) (.int (Int32.ofNat 7)) ∈ gv_fl ∧ ∀ j, j < 7 → Cond.eq (.elem (.static "BellMilk" "MOST_OF" "[I") (.int (Int32.ofNat j))) (.int (bm_nth32 (bm_nthL bm_rvs 58) j)) ∈ gv_fl := by decide +kernel
set_option maxRecDepth 100000 in
theorem gv_COMP : Cond.eq (.static "java/lang/String" "COMPACT_STRINGS" "Z") (.int 1) ∈ gv_fl ∧ Cond.laysStatic "java/lang/String" "COMPACT_STRINGS" "Z" ∈ lw_tbl ∧ Cond.initialized "java/lang/String" ∈ lw_tbl := by decide +kernel
set_option maxRecDepth 100000 in
theorem gv_FORM : Cond.isRef (.static "jdk/internal/util/Preconditions" "SIOOBE_FORMATTER" "Ljava/util/function/BiFunction;") ∈ gv_fl ∧ Cond.laysStatic "jdk/internal/util/Preconditions" "SIOOBE_FORMATTER" "Ljava/util/function/BiFunction;" ∈ lw_tbl ∧ Cond.initialized "jdk/internal/util/Preconditions" ∈ lw_tbl := by decide +kernel
theorem gv_NEST : Cond.fieldLinkNest "BellMilk$Herd" 74 "BellMilk" "EATS" "[I" "BellMilk" ∈ lw_tbl ∧ Cond.methodLinkNest RX2 24 iyX1 RX2 ∈ lw_tbl ∧ Cond.arrayOver (.array .int) ∈ lw_tbl := ⟨List.mem_of_getElem? (i := 302) (by decide +kernel), List.mem_of_getElem? (i := 168) (by decide +kernel), List.mem_of_getElem? (i := 198) (by decide +kernel)⟩
theorem gv_RO {args : Array Value} {s : State} {A : Nat → Prop} {b L : Nat} {xs : Nat → Int32} (hs : ∀ w ∈ gv_fl, w.before args s = true) (ht : ∀ w ∈ lw_tbl, w.before args s = true) (hA : ∀ a : Nat, a < s.heap.size → ¬ A a) (hX : va_X b L xs s s.heap) (hb : b < s.heap.size) : ∃ (rd : Nat → Nat) (fm : Value), rd 55 = b ∧ fm.category = 1 ∧ ∀ ad : Nat → Nat, (∀ k, 55 ≤ k → ad k = rd k) → bm_RO A ad fm (L, xs) s := by
  obtain ⟨t6, z6, y6⟩ := gv_arr (L, xs) "EATS" 56 (by decide) hs ht hA gv_EATS.1 gv_EATS.2.1 gv_EATS.2.2.1 gv_EATS.2.2.2
  obtain ⟨t7, z7, y7⟩ := gv_arr (L, xs) "ABOVE" 57 (by decide) hs ht hA gv_ABOVE.1 gv_ABOVE.2.1 gv_ABOVE.2.2.1 gv_ABOVE.2.2.2
  obtain ⟨t8, z8, y8⟩ := gv_arr (L, xs) "MOST_OF" 58 (by decide) hs ht hA gv_MOST.1 gv_MOST.2.1 gv_MOST.2.2.1 gv_MOST.2.2.2
  obtain ⟨adK, adV, hS, hk⟩ := gv_S hs hA
  have hR := gv_R hs ht hk
  have zc := va_Zof (A := A) (ht _ gv_COMP.2.1) (ht _ gv_COMP.2.2) (va_eqi (hs _ gv_COMP.1)) hA
  obtain ⟨fm, hfc, zf⟩ : ∃ fm : Value, fm.category = 1 ∧ va_Z "jdk/internal/util/Preconditions" "SIOOBE_FORMATTER" "Ljava/util/function/BiFunction;" fm A s s.heap := by
    rcases va_Zqof (A := A) (ht _ gv_FORM.2.1) (ht _ gv_FORM.2.2) (hs _ gv_FORM.1) hA with h | ⟨t, h⟩
    · exact ⟨.null, rfl, h⟩
    · exact ⟨.ref t, rfl, h⟩
  have hT : va_T .int b L (fun j => .int (xs j)) A s s.heap := by
    obtain ⟨scr, q1, q2, q3, q4, q5⟩ := hX
    exact ⟨scr, q1, q2, q3, by omega, by rw [q4], q5, hA b hb⟩
  refine ⟨fun k => if k = 55 then b else if k = 56 then t6 else if k = 57 then t7 else if k = 58 then t8 else if k < 80 then adK (k - 60) else adV (k - 80), fm, rfl, hfc, fun ad had => ?_⟩
  have e5 : ad 55 = b := by rw [had 55 (by decide)]; rfl
  have e6 : ad 56 = t6 := by rw [had 56 (by decide)]; rfl
  have e7 : ad 57 = t7 := by rw [had 57 (by decide)]; rfl
  have e8 : ad 58 = t8 := by rw [had 58 (by decide)]; rfl
  have eK : ∀ i, i < 15 → ad (60 + i) = adK i := fun i hi => by
    rw [had _ (by omega)]
    dsimp only
    rw [if_neg (by omega), if_neg (by omega), if_neg (by omega), if_neg (by omega), if_pos (by omega), show 60 + i - 60 = i by omega]
  have eV : ∀ i, i < 15 → ad (80 + i) = adV i := fun i hi => by
    rw [had _ (by omega)]
    dsimp only
    rw [if_neg (by omega), if_neg (by omega), if_neg (by omega), if_neg (by omega), if_neg (by omega), show 80 + i - 80 = i by omega]
  refine ⟨by rw [e5]; exact hT, by rw [e6]; exact ⟨z6, y6⟩, by rw [e7]; exact ⟨z7, y7⟩, by rw [e8]; exact ⟨z8, y8⟩, zc, zf, ⟨fun i hi => ?_, fun i j hi hj e => ?_⟩, fun q hq => ?_, va_Nw.of rfl (ht _ gv_NEST.1)⟩
  · have := hS.1 i hi
    show va_O "java/lang/String" (ad (60 + i)) A s s.heap ∧ va_OF "java/lang/String" "coder" "B" (.int 0) (ad (60 + i)) A s s.heap ∧ va_OF "java/lang/String" "value" "[B" (.ref (ad (80 + i))) (ad (60 + i)) A s s.heap ∧ va_T .byte (ad (80 + i)) _ _ A s s.heap
    rw [eK i hi, eV i hi]
    exact this
  · have e : ad (60 + i) = ad (60 + j) := e
    rw [eK i hi, eK j hj] at e
    exact hS.2 i j hi hj e
  · rw [eK _ (gv_pr q hq).1]
    exact hR q hq
