/-! FOUR ROWS OF FORTY NUMBERS at once -/
def gd_o (cJ : ClassId) (h i : Nat) : Cell := arrV cJ 4 (fun j => va_rf (if j < i then some (h + 1 + j) else none))
def gd_r (cI : ClassId) : Cell := arrV cI 40 (fun _ => .int 0)
def gd_s (s : State) (cJ cI : ClassId) : Nat → State
  | 0 => s.pushCell (gd_o cJ s.heap.size 0)
  | i + 1 => ((gd_s s cJ cI i).pushCell (gd_r cI)).setCell s.heap.size (gd_o cJ s.heap.size (i + 1))
theorem gd_o_next (cJ : ClassId) (h i : Nat) : (gd_o cJ h i).setSlot i (.ref (h + 1 + i)) = gd_o cJ h (i + 1) := by
  unfold gd_o
  rw [arrV_store]
  refine congrArg (arrV cJ 4) (funext fun j => ?_)
  unfold updV
  by_cases e : j = i
  · subst e
    rw [if_pos rfl, if_pos (Nat.lt_succ_self j)]
    rfl
  · rw [if_neg e]
    show va_rf (if j < i then some (h + 1 + j) else none) = _
    by_cases q : j < i
    · rw [if_pos q, if_pos (Nat.lt_succ_of_lt q)]
    · rw [if_neg q, if_neg (by omega)]
theorem gd_o_is (cJ : ClassId) (h i : Nat) : (gd_o cJ h i).cls = cJ ∧ (gd_o cJ h i).vm = .none ∧ (gd_o cJ h i).slots.size = 4 := ⟨rfl, rfl, arrV_size _ _ _⟩
theorem gd_is (s : State) (cJ cI : ClassId) : ∀ i, (gd_s s cJ cI i).heap.size = s.heap.size + 1 + i ∧ (gd_s s cJ cI i).heap[s.heap.size]? = some (gd_o cJ s.heap.size i) ∧ (gd_s s cJ cI i).vm = s.vm ∧ (gd_s s cJ cI i).slotsUsed = s.slotsUsed + 4 + i * 40
  | 0 => ⟨by simp [gd_s], by simp [gd_s], rfl, by simp [gd_s, (gd_o_is cJ s.heap.size 0).2.2]⟩
  | i + 1 => by
    obtain ⟨f1, f2, f3, f4⟩ := gd_is s cJ cI i
    have hr : (gd_r cI).slots.size = 40 := arrV_size _ _ _
    have hlt : s.heap.size < (gd_s s cJ cI i).heap.size := by omega
    have hb : ((gd_s s cJ cI i).pushCell (gd_r cI)).heap[s.heap.size]? = some (gd_o cJ s.heap.size i) := by rw [State.heap_pushCell_of_lt (h := hlt)]; exact f2
    refine ⟨?_, State.heap_setCell_self hb, by simp [gd_s, f3], ?_⟩
    · simp [gd_s, State.setCell, f1]; omega
    · simp [gd_s, f4, hr]; omega
theorem gd_top (s : State) (f : JFrame) (cJ cI : ClassId) : ∀ i, gd_s (s.setTop f) cJ cI i = (gd_s s cJ cI i).setTop f
  | 0 => rfl
  | i + 1 => by simp only [gd_s, gd_top s f cJ cI i, State.heap_setTop, State.pushCell_setTop, State.setCell_setTop]
theorem gd_old (s : State) (cJ cI : ClassId) {a : Addr} (ha : a < s.heap.size) : ∀ i, (gd_s s cJ cI i).heap[a]? = s.heap[a]?
  | 0 => State.heap_pushCell_of_lt _ _ ha
  | i + 1 => by
    have f1 := (gd_is s cJ cI i).1
    have hlt : a < (gd_s s cJ cI i).heap.size := Nat.lt_of_lt_of_le ha (by rw [f1]; omega)
    show (((gd_s s cJ cI i).pushCell (gd_r cI)).setCell s.heap.size _).heap[a]? = _
    rw [State.heap_setCell_other (Nat.ne_of_gt ha), State.heap_pushCell_of_lt (h := hlt)]
    exact gd_old s cJ cI ha i
theorem gd_row (s : State) (cJ cI : ClassId) : ∀ i j, j < i → (gd_s s cJ cI i).heap[s.heap.size + 1 + j]? = some (gd_r cI)
  | 0, _, h => absurd h (Nat.not_lt_zero _)
  | i + 1, j, h => by
    have f1 := (gd_is s cJ cI i).1
    show (((gd_s s cJ cI i).pushCell (gd_r cI)).setCell s.heap.size _).heap[s.heap.size + 1 + j]? = _
    rw [State.heap_setCell_other (show s.heap.size ≠ s.heap.size + 1 + j by omega)]
    by_cases q : j < i
    · have hlt : s.heap.size + 1 + j < (gd_s s cJ cI i).heap.size := by rw [f1]; omega
      rw [State.heap_pushCell_of_lt (h := hlt)]
      exact gd_row s cJ cI i j q
    · have e : s.heap.size + 1 + j = (gd_s s cJ cI i).heap.size := by rw [f1]; omega
      rw [e]
      simp
section GD
variable {E : CtlPost} {e : Env} {d : Bool} {acts : List Action} {s : State}
theorem gd_make1 {cI cc : ClassId} {kc : Class} (hkc : s.vm.classes[cI]? = some kc) (hkindc : kc.kind = .array cc .int) (hl : ¬ 40 > e.platform.arrayLengthLimit) (hh : ¬ 160 > e.platform.maxHeapBytes) (h1 : s.heap.size < e.platform.maxCells) (h2 : s.slotsUsed + 40 ≤ e.platform.maxSlots)
    {Q : Addr → Pre} (hq : ∀ acts', Q s.heap.size d acts' (s.pushCell (gd_r cI))) : wp (Op.multianewarray.make cI [nI 40]) Q E e d acts s := by
  rw [Op.multianewarray.make]
  simp only [wp_bind', W.ite, show ¬ nI 40 < 0 by decide, if_false, wp_pure', W.theClass, hkc, hkindc, Option.some.injEq, exists_eq_left']
  refine W.newArray_of hkc hkindc hl hh h1 h2 (by decide) (fun acts' => ?_)
  have := hq acts'
  unfold gd_r at this
  rw [← arrV_new] at this
  exact this
theorem gd_make {cJ cI cc : ClassId} {k kc : Class} (hk : s.vm.classes[cJ]? = some k) (hkind : k.kind = .array cI (.array .int)) (hkc : s.vm.classes[cI]? = some kc) (hkindc : kc.kind = .array cc .int) (hl : ¬ 40 > e.platform.arrayLengthLimit) (hh : ¬ 160 > e.platform.maxHeapBytes)
    (hc : s.heap.size + 5 ≤ e.platform.maxCells) (hs : s.slotsUsed + 164 ≤ e.platform.maxSlots) {Q : Addr → Pre} (hq : ∀ d' acts', Q s.heap.size d' acts' (gd_s s cJ cI 4)) : wp (Op.multianewarray.make cJ [nI 4, nI 40]) Q E e d acts s := by
  have hfind : ([nI 40].find? (· < 0)) = none := by decide
  rw [Op.multianewarray.make]
  simp only [wp_bind', W.ite, show ¬ nI 4 < 0 by decide, if_false, wp_pure', W.theClass, hk, hkind, Option.some.injEq, exists_eq_left']
  rw [show (nI 4).toNatClampNeg = 4 by decide]
  refine W.newArray_of hk hkind (by omega) (by show ¬ 4 * 4 > _; omega) (by omega) (by omega) (by rfl) (fun acts1 => ?_)
  simp only [hfind]
  rw [ite_self, wp_bind', Std.Legacy.Range.forIn_eq_forIn_range']
  have hsz : ([:4] : Std.Legacy.Range).size = 4 := by simp [Std.Legacy.Range.size]
  rw [hsz]
  show wp (forIn (List.range' 0 4 1) PUnit.unit _) _ E e d acts1 _
  refine wp_forIn_inv (fun rest s' => ∃ i, i ≤ 4 ∧ rest = List.range' i (4 - i) ∧ s' = gd_s s cJ cI i) _ _ ⟨0, Nat.zero_le _, rfl, ?_⟩ ?_ ?_
  · show _ = s.pushCell (gd_o cJ s.heap.size 0)
    unfold gd_o
    rw [arrV_new]
    rfl
  · rintro x rest s' d' acts' Q' ⟨i, hi, hr, rfl⟩ hnext
    have hlt : i < 4 := by
      rcases Nat.lt_or_ge i 4 with q | q
      · exact q
      · rw [show 4 - i = 0 by omega] at hr; cases hr
    rw [show 4 - i = (4 - (i + 1)) + 1 by omega, List.range'_succ] at hr
    obtain ⟨rfl, hrest⟩ := List.cons.inj hr
    obtain ⟨f1, f2, f3, f4⟩ := gd_is s cJ cI x
    obtain ⟨o1, o2, o3⟩ := gd_o_is cJ s.heap.size x
    have hlt0 : s.heap.size < (gd_s s cJ cI x).heap.size := by rw [f1]; omega
    simp only [wp_bind']
    refine gd_make1 (by rw [f3]; exact hkc) hkindc hl hh (by rw [f1]; omega) (by rw [f4]; omega) (fun acts2 => ?_)
    simp only [wp_bind', W.writeLoc, wp_pure']
    refine ⟨gd_o cJ s.heap.size x, by rw [State.heap_pushCell_of_lt (h := hlt0)]; exact f2, by rw [o2]; simp, by rw [o3]; exact hlt, ?_, hnext _ _ _ ⟨x + 1, hlt, hrest, ?_⟩⟩
    · rw [o1, o2]
      simp [State.fitsSlot, State.slotType?, f3, hk, hkind]
      rfl
    · rw [f1, gd_o_next]
      rfl
  · rintro s' d' acts' ⟨i, hi, hr, rfl⟩
    have h4 : i = 4 := by
      rcases Nat.lt_or_ge i 4 with q | q
      · rw [show 4 - i = (4 - (i + 1)) + 1 by omega, List.range'_succ] at hr; cases hr
      · omega
    subst h4
    simp only [wp_pure']
    exact hq _ _
end GD
theorem gd_over {args : Array Value} {s : State} (h : (Cond.arrayOver (.array .int)).before args s = true) : ∃ comp c k, s.vm.findClass (FieldType.array .int).toString = some comp ∧ s.vm.classes[c]? = some k ∧ k.kind = .array comp (.array .int) ∧ s.vm.findClass ("[" ++ (FieldType.array .int).toString) = some c := by
  unfold Cond.before at h
  simp only [Cond.holds, Cond.value, beq_iff_eq] at h
  cases hc : s.vm.findClass (FieldType.array .int).toString with
  | none => simp [hc] at h
  | some comp =>
    simp only [hc, Option.bind_some, Option.bind_eq_some_iff, Option.map_eq_some_iff] at h
    obtain ⟨c, hi, k, hk, hb⟩ := h
    obtain ⟨hlt, hp, -⟩ := Array.findIdx?_eq_some_iff_getElem.mp hi
    have hkk : s.vm.classes[c] = k := (Array.getElem?_eq_some_iff.mp hk).2
    rw [hkk] at hp
    cases hkind : k.kind with
    | array component ty =>
      rw [hkind] at hb hp
      simp at hb hp
      exact ⟨comp, c, k, rfl, hk, by rw [hkind, hp, hb.1], hb.2⟩
    | _ => rw [hkind] at hb; simp at hb
/-- the class of arrays of rows -/
def gd_AO (cI cJ : ClassId) (U : State) : Prop := ∃ k : Class, U.vm.classes[cJ]? = some k ∧ k.kind = .array cI (.array .int) ∧ U.vm.findClass ("[" ++ (FieldType.array .int).toString) = some cJ
theorem gd_AO.moved {cI cJ : ClassId} {u U : State} (hvm : u.vm.Alike U.vm) (h : gd_AO cI cJ u) : gd_AO cI cJ U := by
  obtain ⟨k, h1, h2, h3⟩ := h
  obtain ⟨k', hk', he⟩ := hvm.2.2 _ _ h1
  exact ⟨k', hk', by rw [he]; exact h2, by rw [hvm.findClass]; exact h3⟩
section GE
variable {p : Program} {l : Launch} {e : Env} {R : Room} {s : State} {m : MethodId} {args : Array Value} {below : List Frame} {meth : Method} {c : Code} {T : State} {locs : List Loc} {cells slots : Nat}
theorem gd_stand (X : Stand p l e R s m args below meth c T locs cells slots) (cJ cI : ClassId) : ∀ i, Stand p l e R s m args below meth c (gd_s T cJ cI i) (locs ++ (List.range i).map fun j => ⟨T.heap.size, j⟩) (cells + 1 + i) (slots + 4 + i * 40)
  | 0 => by
    have h := X.pushed (gd_o cJ T.heap.size 0)
    rw [(gd_o_is cJ T.heap.size 0).2.2] at h
    simpa [gd_s] using h
  | i + 1 => by
    have Xi := gd_stand X cJ cI i
    obtain ⟨f1, f2, f3, f4⟩ := gd_is T cJ cI i
    have hlt0 : T.heap.size < (gd_s T cJ cI i).heap.size := by rw [f1]; omega
    have hcell : ((gd_s T cJ cI i).pushCell (gd_r cI)).heap[T.heap.size]? = some (gd_o cJ T.heap.size i) := by rw [State.heap_pushCell_of_lt (h := hlt0)]; exact f2
    have h := (Xi.pushed (gd_r cI)).stored hcell i (.ref (T.heap.size + 1 + i))
    rw [show (gd_r cI).slots.size = 40 from arrV_size _ _ _, gd_o_next] at h
    rw [show (locs ++ (List.range (i + 1)).map fun j => (⟨T.heap.size, j⟩ : Loc)) = (locs ++ (List.range i).map fun j => (⟨T.heap.size, j⟩ : Loc)) ++ [⟨T.heap.size, i⟩] by simp [List.range_succ, List.append_assoc], show slots + 4 + (i + 1) * 40 = slots + 4 + i * 40 + 40 by omega]
    exact h
theorem gd_step (X : Stand p l e R s m args below meth c T locs cells slots) (hexec : p.tables.exec = Jvm.exec) {own : String} {index : Nat} {cI cJ : ClassId} (hown : s.vm.findClass own = some m.cls) (hclink : (Cond.classLink own index ("[" ++ (FieldType.array .int).toString)).before args s = true) (hAO : gd_AO cI cJ s) (hcI : s.vm.findClass (FieldType.array .int).toString = some cI) (harr : (Cond.arrayClass .int).before args s = true)
    {g : JFrame} (hg : g.method = m) (hdg : decode c.code g.pc = .ok (.multianewarray index 2, 4)) {rest : List Value} (hstack : g.stack = .int (nI 40) :: .int (nI 4) :: rest) (hcells : cells + 5 ≤ R.cells) (hslots : slots + 164 ≤ R.slots) :
    ∃ (vm₁ : Vm), s.WarmedH vm₁ ∧ Stand p l e R s m args below meth c (gd_s (T.setVm vm₁) cJ cI 4) (locs ++ (List.range 4).map fun j => ⟨T.heap.size, j⟩) (cells + 1 + 4) (slots + 4 + 4 * 40) ∧
      ∀ target, Steps p.tables e below ((gd_s (T.setVm vm₁) cJ cI 4).setTop { g with pc := g.pc + 4, stack := .ref T.heap.size :: rest }) target → Steps p.tables e below (T.setTop g) target := by
  subst hg
  have hpl : e.platform.magicAccessors = ({} : Platform).magicAccessors := by rw [X.admits.platform]
  obtain ⟨kA, hkA, hkindA, hnameA⟩ := hAO
  obtain ⟨comp', kC, cc, hcomp', hkC, hkindC⟩ := Cond.arrayClass_spec harr
  have ecomp : cI = comp' := Option.some.inj (hcI.symm.trans hcomp')
  subst ecomp
  obtain ⟨c0, hfc0, hcl⟩ := Cond.classLink_spec hown hclink e.platform hpl
  cases hnameA.symm.trans hfc0
  obtain ⟨hg₁, hwarm₁, hready₁⟩ := State.classEntry (e := e) X.warmed hcl
  generalize T.vm.noted g.method.cls index (.cls cJ) = vm₁ at hg₁ hwarm₁ hready₁
  obtain ⟨kA₁, hkA₁, heA⟩ := hwarm₁.alike.2.2 _ _ hkA
  obtain ⟨kC₁, hkC₁, heC⟩ := hwarm₁.alike.2.2 _ _ hkC
  have hkindA₁ : kA₁.kind = .array cI (.array .int) := by rw [heA]; exact hkindA
  have hkindC₁ : kC₁.kind = .array cc .int := by rw [heC]; exact hkindC
  have X₁ := X.noted hwarm₁
  obtain ⟨hr1, hr2⟩ := X.roomAbove hcells hslots
  refine ⟨vm₁, hwarm₁, gd_stand X₁ cJ cI 4, fun target hrest => ?_⟩
  have hl : ¬ 40 > e.platform.arrayLengthLimit := by rw [Launch.admits_arrayLengthLimit X.admits]; decide
  have hh : ¬ 160 > e.platform.maxHeapBytes := by rw [Launch.admits_maxHeapBytes X.admits]; decide
  jvm_step X.here [hexec, hdg]
  simp only [multianewarray.sem, wp_bind', W.resolveClassAt_links (State.method?_setTop g X.here.top) hg₁]
  rw [W.popN, if_neg (by decide)]
  refine ⟨g, State.topJava?_setTop' (s := T.setVm vm₁) g X.here.top, [.int (nI 4), .int (nI 40)], rest, rfl, hstack, ?_⟩
  simp only [List.mapM_cons, List.mapM_nil, wp_bind', wp_pure']
  refine gd_make (k := kA₁) (kc := kC₁) hkA₁ hkindA₁ hkC₁ hkindC₁ hl hh (by show T.heap.size + 5 ≤ _; omega) (by show T.slotsUsed + 164 ≤ _; omega) (fun d' acts' => ?_)
  have XF := gd_stand X₁ cJ cI 4
  have eS : ((T.setTop g).setVm vm₁).setTop { g with stack := rest } = (T.setVm vm₁).setTop { g with stack := rest } := by
    show ((T.setVm vm₁).setTop g).setTop _ = _
    rw [State.setTop_setTop]
  rw [eS, gd_top]
  simp only [wp_bind', W.mark, W.pushRef, State.topJava?_setTop' _ XF.here.top, Option.some.injEq, exists_eq_left', State.setTop_setTop, State.heap_setTop]
  intro acts
  simp [jvm, XF.here.top]
  exact hrest
end GE
section GF
variable {p : Program} {l : Launch} {e : Env} {R : Room} {s : State} {m : MethodId} {args : Array Value} {below : List Frame} {meth : Method} {c : Code} {H : Heap} {locs : List Loc} {cells slots : Nat} {Q : State → Prop}
variable {cc : ByteArray} {pc : Nat} {ls : Array Slot} {rest : List Value} {D : va_G} {cl : List vw_C} {A : Nat → Prop} {tys : List (ClassId × FieldType)} {ws : va_W} {H0 : Heap} {cI cJ : ClassId}
theorem gd_newa (hexec : p.tables.exec = Jvm.exec) (hb : c.code = cc) (harr : (Cond.arrayClass .int).before args s = true) (hK : va_K D cl tys s) (t0 : Nat) (ht : tys[t0]? = some (cI, .int)) (hP : va_P D cl ws H) (hD : va_D A ws) (hS : va_S A H0 H locs) (hA : ∀ q, H0.size ≤ q → A q) {n : Int32} {N' : Nat} (hn : ¬ n < 0) (hN : n.toNatClampNeg = N') (hbytes : N' * componentBytes .int ≤ 536870912) (hcells : cells + 1 ≤ R.cells) (hslots : slots + N' ≤ R.slots) (hdg : decode cc pc = .ok (.newarray .int, 2))
    (kk : ∀ (q : Nat) (H1 : Heap), va_P D cl (ws ++ [(q, .inl (cI, N', .inl (fun _ => 0)))]) H1 → va_D A (ws ++ [(q, .inl (cI, N', .inl (fun _ => 0)))]) → va_S A H0 H1 locs → W p l e R s m args below meth c H1 locs (cells + 1) (slots + N') Q (F0 m (pc + 2) ls (.ref q :: rest))) : W p l e R s m args below meth c H locs cells slots Q (F0 m pc ls (.int n :: rest)) := by
  refine va_newa (atype := .int) (ty := .int) (a0 := (N', .inl (fun _ => 0))) hexec hb harr rfl hK hP hD hS hA (fun _ => rfl) hn hN hbytes hcells hslots hdg (fun q cA H1 hK1 hP1 hD1 hS1 => ?_)
  have e1 : s.vm.findClass ("[" ++ FieldType.int.toString) = some cI := (hK.2 t0 _ ht).2
  have e2 : s.vm.findClass ("[" ++ FieldType.int.toString) = some cA := (hK1.2 tys.length (cA, .int) (by simp)).2
  have e3 : cA = cI := Option.some.inj (e2.symm.trans e1)
  subst e3
  exact kk q H1 hP1 hD1 hS1
theorem gd_mna (hexec : p.tables.exec = Jvm.exec) (hb : c.code = cc) {own : String} {index : Nat} (hown : s.vm.findClass own = some m.cls) (hclink : (Cond.classLink own index ("[" ++ (FieldType.array .int).toString)).before args s = true) (hAO : gd_AO cI cJ s) (harr : (Cond.arrayClass .int).before args s = true) (hK : va_K D cl tys s) (t0 : Nat) (ht : tys[t0]? = some (cI, .int)) (hP : va_P D cl ws H) (hD : va_D A ws) (hS : va_S A H0 H locs) (hA : ∀ q, H0.size ≤ q → A q) (hcells : cells + 5 ≤ R.cells) (hslots : slots + 164 ≤ R.slots) (hdg : decode cc pc = .ok (.multianewarray index 2, 4))
    (kk : ∀ (q : Nat) (H1 : Heap) (locs1 : List Loc), va_P D cl (ws ++ [(q, .inl (cJ, 4, .inr (.inr (.inr (.inr (fun i => if i < 4 then some (q + 1 + i) else none)))))), (q + 1, .inl (cI, 40, .inl (fun _ => 0))), (q + 2, .inl (cI, 40, .inl (fun _ => 0))), (q + 3, .inl (cI, 40, .inl (fun _ => 0))), (q + 4, .inl (cI, 40, .inl (fun _ => 0)))]) H1 → va_D A (ws ++ [(q, .inl (cJ, 4, .inr (.inr (.inr (.inr (fun i => if i < 4 then some (q + 1 + i) else none)))))), (q + 1, .inl (cI, 40, .inl (fun _ => 0))), (q + 2, .inl (cI, 40, .inl (fun _ => 0))), (q + 3, .inl (cI, 40, .inl (fun _ => 0))), (q + 4, .inl (cI, 40, .inl (fun _ => 0)))]) → va_S A H0 H1 locs1 →
      W p l e R s m args below meth c H1 locs1 (cells + 5) (slots + 164) Q (F0 m (pc + 4) ls (.ref q :: rest))) : W p l e R s m args below meth c H locs cells slots Q (F0 m pc ls (.int (nI 40) :: .int (nI 4) :: rest)) := by
  intro T hT X
  have e1 : s.vm.findClass (FieldType.array .int).toString = some cI := (hK.2 t0 _ ht).2
  obtain ⟨vm₁, hW, X', step⟩ := gd_step X hexec hown hclink hAO e1 harr (g := F0 m pc ls (.int (nI 40) :: .int (nI 4) :: rest)) rfl (by rw [hb]; exact hdg) rfl hcells hslots
  have hTh : (T.setVm vm₁).heap = H := hT
  obtain ⟨f1, f2, -, -⟩ := gd_is (T.setVm vm₁) cJ cI 4
  have f3 := gd_row (T.setVm vm₁) cJ cI 4
  have f4 : ∀ a, a < (T.setVm vm₁).heap.size → _ := fun a ha => gd_old (T.setVm vm₁) cJ cI ha 4
  rw [hTh] at f1 f2 f3 f4
  generalize gd_s (T.setVm vm₁) cJ cI 4 = F at *
  have ex : ∀ (k : Nat) (x : Nat × va_E), ([(H.size, .inl (cJ, 4, .inr (.inr (.inr (.inr (fun i => if i < 4 then some (H.size + 1 + i) else none)))))), (H.size + 1, .inl (cI, 40, .inl (fun _ => 0))), (H.size + 2, .inl (cI, 40, .inl (fun _ => 0))), (H.size + 3, .inl (cI, 40, .inl (fun _ => 0))), (H.size + 4, .inl (cI, 40, .inl (fun _ => 0)))] : va_W)[k]? = some x → x.1 = H.size + k ∧ k < 5 ∧ va_at D cl x F.heap := by
    intro k x hx
    match k, hx with
    | 0, hx => cases hx; exact ⟨rfl, by decide, f2⟩
    | 1, hx => cases hx; exact ⟨rfl, by decide, f3 0 (by decide)⟩
    | 2, hx => cases hx; exact ⟨rfl, by decide, f3 1 (by decide)⟩
    | 3, hx => cases hx; exact ⟨rfl, by decide, f3 2 (by decide)⟩
    | 4, hx => cases hx; exact ⟨rfl, by decide, f3 3 (by decide)⟩
    | k + 5, hx => simp at hx
  have hlt : ∀ (k : Nat) (x : Nat × va_E), ws[k]? = some x → x.1 < H.size := fun k x hx => (hP k x hx).lt
  have hD1 : va_D A (ws ++ [(H.size, .inl (cJ, 4, .inr (.inr (.inr (.inr (fun i => if i < 4 then some (H.size + 1 + i) else none)))))), (H.size + 1, .inl (cI, 40, .inl (fun _ => 0))), (H.size + 2, .inl (cI, 40, .inl (fun _ => 0))), (H.size + 3, .inl (cI, 40, .inl (fun _ => 0))), (H.size + 4, .inl (cI, 40, .inl (fun _ => 0)))]) := by
    refine ⟨fun i j x y hx hy hxy => ?_, fun k x hx => ?_⟩
    · rw [List.getElem?_append] at hx hy
      split at hx
      · split at hy
        · exact hD.1 i j x y hx hy hxy
        · have h1 := hlt i x hx
          have h2 := (ex _ y hy).1
          omega
      · split at hy
        · have h1 := hlt j y hy
          have h2 := (ex _ x hx).1
          omega
        · have h1 := (ex _ x hx).1
          have h2 := (ex _ y hy).1
          omega
    · rw [List.getElem?_append] at hx
      split at hx
      · exact hD.2 k x hx
      · have h1 := (ex _ x hx).1
        exact hA _ (by have := hS.1; omega)
  have hS1 : va_S A H0 F.heap (locs ++ (List.range 4).map fun j => ⟨T.heap.size, j⟩) := by
    refine ⟨by rw [f1]; have := hS.1; omega, fun q h1 h2 => ?_, fun x hx => ?_⟩
    · rw [f4 q (by have := hS.1; omega)]
      exact hS.2.1 q h1 h2
    · rcases List.mem_append.mp hx with h | h
      · exact hS.2.2 x h
      · obtain ⟨j, -, rfl⟩ := List.mem_map.mp h
        exact hA _ (by show H0.size ≤ T.heap.size; rw [hT]; exact hS.1)
  obtain ⟨t, a1, b1⟩ := kk H.size F.heap _ ((hP.kept (fun k x hx => f4 x.1 (hlt k x hx))).app (fun k x hx => (ex k x hx).2.2)) hD1 hS1 F rfl X'
  refine ⟨t, step t ?_, b1⟩
  have : T.heap.size = H.size := by rw [← hT]
  rw [this]
  exact a1
end GF
