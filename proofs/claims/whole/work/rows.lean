section
-- ===== PART A: goes FIRST, ahead of the names: the tables' words, and 'selects' of the private methods out of them =====
/-- a private method of a class that the tables say can be made, by its rows of tables_1 -/
def lw_okq (q : MethodName × Nat) : Prop := (q.1.cls ≠ "java/lang/invoke/MethodHandle" ∧ q.1.cls ≠ "java/lang/invoke/VarHandle") ∧ Cond.instantiable q.1.cls q.2 ∈ tables_1 ∧ Cond.privateMethod q.1 ∈ tables_1 ∧ Cond.instanceMethod q.1 ∈ tables_1
theorem lw_p0 : lw_okq (⟨"BellMilk", "tell", "(I)I"⟩, 10) := ⟨⟨by decide +kernel, by decide +kernel⟩, List.mem_of_getElem? (i := 13) (by decide +kernel), List.mem_of_getElem? (i := 170) (by decide +kernel), List.mem_of_getElem? (i := 171) (by decide +kernel)⟩
theorem lw_p1 : lw_okq (⟨"BellMilk", "isCow", "(I)Z"⟩, 10) := ⟨⟨by decide +kernel, by decide +kernel⟩, List.mem_of_getElem? (i := 13) (by decide +kernel), List.mem_of_getElem? (i := 213) (by decide +kernel), List.mem_of_getElem? (i := 214) (by decide +kernel)⟩
theorem lw_p2 : lw_okq (⟨"BellMilk$Herd", "othersWith", "(I)I"⟩, 15) := ⟨⟨by decide +kernel, by decide +kernel⟩, List.mem_of_getElem? (i := 21) (by decide +kernel), List.mem_of_getElem? (i := 221) (by decide +kernel), List.mem_of_getElem? (i := 222) (by decide +kernel)⟩
theorem lw_p3 : lw_okq (⟨"BellMilk$Herd", "ringAndEat", "(I)Z"⟩, 15) := ⟨⟨by decide +kernel, by decide +kernel⟩, List.mem_of_getElem? (i := 21) (by decide +kernel), List.mem_of_getElem? (i := 265) (by decide +kernel), List.mem_of_getElem? (i := 266) (by decide +kernel)⟩
theorem lw_p4 : lw_okq (⟨"BellMilk$Herd", "milkAll", "()V"⟩, 15) := ⟨⟨by decide +kernel, by decide +kernel⟩, List.mem_of_getElem? (i := 21) (by decide +kernel), List.mem_of_getElem? (i := 279) (by decide +kernel), List.mem_of_getElem? (i := 280) (by decide +kernel)⟩
theorem lw_p5 : lw_okq (⟨"BellMilk$Herd", "fill", "(II)V"⟩, 15) := ⟨⟨by decide +kernel, by decide +kernel⟩, List.mem_of_getElem? (i := 21) (by decide +kernel), List.mem_of_getElem? (i := 289) (by decide +kernel), List.mem_of_getElem? (i := 290) (by decide +kernel)⟩
theorem lw_p6 : lw_okq (⟨"BellMilk", "beginTrial", "()V"⟩, 10) := ⟨⟨by decide +kernel, by decide +kernel⟩, List.mem_of_getElem? (i := 13) (by decide +kernel), List.mem_of_getElem? (i := 325) (by decide +kernel), List.mem_of_getElem? (i := 326) (by decide +kernel)⟩
theorem lw_p7 : lw_okq (⟨"BellMilk", "traitForMostMilk", "(III)I"⟩, 10) := ⟨⟨by decide +kernel, by decide +kernel⟩, List.mem_of_getElem? (i := 13) (by decide +kernel), List.mem_of_getElem? (i := 361) (by decide +kernel), List.mem_of_getElem? (i := 362) (by decide +kernel)⟩
theorem lw_p8 : lw_okq (⟨"BellMilk", "allStay", "(II)Z"⟩, 10) := ⟨⟨by decide +kernel, by decide +kernel⟩, List.mem_of_getElem? (i := 13) (by decide +kernel), List.mem_of_getElem? (i := 381) (by decide +kernel), List.mem_of_getElem? (i := 382) (by decide +kernel)⟩
theorem lw_p9 : lw_okq (⟨"BellMilk", "milkUnder", "(II)I"⟩, 10) := ⟨⟨by decide +kernel, by decide +kernel⟩, List.mem_of_getElem? (i := 13) (by decide +kernel), List.mem_of_getElem? (i := 389) (by decide +kernel), List.mem_of_getElem? (i := 390) (by decide +kernel)⟩
theorem lw_p10 : lw_okq (⟨"BellMilk", "gainedWithout", "(III)I"⟩, 10) := ⟨⟨by decide +kernel, by decide +kernel⟩, List.mem_of_getElem? (i := 13) (by decide +kernel), List.mem_of_getElem? (i := 402) (by decide +kernel), List.mem_of_getElem? (i := 403) (by decide +kernel)⟩
theorem lw_p11 : lw_okq (⟨"BellMilk", "fewestSaving", "(I)I"⟩, 10) := ⟨⟨by decide +kernel, by decide +kernel⟩, List.mem_of_getElem? (i := 13) (by decide +kernel), List.mem_of_getElem? (i := 406) (by decide +kernel), List.mem_of_getElem? (i := 407) (by decide +kernel)⟩
theorem lw_p12 : lw_okq (⟨"BellMilk", "savedBy", "(I)I"⟩, 10) := ⟨⟨by decide +kernel, by decide +kernel⟩, List.mem_of_getElem? (i := 13) (by decide +kernel), List.mem_of_getElem? (i := 416) (by decide +kernel), List.mem_of_getElem? (i := 417) (by decide +kernel)⟩
theorem lw_p13 : lw_okq (⟨"BellMilk", "trialGoesAsTold", "(I[III)Z"⟩, 10) := ⟨⟨by decide +kernel, by decide +kernel⟩, List.mem_of_getElem? (i := 13) (by decide +kernel), List.mem_of_getElem? (i := 427) (by decide +kernel), List.mem_of_getElem? (i := 428) (by decide +kernel)⟩
theorem lw_p14 : lw_okq (⟨"BellMilk$Tape", "next", "()V"⟩, 7) := ⟨⟨by decide +kernel, by decide +kernel⟩, List.mem_of_getElem? (i := 96) (by decide +kernel), List.mem_of_getElem? (i := 476) (by decide +kernel), List.mem_of_getElem? (i := 477) (by decide +kernel)⟩
theorem lw_p15 : lw_okq (⟨"BellMilk$Tape", "readItem", "(LBellMilk$Herd;)Z"⟩, 7) := ⟨⟨by decide +kernel, by decide +kernel⟩, List.mem_of_getElem? (i := 96) (by decide +kernel), List.mem_of_getElem? (i := 487) (by decide +kernel), List.mem_of_getElem? (i := 488) (by decide +kernel)⟩
def lw_privs_1 : List (MethodName × Nat) := [(⟨"BellMilk", "tell", "(I)I"⟩, 10), (⟨"BellMilk", "isCow", "(I)Z"⟩, 10), (⟨"BellMilk$Herd", "othersWith", "(I)I"⟩, 15), (⟨"BellMilk$Herd", "ringAndEat", "(I)Z"⟩, 15), (⟨"BellMilk$Herd", "milkAll", "()V"⟩, 15), (⟨"BellMilk$Herd", "fill", "(II)V"⟩, 15), (⟨"BellMilk", "beginTrial", "()V"⟩, 10), (⟨"BellMilk", "traitForMostMilk", "(III)I"⟩, 10), (⟨"BellMilk", "allStay", "(II)Z"⟩, 10), (⟨"BellMilk", "milkUnder", "(II)I"⟩, 10), (⟨"BellMilk", "gainedWithout", "(III)I"⟩, 10), (⟨"BellMilk", "fewestSaving", "(I)I"⟩, 10), (⟨"BellMilk", "savedBy", "(I)I"⟩, 10), (⟨"BellMilk", "trialGoesAsTold", "(I[III)Z"⟩, 10), (⟨"BellMilk$Tape", "next", "()V"⟩, 7), (⟨"BellMilk$Tape", "readItem", "(LBellMilk$Herd;)Z"⟩, 7)]
theorem lw_r1 : ∀ q ∈ lw_privs_1, lw_okq q := List.forall_mem_cons.mpr ⟨lw_p0, List.forall_mem_cons.mpr ⟨lw_p1, List.forall_mem_cons.mpr ⟨lw_p2, List.forall_mem_cons.mpr ⟨lw_p3, List.forall_mem_cons.mpr ⟨lw_p4, List.forall_mem_cons.mpr ⟨lw_p5, List.forall_mem_cons.mpr ⟨lw_p6, List.forall_mem_cons.mpr ⟨lw_p7, List.forall_mem_cons.mpr ⟨lw_p8, List.forall_mem_cons.mpr ⟨lw_p9, List.forall_mem_cons.mpr ⟨lw_p10, List.forall_mem_cons.mpr ⟨lw_p11, List.forall_mem_cons.mpr ⟨lw_p12, List.forall_mem_cons.mpr ⟨lw_p13, List.forall_mem_cons.mpr ⟨lw_p14, List.forall_mem_cons.mpr ⟨lw_p15, fun _ h => absurd h List.not_mem_nil⟩⟩⟩⟩⟩⟩⟩⟩⟩⟩⟩⟩⟩⟩⟩⟩
theorem lw_p16 : lw_okq (⟨"BellMilk$Tape", "kindOfWord", "()I"⟩, 7) := ⟨⟨by decide +kernel, by decide +kernel⟩, List.mem_of_getElem? (i := 96) (by decide +kernel), List.mem_of_getElem? (i := 491) (by decide +kernel), List.mem_of_getElem? (i := 492) (by decide +kernel)⟩
theorem lw_p17 : lw_okq (⟨"BellMilk$Tape", "isWord", "(Ljava/lang/String;)Z"⟩, 7) := ⟨⟨by decide +kernel, by decide +kernel⟩, List.mem_of_getElem? (i := 96) (by decide +kernel), List.mem_of_getElem? (i := 496) (by decide +kernel), List.mem_of_getElem? (i := 497) (by decide +kernel)⟩
theorem lw_p18 : lw_okq (⟨"BellMilk$Tape", "readCow", "(LBellMilk$Herd;I)Z"⟩, 7) := ⟨⟨by decide +kernel, by decide +kernel⟩, List.mem_of_getElem? (i := 96) (by decide +kernel), List.mem_of_getElem? (i := 554) (by decide +kernel), List.mem_of_getElem? (i := 555) (by decide +kernel)⟩
theorem lw_p19 : lw_okq (⟨"BellMilk$Tape", "readTrait", "(Ljava/lang/String;[III)Z"⟩, 7) := ⟨⟨by decide +kernel, by decide +kernel⟩, List.mem_of_getElem? (i := 96) (by decide +kernel), List.mem_of_getElem? (i := 560) (by decide +kernel), List.mem_of_getElem? (i := 561) (by decide +kernel)⟩
theorem lw_p20 : lw_okq (⟨"BellMilk$Tape", "nextIsNumber", "(I)Z"⟩, 7) := ⟨⟨by decide +kernel, by decide +kernel⟩, List.mem_of_getElem? (i := 96) (by decide +kernel), List.mem_of_getElem? (i := 564) (by decide +kernel), List.mem_of_getElem? (i := 565) (by decide +kernel)⟩
theorem lw_p21 : lw_okq (⟨"BellMilk$Tape", "readGrass", "(LBellMilk$Herd;)Z"⟩, 7) := ⟨⟨by decide +kernel, by decide +kernel⟩, List.mem_of_getElem? (i := 96) (by decide +kernel), List.mem_of_getElem? (i := 572) (by decide +kernel), List.mem_of_getElem? (i := 573) (by decide +kernel)⟩
theorem lw_p22 : lw_okq (⟨"BellMilk$Tape", "readGrows", "(LBellMilk$Herd;)Z"⟩, 7) := ⟨⟨by decide +kernel, by decide +kernel⟩, List.mem_of_getElem? (i := 96) (by decide +kernel), List.mem_of_getElem? (i := 577) (by decide +kernel), List.mem_of_getElem? (i := 578) (by decide +kernel)⟩
theorem lw_p23 : lw_okq (⟨"BellMilk$Tape", "readThunder", "(LBellMilk$Herd;)Z"⟩, 7) := ⟨⟨by decide +kernel, by decide +kernel⟩, List.mem_of_getElem? (i := 96) (by decide +kernel), List.mem_of_getElem? (i := 582) (by decide +kernel), List.mem_of_getElem? (i := 583) (by decide +kernel)⟩
theorem lw_p24 : lw_okq (⟨"BellMilk", "hasNumbers", "(III)Z"⟩, 10) := ⟨⟨by decide +kernel, by decide +kernel⟩, List.mem_of_getElem? (i := 13) (by decide +kernel), List.mem_of_getElem? (i := 615) (by decide +kernel), List.mem_of_getElem? (i := 616) (by decide +kernel)⟩
theorem lw_p25 : lw_okq (⟨"BellMilkModel", "becomes", "(II)I"⟩, 17) := ⟨⟨by decide +kernel, by decide +kernel⟩, List.mem_of_getElem? (i := 652) (by decide +kernel), List.mem_of_getElem? (i := 725) (by decide +kernel), List.mem_of_getElem? (i := 726) (by decide +kernel)⟩
theorem lw_p26 : lw_okq (⟨"BellMilkModel", "finds", "(I)I"⟩, 17) := ⟨⟨by decide +kernel, by decide +kernel⟩, List.mem_of_getElem? (i := 652) (by decide +kernel), List.mem_of_getElem? (i := 729) (by decide +kernel), List.mem_of_getElem? (i := 730) (by decide +kernel)⟩
theorem lw_p27 : lw_okq (⟨"BellMilkModel", "cowsOn", "(I)I"⟩, 17) := ⟨⟨by decide +kernel, by decide +kernel⟩, List.mem_of_getElem? (i := 652) (by decide +kernel), List.mem_of_getElem? (i := 738) (by decide +kernel), List.mem_of_getElem? (i := 739) (by decide +kernel)⟩
theorem lw_p28 : lw_okq (⟨"BellMilkModel", "its", "(II)I"⟩, 17) := ⟨⟨by decide +kernel, by decide +kernel⟩, List.mem_of_getElem? (i := 652) (by decide +kernel), List.mem_of_getElem? (i := 742) (by decide +kernel), List.mem_of_getElem? (i := 743) (by decide +kernel)⟩
theorem lw_p29 : lw_okq (⟨"BellMilkModel", "adds", "(II)I"⟩, 17) := ⟨⟨by decide +kernel, by decide +kernel⟩, List.mem_of_getElem? (i := 652) (by decide +kernel), List.mem_of_getElem? (i := 767) (by decide +kernel), List.mem_of_getElem? (i := 768) (by decide +kernel)⟩
theorem lw_p30 : lw_okq (⟨"BellMilkModel", "sets", "(III)V"⟩, 17) := ⟨⟨by decide +kernel, by decide +kernel⟩, List.mem_of_getElem? (i := 652) (by decide +kernel), List.mem_of_getElem? (i := 771) (by decide +kernel), List.mem_of_getElem? (i := 772) (by decide +kernel)⟩
theorem lw_p31 : lw_okq (⟨"BellMilkModel", "isCow", "(I)Z"⟩, 17) := ⟨⟨by decide +kernel, by decide +kernel⟩, List.mem_of_getElem? (i := 652) (by decide +kernel), List.mem_of_getElem? (i := 779) (by decide +kernel), List.mem_of_getElem? (i := 780) (by decide +kernel)⟩
def lw_privs_2 : List (MethodName × Nat) := [(⟨"BellMilk$Tape", "kindOfWord", "()I"⟩, 7), (⟨"BellMilk$Tape", "isWord", "(Ljava/lang/String;)Z"⟩, 7), (⟨"BellMilk$Tape", "readCow", "(LBellMilk$Herd;I)Z"⟩, 7), (⟨"BellMilk$Tape", "readTrait", "(Ljava/lang/String;[III)Z"⟩, 7), (⟨"BellMilk$Tape", "nextIsNumber", "(I)Z"⟩, 7), (⟨"BellMilk$Tape", "readGrass", "(LBellMilk$Herd;)Z"⟩, 7), (⟨"BellMilk$Tape", "readGrows", "(LBellMilk$Herd;)Z"⟩, 7), (⟨"BellMilk$Tape", "readThunder", "(LBellMilk$Herd;)Z"⟩, 7), (⟨"BellMilk", "hasNumbers", "(III)Z"⟩, 10), (⟨"BellMilkModel", "becomes", "(II)I"⟩, 17), (⟨"BellMilkModel", "finds", "(I)I"⟩, 17), (⟨"BellMilkModel", "cowsOn", "(I)I"⟩, 17), (⟨"BellMilkModel", "its", "(II)I"⟩, 17), (⟨"BellMilkModel", "adds", "(II)I"⟩, 17), (⟨"BellMilkModel", "sets", "(III)V"⟩, 17), (⟨"BellMilkModel", "isCow", "(I)Z"⟩, 17)]
theorem lw_r2 : ∀ q ∈ lw_privs_2, lw_okq q := List.forall_mem_cons.mpr ⟨lw_p16, List.forall_mem_cons.mpr ⟨lw_p17, List.forall_mem_cons.mpr ⟨lw_p18, List.forall_mem_cons.mpr ⟨lw_p19, List.forall_mem_cons.mpr ⟨lw_p20, List.forall_mem_cons.mpr ⟨lw_p21, List.forall_mem_cons.mpr ⟨lw_p22, List.forall_mem_cons.mpr ⟨lw_p23, List.forall_mem_cons.mpr ⟨lw_p24, List.forall_mem_cons.mpr ⟨lw_p25, List.forall_mem_cons.mpr ⟨lw_p26, List.forall_mem_cons.mpr ⟨lw_p27, List.forall_mem_cons.mpr ⟨lw_p28, List.forall_mem_cons.mpr ⟨lw_p29, List.forall_mem_cons.mpr ⟨lw_p30, List.forall_mem_cons.mpr ⟨lw_p31, fun _ h => absurd h List.not_mem_nil⟩⟩⟩⟩⟩⟩⟩⟩⟩⟩⟩⟩⟩⟩⟩⟩
theorem lw_p32 : lw_okq (⟨"BellMilkModel", "rings", "(I)I"⟩, 17) := ⟨⟨by decide +kernel, by decide +kernel⟩, List.mem_of_getElem? (i := 652) (by decide +kernel), List.mem_of_getElem? (i := 784) (by decide +kernel), List.mem_of_getElem? (i := 785) (by decide +kernel)⟩
theorem lw_p33 : lw_okq (⟨"BellMilkModel", "others", "(I)I"⟩, 17) := ⟨⟨by decide +kernel, by decide +kernel⟩, List.mem_of_getElem? (i := 652) (by decide +kernel), List.mem_of_getElem? (i := 788) (by decide +kernel), List.mem_of_getElem? (i := 789) (by decide +kernel)⟩
theorem lw_p34 : lw_okq (⟨"BellMilkModel", "eats", "(I)I"⟩, 17) := ⟨⟨by decide +kernel, by decide +kernel⟩, List.mem_of_getElem? (i := 652) (by decide +kernel), List.mem_of_getElem? (i := 793) (by decide +kernel), List.mem_of_getElem? (i := 794) (by decide +kernel)⟩
theorem lw_p35 : lw_okq (⟨"BellMilkModel", "gives", "(I)I"⟩, 17) := ⟨⟨by decide +kernel, by decide +kernel⟩, List.mem_of_getElem? (i := 652) (by decide +kernel), List.mem_of_getElem? (i := 797) (by decide +kernel), List.mem_of_getElem? (i := 798) (by decide +kernel)⟩
theorem lw_p36 : lw_okq (⟨"BellMilkModel", "besideOf", "(I)I"⟩, 17) := ⟨⟨by decide +kernel, by decide +kernel⟩, List.mem_of_getElem? (i := 652) (by decide +kernel), List.mem_of_getElem? (i := 801) (by decide +kernel), List.mem_of_getElem? (i := 802) (by decide +kernel)⟩
theorem lw_p37 : lw_okq (⟨"BellMilkModel", "hours", "(I)V"⟩, 17) := ⟨⟨by decide +kernel, by decide +kernel⟩, List.mem_of_getElem? (i := 652) (by decide +kernel), List.mem_of_getElem? (i := 821) (by decide +kernel), List.mem_of_getElem? (i := 822) (by decide +kernel)⟩
theorem lw_p38 : lw_okq (⟨"BellMilkModel", "anHour", "()V"⟩, 17) := ⟨⟨by decide +kernel, by decide +kernel⟩, List.mem_of_getElem? (i := 652) (by decide +kernel), List.mem_of_getElem? (i := 825) (by decide +kernel), List.mem_of_getElem? (i := 826) (by decide +kernel)⟩
theorem lw_p39 : lw_okq (⟨"BellMilkModel", "spends", "(I)V"⟩, 17) := ⟨⟨by decide +kernel, by decide +kernel⟩, List.mem_of_getElem? (i := 652) (by decide +kernel), List.mem_of_getElem? (i := 829) (by decide +kernel), List.mem_of_getElem? (i := 830) (by decide +kernel)⟩
theorem lw_p40 : lw_okq (⟨"BellMilkModel", "goesOn", "(I)V"⟩, 17) := ⟨⟨by decide +kernel, by decide +kernel⟩, List.mem_of_getElem? (i := 652) (by decide +kernel), List.mem_of_getElem? (i := 834) (by decide +kernel), List.mem_of_getElem? (i := 835) (by decide +kernel)⟩
theorem lw_p41 : lw_okq (⟨"BellMilkModel", "isMilked", "(I)V"⟩, 17) := ⟨⟨by decide +kernel, by decide +kernel⟩, List.mem_of_getElem? (i := 652) (by decide +kernel), List.mem_of_getElem? (i := 838) (by decide +kernel), List.mem_of_getElem? (i := 839) (by decide +kernel)⟩
theorem lw_p42 : lw_okq (⟨"BellMilkModel", "fills", "(II)V"⟩, 17) := ⟨⟨by decide +kernel, by decide +kernel⟩, List.mem_of_getElem? (i := 652) (by decide +kernel), List.mem_of_getElem? (i := 842) (by decide +kernel), List.mem_of_getElem? (i := 843) (by decide +kernel)⟩
theorem lw_p43 : lw_okq (⟨"BellMilkModel", "pails", "()I"⟩, 17) := ⟨⟨by decide +kernel, by decide +kernel⟩, List.mem_of_getElem? (i := 652) (by decide +kernel), List.mem_of_getElem? (i := 846) (by decide +kernel), List.mem_of_getElem? (i := 847) (by decide +kernel)⟩
theorem lw_p44 : lw_okq (⟨"BellMilkModel", "rungs", "()I"⟩, 17) := ⟨⟨by decide +kernel, by decide +kernel⟩, List.mem_of_getElem? (i := 652) (by decide +kernel), List.mem_of_getElem? (i := 854) (by decide +kernel), List.mem_of_getElem? (i := 855) (by decide +kernel)⟩
theorem lw_p45 : lw_okq (⟨"BellMilkModel", "muffledSet", "()I"⟩, 17) := ⟨⟨by decide +kernel, by decide +kernel⟩, List.mem_of_getElem? (i := 652) (by decide +kernel), List.mem_of_getElem? (i := 858) (by decide +kernel), List.mem_of_getElem? (i := 859) (by decide +kernel)⟩
theorem lw_p46 : lw_okq (⟨"BellMilkModel", "green", "()I"⟩, 17) := ⟨⟨by decide +kernel, by decide +kernel⟩, List.mem_of_getElem? (i := 652) (by decide +kernel), List.mem_of_getElem? (i := 862) (by decide +kernel), List.mem_of_getElem? (i := 863) (by decide +kernel)⟩
theorem lw_p47 : lw_okq (⟨"BellMilkModel", "grazed", "()I"⟩, 17) := ⟨⟨by decide +kernel, by decide +kernel⟩, List.mem_of_getElem? (i := 652) (by decide +kernel), List.mem_of_getElem? (i := 866) (by decide +kernel), List.mem_of_getElem? (i := 867) (by decide +kernel)⟩
def lw_privs_3 : List (MethodName × Nat) := [(⟨"BellMilkModel", "rings", "(I)I"⟩, 17), (⟨"BellMilkModel", "others", "(I)I"⟩, 17), (⟨"BellMilkModel", "eats", "(I)I"⟩, 17), (⟨"BellMilkModel", "gives", "(I)I"⟩, 17), (⟨"BellMilkModel", "besideOf", "(I)I"⟩, 17), (⟨"BellMilkModel", "hours", "(I)V"⟩, 17), (⟨"BellMilkModel", "anHour", "()V"⟩, 17), (⟨"BellMilkModel", "spends", "(I)V"⟩, 17), (⟨"BellMilkModel", "goesOn", "(I)V"⟩, 17), (⟨"BellMilkModel", "isMilked", "(I)V"⟩, 17), (⟨"BellMilkModel", "fills", "(II)V"⟩, 17), (⟨"BellMilkModel", "pails", "()I"⟩, 17), (⟨"BellMilkModel", "rungs", "()I"⟩, 17), (⟨"BellMilkModel", "muffledSet", "()I"⟩, 17), (⟨"BellMilkModel", "green", "()I"⟩, 17), (⟨"BellMilkModel", "grazed", "()I"⟩, 17)]
theorem lw_r3 : ∀ q ∈ lw_privs_3, lw_okq q := List.forall_mem_cons.mpr ⟨lw_p32, List.forall_mem_cons.mpr ⟨lw_p33, List.forall_mem_cons.mpr ⟨lw_p34, List.forall_mem_cons.mpr ⟨lw_p35, List.forall_mem_cons.mpr ⟨lw_p36, List.forall_mem_cons.mpr ⟨lw_p37, List.forall_mem_cons.mpr ⟨lw_p38, List.forall_mem_cons.mpr ⟨lw_p39, List.forall_mem_cons.mpr ⟨lw_p40, List.forall_mem_cons.mpr ⟨lw_p41, List.forall_mem_cons.mpr ⟨lw_p42, List.forall_mem_cons.mpr ⟨lw_p43, List.forall_mem_cons.mpr ⟨lw_p44, List.forall_mem_cons.mpr ⟨lw_p45, List.forall_mem_cons.mpr ⟨lw_p46, List.forall_mem_cons.mpr ⟨lw_p47, fun _ h => absurd h List.not_mem_nil⟩⟩⟩⟩⟩⟩⟩⟩⟩⟩⟩⟩⟩⟩⟩⟩
theorem lw_p48 : lw_okq (⟨"BellMilkModel", "filled", "()I"⟩, 17) := ⟨⟨by decide +kernel, by decide +kernel⟩, List.mem_of_getElem? (i := 652) (by decide +kernel), List.mem_of_getElem? (i := 870) (by decide +kernel), List.mem_of_getElem? (i := 871) (by decide +kernel)⟩
theorem lw_p49 : lw_okq (⟨"BellMilkModel", "lends", "()V"⟩, 17) := ⟨⟨by decide +kernel, by decide +kernel⟩, List.mem_of_getElem? (i := 652) (by decide +kernel), List.mem_of_getElem? (i := 882) (by decide +kernel), List.mem_of_getElem? (i := 883) (by decide +kernel)⟩
theorem lw_p50 : lw_okq (⟨"BellMilkModel", "seenIn", "(II)I"⟩, 17) := ⟨⟨by decide +kernel, by decide +kernel⟩, List.mem_of_getElem? (i := 652) (by decide +kernel), List.mem_of_getElem? (i := 889) (by decide +kernel), List.mem_of_getElem? (i := 890) (by decide +kernel)⟩
theorem lw_p51 : lw_okq (⟨"BellMilkModel", "laysBack", "()V"⟩, 17) := ⟨⟨by decide +kernel, by decide +kernel⟩, List.mem_of_getElem? (i := 652) (by decide +kernel), List.mem_of_getElem? (i := 893) (by decide +kernel), List.mem_of_getElem? (i := 894) (by decide +kernel)⟩
theorem lw_p52 : lw_okq (⟨"BellMilkModel", "orNone", "(II)I"⟩, 17) := ⟨⟨by decide +kernel, by decide +kernel⟩, List.mem_of_getElem? (i := 652) (by decide +kernel), List.mem_of_getElem? (i := 906) (by decide +kernel), List.mem_of_getElem? (i := 907) (by decide +kernel)⟩
theorem lw_p53 : lw_okq (⟨"BellMilkModel", "isBare", "()Z"⟩, 17) := ⟨⟨by decide +kernel, by decide +kernel⟩, List.mem_of_getElem? (i := 652) (by decide +kernel), List.mem_of_getElem? (i := 918) (by decide +kernel), List.mem_of_getElem? (i := 919) (by decide +kernel)⟩
theorem lw_p54 : lw_okq (⟨"BellMilkModel", "begins", "()V"⟩, 17) := ⟨⟨by decide +kernel, by decide +kernel⟩, List.mem_of_getElem? (i := 652) (by decide +kernel), List.mem_of_getElem? (i := 930) (by decide +kernel), List.mem_of_getElem? (i := 931) (by decide +kernel)⟩
theorem lw_p55 : lw_okq (⟨"BellMilkModel", "pailsIn", "(I)I"⟩, 17) := ⟨⟨by decide +kernel, by decide +kernel⟩, List.mem_of_getElem? (i := 652) (by decide +kernel), List.mem_of_getElem? (i := 934) (by decide +kernel), List.mem_of_getElem? (i := 935) (by decide +kernel)⟩
theorem lw_p56 : lw_okq (⟨"BellMilkModel", "tries", "(II)V"⟩, 17) := ⟨⟨by decide +kernel, by decide +kernel⟩, List.mem_of_getElem? (i := 652) (by decide +kernel), List.mem_of_getElem? (i := 938) (by decide +kernel), List.mem_of_getElem? (i := 939) (by decide +kernel)⟩
theorem lw_p57 : lw_okq (⟨"BellMilkModel", "allStay", "(I)Z"⟩, 17) := ⟨⟨by decide +kernel, by decide +kernel⟩, List.mem_of_getElem? (i := 652) (by decide +kernel), List.mem_of_getElem? (i := 958) (by decide +kernel), List.mem_of_getElem? (i := 959) (by decide +kernel)⟩
theorem lw_p58 : lw_okq (⟨"BellMilkModel", "lacks", "(I)I"⟩, 17) := ⟨⟨by decide +kernel, by decide +kernel⟩, List.mem_of_getElem? (i := 652) (by decide +kernel), List.mem_of_getElem? (i := 982) (by decide +kernel), List.mem_of_getElem? (i := 983) (by decide +kernel)⟩
theorem lw_p59 : lw_okq (⟨"BellMilkModel", "isSo", "(III)Z"⟩, 17) := ⟨⟨by decide +kernel, by decide +kernel⟩, List.mem_of_getElem? (i := 652) (by decide +kernel), List.mem_of_getElem? (i := 990) (by decide +kernel), List.mem_of_getElem? (i := 991) (by decide +kernel)⟩
theorem lw_p60 : lw_okq (⟨"BellMilkModel", "draw", "()I"⟩, 17) := ⟨⟨by decide +kernel, by decide +kernel⟩, List.mem_of_getElem? (i := 652) (by decide +kernel), List.mem_of_getElem? (i := 1002) (by decide +kernel), List.mem_of_getElem? (i := 1003) (by decide +kernel)⟩
theorem lw_p61 : lw_okq (⟨"BellMilkModel", "next", "()V"⟩, 17) := ⟨⟨by decide +kernel, by decide +kernel⟩, List.mem_of_getElem? (i := 652) (by decide +kernel), List.mem_of_getElem? (i := 1029) (by decide +kernel), List.mem_of_getElem? (i := 1030) (by decide +kernel)⟩
theorem lw_p62 : lw_okq (⟨"BellMilkModel", "isByte", "(III)Z"⟩, 17) := ⟨⟨by decide +kernel, by decide +kernel⟩, List.mem_of_getElem? (i := 652) (by decide +kernel), List.mem_of_getElem? (i := 1033) (by decide +kernel), List.mem_of_getElem? (i := 1034) (by decide +kernel)⟩
theorem lw_p63 : lw_okq (⟨"BellMilkModel", "item", "()V"⟩, 17) := ⟨⟨by decide +kernel, by decide +kernel⟩, List.mem_of_getElem? (i := 652) (by decide +kernel), List.mem_of_getElem? (i := 1037) (by decide +kernel), List.mem_of_getElem? (i := 1038) (by decide +kernel)⟩
def lw_privs_4 : List (MethodName × Nat) := [(⟨"BellMilkModel", "filled", "()I"⟩, 17), (⟨"BellMilkModel", "lends", "()V"⟩, 17), (⟨"BellMilkModel", "seenIn", "(II)I"⟩, 17), (⟨"BellMilkModel", "laysBack", "()V"⟩, 17), (⟨"BellMilkModel", "orNone", "(II)I"⟩, 17), (⟨"BellMilkModel", "isBare", "()Z"⟩, 17), (⟨"BellMilkModel", "begins", "()V"⟩, 17), (⟨"BellMilkModel", "pailsIn", "(I)I"⟩, 17), (⟨"BellMilkModel", "tries", "(II)V"⟩, 17), (⟨"BellMilkModel", "allStay", "(I)Z"⟩, 17), (⟨"BellMilkModel", "lacks", "(I)I"⟩, 17), (⟨"BellMilkModel", "isSo", "(III)Z"⟩, 17), (⟨"BellMilkModel", "draw", "()I"⟩, 17), (⟨"BellMilkModel", "next", "()V"⟩, 17), (⟨"BellMilkModel", "isByte", "(III)Z"⟩, 17), (⟨"BellMilkModel", "item", "()V"⟩, 17)]
theorem lw_r4 : ∀ q ∈ lw_privs_4, lw_okq q := List.forall_mem_cons.mpr ⟨lw_p48, List.forall_mem_cons.mpr ⟨lw_p49, List.forall_mem_cons.mpr ⟨lw_p50, List.forall_mem_cons.mpr ⟨lw_p51, List.forall_mem_cons.mpr ⟨lw_p52, List.forall_mem_cons.mpr ⟨lw_p53, List.forall_mem_cons.mpr ⟨lw_p54, List.forall_mem_cons.mpr ⟨lw_p55, List.forall_mem_cons.mpr ⟨lw_p56, List.forall_mem_cons.mpr ⟨lw_p57, List.forall_mem_cons.mpr ⟨lw_p58, List.forall_mem_cons.mpr ⟨lw_p59, List.forall_mem_cons.mpr ⟨lw_p60, List.forall_mem_cons.mpr ⟨lw_p61, List.forall_mem_cons.mpr ⟨lw_p62, List.forall_mem_cons.mpr ⟨lw_p63, fun _ h => absurd h List.not_mem_nil⟩⟩⟩⟩⟩⟩⟩⟩⟩⟩⟩⟩⟩⟩⟩⟩
theorem lw_p64 : lw_okq (⟨"BellMilkModel", "kindHere", "()I"⟩, 17) := ⟨⟨by decide +kernel, by decide +kernel⟩, List.mem_of_getElem? (i := 652) (by decide +kernel), List.mem_of_getElem? (i := 1041) (by decide +kernel), List.mem_of_getElem? (i := 1042) (by decide +kernel)⟩
theorem lw_p65 : lw_okq (⟨"BellMilkModel", "isWord", "(Ljava/lang/String;)Z"⟩, 17) := ⟨⟨by decide +kernel, by decide +kernel⟩, List.mem_of_getElem? (i := 652) (by decide +kernel), List.mem_of_getElem? (i := 1046) (by decide +kernel), List.mem_of_getElem? (i := 1047) (by decide +kernel)⟩
theorem lw_p66 : lw_okq (⟨"BellMilkModel", "cowTold", "(I)V"⟩, 17) := ⟨⟨by decide +kernel, by decide +kernel⟩, List.mem_of_getElem? (i := 652) (by decide +kernel), List.mem_of_getElem? (i := 1058) (by decide +kernel), List.mem_of_getElem? (i := 1059) (by decide +kernel)⟩
theorem lw_p67 : lw_okq (⟨"BellMilkModel", "must", "(Z)V"⟩, 17) := ⟨⟨by decide +kernel, by decide +kernel⟩, List.mem_of_getElem? (i := 652) (by decide +kernel), List.mem_of_getElem? (i := 1062) (by decide +kernel), List.mem_of_getElem? (i := 1063) (by decide +kernel)⟩
theorem lw_p68 : lw_okq (⟨"BellMilkModel", "takes", "(Ljava/lang/String;)Z"⟩, 17) := ⟨⟨by decide +kernel, by decide +kernel⟩, List.mem_of_getElem? (i := 652) (by decide +kernel), List.mem_of_getElem? (i := 1067) (by decide +kernel), List.mem_of_getElem? (i := 1068) (by decide +kernel)⟩
theorem lw_p69 : lw_okq (⟨"BellMilkModel", "numberRead", "(II)I"⟩, 17) := ⟨⟨by decide +kernel, by decide +kernel⟩, List.mem_of_getElem? (i := 652) (by decide +kernel), List.mem_of_getElem? (i := 1071) (by decide +kernel), List.mem_of_getElem? (i := 1072) (by decide +kernel)⟩
theorem lw_p70 : lw_okq (⟨"BellMilkModel", "held", "()I"⟩, 17) := ⟨⟨by decide +kernel, by decide +kernel⟩, List.mem_of_getElem? (i := 652) (by decide +kernel), List.mem_of_getElem? (i := 1135) (by decide +kernel), List.mem_of_getElem? (i := 1136) (by decide +kernel)⟩
def lw_privs_5 : List (MethodName × Nat) := [(⟨"BellMilkModel", "kindHere", "()I"⟩, 17), (⟨"BellMilkModel", "isWord", "(Ljava/lang/String;)Z"⟩, 17), (⟨"BellMilkModel", "cowTold", "(I)V"⟩, 17), (⟨"BellMilkModel", "must", "(Z)V"⟩, 17), (⟨"BellMilkModel", "takes", "(Ljava/lang/String;)Z"⟩, 17), (⟨"BellMilkModel", "numberRead", "(II)I"⟩, 17), (⟨"BellMilkModel", "held", "()I"⟩, 17)]
theorem lw_r5 : ∀ q ∈ lw_privs_5, lw_okq q := List.forall_mem_cons.mpr ⟨lw_p64, List.forall_mem_cons.mpr ⟨lw_p65, List.forall_mem_cons.mpr ⟨lw_p66, List.forall_mem_cons.mpr ⟨lw_p67, List.forall_mem_cons.mpr ⟨lw_p68, List.forall_mem_cons.mpr ⟨lw_p69, List.forall_mem_cons.mpr ⟨lw_p70, fun _ h => absurd h List.not_mem_nil⟩⟩⟩⟩⟩⟩⟩
def lw_privs : List (MethodName × Nat) := lw_privs_1 ++ (lw_privs_2 ++ (lw_privs_3 ++ (lw_privs_4 ++ (lw_privs_5))))
def lw_tbl : List Cond := k2_sels lw_privs ++ tables_1
theorem lw_privs_ok : ∀ q ∈ lw_privs, lw_okq q := by
  show ∀ q ∈ lw_privs_1 ++ (lw_privs_2 ++ (lw_privs_3 ++ (lw_privs_4 ++ (lw_privs_5)))), lw_okq q
  exact List.forall_mem_append.mpr ⟨lw_r1, List.forall_mem_append.mpr ⟨lw_r2, List.forall_mem_append.mpr ⟨lw_r3, List.forall_mem_append.mpr ⟨lw_r4, lw_r5⟩⟩⟩⟩
end
section
/-! THE LITTLE MACHINE: the bytecode of the system over one memory of numbered places. A place is a cell of the world (0 to 54), or of what is only read. -/
abbrev bm_M : Type := Nat → Nat → Int32
abbrev bm_R : Type := Option (Value × bm_M)
abbrev bm_A : Type := (Nat × List Value × List Value × bm_M) ⊕ ((Nat × Nat × List Value × Nat × List Value × List Value × bm_M) ⊕ (Value × bm_M))
def bm_up (σ : bm_M) (k i : Nat) (v : Int32) : bm_M := fun k' => if k' = k then upd (σ k) i v else σ k'
def bm_cp (σ : bm_M) (s d sp dp n : Nat) : bm_M := fun k' => if k' = d then va_cpy (σ s) (σ d) sp dp n else σ k'
def bm_nth : List Nat → Nat → Nat
  | [], _ => 0
  | a :: _, 0 => a
  | _ :: l, n + 1 => bm_nth l n
def bm_nthI : List Instr → Nat → Option Instr
  | [], _ => none
  | a :: _, 0 => some a
  | _ :: l, n + 1 => bm_nthI l n
def bm_get : List Value → Nat → Value
  | [], _ => .null
  | a :: _, 0 => a
  | _ :: l, n + 1 => bm_get l n
/-- a store into the locals -/
def bm_put : List Value → Nat → Value → List Value
  | [], _, _ => []
  | _ :: l, 0, v => v :: l
  | a :: l, n + 1, v => a :: bm_put l n v
def bm_has : List Nat → Nat → Bool
  | [], _ => false
  | a :: l, n => match Nat.beq a n with
    | true => true
    | false => bm_has l n
/-- how many a place holds, if it is an array of ints that may be written -/
def bm_al (k : Nat) : Nat := bm_nth [0, 0, 12, 12, 10, 8, 8, 8, 8, 8, 8, 8, 0, 12, 12, 10, 8, 8, 8, 8, 8, 8, 8, 0, 12, 12, 10, 8, 8, 8, 8, 8, 8, 8, 0, 120, 0, 40, 40, 40, 40, 4, 4, 7, 8, 0, 95, 95, 95, 7, 120, 4, 4, 160, 40] k
/-- one more than the number of the class, if a place is an object -/
def bm_oc (k : Nat) : Nat := bm_nth [3, 1, 0, 0, 0, 0, 0, 0, 0, 0, 0, 0, 1, 0, 0, 0, 0, 0, 0, 0, 0, 0, 0, 1, 0, 0, 0, 0, 0, 0, 0, 0, 0, 0, 2, 0, 0, 0, 0, 0, 0, 0, 0, 0, 0, 4, 0, 0, 0, 0, 0, 0, 0, 0, 0] k
def bm_in (i : Int32) (n : Nat) : Bool := !(decide (i < 0)) && decide (i.toNatClampNeg < n)
def bm_nz (i : Int32) : Bool := !(decide (i = 0))
def bm_nzl (i : Int64) : Bool := !(decide (i = 0))
def bm_bo (i : Int32) : Bool := decide (i = 0) || decide (i = 1)
def bm_ch (i : Int32) : Bool := !(decide (i < 0)) && decide (i < 65536)
def bm_by (i : Int32) : Bool := !(decide (i < 0)) && decide (i < 128)
def bm_max (x y : Int32) : Int32 := if x < y then y else x
def bm_min (x y : Int32) : Int32 := if y < x then y else x
def bm_rem (x y : Int32) : Int32 := x - x / y * y
def bm_lrem (x y : Int64) : Int64 := x - x / y * y
def bm_shl (x y : Int32) : Int32 := x <<< (y &&& 31)
def bm_shr (x y : Int32) : Int32 := x >>> (y &&& 31)
def bm_ushr (x y : Int32) : Int32 := (x.toUInt32 >>> (y.toUInt32 &&& Int32.toUInt32 31)).toInt32
abbrev bm_X : Type := Nat × (Nat → Int32)
/-- lengths of what is only read: the script, three tables, the bytes of the texts -/
def bm_rls : List Nat := [0, 0, 0, 0, 0, 0, 0, 0, 0, 0, 0, 0, 0, 0, 0, 0, 0, 0, 0, 0, 0, 0, 0, 0, 0, 0, 0, 0, 0, 0, 0, 0, 0, 0, 0, 0, 0, 0, 0, 0, 0, 0, 0, 0, 0, 0, 0, 0, 0, 0, 0, 0, 0, 0, 0, 0, 7, 7, 7, 0, 0, 0, 0, 0, 0, 0, 0, 0, 0, 0, 0, 0, 0, 0, 0, 0, 0, 0, 0, 0, 3, 4, 4, 5, 4, 7, 3, 2, 4, 6, 7, 5, 5, 7, 1]
def bm_rl (X : bm_X) (k : Nat) : Nat := match k with
  | 55 => X.1
  | k => bm_nth bm_rls k
def bm_rvs : List (List Int32) := [[], [], [], [], [], [], [], [], [], [], [], [], [], [], [], [], [], [], [], [], [], [], [], [], [], [], [], [], [], [], [], [], [], [], [], [], [], [], [], [], [], [], [], [], [], [], [], [], [], [], [], [], [], [], [], [], [5, 2, 5, 3, 0, 5, 2], [-1, 0, 0, 2, 3, 0, 1], [6, 11, 11, 9, 999, 9999, 1], [], [], [], [], [], [], [], [], [], [], [], [], [], [], [], [], [], [], [], [], [], [99, 111, 119], [99, 97, 108, 102], [97, 108, 116, 111], [98, 114, 105, 100, 101], [112, 97, 115, 115], [99, 114, 97, 99, 107, 101, 100], [107, 105, 100], [111, 110], [116, 111, 110, 101], [115, 119, 105, 110, 103, 115], [109, 117, 102, 102, 108, 101, 100], [103, 114, 97, 115, 115], [103, 114, 111, 119, 115], [116, 104, 117, 110, 100, 101, 114], [59]]
def bm_nthL : List (List Int32) → Nat → List Int32
  | [], _ => []
  | a :: _, 0 => a
  | _ :: l, n + 1 => bm_nthL l n
def bm_nth32 : List Int32 → Nat → Int32
  | [], _ => 0
  | a :: _, 0 => a
  | _ :: l, n + 1 => bm_nth32 l n
def bm_rv (X : bm_X) (k i : Nat) : Int32 := match k with
  | 55 => X.2 i
  | k => bm_nth32 (bm_nthL bm_rvs k) i
def bm_st (k : Nat) : Bool := Nat.ble 60 k && Nat.ble k 74
def bm_sv (k : Nat) : Bool := Nat.ble 80 k && Nat.ble k 94
def bm_ac (sp dp n : Int32) (ls ld : Nat) : Bool := !(decide (ls = 0)) && !(decide (ld = 0)) && !(decide (sp < 0)) && !(decide (dp < 0)) && !(decide (n < 0)) && decide (sp.toNatClampNeg + n.toNatClampNeg ≤ ls) && decide (dp.toNatClampNeg + n.toNatClampNeg ≤ ld)
def bm_bV (o : bm_R) (k : bm_M → bm_R) : bm_R := match o with
  | some (.null, τ) => k τ
  | _ => none
def bm_bI (o : bm_R) (k : Int32 → bm_M → bm_R) : bm_R := match o with
  | some (.int x, τ) => k x τ
  | _ => none
def bm_bL (o : bm_R) (k : Int64 → bm_M → bm_R) : bm_R := match o with
  | some (.long x, τ) => k x τ
  | _ => none
def bm_bA (o : bm_R) (k : Nat → bm_M → bm_R) : bm_R := match o with
  | some (.ref x, τ) => k x τ
  | _ => none
/-- what an action does: go on, call, return -/
def bm_do (γ : Nat → List Value → bm_M → bm_R) (κ : Nat → List Value → List Value → bm_M → bm_R) : bm_A → bm_R
  | .inl (pc, L, S, σ) => κ pc L S σ
  | .inr (.inl (m, rt, as, pc, L, S, σ)) => match rt with
    | 0 => bm_bV (γ m as σ) (fun τ => κ pc L S τ)
    | 1 => bm_bI (γ m as σ) (fun x τ => κ pc L (.int x :: S) τ)
    | 2 => bm_bL (γ m as σ) (fun x τ => κ pc L (.long x :: S) τ)
    | _ => bm_bA (γ m as σ) (fun x τ => κ pc L (.ref x :: S) τ)
  | .inr (.inr (v, σ)) => some (v, σ)
/-- a guard of the place's kind, a guard of an index -/
def bm_sg (b : Bool) (x : bm_R) : bm_R := cond b x none
def bm_gd (b : Bool) (x : bm_R) : bm_R := cond b x none
/-- the first alternative whose guard holds -/
def bm_pick (γ : Nat → List Value → bm_M → bm_R) (κ : Nat → List Value → List Value → bm_M → bm_R) : List (Nat × Bool × bm_A) → bm_R
  | [] => none
  | (t, b, a) :: l => match t with
    | 0 => bm_do γ κ a
    | 1 => cond b (bm_do γ κ a) (bm_pick γ κ l)
    | 2 => bm_sg b (bm_do γ κ a)
    | _ => bm_gd b (bm_do γ κ a)
def bm_nx (pc : Nat) (L S : List Value) (σ : bm_M) : List (Nat × Bool × bm_A) := [(0, true, .inl (pc + 1, L, S, σ))]
def bm_nxs (b : Bool) (pc : Nat) (L S : List Value) (σ : bm_M) : List (Nat × Bool × bm_A) := [(2, b, .inl (pc + 1, L, S, σ))]
def bm_nxg (b : Bool) (pc : Nat) (L S : List Value) (σ : bm_M) : List (Nat × Bool × bm_A) := [(3, b, .inl (pc + 1, L, S, σ))]
def bm_br (b : Bool) (t : Nat) (pc : Nat) (L S : List Value) (σ : bm_M) : List (Nat × Bool × bm_A) := [(1, b, .inl (t, L, S, σ)), (0, true, .inl (pc + 1, L, S, σ))]
def bm_brn (b : Bool) (t : Nat) (pc : Nat) (L S : List Value) (σ : bm_M) : List (Nat × Bool × bm_A) := [(1, b, .inl (pc + 1, L, S, σ)), (0, true, .inl (t, L, S, σ))]
def bm_cmp (c : Jvm.ClassFile.Cond) (x y : Int32) (t pc : Nat) (L S : List Value) (σ : bm_M) : List (Nat × Bool × bm_A) := match c with
  | .eq => bm_br (decide (x = y)) t pc L S σ
  | .ne => bm_brn (decide (x = y)) t pc L S σ
  | .lt => bm_br (decide (x < y)) t pc L S σ
  | .ge => bm_brn (decide (x < y)) t pc L S σ
  | .gt => bm_br (decide (y < x)) t pc L S σ
  | .le => bm_brn (decide (y < x)) t pc L S σ
def bm_sw (x : Int32) (d : Nat) (L S : List Value) (σ : bm_M) : List (Int × Int) → List (Nat × Bool × bm_A)
  | [] => [(0, true, .inl (d, L, S, σ))]
  | (v, t) :: l => (1, decide (x = nI v.toNat), .inl (t.toNat, L, S, σ)) :: bm_sw x d L S σ l
def bm_take : Nat → List Value → List Value → List Value
  | 0, _, acc => acc
  | _ + 1, [], acc => acc
  | n + 1, a :: l, acc => bm_take n l (a :: acc)
def bm_drop : Nat → List Value → List Value
  | 0, l => l
  | _ + 1, [] => []
  | n + 1, _ :: l => bm_drop n l
def bm_cat : List Value → Nat
  | [] => 0
  | .long _ :: l => bm_cat l + 2
  | .double _ :: l => bm_cat l + 2
  | _ :: l => bm_cat l + 1
/-- the locals at a method's entry: a long takes two -/
def bm_spread : List Value → List Value
  | [] => []
  | .long x :: l => .long x :: .null :: bm_spread l
  | v :: l => v :: bm_spread l
def bm_pad : Nat → List Value → List Value
  | 0, l => l
  | n + 1, [] => .null :: bm_pad n []
  | n + 1, a :: l => a :: bm_pad n l
def bm_nol : List Value → Bool
  | [] => true
  | .long _ :: _ => false
  | .double _ :: _ => false
  | _ :: l => bm_nol l
/-- what a call asks of what it is given: 0 no object, 1 to 4 an object of that class, 5 a text, 6 three longs -/
def bm_rcv (rc : Nat) (as : List Value) : Bool := match rc with
  | 0 => bm_nol as
  | 5 => match as with
    | .ref k :: l => bm_nol l && bm_st k
    | _ => false
  | 6 => match as with
    | [.long _, .long _, .long _] => true
    | _ => false
  | c => match as with
    | .ref k :: l => bm_nol l && Nat.beq (bm_oc k) c
    | _ => false
/-- the guard of a call -/
def bm_cg (n : Nat) (as rest : List Value) : Bool := Nat.ble (bm_cat rest) 8 && (Nat.beq as.length (n / 32 % 8) && (Nat.ble (bm_spread as).length (n / 256 % 16) && bm_rcv (n % 8) as))
/-- what an instruction of the little machine may do -/
def bm_alts (X : bm_X) (i : Instr) (pc : Nat) (L S : List Value) (σ : bm_M) : List (Nat × Bool × bm_A) := match i with
  | .ldc n => bm_nx pc L (.int (nI n) :: S) σ
  | .ldc_w n => bm_nx pc L (.int (-nI n) :: S) σ
  | .ldc2_w n => bm_nx pc L (.long (lN n) :: S) σ
  | .f2d => bm_nx pc L (.long (-1) :: S) σ
  | .getstatic n => bm_nx pc L (.ref n :: S) σ
  | .anewarray n => bm_nx pc L (.ref n :: S) σ
  | .fconst _ => bm_nx pc L (.int (nI 1) :: S) σ
  | .dconst _ => bm_nx pc L (.retAddr 0 :: S) σ
  | .iload k => match bm_get L k with
    | .int x => bm_nx pc L (.int x :: S) σ
    | _ => []
  | .aload k => match bm_get L k with
    | .ref x => bm_nx pc L (.ref x :: S) σ
    | _ => []
  | .lload k => match bm_get L k with
    | .long x => bm_nx pc L (.long x :: S) σ
    | _ => []
  | .istore k => match S with
    | .int x :: S => bm_nx pc (bm_put L k (.int x)) S σ
    | _ => []
  | .astore k => match S with
    | .ref x :: S => bm_nx pc (bm_put L k (.ref x)) S σ
    | _ => []
  | .lstore k => match S with
    | .long x :: S => bm_nx pc (bm_put (bm_put L (k + 1) .null) k (.long x)) S σ
    | _ => []
  | .iinc k n => match bm_get L k with
    | .int x => match n with
      | .ofNat n => bm_nx pc (bm_put L k (.int (x + nI n))) S σ
      | .negSucc n => bm_nx pc (bm_put L k (.int (x - nI (n + 1)))) S σ
    | _ => []
  | .dup => match S with
    | .int x :: S => bm_nx pc L (.int x :: .int x :: S) σ
    | .ref x :: S => bm_nx pc L (.ref x :: .ref x :: S) σ
    | _ => []
  | .dup2 => match S with
    | .int x :: .ref y :: S => bm_nx pc L (.int x :: .ref y :: .int x :: .ref y :: S) σ
    | _ => []
  | .pop => match S with
    | .int _ :: S => bm_nx pc L S σ
    | _ => []
  | .iadd => match S with
    | .int y :: .int x :: S => bm_nx pc L (.int (x + y) :: S) σ
    | _ => []
  | .isub => match S with
    | .int y :: .int x :: S => bm_nx pc L (.int (x - y) :: S) σ
    | _ => []
  | .imul => match S with
    | .int y :: .int x :: S => bm_nx pc L (.int (x * y) :: S) σ
    | _ => []
  | .iand => match S with
    | .int y :: .int x :: S => bm_nx pc L (.int (x &&& y) :: S) σ
    | _ => []
  | .ior => match S with
    | .int y :: .int x :: S => bm_nx pc L (.int (x ||| y) :: S) σ
    | _ => []
  | .idiv => match S with
    | .int y :: .int x :: S => bm_nxs (bm_nz y) pc L (.int (x / y) :: S) σ
    | _ => []
  | .irem => match S with
    | .int y :: .int x :: S => bm_nxs (bm_nz y) pc L (.int (bm_rem x y) :: S) σ
    | _ => []
  | .ishl => match S with
    | .int y :: .int x :: S => bm_nx pc L (.int (bm_shl x y) :: S) σ
    | _ => []
  | .ishr => match S with
    | .int y :: .int x :: S => bm_nx pc L (.int (bm_shr x y) :: S) σ
    | _ => []
  | .iushr => match S with
    | .int y :: .int x :: S => bm_nx pc L (.int (bm_ushr x y) :: S) σ
    | _ => []
  | .dmul => match S with
    | .int y :: .int x :: S => bm_nxs (Nat.ble (bm_cat S) 8) pc L (.int (bm_max x y) :: S) σ
    | _ => []
  | .dadd => match S with
    | .int y :: .int x :: S => bm_nxs (Nat.ble (bm_cat S) 8) pc L (.int (bm_min x y) :: S) σ
    | _ => []
  | .ladd => match S with
    | .long y :: .long x :: S => bm_nx pc L (.long (x + y) :: S) σ
    | _ => []
  | .lmul => match S with
    | .long y :: .long x :: S => bm_nx pc L (.long (x * y) :: S) σ
    | _ => []
  | .ldiv => match S with
    | .long y :: .long x :: S => bm_nxg (bm_nzl y) pc L (.long (x / y) :: S) σ
    | _ => []
  | .lrem => match S with
    | .long y :: .long x :: S => bm_nxg (bm_nzl y) pc L (.long (bm_lrem x y) :: S) σ
    | _ => []
  | .lcmp => match S with
    | .long y :: .long x :: S => bm_nx pc L (.int (lg_cmp x y) :: S) σ
    | _ => []
  | .i2l => match S with
    | .int x :: S => bm_nx pc L (.long x.toInt64 :: S) σ
    | _ => []
  | .i2b => match S with
    | .int x :: S => bm_nx pc L (.int x.toInt8.toInt32 :: S) σ
    | _ => []
  | .i2s => match S with
    | .int x :: S => bm_nx pc L (.int x.toInt16.toInt32 :: S) σ
    | _ => []
  | .i2c => match S with
    | .int x :: S => bm_nx pc L (.int (x.toUInt32 % 65536).toInt32 :: S) σ
    | _ => []
  | .goto t => [(0, true, .inl (t.toNat, L, S, σ))]
  | .if_icmp c t => match S with
    | .int y :: .int x :: S => bm_cmp c x y t.toNat pc L S σ
    | _ => []
  | .ifCond c t => match S with
    | .int x :: S => bm_cmp c x 0 t.toNat pc L S σ
    | _ => []
  | .lookupswitch d ps => match S with
    | .int x :: S => bm_sw x d.toNat L S σ ps.toList
    | _ => []
  | .getfield n => match S with
    | .ref k :: S => bm_nxs (Nat.beq (bm_oc k) (n / 32)) pc L (.int (σ k (n % 32)) :: S) σ
    | _ => []
  | .instanceof n => match S with
    | .ref k :: S => bm_nxs (Nat.beq (bm_oc k) (n / 64 / 32)) pc L (.ref (k + n % 64) :: S) σ
    | _ => []
  | .putfield n => match S with
    | .int v :: .ref k :: S => bm_nxs (Nat.beq (bm_oc k) (n / 32)) pc L S (bm_up σ k (n % 32) v)
    | _ => []
  | .checkcast n => match S with
    | .int v :: .ref k :: S => bm_nxg (Nat.beq (bm_oc k) (n / 32) && bm_bo v) pc L S (bm_up σ k (n % 32) v)
    | _ => []
  | .iaload => match S with
    | .int i :: .ref k :: S => bm_nxg (bm_in i (bm_al k)) pc L (.int (σ k i.toNatClampNeg) :: S) σ
    | _ => []
  | .iastore => match S with
    | .int v :: .int i :: .ref k :: S => bm_nxg (bm_in i (bm_al k)) pc L S (bm_up σ k i.toNatClampNeg v)
    | _ => []
  | .aaload => match S with
    | .int i :: .ref k :: S => bm_nxg (Nat.beq k 36 && bm_in i 4) pc L (.ref (37 + i.toNatClampNeg) :: S) σ
    | _ => []
  | .saload => match S with
    | .int i :: .ref k :: S => bm_nxg (Nat.ble 55 k && Nat.ble k 58 && bm_in i (bm_rl X k)) pc L (.int (bm_rv X k i.toNatClampNeg) :: S) σ
    | _ => []
  | .baload => match S with
    | .int i :: .ref k :: S => bm_nxg (bm_sv k && bm_in i (bm_rl X k)) pc L (.int (bm_rv X k i.toNatClampNeg) :: S) σ
    | _ => []
  | .arraylength => match S with
    | .ref k :: S => bm_nxs (Nat.ble 55 k && Nat.ble k 58) pc L (.int (nI (bm_rl X k)) :: S) σ
    | _ => []
  | .fsub => match S with
    | .ref k :: S => bm_nxg (bm_sv k) pc L (.int (nI (bm_rl X k)) :: S) σ
    | _ => []
  | .f2l => match S with
    | .ref k :: S => bm_nxg (bm_st k) pc L (.ref (k + 20) :: S) σ
    | _ => []
  | .fadd => match S with
    | .ref k :: S => bm_nxg (bm_st k) pc L (.int (nI 0) :: S) σ
    | _ => []
  | .dastore => match S with
    | .int n :: .int dp :: .ref d :: .int sp :: .ref s :: S => bm_nxg (Nat.ble (bm_cat S) 8 && bm_ac sp dp n (bm_al s) (bm_al d)) pc L S (bm_cp σ s d sp.toNatClampNeg dp.toNatClampNeg n.toNatClampNeg)
    | _ => []
  | .invokevirtual n => [(2, bm_cg n (bm_take (n / 32 % 8) S []) (bm_drop (n / 32 % 8) S), .inr (.inl (n / 4096, n / 8 % 4, bm_pad (n / 256 % 16) (bm_spread (bm_take (n / 32 % 8) S [])), pc + 1, L, bm_drop (n / 32 % 8) S, σ)))]
  | .invokespecial n => [(3, bm_cg n (bm_take (n / 32 % 8) S []) (bm_drop (n / 32 % 8) S), .inr (.inl (n / 4096, n / 8 % 4, bm_pad (n / 256 % 16) (bm_spread (bm_take (n / 32 % 8) S [])), pc + 1, L, bm_drop (n / 32 % 8) S, σ)))]
  | .ireturn => match S with
    | [.int x] => [(0, true, .inr (.inr (.int x, σ)))]
    | _ => []
  | .freturn => match S with
    | [.int x] => [(3, bm_bo x, .inr (.inr (.int x, σ)))]
    | _ => []
  | .d2f => match S with
    | [.int x] => [(3, bm_by x, .inr (.inr (.int x, σ)))]
    | _ => []
  | .d2i => match S with
    | [.int x] => [(3, bm_ch x, .inr (.inr (.int x, σ)))]
    | _ => []
  | .lreturn => match S with
    | [.long x] => [(0, true, .inr (.inr (.long x, σ)))]
    | _ => []
  | .areturn => match S with
    | [.ref x] => [(0, true, .inr (.inr (.ref x, σ)))]
    | _ => []
  | .return_ => match S with
    | [] => [(0, true, .inr (.inr (.null, σ)))]
    | _ => []
  | _ => []
end
section
def bm_altO (X : bm_X) (o : Option Instr) (pc : Nat) (L S : List Value) (σ : bm_M) : List (Nat × Bool × bm_A) := match o with
  | none => []
  | some i => bm_alts X i pc L S σ
def bm_nthC : List (List Instr) → Nat → List Instr
  | [], _ => []
  | a :: _, 0 => a
  | _ :: l, n + 1 => bm_nthC l n
/-- so many steps at most -/
def bm_run (C : Nat → List Instr) (X : bm_X) : Nat → Nat → Nat → List Value → List Value → bm_M → bm_R
  | 0, _, _, _, _, _ => none
  | n + 1, M, pc, L, S, σ => bm_pick (fun m L τ => bm_run C X n m 0 L [] τ) (fun pc L S τ => bm_run C X n M pc L S τ) (bm_altO X (bm_nthI (C M) pc) pc L S σ)
theorem bm_do_mono {γ γ' : Nat → List Value → bm_M → bm_R} {κ κ' : Nat → List Value → List Value → bm_M → bm_R} (hg : ∀ m L σ r, γ m L σ = some r → γ' m L σ = some r) (hk : ∀ pc L S σ r, κ pc L S σ = some r → κ' pc L S σ = some r) (a : bm_A) (r : Value × bm_M) (h : bm_do γ κ a = some r) : bm_do γ' κ' a = some r := by
  match a, h with
  | .inl (pc, L, S, σ), h => exact hk _ _ _ _ _ h
  | .inr (.inr (v, σ)), h => exact h
  | .inr (.inl (m, rt, as, pc, L, S, σ)), h =>
    simp only [bm_do] at h ⊢
    cases hr : γ m as σ with
    | none => rw [hr] at h; split at h <;> simp [bm_bV, bm_bI, bm_bL, bm_bA] at h
    | some q =>
      rw [hr] at h
      rw [hg _ _ _ _ hr]
      obtain ⟨v, τ⟩ := q
      split at h <;> (cases v <;> first | (simp [bm_bV, bm_bI, bm_bL, bm_bA] at h; done) | exact hk _ _ _ _ _ h)
theorem bm_pick_mono {γ γ' : Nat → List Value → bm_M → bm_R} {κ κ' : Nat → List Value → List Value → bm_M → bm_R} (hg : ∀ m L σ r, γ m L σ = some r → γ' m L σ = some r) (hk : ∀ pc L S σ r, κ pc L S σ = some r → κ' pc L S σ = some r) (r : Value × bm_M) : ∀ l, bm_pick γ κ l = some r → bm_pick γ' κ' l = some r
  | [], h => by cases h
  | (t, b, a) :: l, h => by
    match t, h with
    | 0, h => exact bm_do_mono hg hk a r h
    | 1, h =>
      show cond b (bm_do γ' κ' a) (bm_pick γ' κ' l) = some r
      have h : cond b (bm_do γ κ a) (bm_pick γ κ l) = some r := h
      cases b with
      | true => exact bm_do_mono hg hk a r h
      | false => exact bm_pick_mono hg hk r l h
    | 2, h =>
      show cond b (bm_do γ' κ' a) none = some r
      have h : cond b (bm_do γ κ a) none = some r := h
      cases b with
      | true => exact bm_do_mono hg hk a r h
      | false => cases h
    | (n + 3), h =>
      show cond b (bm_do γ' κ' a) none = some r
      have h : cond b (bm_do γ κ a) none = some r := h
      cases b with
      | true => exact bm_do_mono hg hk a r h
      | false => cases h
theorem bm_run_succ (C : Nat → List Instr) (X : bm_X) : ∀ (n M pc : Nat) (L S : List Value) (σ : bm_M) (r : Value × bm_M), bm_run C X n M pc L S σ = some r → bm_run C X (n + 1) M pc L S σ = some r
  | 0, _, _, _, _, _, _, h => by cases h
  | n + 1, M, pc, L, S, σ, r, h => bm_pick_mono (fun m L τ r h => bm_run_succ C X n m 0 L [] τ r h) (fun pc L S τ r h => bm_run_succ C X n M pc L S τ r h) r _ h
theorem bm_run_le {C : Nat → List Instr} {X : bm_X} {n k M pc : Nat} {L S : List Value} {σ : bm_M} {r : Value × bm_M} (hk : n ≤ k) (h : bm_run C X n M pc L S σ = some r) : bm_run C X k M pc L S σ = some r := by
  induction hk with
  | refl => exact h
  | step _ ih => exact bm_run_succ C X _ _ _ _ _ _ _ ih
/-- what it comes to -/
noncomputable def bm_evC (C : Nat → List Instr) (X : bm_X) (M pc : Nat) (L S : List Value) (σ : bm_M) : bm_R := by
  classical
  exact if h : ∃ (n : Nat) (r : Value × bm_M), bm_run C X n M pc L S σ = some r then some (Classical.choose (Classical.choose_spec h)) else none
theorem bm_ev_iff {C : Nat → List Instr} {X : bm_X} {M pc : Nat} {L S : List Value} {σ : bm_M} {r : Value × bm_M} : bm_evC C X M pc L S σ = some r ↔ ∃ n, bm_run C X n M pc L S σ = some r := by
  classical
  unfold bm_evC
  by_cases h : ∃ (n : Nat) (r : Value × bm_M), bm_run C X n M pc L S σ = some r
  · rw [dif_pos h]
    have hs := Classical.choose_spec (Classical.choose_spec h)
    constructor
    · intro e
      rw [Option.some.inj e] at hs
      exact ⟨_, hs⟩
    · rintro ⟨n, hn⟩
      have h1 := bm_run_le (Nat.le_max_left (Classical.choose h) n) hs
      have h2 := bm_run_le (Nat.le_max_right (Classical.choose h) n) hn
      rw [h1] at h2
      exact h2
  · rw [dif_neg h]
    constructor
    · intro e; cases e
    · rintro ⟨n, hn⟩
      exact absurd ⟨n, r, hn⟩ h
theorem bm_do_fin {C : Nat → List Instr} {X : bm_X} {M : Nat} (a : bm_A) (r : Value × bm_M) (h : bm_do (fun m L τ => bm_evC C X m 0 L [] τ) (fun pc L S τ => bm_evC C X M pc L S τ) a = some r) : ∃ n, bm_do (fun m L τ => bm_run C X n m 0 L [] τ) (fun pc L S τ => bm_run C X n M pc L S τ) a = some r := by
  match a, h with
  | .inl (pc, L, S, σ), h => exact bm_ev_iff.mp h
  | .inr (.inr (v, σ)), h => exact ⟨0, h⟩
  | .inr (.inl (m, rt, as, pc, L, S, σ)), h =>
    simp only [bm_do] at h ⊢
    cases hr : bm_evC C X m 0 as [] σ with
    | none => rw [hr] at h; split at h <;> simp [bm_bV, bm_bI, bm_bL, bm_bA] at h
    | some q =>
      rw [hr] at h
      obtain ⟨n1, h1⟩ := bm_ev_iff.mp hr
      obtain ⟨v, τ⟩ := q
      have key : ∀ (S' : List Value), bm_evC C X M pc L S' τ = some r → ∃ n, n1 ≤ n ∧ bm_run C X n M pc L S' τ = some r := fun S' h => by
        obtain ⟨n2, h2⟩ := bm_ev_iff.mp h
        exact ⟨max n1 n2, Nat.le_max_left _ _, bm_run_le (Nat.le_max_right _ _) h2⟩
      split at h <;> (cases v <;> first | (simp [bm_bV, bm_bI, bm_bL, bm_bA] at h; done) | (obtain ⟨n, hn, h2⟩ := key _ h; exact ⟨n, by rw [bm_run_le hn h1]; exact h2⟩))
theorem bm_pick_fin {C : Nat → List Instr} {X : bm_X} {M : Nat} (r : Value × bm_M) : ∀ l, bm_pick (fun m L τ => bm_evC C X m 0 L [] τ) (fun pc L S τ => bm_evC C X M pc L S τ) l = some r → ∃ n, bm_pick (fun m L τ => bm_run C X n m 0 L [] τ) (fun pc L S τ => bm_run C X n M pc L S τ) l = some r
  | [], h => by cases h
  | (t, b, a) :: l, h => by
    match t, h with
    | 0, h => exact bm_do_fin a r h
    | 1, h =>
      cases b with
      | true => exact bm_do_fin a r h
      | false => exact bm_pick_fin r l h
    | 2, h =>
      cases b with
      | true => exact bm_do_fin a r h
      | false => cases h
    | (n + 3), h =>
      cases b with
      | true => exact bm_do_fin a r h
      | false => cases h
theorem bm_ev_eq (C : Nat → List Instr) (X : bm_X) (M pc : Nat) (L S : List Value) (σ : bm_M) : bm_evC C X M pc L S σ = bm_pick (fun m L τ => bm_evC C X m 0 L [] τ) (fun pc L S τ => bm_evC C X M pc L S τ) (bm_altO X (bm_nthI (C M) pc) pc L S σ) := by
  apply Option.ext
  intro r
  constructor
  · intro h
    obtain ⟨n, hn⟩ := bm_ev_iff.mp h
    match n, hn with
    | n + 1, hn => exact bm_pick_mono (fun m L τ r h => bm_ev_iff.mpr ⟨n, h⟩) (fun pc L S τ r h => bm_ev_iff.mpr ⟨n, h⟩) r _ hn
  · intro h
    obtain ⟨n, hn⟩ := bm_pick_fin r _ h
    exact bm_ev_iff.mpr ⟨n + 1, hn⟩
end
section
/-- 0: BellMilk$Herd.addCow(II)I -/
def bm_c0 : List Instr := [.aload 0, .getfield 39, .istore 3, .aload 0, .instanceof 2564, .iload 3, .iload 1, .iastore, .aload 0, .instanceof 2629, .iload 3, .iload 2, .iastore, .aload 0, .instanceof 2694, .iload 3, .ldc 0, .iastore, .aload 0, .instanceof 2759, .iload 3, .ldc 3, .iastore, .aload 0, .instanceof 2824, .iload 3, .ldc 0, .iastore, .aload 0, .instanceof 2889, .iload 3, .ldc 0, .iastore, .aload 0, .instanceof 2954, .iload 3, .ldc 0, .iastore, .aload 0, .dup, .getfield 39, .ldc 1, .iadd, .putfield 39, .iload 3, .ireturn]
/-- 1: BellMilk$Herd.trait(I)[I -/
def bm_c1 : List Instr := [.iload 1, .lookupswitch (.ofNat 20) #[(.ofNat 0, .ofNat 2), (.ofNat 1, .ofNat 5), (.ofNat 2, .ofNat 8), (.ofNat 3, .ofNat 11), (.ofNat 4, .ofNat 14), (.ofNat 5, .ofNat 17)], .aload 0, .instanceof 2564, .areturn, .aload 0, .instanceof 2629, .areturn, .aload 0, .instanceof 2694, .areturn, .aload 0, .instanceof 2759, .areturn, .aload 0, .instanceof 2824, .areturn, .aload 0, .instanceof 2889, .areturn, .aload 0, .instanceof 2954, .areturn]
/-- 2: BellMilk$Herd.othersWith(I)I -/
def bm_c2 : List Instr := [.ldc_w 1, .istore 2, .ldc 0, .istore 3, .iload 3, .aload 0, .getfield 39, .if_icmp .ge (.ofNat 20), .aload 0, .instanceof 2629, .iload 3, .iaload, .aload 0, .instanceof 2629, .iload 1, .iaload, .if_icmp .ne (.ofNat 18), .iinc 2 (.ofNat 1), .iinc 3 (.ofNat 1), .goto (.ofNat 4), .iload 2, .ireturn]
/-- 3: BellMilk$Herd.eats(I)I -/
def bm_c3 : List Instr := [.getstatic 56, .aload 0, .instanceof 2564, .iload 1, .iaload, .saload, .ireturn]
/-- 4: BellMilk$Herd.beside(I)I -/
def bm_c4 : List Instr := [.ldc 0, .istore 2, .iload 2, .aload 0, .getfield 39, .if_icmp .ge (.ofNat 28), .aload 0, .instanceof 2629, .iload 2, .iaload, .aload 0, .instanceof 2629, .iload 1, .iaload, .if_icmp .ne (.ofNat 26), .aload 0, .instanceof 2694, .iload 2, .iaload, .aload 0, .instanceof 2694, .iload 1, .iaload, .if_icmp .eq (.ofNat 26), .iload 2, .ireturn, .iinc 2 (.ofNat 1), .goto (.ofNat 2), .ldc_w 1, .ireturn]
/-- 5: BellMilk$Herd.thirdTone(II)I -/
def bm_c5 : List Instr := [.aload 0, .instanceof 2694, .iload 1, .iaload, .aload 0, .instanceof 2694, .iload 2, .iaload, .iadd, .ldc 12, .irem, .ireturn]
/-- 6: BellMilk$Herd.wander(I)V -/
def bm_c6 : List Instr := [.aload 0, .instanceof 2629, .iload 1, .aload 0, .instanceof 2629, .iload 1, .iaload, .ldc 1, .iadd, .ldc 12, .irem, .iastore, .return_]
/-- 7: BellMilk$Herd.draw()I -/
def bm_c7 : List Instr := [.aload 0, .aload 0, .getfield 38, .ldc 1103515245, .imul, .ldc 12345, .iadd, .putfield 38, .aload 0, .getfield 38, .ldc 8, .iushr, .ireturn]
/-- 8: BellMilk$Herd.milk()I -/
def bm_c8 : List Instr := [.ldc 0, .istore 1, .ldc 0, .istore 2, .iload 2, .ldc 12, .if_icmp .ge (.ofNat 16), .iload 1, .aload 0, .instanceof 2114, .iload 2, .iaload, .iadd, .istore 1, .iinc 2 (.ofNat 1), .goto (.ofNat 4), .iload 1, .ireturn]
/-- 9: BellMilk$Herd.rungOfAll()I -/
def bm_c9 : List Instr := [.ldc 0, .istore 1, .ldc 0, .istore 2, .iload 2, .aload 0, .getfield 39, .if_icmp .ge (.ofNat 17), .iload 1, .aload 0, .instanceof 2889, .iload 2, .iaload, .iadd, .istore 1, .iinc 2 (.ofNat 1), .goto (.ofNat 4), .iload 1, .ireturn]
/-- 10: BellMilk$Herd.grassOfAll()I -/
def bm_c10 : List Instr := [.ldc 0, .istore 1, .ldc 0, .istore 2, .iload 2, .ldc 12, .if_icmp .ge (.ofNat 16), .iload 1, .aload 0, .instanceof 2049, .iload 2, .iaload, .iadd, .istore 1, .iinc 2 (.ofNat 1), .goto (.ofNat 4), .iload 1, .ireturn]
/-- 11: BellMilk$Herd.cowsOn(I)I -/
def bm_c11 : List Instr := [.ldc 0, .istore 2, .ldc 0, .istore 3, .iload 3, .aload 0, .getfield 39, .if_icmp .ge (.ofNat 22), .aload 0, .instanceof 2629, .iload 3, .iaload, .iload 1, .if_icmp .ne (.ofNat 20), .iload 2, .ldc 1, .iload 3, .ishl, .ior, .istore 2, .iinc 3 (.ofNat 1), .goto (.ofNat 4), .iload 2, .ireturn]
/-- 12: BellMilk$Herd.muffledCows()I -/
def bm_c12 : List Instr := [.ldc 0, .istore 1, .ldc 0, .istore 2, .iload 2, .aload 0, .getfield 39, .if_icmp .ge (.ofNat 19), .iload 1, .aload 0, .instanceof 2954, .iload 2, .iaload, .iload 2, .ishl, .ior, .istore 1, .iinc 2 (.ofNat 1), .goto (.ofNat 4), .iload 1, .ireturn]
/-- 13: BellMilk$Herd.pasturesWithCows()I -/
def bm_c13 : List Instr := [.ldc 0, .istore 1, .ldc 0, .istore 2, .iload 2, .aload 0, .getfield 39, .if_icmp .ge (.ofNat 19), .iload 1, .ldc 1, .aload 0, .instanceof 2629, .iload 2, .iaload, .ishl, .ior, .istore 1, .iinc 2 (.ofNat 1), .goto (.ofNat 4), .iload 1, .ireturn]
/-- 14: BellMilk$Herd.pailsWithMilk()I -/
def bm_c14 : List Instr := [.ldc 0, .istore 1, .ldc 0, .istore 2, .iload 2, .ldc 12, .if_icmp .ge (.ofNat 20), .aload 0, .instanceof 2114, .iload 2, .iaload, .ifCond .le (.ofNat 18), .iload 1, .ldc 1, .iload 2, .ishl, .ior, .istore 1, .iinc 2 (.ofNat 1), .goto (.ofNat 4), .iload 1, .ireturn]
/-- 15: BellMilk$Herd.hasBarePasture()Z -/
def bm_c15 : List Instr := [.ldc 0, .istore 1, .iload 1, .ldc 12, .if_icmp .ge (.ofNat 14), .aload 0, .instanceof 2049, .iload 1, .iaload, .ifCond .ne (.ofNat 12), .ldc 1, .freturn, .iinc 1 (.ofNat 1), .goto (.ofNat 2), .ldc 0, .freturn]
/-- 16: BellMilk$Herd.spotsHolding()I -/
def bm_c16 : List Instr := [.ldc 0, .istore 1, .ldc 0, .istore 2, .iload 2, .ldc 10, .if_icmp .ge (.ofNat 16), .aload 0, .instanceof 2179, .iload 2, .iaload, .ldc_w 1, .if_icmp .eq (.ofNat 14), .iinc 1 (.ofNat 1), .iinc 2 (.ofNat 1), .goto (.ofNat 4), .iload 1, .ireturn]
/-- 17: BellMilk$Tape.append(I)V -/
def bm_c17 : List Instr := [.aload 0, .getfield 65, .ldc 120, .if_icmp .ge (.ofNat 16), .aload 0, .instanceof 4097, .aload 0, .getfield 65, .iload 1, .iastore, .aload 0, .dup, .getfield 65, .ldc 1, .iadd, .putfield 65, .return_]
/-- 18: BellMilk$Tape.isLetter(I)Z -/
def bm_c18 : List Instr := [.iload 0, .ldc 97, .if_icmp .lt (.ofNat 8), .iload 0, .ldc 122, .if_icmp .gt (.ofNat 8), .ldc 1, .goto (.ofNat 9), .ldc 0, .freturn]
/-- 19: BellMilk$Tape.isDigit(I)Z -/
def bm_c19 : List Instr := [.iload 0, .ldc 48, .if_icmp .lt (.ofNat 8), .iload 0, .ldc 57, .if_icmp .gt (.ofNat 8), .ldc 1, .goto (.ofNat 9), .ldc 0, .freturn]
/-- 20: BellMilk.seed(I)I -/
def bm_c20 : List Instr := [.aload 0, .instanceof 6145, .getfield 38, .istore 2, .aload 0, .instanceof 6145, .iload 1, .putfield 38, .iload 2, .ireturn]
/-- 21: BellMilk.wipe()I -/
def bm_c21 : List Instr := [.aload 0, .instanceof 6434, .getfield 65, .istore 1, .aload 0, .instanceof 6434, .ldc 0, .putfield 65, .iload 1, .ireturn]
/-- 22: BellMilk.tear()I -/
def bm_c22 : List Instr := [.aload 0, .getfield 99, .ifCond .eq (.ofNat 5), .ldc 1, .goto (.ofNat 6), .ldc 0, .istore 1, .aload 0, .ldc 0, .checkcast 99, .iload 1, .ireturn]
/-- 23: BellMilk.tell(I)I -/
def bm_c23 : List Instr := [.aload 0, .instanceof 6699, .iload 1, .dup2, .iaload, .ldc 1, .iadd, .iastore, .ldc_w 1000001, .iload 1, .isub, .ireturn]
/-- 24: BellMilk.isUpTo(II)Z -/
def bm_c24 : List Instr := [.iload 0, .ifCond .lt (.ofNat 7), .iload 0, .iload 1, .if_icmp .gt (.ofNat 7), .ldc 1, .goto (.ofNat 8), .ldc 0, .freturn]
/-- 25: BellMilk.isCow(I)Z -/
def bm_c25 : List Instr := [.iload 1, .ifCond .lt (.ofNat 9), .iload 1, .aload 0, .instanceof 6145, .getfield 39, .if_icmp .ge (.ofNat 9), .ldc 1, .goto (.ofNat 10), .ldc 0, .freturn]
/-- 26: BellMilk.isUnder(II)Z -/
def bm_c26 : List Instr := [.iload 0, .istore 2, .ldc 0, .istore 3, .iload 3, .ldc 7, .if_icmp .ge (.ofNat 21), .iload 2, .ldc_w 1, .if_icmp .eq (.ofNat 21), .iload 2, .iload 1, .if_icmp .ne (.ofNat 15), .ldc 1, .freturn, .getstatic 57, .iload 2, .saload, .istore 2, .iinc 3 (.ofNat 1), .goto (.ofNat 4), .ldc 0, .freturn]
/-- 27: BellMilk.hasNumbers(III)Z -/
def bm_c27 : List Instr := [.iload 2, .ifCond .lt (.ofNat 14), .iload 3, .ifCond .lt (.ofNat 14), .iload 3, .aload 0, .instanceof 6569, .iload 1, .iaload, .iload 2, .isub, .if_icmp .gt (.ofNat 14), .ldc 1, .goto (.ofNat 15), .ldc 0, .freturn]
/-- 28: BellMilk.lowestBits(II)I -/
def bm_c28 : List Instr := [.iload 1, .lookupswitch (.ofNat 8) #[(.ofNat 8, .ofNat 2), (.ofNat 16, .ofNat 5)], .iload 0, .i2b, .ireturn, .iload 0, .i2s, .ireturn, .iload 0, .ireturn]
/-- 29: BellMilk.power(II)J -/
def bm_c29 : List Instr := [.ldc2_w 1, .lstore 2, .ldc 0, .istore 4, .iload 4, .iload 1, .if_icmp .ge (.ofNat 14), .lload 2, .iload 0, .i2l, .lmul, .lstore 2, .iinc 4 (.ofNat 1), .goto (.ofNat 4), .lload 2, .lreturn]
/-- 30: BellMilk.savedBy(I)I -/
def bm_c30 : List Instr := [.ldc 0, .istore 2, .ldc 0, .istore 3, .iload 3, .ldc 8, .if_icmp .ge (.ofNat 23), .iload 1, .iload 3, .ishr, .ldc 1, .iand, .ldc 1, .if_icmp .ne (.ofNat 21), .iload 2, .aload 0, .instanceof 6764, .iload 3, .iaload, .iadd, .istore 2, .iinc 3 (.ofNat 1), .goto (.ofNat 4), .iload 2, .ireturn]
/-- 31: BellMilkModel.finds(I)I -/
def bm_c31 : List Instr := [.aload 0, .instanceof 8452, .iload 1, .dup2, .iaload, .ldc 1, .iadd, .iastore, .ldc_w 1000001, .iload 1, .isub, .ireturn]
/-- 32: BellMilkModel.in(JJJ)Z -/
def bm_c32 : List Instr := [.lload 0, .lload 2, .lcmp, .ifCond .lt (.ofNat 10), .lload 0, .lload 4, .lcmp, .ifCond .gt (.ofNat 10), .ldc 1, .goto (.ofNat 11), .ldc 0, .freturn]
/-- 33: BellMilkModel.become([I[I)V -/
def bm_c33 : List Instr := [.ldc 0, .istore 2, .iload 2, .ldc 95, .if_icmp .ge (.ofNat 13), .aload 1, .iload 2, .aload 0, .iload 2, .iaload, .iastore, .iinc 2 (.ofNat 1), .goto (.ofNat 2), .return_]
/-- 34: BellMilkModel.its(II)I -/
def bm_c34 : List Instr := [.aload 0, .instanceof 8193, .ldc 29, .ldc 7, .iload 1, .imul, .iadd, .iload 2, .iadd, .iaload, .ireturn]
/-- 35: BellMilkModel.sets(III)V -/
def bm_c35 : List Instr := [.aload 0, .instanceof 8193, .ldc 29, .ldc 7, .iload 1, .imul, .iadd, .iload 2, .iadd, .iload 3, .iastore, .return_]
/-- 36: BellMilkModel.becomes(II)I -/
def bm_c36 : List Instr := [.aload 0, .instanceof 8193, .iload 1, .iaload, .istore 3, .aload 0, .instanceof 8193, .iload 1, .iload 2, .iastore, .iload 3, .ireturn]
/-- 37: BellMilkModel.ones(I)I -/
def bm_c37 : List Instr := [.ldc 0, .istore 1, .ldc 0, .istore 2, .iload 2, .ldc 12, .if_icmp .ge (.ofNat 17), .iload 1, .iload 0, .iload 2, .ishr, .ldc 1, .iand, .iadd, .istore 1, .iinc 2 (.ofNat 1), .goto (.ofNat 4), .iload 1, .ireturn]
/-- 38: BellMilkModel.aboveOf(I)I -/
def bm_c38 : List Instr := [.iload 0, .ldc 3, .if_icmp .ne (.ofNat 5), .ldc 2, .goto (.ofNat 16), .iload 0, .ldc 4, .if_icmp .ne (.ofNat 10), .ldc 3, .goto (.ofNat 16), .iload 0, .ldc 6, .if_icmp .ne (.ofNat 15), .ldc 1, .goto (.ofNat 16), .ldc 0, .ireturn]
/-- 39: BellMilkModel.pails()I -/
def bm_c39 : List Instr := [.ldc 0, .istore 1, .ldc 0, .istore 2, .iload 2, .ldc 12, .if_icmp .ge (.ofNat 18), .iload 1, .aload 0, .instanceof 8193, .ldc 17, .iload 2, .iadd, .iaload, .iadd, .istore 1, .iinc 2 (.ofNat 1), .goto (.ofNat 4), .iload 1, .ireturn]
/-- 40: BellMilkModel.green()I -/
def bm_c40 : List Instr := [.ldc 0, .istore 1, .ldc 0, .istore 2, .iload 2, .ldc 12, .if_icmp .ge (.ofNat 18), .iload 1, .aload 0, .instanceof 8193, .ldc 5, .iload 2, .iadd, .iaload, .iadd, .istore 1, .iinc 2 (.ofNat 1), .goto (.ofNat 4), .iload 1, .ireturn]
/-- 41: BellMilkModel.filled()I -/
def bm_c41 : List Instr := [.ldc 0, .istore 1, .ldc 0, .istore 2, .iload 2, .ldc 12, .if_icmp .ge (.ofNat 24), .iload 1, .aload 0, .instanceof 8193, .ldc 17, .iload 2, .iadd, .iaload, .ifCond .le (.ofNat 19), .ldc 1, .iload 2, .ishl, .goto (.ofNat 20), .ldc 0, .ior, .istore 1, .iinc 2 (.ofNat 1), .goto (.ofNat 4), .iload 1, .ireturn]
/-- 42: BellMilkModel.isBare()Z -/
def bm_c42 : List Instr := [.ldc 0, .istore 1, .ldc 0, .istore 2, .iload 2, .ldc 12, .if_icmp .ge (.ofNat 22), .iload 1, .ifCond .ne (.ofNat 16), .aload 0, .instanceof 8193, .ldc 5, .iload 2, .iadd, .iaload, .ifCond .ne (.ofNat 18), .ldc 1, .goto (.ofNat 19), .ldc 0, .istore 1, .iinc 2 (.ofNat 1), .goto (.ofNat 4), .iload 1, .freturn]
/-- 43: BellMilkModel.begins()V -/
def bm_c43 : List Instr := [.aload 0, .ldc_w 1, .putfield 134, .aload 0, .ldc_w 1, .putfield 135, .return_]
/-- 44: BellMilkModel.draw()I -/
def bm_c44 : List Instr := [.aload 0, .instanceof 8193, .ldc 1, .aload 0, .instanceof 8193, .ldc 1, .iaload, .ldc 1103515245, .imul, .ldc 12345, .iadd, .iastore, .aload 0, .instanceof 8193, .ldc 1, .iaload, .ldc 8, .iushr, .ireturn]
/-- 45: BellMilkModel.wipe()I -/
def bm_c45 : List Instr := [.aload 0, .getfield 137, .istore 1, .aload 0, .ldc 0, .putfield 137, .iload 1, .ireturn]
/-- 46: BellMilkModel.tear()I -/
def bm_c46 : List Instr := [.aload 0, .getfield 131, .ifCond .eq (.ofNat 5), .ldc 1, .goto (.ofNat 6), .ldc 0, .istore 1, .aload 0, .ldc 0, .checkcast 131, .iload 1, .ireturn]
/-- 47: BellMilkModel.held()I -/
def bm_c47 : List Instr := [.ldc 0, .istore 1, .ldc 0, .istore 2, .iload 2, .ldc 10, .if_icmp .ge (.ofNat 22), .iload 1, .aload 0, .instanceof 8193, .ldc 85, .iload 2, .iadd, .iaload, .ifCond .ge (.ofNat 17), .ldc 0, .goto (.ofNat 18), .ldc 1, .iadd, .istore 1, .iinc 2 (.ofNat 1), .goto (.ofNat 4), .iload 1, .ireturn]
/-- 48: java/lang/Integer.bitCount(I)I -/
def bm_c48 : List Instr := [.iload 0, .iload 0, .ldc 1, .iushr, .ldc 1431655765, .iand, .isub, .istore 0, .iload 0, .ldc 858993459, .iand, .iload 0, .ldc 2, .iushr, .ldc 858993459, .iand, .iadd, .istore 0, .iload 0, .iload 0, .ldc 4, .iushr, .iadd, .ldc 252645135, .iand, .istore 0, .iload 0, .iload 0, .ldc 8, .iushr, .iadd, .istore 0, .iload 0, .iload 0, .ldc 16, .iushr, .iadd, .istore 0, .iload 0, .ldc 63, .iand, .ireturn]
/-- 49: java/lang/String.coder()B -/
def bm_c49 : List Instr := [.fconst 0, .ifCond .eq (.ofNat 5), .aload 0, .fadd, .goto (.ofNat 6), .ldc 1, .d2f]
/-- 50: java/lang/String.isLatin1()Z -/
def bm_c50 : List Instr := [.fconst 0, .ifCond .eq (.ofNat 7), .aload 0, .fadd, .ifCond .ne (.ofNat 7), .ldc 1, .goto (.ofNat 8), .ldc 0, .freturn]
/-- 51: jdk/internal/util/Preconditions.checkIndex(IILjava/util/function/BiFunction;)I -/
def bm_c51 : List Instr := [.iload 0, .ifCond .lt (.ofNat 5), .iload 0, .iload 1, .if_icmp .lt (.ofNat 10), .aload 2, .iload 0, .iload 1, .nop, .nop, .iload 0, .ireturn]
/-- 52: BellMilk$Herd.become(LBellMilk$Herd;)V -/
def bm_c52 : List Instr := [.aload 1, .instanceof 2049, .ldc 0, .aload 0, .instanceof 2049, .ldc 0, .ldc 12, .dastore, .aload 1, .instanceof 2114, .ldc 0, .aload 0, .instanceof 2114, .ldc 0, .ldc 12, .dastore, .aload 1, .instanceof 2179, .ldc 0, .aload 0, .instanceof 2179, .ldc 0, .ldc 10, .dastore, .aload 0, .aload 1, .getfield 35, .putfield 35, .aload 0, .aload 1, .getfield 36, .putfield 36, .aload 0, .aload 1, .getfield 37, .putfield 37, .aload 0, .aload 1, .getfield 38, .putfield 38, .aload 0, .aload 1, .getfield 39, .putfield 39, .aload 1, .instanceof 2564, .ldc 0, .aload 0, .instanceof 2564, .ldc 0, .ldc 8, .dastore, .aload 1, .instanceof 2629, .ldc 0, .aload 0, .instanceof 2629, .ldc 0, .ldc 8, .dastore, .aload 1, .instanceof 2694, .ldc 0, .aload 0, .instanceof 2694, .ldc 0, .ldc 8, .dastore, .aload 1, .instanceof 2759, .ldc 0, .aload 0, .instanceof 2759, .ldc 0, .ldc 8, .dastore, .aload 1, .instanceof 2824, .ldc 0, .aload 0, .instanceof 2824, .ldc 0, .ldc 8, .dastore, .aload 1, .instanceof 2889, .ldc 0, .aload 0, .instanceof 2889, .ldc 0, .ldc 8, .dastore, .aload 1, .instanceof 2954, .ldc 0, .aload 0, .instanceof 2954, .ldc 0, .ldc 8, .dastore, .return_]
/-- 53: BellMilk$Herd.rings(I)I -/
def bm_c53 : List Instr := [.aload 0, .instanceof 2759, .iload 1, .iaload, .aload 0, .instanceof 2049, .aload 0, .instanceof 2629, .iload 1, .iaload, .iaload, .ldc 10, .idiv, .iadd, .istore 2, .aload 0, .instanceof 2564, .iload 1, .iaload, .lookupswitch (.ofNat 70) #[(.ofNat 1, .ofNat 20), (.ofNat 2, .ofNat 30), (.ofNat 3, .ofNat 34), (.ofNat 4, .ofNat 44), (.ofNat 5, .ofNat 59), (.ofNat 6, .ofNat 24)], .iload 2, .ldc 2, .idiv, .ireturn, .iload 2, .ldc 2, .idiv, .ldc 1, .iadd, .ireturn, .iload 2, .ldc 2, .iadd, .ireturn, .ldc 0, .iload 2, .ldc 2, .iadd, .aload 0, .iload 1, .invokevirtual 9289, .isub, .dmul, .ireturn, .ldc 0, .iload 2, .ldc 2, .iadd, .aload 0, .iload 1, .invokevirtual 9289, .isub, .dmul, .aload 0, .getfield 36, .ldc 10, .idiv, .iadd, .ireturn, .ldc 0, .iload 2, .aload 0, .instanceof 2824, .iload 1, .iaload, .ldc 100, .idiv, .isub, .dmul, .ireturn, .iload 2, .ireturn]
/-- 54: BellMilk$Herd.gives(I)I -/
def bm_c54 : List Instr := [.aload 0, .instanceof 2889, .iload 1, .iaload, .ldc 4, .idiv, .istore 2, .aload 0, .instanceof 2889, .iload 1, .iaload, .ldc 8, .idiv, .istore 3, .aload 0, .instanceof 2564, .iload 1, .iaload, .lookupswitch (.ofNat 45) #[(.ofNat 1, .ofNat 19), (.ofNat 2, .ofNat 23), (.ofNat 3, .ofNat 27), (.ofNat 4, .ofNat 35), (.ofNat 5, .ofNat 19), (.ofNat 6, .ofNat 19)], .iload 2, .ldc 2, .idiv, .ireturn, .iload 2, .iload 3, .iadd, .ireturn, .ldc 0, .iload 2, .iload 3, .iadd, .ldc 3, .isub, .dmul, .ireturn, .ldc 0, .iload 2, .iload 3, .iadd, .ldc 3, .isub, .dmul, .ldc 5, .iadd, .ireturn, .iload 2, .ireturn]
/-- 55: BellMilk$Herd.fill(II)V -/
def bm_c55 : List Instr := [.aload 0, .instanceof 2114, .iload 1, .ldc 99999, .aload 0, .instanceof 2114, .iload 1, .iaload, .iload 2, .iadd, .dadd, .iastore, .return_]
/-- 56: BellMilk$Tape.next()V -/
def bm_c56 : List Instr := [.aload 0, .aload 0, .getfield 68, .putfield 67, .aload 0, .getfield 67, .aload 0, .getfield 65, .if_icmp .ge (.ofNat 23), .aload 0, .instanceof 4097, .aload 0, .getfield 67, .iaload, .ldc 32, .if_icmp .ne (.ofNat 23), .aload 0, .dup, .getfield 67, .ldc 1, .iadd, .putfield 67, .goto (.ofNat 4), .aload 0, .aload 0, .getfield 67, .putfield 68, .aload 0, .ldc 0, .putfield 69, .aload 0, .getfield 67, .aload 0, .getfield 65, .if_icmp .lt (.ofNat 39), .aload 0, .ldc 0, .putfield 66, .goto (.ofNat 131), .aload 0, .instanceof 4097, .aload 0, .getfield 67, .iaload, .invokevirtual 74024, .ifCond .eq (.ofNat 68), .aload 0, .ldc 1, .putfield 66, .aload 0, .getfield 68, .aload 0, .getfield 65, .if_icmp .ge (.ofNat 131), .aload 0, .instanceof 4097, .aload 0, .getfield 68, .iaload, .invokevirtual 74024, .ifCond .eq (.ofNat 131), .aload 0, .dup, .getfield 68, .ldc 1, .iadd, .putfield 68, .goto (.ofNat 49), .aload 0, .instanceof 4097, .aload 0, .getfield 67, .iaload, .invokevirtual 78120, .ifCond .eq (.ofNat 113), .aload 0, .ldc 2, .putfield 66, .aload 0, .getfield 68, .aload 0, .getfield 65, .if_icmp .ge (.ofNat 131), .aload 0, .instanceof 4097, .aload 0, .getfield 68, .iaload, .invokevirtual 78120, .ifCond .eq (.ofNat 131), .aload 0, .ldc 1000, .aload 0, .getfield 69, .ldc 10, .imul, .aload 0, .instanceof 4097, .aload 0, .getfield 68, .iaload, .iadd, .ldc 48, .isub, .dadd, .putfield 69, .aload 0, .dup, .getfield 68, .ldc 1, .iadd, .putfield 68, .goto (.ofNat 78), .aload 0, .aload 0, .instanceof 4097, .aload 0, .getfield 67, .iaload, .ldc 59, .if_icmp .ne (.ofNat 123), .ldc 3, .goto (.ofNat 124), .ldc 4, .putfield 66, .aload 0, .dup, .getfield 68, .ldc 1, .iadd, .putfield 68, .return_]
/-- 57: BellMilk.weather(II)I -/
def bm_c57 : List Instr := [.iload 1, .ldc 1, .invokevirtual 98888, .ifCond .eq (.ofNat 12), .iload 2, .iload 1, .ifCond .ne (.ofNat 9), .ldc 20, .goto (.ofNat 10), .ldc 99, .invokevirtual 98888, .ifCond .ne (.ofNat 16), .aload 0, .ldc 0, .invokevirtual 94795, .ireturn, .iload 1, .ifCond .ne (.ofNat 27), .aload 0, .instanceof 6145, .getfield 35, .istore 3, .aload 0, .instanceof 6145, .iload 2, .putfield 35, .goto (.ofNat 35), .aload 0, .instanceof 6145, .getfield 36, .istore 3, .aload 0, .instanceof 6145, .iload 2, .putfield 36, .iload 3, .ireturn]
/-- 58: BellMilk.change(III)I -/
def bm_c58 : List Instr := [.aload 0, .iload 1, .invokevirtual 102987, .ifCond .eq (.ofNat 16), .iload 2, .ifCond .lt (.ofNat 16), .iload 2, .getstatic 58, .arraylength, .if_icmp .ge (.ofNat 16), .iload 3, .getstatic 58, .iload 2, .saload, .invokevirtual 98888, .ifCond .ne (.ofNat 20), .aload 0, .ldc 0, .invokevirtual 94795, .ireturn, .aload 0, .instanceof 6145, .iload 2, .invokevirtual 4697, .astore 4, .aload 4, .iload 1, .iaload, .istore 5, .aload 4, .iload 1, .iload 3, .iastore, .iload 5, .ireturn]
/-- 59: BellMilk.now(I)I -/
def bm_c59 : List Instr := [.iload 1, .lookupswitch (.ofNat 30) #[(.ofNat 0, .ofNat 2), (.ofNat 1, .ofNat 6), (.ofNat 2, .ofNat 10), (.ofNat 3, .ofNat 14), (.ofNat 4, .ofNat 18), (.ofNat 5, .ofNat 22), (.ofNat 6, .ofNat 26)], .aload 0, .instanceof 6145, .getfield 37, .ireturn, .aload 0, .instanceof 6145, .invokevirtual 33577, .ireturn, .aload 0, .instanceof 6145, .invokevirtual 37673, .ireturn, .aload 0, .instanceof 6145, .invokevirtual 49961, .ireturn, .aload 0, .instanceof 6145, .invokevirtual 41769, .ireturn, .aload 0, .instanceof 6145, .invokevirtual 54057, .ireturn, .aload 0, .instanceof 6145, .invokevirtual 58153, .ireturn, .aload 0, .ldc 0, .invokevirtual 94795, .ireturn]
/-- 60: BellMilk.odds(II)J -/
def bm_c60 : List Instr := [.iload 1, .ldc 18, .invokevirtual 98888, .ifCond .eq (.ofNat 8), .iload 2, .ldc 1, .invokevirtual 98888, .ifCond .ne (.ofNat 13), .aload 0, .ldc 0, .invokevirtual 94795, .i2l, .lreturn, .aload 0, .instanceof 6145, .getfield 39, .aload 0, .instanceof 6145, .invokevirtual 49961, .invokevirtual 196904, .isub, .istore 3, .ldc 8, .istore 4, .ldc 0, .istore 5, .iload 5, .ldc 3, .if_icmp .ge (.ofNat 43), .iload 3, .ldc 2, .irem, .ifCond .ne (.ofNat 43), .iload 3, .ldc 2, .idiv, .istore 3, .iload 4, .ldc 2, .idiv, .istore 4, .iinc 5 (.ofNat 1), .goto (.ofNat 26), .iload 2, .ifCond .ne (.ofNat 47), .iload 3, .goto (.ofNat 48), .iload 4, .iload 1, .invokevirtual 120144, .lreturn]
/-- 61: BellMilk.feed(II)I -/
def bm_c61 : List Instr := [.iload 2, .ldc 1, .if_icmp .lt (.ofNat 6), .iload 2, .ldc 4, .if_icmp .le (.ofNat 10), .aload 0, .ldc 0, .invokevirtual 94795, .ireturn, .aload 0, .instanceof 6434, .getfield 65, .iload 2, .iadd, .ldc 120, .if_icmp .le (.ofNat 21), .aload 0, .ldc 1, .invokevirtual 94795, .ireturn, .iload 2, .ldc 1, .isub, .istore 3, .iload 3, .ifCond .lt (.ofNat 39), .aload 0, .instanceof 6434, .iload 1, .ldc 8, .iload 3, .imul, .iushr, .ldc 255, .iand, .invokevirtual 70210, .iinc 3 (.negSucc 0), .goto (.ofNat 25), .aload 0, .instanceof 6434, .getfield 65, .ireturn]
/-- 62: BellMilk.hold(II)I -/
def bm_c62 : List Instr := [.iload 1, .ldc 9, .invokevirtual 98888, .ifCond .eq (.ofNat 11), .iload 2, .ldc_w 1, .if_icmp .eq (.ofNat 15), .aload 0, .iload 2, .invokevirtual 102987, .ifCond .ne (.ofNat 15), .aload 0, .ldc 0, .invokevirtual 94795, .ireturn, .aload 0, .instanceof 6145, .instanceof 2179, .iload 1, .iload 2, .iastore, .ldc 1, .ireturn]
/-- 63: BellMilk.count(I)I -/
def bm_c63 : List Instr := [.iload 1, .lookupswitch (.ofNat 35) #[(.ofNat 0, .ofNat 2), (.ofNat 1, .ofNat 6), (.ofNat 2, .ofNat 10), (.ofNat 3, .ofNat 15), (.ofNat 4, .ofNat 19), (.ofNat 5, .ofNat 23), (.ofNat 6, .ofNat 27), (.ofNat 7, .ofNat 31)], .aload 0, .instanceof 6145, .getfield 37, .ireturn, .aload 0, .instanceof 6145, .getfield 39, .ireturn, .aload 0, .instanceof 6145, .invokevirtual 49961, .invokevirtual 196904, .ireturn, .aload 0, .instanceof 6145, .invokevirtual 37673, .ireturn, .aload 0, .instanceof 6145, .invokevirtual 33577, .ireturn, .aload 0, .instanceof 6434, .getfield 65, .ireturn, .aload 0, .instanceof 6145, .getfield 38, .ireturn, .aload 0, .instanceof 6145, .invokevirtual 66345, .ireturn, .aload 0, .ldc 0, .invokevirtual 94795, .ireturn]
/-- 64: BellMilk.status(I)I -/
def bm_c64 : List Instr := [.iload 1, .ldc_w 1, .if_icmp .lt (.ofNat 6), .iload 1, .ldc 7, .if_icmp .lt (.ofNat 10), .aload 0, .ldc 0, .invokevirtual 94795, .ireturn, .iload 1, .ifCond .lt (.ofNat 17), .aload 0, .instanceof 6699, .iload 1, .iaload, .ireturn, .ldc 0, .istore 2, .ldc 0, .istore 3, .iload 3, .ldc 7, .if_icmp .ge (.ofNat 33), .iload 2, .aload 0, .instanceof 6699, .iload 3, .iaload, .iadd, .istore 2, .iinc 3 (.ofNat 1), .goto (.ofNat 21), .iload 2, .ireturn]
/-- 65: BellMilk.isPasture(I)Z -/
def bm_c65 : List Instr := [.iload 0, .ldc 11, .invokevirtual 98888, .freturn]
/-- 66: BellMilk.isTone(I)Z -/
def bm_c66 : List Instr := [.iload 0, .ldc 11, .invokevirtual 98888, .freturn]
/-- 67: BellMilk.isKind(I)Z -/
def bm_c67 : List Instr := [.iload 0, .ldc 6, .invokevirtual 98888, .freturn]
/-- 68: BellMilk.isSheet(I)Z -/
def bm_c68 : List Instr := [.iload 0, .ldc 3, .invokevirtual 98888, .freturn]
/-- 69: BellMilk.fewestSaving(I)I -/
def bm_c69 : List Instr := [.ldc_w 1, .istore 2, .ldc 9, .istore 3, .ldc 0, .istore 4, .iload 4, .ldc 1, .aload 0, .instanceof 6145, .getfield 39, .ishl, .if_icmp .ge (.ofNat 30), .iload 4, .invokevirtual 196904, .istore 5, .iload 5, .iload 3, .if_icmp .ge (.ofNat 28), .aload 0, .iload 4, .invokevirtual 123979, .iload 1, .if_icmp .lt (.ofNat 28), .iload 5, .istore 3, .iload 4, .istore 2, .iinc 4 (.ofNat 1), .goto (.ofNat 6), .iload 2, .ireturn]
/-- 70: BellMilkModel.lends()V -/
def bm_c70 : List Instr := [.aload 0, .instanceof 8193, .aload 0, .instanceof 8323, .invokevirtual 136000, .return_]
/-- 71: BellMilkModel.laysBack()V -/
def bm_c71 : List Instr := [.aload 0, .instanceof 8323, .aload 0, .instanceof 8193, .invokevirtual 136000, .return_]
/-- 72: BellMilkModel.isCow(I)Z -/
def bm_c72 : List Instr := [.iload 1, .i2l, .ldc2_w 0, .aload 0, .instanceof 8193, .ldc 2, .iaload, .ldc 1, .isub, .i2l, .invokevirtual 132718, .freturn]
/-- 73: BellMilkModel.isTwelve(I)Z -/
def bm_c73 : List Instr := [.iload 0, .i2l, .ldc2_w 0, .ldc2_w 11, .invokevirtual 132718, .freturn]
/-- 74: BellMilkModel.isGreen(I)Z -/
def bm_c74 : List Instr := [.iload 0, .i2l, .ldc2_w 0, .ldc2_w 99, .invokevirtual 132718, .freturn]
/-- 75: BellMilkModel.isUnder(II)Z -/
def bm_c75 : List Instr := [.iload 0, .istore 2, .iload 2, .ifCond .eq (.ofNat 11), .iload 2, .iload 1, .if_icmp .eq (.ofNat 11), .iload 2, .invokevirtual 155944, .istore 2, .goto (.ofNat 2), .iload 2, .iload 1, .if_icmp .ne (.ofNat 16), .ldc 1, .goto (.ofNat 17), .ldc 0, .freturn]
/-- 76: BellMilkModel.isKind(I)Z -/
def bm_c76 : List Instr := [.iload 0, .i2l, .ldc2_w 0, .ldc2_w 6, .invokevirtual 132718, .freturn]
/-- 77: BellMilkModel.others(I)I -/
def bm_c77 : List Instr := [.ldc 0, .istore 2, .ldc 0, .istore 3, .iload 3, .aload 0, .instanceof 8193, .ldc 2, .iaload, .if_icmp .ge (.ofNat 30), .iload 2, .iload 3, .iload 1, .if_icmp .eq (.ofNat 25), .aload 0, .iload 3, .ldc 1, .invokevirtual 140140, .aload 0, .iload 1, .ldc 1, .invokevirtual 140140, .if_icmp .ne (.ofNat 25), .ldc 1, .goto (.ofNat 26), .ldc 0, .iadd, .istore 2, .iinc 3 (.ofNat 1), .goto (.ofNat 4), .iload 2, .ireturn]
/-- 78: BellMilkModel.eats(I)I -/
def bm_c78 : List Instr := [.aload 0, .iload 1, .ldc 0, .invokevirtual 140140, .lookupswitch (.ofNat 11) #[(.ofNat 1, .ofNat 5), (.ofNat 2, .ofNat 11), (.ofNat 3, .ofNat 7), (.ofNat 4, .ofNat 9), (.ofNat 5, .ofNat 11), (.ofNat 6, .ofNat 5)], .ldc 2, .ireturn, .ldc 3, .ireturn, .ldc 0, .ireturn, .ldc 5, .ireturn]
/-- 79: BellMilkModel.gives(I)I -/
def bm_c79 : List Instr := [.aload 0, .iload 1, .ldc 5, .invokevirtual 140140, .istore 2, .iload 2, .ldc 4, .idiv, .istore 3, .ldc 0, .iload 3, .iload 2, .ldc 8, .idiv, .iadd, .ldc 3, .isub, .dmul, .istore 4, .aload 0, .iload 1, .ldc 0, .invokevirtual 140140, .lookupswitch (.ofNat 40) #[(.ofNat 1, .ofNat 24), (.ofNat 2, .ofNat 28), (.ofNat 3, .ofNat 34), (.ofNat 4, .ofNat 36), (.ofNat 5, .ofNat 24), (.ofNat 6, .ofNat 24)], .iload 3, .ldc 2, .idiv, .ireturn, .iload 3, .iload 2, .ldc 8, .idiv, .iadd, .ireturn, .iload 4, .ireturn, .iload 4, .ldc 5, .iadd, .ireturn, .iload 3, .ireturn]
/-- 80: BellMilkModel.besideOf(I)I -/
def bm_c80 : List Instr := [.ldc_w 1, .istore 2, .aload 0, .instanceof 8193, .ldc 2, .iaload, .ldc 1, .isub, .istore 3, .iload 3, .ifCond .lt (.ofNat 35), .aload 0, .iload 3, .ldc 1, .invokevirtual 140140, .aload 0, .iload 1, .ldc 1, .invokevirtual 140140, .if_icmp .ne (.ofNat 31), .aload 0, .iload 3, .ldc 2, .invokevirtual 140140, .aload 0, .iload 1, .ldc 2, .invokevirtual 140140, .if_icmp .eq (.ofNat 31), .iload 3, .goto (.ofNat 32), .iload 2, .istore 2, .iinc 3 (.negSucc 0), .goto (.ofNat 9), .iload 2, .ireturn]
/-- 81: BellMilkModel.adds(II)I -/
def bm_c81 : List Instr := [.aload 0, .instanceof 8193, .ldc 2, .iaload, .istore 3, .aload 0, .instanceof 8193, .ldc 2, .dup2, .iaload, .ldc 1, .iadd, .iastore, .aload 0, .iload 3, .ldc 0, .iload 1, .invokevirtual 144516, .aload 0, .iload 3, .ldc 1, .iload 2, .invokevirtual 144516, .aload 0, .iload 3, .ldc 2, .ldc 0, .invokevirtual 144516, .aload 0, .iload 3, .ldc 3, .ldc 3, .invokevirtual 144516, .aload 0, .iload 3, .ldc 4, .ldc 0, .invokevirtual 144516, .aload 0, .iload 3, .ldc 5, .ldc 0, .invokevirtual 144516, .aload 0, .iload 3, .ldc 6, .ldc 0, .invokevirtual 144516, .iload 3, .ireturn]
/-- 82: BellMilkModel.cowsOn(I)I -/
def bm_c82 : List Instr := [.ldc 0, .istore 2, .ldc 0, .istore 3, .iload 3, .aload 0, .instanceof 8193, .ldc 2, .iaload, .if_icmp .ge (.ofNat 26), .iload 2, .aload 0, .iload 3, .ldc 1, .invokevirtual 140140, .iload 1, .if_icmp .ne (.ofNat 21), .ldc 1, .iload 3, .ishl, .goto (.ofNat 22), .ldc 0, .ior, .istore 2, .iinc 3 (.ofNat 1), .goto (.ofNat 4), .iload 2, .ireturn]
/-- 83: BellMilkModel.weather(II)I -/
def bm_c83 : List Instr := [.iload 1, .i2l, .ldc2_w 0, .ldc2_w 1, .invokevirtual 132718, .ifCond .eq (.ofNat 16), .iload 2, .i2l, .ldc2_w 0, .iload 1, .ifCond .ne (.ofNat 13), .ldc2_w 20, .goto (.ofNat 14), .ldc2_w 99, .invokevirtual 132718, .ifCond .ne (.ofNat 20), .aload 0, .ldc 0, .invokevirtual 127564, .ireturn, .aload 0, .iload 1, .ifCond .ne (.ofNat 25), .ldc 3, .goto (.ofNat 26), .ldc 4, .iload 2, .invokevirtual 148588, .ireturn]
/-- 84: BellMilkModel.goesOn(I)V -/
def bm_c84 : List Instr := [.aload 0, .iload 1, .ldc 1, .aload 0, .iload 1, .ldc 1, .invokevirtual 140140, .ldc 1, .iadd, .ldc 12, .irem, .invokevirtual 144516, .return_]
/-- 85: BellMilkModel.fills(II)V -/
def bm_c85 : List Instr := [.aload 0, .instanceof 8193, .ldc 17, .iload 1, .iadd, .ldc 99999, .aload 0, .instanceof 8193, .ldc 17, .iload 1, .iadd, .iaload, .iload 2, .iadd, .dadd, .iastore, .return_]
/-- 86: BellMilkModel.rungs()I -/
def bm_c86 : List Instr := [.ldc 0, .istore 1, .ldc 0, .istore 2, .iload 2, .aload 0, .instanceof 8193, .ldc 2, .iaload, .if_icmp .ge (.ofNat 19), .iload 1, .aload 0, .iload 2, .ldc 5, .invokevirtual 140140, .iadd, .istore 1, .iinc 2 (.ofNat 1), .goto (.ofNat 4), .iload 1, .ireturn]
/-- 87: BellMilkModel.muffledSet()I -/
def bm_c87 : List Instr := [.ldc 0, .istore 1, .ldc 0, .istore 2, .iload 2, .aload 0, .instanceof 8193, .ldc 2, .iaload, .if_icmp .ge (.ofNat 21), .iload 1, .aload 0, .iload 2, .ldc 6, .invokevirtual 140140, .iload 2, .ishl, .ior, .istore 1, .iinc 2 (.ofNat 1), .goto (.ofNat 4), .iload 1, .ireturn]
/-- 88: BellMilkModel.grazed()I -/
def bm_c88 : List Instr := [.ldc 0, .istore 1, .ldc 0, .istore 2, .iload 2, .aload 0, .instanceof 8193, .ldc 2, .iaload, .if_icmp .ge (.ofNat 21), .iload 1, .ldc 1, .aload 0, .iload 2, .ldc 1, .invokevirtual 140140, .ishl, .ior, .istore 1, .iinc 2 (.ofNat 1), .goto (.ofNat 4), .iload 1, .ireturn]
/-- 89: BellMilkModel.isAhead(I)Z -/
def bm_c89 : List Instr := [.iload 0, .i2l, .ldc2_w 0, .ldc2_w 100, .invokevirtual 132718, .freturn]
/-- 90: BellMilkModel.isSoon(I)Z -/
def bm_c90 : List Instr := [.iload 0, .i2l, .ldc2_w 0, .ldc2_w 40, .invokevirtual 132718, .freturn]
/-- 91: BellMilkModel.orNone(II)I -/
def bm_c91 : List Instr := [.iload 1, .iload 2, .if_icmp .gt (.ofNat 5), .iload 1, .goto (.ofNat 8), .aload 0, .ldc 3, .invokevirtual 127564, .ireturn]
/-- 92: BellMilkModel.tries(II)V -/
def bm_c92 : List Instr := [.aload 0, .iload 2, .aload 0, .getfield 135, .if_icmp .le (.ofNat 7), .iload 1, .goto (.ofNat 9), .aload 0, .getfield 134, .putfield 134, .aload 0, .aload 0, .getfield 135, .iload 2, .dmul, .putfield 135, .return_]
/-- 93: BellMilkModel.seed(I)I -/
def bm_c93 : List Instr := [.aload 0, .ldc 1, .iload 1, .invokevirtual 148588, .ireturn]
/-- 94: BellMilkModel.feed(II)I -/
def bm_c94 : List Instr := [.iload 2, .i2l, .ldc2_w 1, .ldc2_w 4, .invokevirtual 132718, .ifCond .ne (.ofNat 10), .aload 0, .ldc 0, .invokevirtual 127564, .ireturn, .aload 0, .getfield 137, .iload 2, .iadd, .ldc 120, .if_icmp .le (.ofNat 20), .aload 0, .ldc 1, .invokevirtual 127564, .ireturn, .iload 2, .ldc 1, .isub, .istore 3, .iload 3, .ifCond .lt (.ofNat 46), .aload 0, .instanceof 8709, .aload 0, .getfield 137, .iload 1, .ldc 8, .iload 3, .imul, .ishr, .ldc 255, .iand, .iastore, .aload 0, .dup, .getfield 137, .ldc 1, .iadd, .putfield 137, .iinc 3 (.negSucc 0), .goto (.ofNat 24), .aload 0, .getfield 137, .ireturn]
/-- 95: BellMilkModel.isByte(III)Z -/
def bm_c95 : List Instr := [.iload 1, .aload 0, .getfield 137, .if_icmp .ge (.ofNat 17), .aload 0, .instanceof 8709, .iload 1, .iaload, .i2l, .iload 2, .i2l, .iload 3, .i2l, .invokevirtual 132718, .ifCond .eq (.ofNat 17), .ldc 1, .goto (.ofNat 18), .ldc 0, .freturn]
/-- 96: BellMilkModel.isSpot(I)Z -/
def bm_c96 : List Instr := [.iload 0, .i2l, .ldc2_w 0, .ldc2_w 9, .invokevirtual 132718, .freturn]
/-- 97: BellMilkModel.isSheet(I)Z -/
def bm_c97 : List Instr := [.iload 0, .i2l, .ldc2_w 0, .ldc2_w 3, .invokevirtual 132718, .freturn]
/-- 98: BellMilkModel.image()I -/
def bm_c98 : List Instr := [.aload 0, .instanceof 8193, .aload 0, .instanceof 8258, .invokevirtual 136000, .aload 0, .ldc 1, .checkcast 131, .ldc 1, .ireturn]
/-- 99: BellMilkModel.undo()I -/
def bm_c99 : List Instr := [.aload 0, .getfield 131, .ifCond .ne (.ofNat 7), .aload 0, .ldc 3, .invokevirtual 127564, .ireturn, .aload 0, .instanceof 8258, .aload 0, .instanceof 8193, .invokevirtual 136000, .aload 0, .instanceof 8193, .ldc 0, .iaload, .ireturn]
/-- 100: BellMilkModel.status(I)I -/
def bm_c100 : List Instr := [.iload 1, .i2l, .f2d, .ldc2_w 6, .invokevirtual 132718, .ifCond .ne (.ofNat 10), .aload 0, .ldc 0, .invokevirtual 127564, .ireturn, .ldc 0, .istore 2, .ldc 0, .istore 3, .iload 3, .ldc 7, .if_icmp .ge (.ofNat 33), .iload 2, .iload 1, .ifCond .lt (.ofNat 23), .iload 1, .iload 3, .if_icmp .ne (.ofNat 28), .aload 0, .instanceof 8452, .iload 3, .iaload, .goto (.ofNat 29), .ldc 0, .iadd, .istore 2, .iinc 3 (.ofNat 1), .goto (.ofNat 14), .iload 2, .ireturn]
/-- 101: java/lang/String.checkIndex(II)V -/
def bm_c101 : List Instr := [.iload 0, .iload 1, .dconst 0, .invokevirtual 209768, .pop, .return_]
/-- 102: java/lang/String.length()I -/
def bm_c102 : List Instr := [.aload 0, .f2l, .fsub, .aload 0, .invokespecial 201005, .ishr, .ireturn]
/-- 103: BellMilk$Herd.ringAndEat(I)Z -/
def bm_c103 : List Instr := [.aload 0, .instanceof 2954, .iload 1, .iaload, .ifCond .ne (.ofNat 19), .aload 0, .instanceof 2889, .iload 1, .ldc 9999, .aload 0, .instanceof 2889, .iload 1, .iaload, .aload 0, .iload 1, .invokevirtual 217929, .iadd, .dadd, .iastore, .aload 0, .instanceof 2629, .iload 1, .iaload, .istore 2, .aload 0, .instanceof 2049, .iload 2, .iaload, .aload 0, .iload 1, .invokevirtual 12873, .isub, .istore 3, .aload 0, .instanceof 2049, .iload 2, .ldc 0, .iload 3, .dmul, .iastore, .iload 3, .ifCond .ge (.ofNat 45), .aload 0, .iload 1, .invokevirtual 25153, .aload 0, .instanceof 2824, .iload 1, .ldc 999, .aload 0, .instanceof 2824, .iload 1, .iaload, .ldc 1, .iadd, .dadd, .iastore, .iload 3, .ifCond .ge (.ofNat 61), .ldc 1, .goto (.ofNat 62), .ldc 0, .freturn]
/-- 104: BellMilk$Herd.milkAll()V -/
def bm_c104 : List Instr := [.ldc 0, .istore 1, .iload 1, .aload 0, .getfield 39, .if_icmp .ge (.ofNat 55), .aload 0, .iload 1, .invokevirtual 222281, .istore 2, .iload 2, .iload 2, .aload 0, .getfield 36, .imul, .ldc 100, .idiv, .isub, .istore 3, .aload 0, .iload 1, .invokevirtual 17225, .istore 4, .iload 4, .ldc_w 1, .if_icmp .eq (.ofNat 41), .iload 3, .ldc 3, .idiv, .istore 5, .aload 0, .aload 0, .iload 1, .iload 4, .invokevirtual 21353, .iload 5, .invokevirtual 226145, .iload 3, .iload 5, .isub, .istore 3, .aload 0, .aload 0, .instanceof 2694, .iload 1, .iaload, .iload 3, .invokevirtual 226145, .aload 0, .instanceof 2889, .iload 1, .ldc 0, .iastore, .iinc 1 (.ofNat 1), .goto (.ofNat 2), .return_]
/-- 105: BellMilk$Tape.nextIsNumber(I)Z -/
def bm_c105 : List Instr := [.aload 0, .invokevirtual 229666, .aload 0, .getfield 66, .ldc 2, .if_icmp .ne (.ofNat 12), .aload 0, .getfield 69, .iload 1, .if_icmp .gt (.ofNat 12), .ldc 1, .goto (.ofNat 13), .ldc 0, .freturn]
/-- 106: BellMilk.grass(II)I -/
def bm_c106 : List Instr := [.iload 1, .invokevirtual 266536, .ifCond .eq (.ofNat 7), .iload 2, .ldc 99, .invokevirtual 98888, .ifCond .ne (.ofNat 11), .aload 0, .ldc 0, .invokevirtual 94795, .ireturn, .aload 0, .instanceof 6145, .instanceof 2049, .iload 1, .iaload, .istore 3, .aload 0, .instanceof 6145, .instanceof 2049, .iload 1, .iload 2, .iastore, .iload 3, .ireturn]
/-- 107: BellMilk.pasture(II)I -/
def bm_c107 : List Instr := [.iload 1, .invokevirtual 266536, .ifCond .eq (.ofNat 7), .iload 2, .ldc 1, .invokevirtual 98888, .ifCond .ne (.ofNat 11), .aload 0, .ldc 0, .invokevirtual 94795, .ireturn, .iload 2, .ifCond .ne (.ofNat 19), .aload 0, .instanceof 6145, .instanceof 2049, .iload 1, .iaload, .goto (.ofNat 23), .aload 0, .instanceof 6145, .iload 1, .invokevirtual 46153, .ireturn]
/-- 108: BellMilk.pail(I)I -/
def bm_c108 : List Instr := [.iload 1, .invokevirtual 270632, .ifCond .ne (.ofNat 7), .aload 0, .ldc 0, .invokevirtual 94795, .ireturn, .aload 0, .instanceof 6145, .instanceof 2114, .iload 1, .iaload, .ireturn]
/-- 109: BellMilk.pour(I)I -/
def bm_c109 : List Instr := [.iload 1, .invokevirtual 270632, .ifCond .ne (.ofNat 7), .aload 0, .ldc 0, .invokevirtual 94795, .ireturn, .aload 0, .instanceof 6145, .instanceof 2114, .iload 1, .iaload, .istore 2, .aload 0, .instanceof 6145, .instanceof 2114, .iload 1, .ldc 0, .iastore, .iload 2, .ireturn]
/-- 110: BellMilk.cow(II)I -/
def bm_c110 : List Instr := [.iload 1, .invokevirtual 274728, .ifCond .eq (.ofNat 6), .iload 2, .invokevirtual 266536, .ifCond .ne (.ofNat 10), .aload 0, .ldc 0, .invokevirtual 94795, .ireturn, .aload 0, .instanceof 6145, .getfield 39, .ldc 8, .if_icmp .lt (.ofNat 19), .aload 0, .ldc 1, .invokevirtual 94795, .ireturn, .aload 0, .instanceof 6145, .iload 1, .iload 2, .invokevirtual 1129, .ireturn]
/-- 111: BellMilk.of(II)I -/
def bm_c111 : List Instr := [.aload 0, .iload 1, .invokevirtual 102987, .ifCond .eq (.ofNat 8), .iload 2, .ldc 10, .invokevirtual 98888, .ifCond .ne (.ofNat 12), .aload 0, .ldc 0, .invokevirtual 94795, .ireturn, .iload 2, .lookupswitch (.ofNat 34) #[(.ofNat 7, .ofNat 14), (.ofNat 8, .ofNat 19), (.ofNat 9, .ofNat 24), (.ofNat 10, .ofNat 29)], .aload 0, .instanceof 6145, .iload 1, .invokevirtual 217929, .ireturn, .aload 0, .instanceof 6145, .iload 1, .invokevirtual 12873, .ireturn, .aload 0, .instanceof 6145, .iload 1, .invokevirtual 222281, .ireturn, .aload 0, .instanceof 6145, .iload 1, .invokevirtual 17225, .ireturn, .aload 0, .instanceof 6145, .iload 2, .invokevirtual 4697, .iload 1, .iaload, .ireturn]
/-- 112: BellMilk.pair(I)I -/
def bm_c112 : List Instr := [.iload 1, .invokevirtual 270632, .ifCond .ne (.ofNat 7), .aload 0, .ldc 0, .invokevirtual 94795, .ireturn, .ldc 0, .istore 2, .iload 2, .aload 0, .instanceof 6145, .getfield 39, .if_icmp .ge (.ofNat 51), .iload 2, .ldc 1, .iadd, .istore 3, .iload 3, .aload 0, .instanceof 6145, .getfield 39, .if_icmp .ge (.ofNat 49), .aload 0, .instanceof 6145, .instanceof 2694, .iload 2, .iaload, .aload 0, .instanceof 6145, .instanceof 2694, .iload 3, .iaload, .if_icmp .eq (.ofNat 47), .aload 0, .instanceof 6145, .iload 2, .iload 3, .invokevirtual 21353, .iload 1, .if_icmp .ne (.ofNat 47), .ldc 8, .iload 2, .imul, .iload 3, .iadd, .ireturn, .iinc 3 (.ofNat 1), .goto (.ofNat 18), .iinc 2 (.ofNat 1), .goto (.ofNat 9), .aload 0, .ldc 3, .invokevirtual 94795, .ireturn]
/-- 113: BellMilk.as(II)I -/
def bm_c113 : List Instr := [.iload 1, .ldc 9, .invokevirtual 98888, .ifCond .eq (.ofNat 7), .iload 2, .invokevirtual 274728, .ifCond .ne (.ofNat 11), .aload 0, .ldc 0, .invokevirtual 94795, .ireturn, .aload 0, .instanceof 6145, .instanceof 2179, .iload 1, .iaload, .istore 3, .iload 3, .ldc_w 1, .if_icmp .ne (.ofNat 24), .aload 0, .ldc 5, .invokevirtual 94795, .ireturn, .aload 0, .instanceof 6145, .instanceof 2564, .iload 3, .iaload, .iload 2, .invokevirtual 107592, .ifCond .ne (.ofNat 36), .aload 0, .ldc 2, .invokevirtual 94795, .ireturn, .iload 3, .ireturn]
/-- 114: BellMilk.sheet(III)I -/
def bm_c114 : List Instr := [.iload 1, .invokevirtual 278824, .ifCond .eq (.ofNat 14), .iload 2, .ifCond .eq (.ofNat 18), .iload 2, .ldc 8, .if_icmp .eq (.ofNat 18), .iload 2, .ldc 16, .if_icmp .eq (.ofNat 18), .iload 2, .ldc 32, .if_icmp .eq (.ofNat 18), .aload 0, .ldc 0, .invokevirtual 94795, .ireturn, .iload 3, .ifCond .ge (.ofNat 24), .aload 0, .ldc 6, .invokevirtual 94795, .ireturn, .iload 3, .ldc 40, .if_icmp .le (.ofNat 31), .aload 0, .ldc 0, .invokevirtual 94795, .ireturn, .aload 0, .instanceof 6634, .iload 1, .iload 2, .iastore, .aload 0, .instanceof 6569, .iload 1, .iload 2, .ifCond .ne (.ofNat 43), .ldc 0, .goto (.ofNat 44), .iload 3, .iastore, .ldc 0, .istore 4, .iload 4, .ldc 40, .if_icmp .ge (.ofNat 59), .aload 0, .instanceof 6500, .iload 1, .aaload, .iload 4, .ldc 0, .iastore, .iinc 4 (.ofNat 1), .goto (.ofNat 47), .aload 0, .instanceof 6569, .iload 1, .iaload, .ireturn]
/-- 115: BellMilk.write(III)I -/
def bm_c115 : List Instr := [.iload 1, .invokevirtual 278824, .ifCond .ne (.ofNat 7), .aload 0, .ldc 0, .invokevirtual 94795, .ireturn, .aload 0, .instanceof 6634, .iload 1, .iaload, .ifCond .ne (.ofNat 16), .aload 0, .ldc 5, .invokevirtual 94795, .ireturn, .iload 2, .ifCond .lt (.ofNat 24), .iload 2, .aload 0, .instanceof 6569, .iload 1, .iaload, .if_icmp .lt (.ofNat 28), .aload 0, .ldc 0, .invokevirtual 94795, .ireturn, .aload 0, .instanceof 6500, .iload 1, .aaload, .iload 2, .iload 3, .aload 0, .instanceof 6634, .iload 1, .iaload, .invokevirtual 115272, .iastore, .ldc 1, .ireturn]
/-- 116: BellMilk.copy(IIIII)I -/
def bm_c116 : List Instr := [.iload 1, .invokevirtual 278824, .ifCond .eq (.ofNat 6), .iload 3, .invokevirtual 278824, .ifCond .ne (.ofNat 10), .aload 0, .ldc 0, .invokevirtual 94795, .ireturn, .aload 0, .instanceof 6634, .iload 1, .iaload, .ifCond .eq (.ofNat 20), .aload 0, .instanceof 6634, .iload 3, .iaload, .ifCond .ne (.ofNat 24), .aload 0, .ldc 5, .invokevirtual 94795, .ireturn, .aload 0, .instanceof 6634, .iload 1, .iaload, .aload 0, .instanceof 6634, .iload 3, .iaload, .if_icmp .eq (.ofNat 37), .aload 0, .ldc 2, .invokevirtual 94795, .ireturn, .aload 0, .iload 1, .iload 2, .iload 5, .invokevirtual 111755, .ifCond .eq (.ofNat 49), .aload 0, .iload 3, .iload 4, .iload 5, .invokevirtual 111755, .ifCond .ne (.ofNat 53), .aload 0, .ldc 0, .invokevirtual 94795, .ireturn, .aload 0, .instanceof 6500, .iload 1, .aaload, .iload 2, .aload 0, .instanceof 6500, .iload 3, .aaload, .iload 4, .iload 5, .dastore, .iload 5, .ireturn]
/-- 117: BellMilk.load(I)I -/
def bm_c117 : List Instr := [.iload 1, .invokevirtual 278824, .ifCond .ne (.ofNat 7), .aload 0, .ldc 0, .invokevirtual 94795, .ireturn, .aload 0, .instanceof 6634, .iload 1, .iaload, .ifCond .ne (.ofNat 16), .aload 0, .ldc 5, .invokevirtual 94795, .ireturn, .ldc 0, .istore 2, .ldc 0, .istore 3, .iload 3, .aload 0, .instanceof 6569, .iload 1, .iaload, .if_icmp .ge (.ofNat 53), .iload 3, .ldc 12, .if_icmp .ge (.ofNat 53), .aload 0, .instanceof 6500, .iload 1, .aaload, .iload 3, .iaload, .ldc 99, .invokevirtual 98888, .ifCond .ne (.ofNat 39), .goto (.ofNat 53), .aload 0, .instanceof 6145, .instanceof 2049, .iload 3, .aload 0, .instanceof 6500, .iload 1, .aaload, .iload 3, .iaload, .iastore, .iinc 2 (.ofNat 1), .iinc 3 (.ofNat 1), .goto (.ofNat 20), .iload 2, .ireturn]
/-- 118: BellMilk.judge(I)I -/
def bm_c118 : List Instr := [.iload 1, .invokevirtual 278824, .ifCond .ne (.ofNat 7), .aload 0, .ldc 0, .invokevirtual 94795, .ireturn, .aload 0, .instanceof 6634, .iload 1, .iaload, .ifCond .ne (.ofNat 16), .aload 0, .ldc 5, .invokevirtual 94795, .ireturn, .ldc 0, .istore 2, .iload 2, .aload 0, .instanceof 6569, .iload 1, .iaload, .if_icmp .ge (.ofNat 45), .iload 2, .ldc 12, .if_icmp .ge (.ofNat 39), .aload 0, .instanceof 6500, .iload 1, .aaload, .iload 2, .iaload, .aload 0, .instanceof 6145, .instanceof 2114, .iload 2, .iaload, .if_icmp .eq (.ofNat 43), .ldc 1, .iload 2, .iadd, .ireturn, .iinc 2 (.ofNat 1), .goto (.ofNat 18), .ldc 0, .ireturn]
/-- 119: BellMilk.image()I -/
def bm_c119 : List Instr := [.aload 0, .instanceof 6295, .aload 0, .instanceof 6145, .invokevirtual 213569, .aload 0, .ldc 1, .checkcast 99, .ldc 1, .ireturn]
/-- 120: BellMilk.undo()I -/
def bm_c120 : List Instr := [.aload 0, .getfield 99, .ifCond .ne (.ofNat 7), .aload 0, .ldc 3, .invokevirtual 94795, .ireturn, .aload 0, .instanceof 6145, .aload 0, .instanceof 6295, .invokevirtual 213569, .aload 0, .instanceof 6145, .getfield 37, .ireturn]
/-- 121: BellMilk.beginTrial()V -/
def bm_c121 : List Instr := [.aload 0, .instanceof 6220, .aload 0, .instanceof 6145, .invokevirtual 213569, .return_]
/-- 122: BellMilkModel.rings(I)I -/
def bm_c122 : List Instr := [.aload 0, .iload 1, .ldc 3, .invokevirtual 140140, .aload 0, .instanceof 8193, .ldc 5, .aload 0, .iload 1, .ldc 1, .invokevirtual 140140, .iadd, .iaload, .ldc 10, .idiv, .iadd, .istore 2, .ldc 0, .iload 2, .ldc 2, .iadd, .aload 0, .iload 1, .invokevirtual 316492, .isub, .dmul, .istore 3, .aload 0, .iload 1, .ldc 0, .invokevirtual 140140, .lookupswitch (.ofNat 68) #[(.ofNat 1, .ofNat 32), (.ofNat 2, .ofNat 42), (.ofNat 3, .ofNat 46), (.ofNat 4, .ofNat 48), (.ofNat 5, .ofNat 57), (.ofNat 6, .ofNat 36)], .iload 2, .ldc 2, .idiv, .ireturn, .iload 2, .ldc 2, .idiv, .ldc 1, .iadd, .ireturn, .iload 2, .ldc 2, .iadd, .ireturn, .iload 3, .ireturn, .iload 3, .aload 0, .instanceof 8193, .ldc 4, .iaload, .ldc 10, .idiv, .iadd, .ireturn, .ldc 0, .iload 2, .aload 0, .iload 1, .ldc 4, .invokevirtual 140140, .ldc 100, .idiv, .isub, .dmul, .ireturn, .iload 2, .ireturn]
/-- 123: BellMilkModel.grass(II)I -/
def bm_c123 : List Instr := [.iload 1, .invokevirtual 299304, .ifCond .eq (.ofNat 13), .iload 2, .invokevirtual 303400, .ifCond .eq (.ofNat 13), .aload 0, .ldc 5, .iload 1, .iadd, .iload 2, .invokevirtual 148588, .goto (.ofNat 16), .aload 0, .ldc 0, .invokevirtual 127564, .ireturn]
/-- 124: BellMilkModel.pasture(II)I -/
def bm_c124 : List Instr := [.iload 1, .invokevirtual 299304, .ifCond .eq (.ofNat 9), .iload 2, .i2l, .ldc2_w 0, .ldc2_w 1, .invokevirtual 132718, .ifCond .ne (.ofNat 13), .aload 0, .ldc 0, .invokevirtual 127564, .ireturn, .iload 2, .ifCond .ne (.ofNat 22), .aload 0, .instanceof 8193, .ldc 5, .iload 1, .iadd, .iaload, .goto (.ofNat 25), .aload 0, .iload 1, .invokevirtual 336972, .ireturn]
/-- 125: BellMilkModel.pail(I)I -/
def bm_c125 : List Instr := [.iload 1, .invokevirtual 299304, .ifCond .eq (.ofNat 10), .aload 0, .instanceof 8193, .ldc 17, .iload 1, .iadd, .iaload, .goto (.ofNat 13), .aload 0, .ldc 0, .invokevirtual 127564, .ireturn]
/-- 126: BellMilkModel.pour(I)I -/
def bm_c126 : List Instr := [.iload 1, .invokevirtual 299304, .ifCond .eq (.ofNat 10), .aload 0, .ldc 17, .iload 1, .iadd, .ldc 0, .invokevirtual 148588, .goto (.ofNat 13), .aload 0, .ldc 0, .invokevirtual 127564, .ireturn]
/-- 127: BellMilkModel.cow(II)I -/
def bm_c127 : List Instr := [.iload 1, .invokevirtual 311592, .ifCond .eq (.ofNat 6), .iload 2, .invokevirtual 299304, .ifCond .ne (.ofNat 10), .aload 0, .ldc 0, .invokevirtual 127564, .ireturn, .aload 0, .instanceof 8193, .ldc 2, .iaload, .ldc 8, .if_icmp .ne (.ofNat 20), .aload 0, .ldc 1, .invokevirtual 127564, .goto (.ofNat 24), .aload 0, .iload 1, .iload 2, .invokevirtual 332908, .ireturn]
/-- 128: BellMilkModel.mayBe(II)Z -/
def bm_c128 : List Instr := [.iload 0, .lookupswitch (.ofNat 26) #[(.ofNat 0, .ofNat 2), (.ofNat 1, .ofNat 5), (.ofNat 2, .ofNat 5), (.ofNat 3, .ofNat 8), (.ofNat 4, .ofNat 14), (.ofNat 5, .ofNat 20)], .iload 1, .invokevirtual 311592, .freturn, .iload 1, .invokevirtual 299304, .freturn, .iload 1, .i2l, .ldc2_w 0, .ldc2_w 9, .invokevirtual 132718, .freturn, .iload 1, .i2l, .ldc2_w 0, .ldc2_w 999, .invokevirtual 132718, .freturn, .iload 1, .i2l, .ldc2_w 0, .ldc2_w 9999, .invokevirtual 132718, .freturn, .iload 0, .ldc 6, .if_icmp .ne (.ofNat 37), .iload 1, .i2l, .ldc2_w 0, .ldc2_w 1, .invokevirtual 132718, .ifCond .eq (.ofNat 37), .ldc 1, .goto (.ofNat 38), .ldc 0, .freturn]
/-- 129: BellMilkModel.isMilked(I)V -/
def bm_c129 : List Instr := [.aload 0, .iload 1, .invokevirtual 324940, .istore 2, .iload 2, .iload 2, .aload 0, .instanceof 8193, .ldc 4, .iaload, .imul, .ldc 100, .idiv, .isub, .istore 3, .aload 0, .iload 1, .invokevirtual 328780, .istore 4, .iload 4, .ifCond .ge (.ofNat 23), .ldc 0, .goto (.ofNat 26), .iload 3, .ldc 3, .idiv, .istore 5, .iload 4, .ifCond .lt (.ofNat 43), .aload 0, .aload 0, .iload 1, .ldc 2, .invokevirtual 140140, .aload 0, .iload 4, .ldc 2, .invokevirtual 140140, .iadd, .ldc 12, .irem, .iload 5, .invokevirtual 349028, .aload 0, .aload 0, .iload 1, .ldc 2, .invokevirtual 140140, .iload 3, .iload 5, .isub, .invokevirtual 349028, .aload 0, .iload 1, .ldc 5, .ldc 0, .invokevirtual 144516, .return_]
/-- 130: BellMilkModel.now(I)I -/
def bm_c130 : List Instr := [.iload 1, .lookupswitch (.ofNat 25) #[(.ofNat 0, .ofNat 2), (.ofNat 1, .ofNat 7), (.ofNat 2, .ofNat 10), (.ofNat 3, .ofNat 13), (.ofNat 4, .ofNat 16), (.ofNat 5, .ofNat 19), (.ofNat 6, .ofNat 22)], .aload 0, .instanceof 8193, .ldc 0, .iaload, .ireturn, .aload 0, .invokevirtual 160556, .ireturn, .aload 0, .invokevirtual 353068, .ireturn, .aload 0, .invokevirtual 357164, .ireturn, .aload 0, .invokevirtual 164652, .ireturn, .aload 0, .invokevirtual 361260, .ireturn, .aload 0, .invokevirtual 168748, .ireturn, .aload 0, .ldc 0, .invokevirtual 127564, .ireturn]
/-- 131: BellMilkModel.pair(I)I -/
def bm_c131 : List Instr := [.iload 1, .invokevirtual 299304, .ifCond .ne (.ofNat 7), .aload 0, .ldc 0, .invokevirtual 127564, .ireturn, .ldc 0, .istore 2, .iload 2, .aload 0, .instanceof 8193, .ldc 2, .iaload, .if_icmp .ge (.ofNat 55), .iload 2, .ldc 1, .iadd, .istore 3, .iload 3, .aload 0, .instanceof 8193, .ldc 2, .iaload, .if_icmp .ge (.ofNat 53), .aload 0, .iload 2, .ldc 2, .invokevirtual 140140, .istore 4, .aload 0, .iload 3, .ldc 2, .invokevirtual 140140, .istore 5, .iload 4, .iload 5, .if_icmp .eq (.ofNat 51), .iload 4, .iload 5, .iadd, .ldc 12, .irem, .iload 1, .if_icmp .ne (.ofNat 51), .ldc 8, .iload 2, .imul, .iload 3, .iadd, .ireturn, .iinc 3 (.ofNat 1), .goto (.ofNat 19), .iinc 2 (.ofNat 1), .goto (.ofNat 9), .aload 0, .ldc 3, .invokevirtual 127564, .ireturn]
/-- 132: BellMilkModel.odds(II)J -/
def bm_c132 : List Instr := [.iload 1, .i2l, .ldc2_w 0, .ldc2_w 18, .invokevirtual 132718, .ifCond .eq (.ofNat 12), .iload 2, .i2l, .ldc2_w 0, .ldc2_w 1, .invokevirtual 132718, .ifCond .ne (.ofNat 17), .aload 0, .ldc 0, .invokevirtual 127564, .i2l, .lreturn, .ldc2_w 1, .lstore 3, .ldc2_w 1, .lstore 5, .ldc 0, .istore 7, .iload 7, .iload 1, .if_icmp .ge (.ofNat 44), .lload 3, .aload 0, .instanceof 8193, .ldc 2, .iaload, .aload 0, .invokevirtual 357164, .invokevirtual 152360, .isub, .i2l, .lmul, .lstore 3, .lload 5, .ldc2_w 8, .lmul, .lstore 5, .iinc 7 (.ofNat 1), .goto (.ofNat 23), .lload 3, .lstore 7, .lload 5, .lstore 9, .lload 9, .ldc2_w 0, .lcmp, .ifCond .eq (.ofNat 61), .lload 7, .lload 9, .lrem, .lstore 11, .lload 9, .lstore 7, .lload 11, .lstore 9, .goto (.ofNat 48), .iload 2, .ifCond .ne (.ofNat 65), .lload 3, .goto (.ofNat 66), .lload 5, .lload 7, .ldiv, .lreturn]
/-- 133: BellMilkModel.next()V -/
def bm_c133 : List Instr := [.aload 0, .aload 0, .getfield 139, .putfield 138, .aload 0, .aload 0, .getfield 138, .ldc 32, .ldc 32, .invokevirtual 390284, .ifCond .eq (.ofNat 18), .aload 0, .dup, .getfield 138, .ldc 1, .iadd, .putfield 138, .goto (.ofNat 4), .aload 0, .aload 0, .getfield 138, .putfield 139, .aload 0, .aload 0, .getfield 138, .ldc 97, .ldc 122, .invokevirtual 390284, .istore 1, .aload 0, .aload 0, .getfield 138, .ldc 48, .ldc 57, .invokevirtual 390284, .istore 2, .iload 1, .ifCond .eq (.ofNat 45), .aload 0, .aload 0, .getfield 139, .ldc 97, .ldc 122, .invokevirtual 390284, .ifCond .ne (.ofNat 54), .iload 2, .ifCond .eq (.ofNat 61), .aload 0, .aload 0, .getfield 139, .ldc 48, .ldc 57, .invokevirtual 390284, .ifCond .eq (.ofNat 61), .aload 0, .dup, .getfield 139, .ldc 1, .iadd, .putfield 139, .goto (.ofNat 36), .aload 0, .dup, .getfield 139, .iload 1, .ifCond .ne (.ofNat 75), .iload 2, .ifCond .ne (.ofNat 75), .aload 0, .getfield 138, .aload 0, .getfield 137, .if_icmp .ge (.ofNat 75), .ldc 1, .goto (.ofNat 76), .ldc 0, .iadd, .putfield 139, .return_]
/-- 134: BellMilkModel.hold(II)I -/
def bm_c134 : List Instr := [.iload 1, .invokevirtual 393512, .ifCond .eq (.ofNat 10), .iload 2, .ldc_w 1, .if_icmp .eq (.ofNat 14), .aload 0, .iload 2, .invokevirtual 295500, .ifCond .ne (.ofNat 14), .aload 0, .ldc 0, .invokevirtual 127564, .ireturn, .aload 0, .instanceof 8193, .ldc 85, .iload 1, .iadd, .iload 2, .iastore, .ldc 1, .ireturn]
/-- 135: BellMilkModel.as(II)I -/
def bm_c135 : List Instr := [.iload 1, .invokevirtual 393512, .ifCond .eq (.ofNat 6), .iload 2, .invokevirtual 311592, .ifCond .ne (.ofNat 10), .aload 0, .ldc 0, .invokevirtual 127564, .ireturn, .aload 0, .instanceof 8193, .ldc 85, .iload 1, .iadd, .iaload, .istore 3, .iload 3, .ifCond .ge (.ofNat 23), .aload 0, .ldc 5, .invokevirtual 127564, .ireturn, .aload 0, .iload 3, .ldc 0, .invokevirtual 140140, .iload 2, .invokevirtual 308040, .ifCond .eq (.ofNat 32), .iload 3, .goto (.ofNat 35), .aload 0, .ldc 2, .invokevirtual 127564, .ireturn]
/-- 136: BellMilkModel.sheet(III)I -/
def bm_c136 : List Instr := [.iload 2, .ifCond .eq (.ofNat 11), .iload 2, .ldc 8, .if_icmp .eq (.ofNat 11), .iload 2, .ldc 16, .if_icmp .eq (.ofNat 11), .iload 2, .ldc 32, .if_icmp .ne (.ofNat 13), .ldc 1, .goto (.ofNat 14), .ldc 0, .istore 4, .iload 1, .invokevirtual 397608, .ifCond .eq (.ofNat 20), .iload 4, .ifCond .ne (.ofNat 24), .aload 0, .ldc 0, .invokevirtual 127564, .ireturn, .iload 3, .ifCond .ge (.ofNat 30), .aload 0, .ldc 6, .invokevirtual 127564, .ireturn, .iload 3, .ldc 40, .if_icmp .le (.ofNat 37), .aload 0, .ldc 0, .invokevirtual 127564, .ireturn, .aload 0, .instanceof 9030, .iload 1, .iload 2, .iastore, .aload 0, .instanceof 9095, .iload 1, .iload 2, .ifCond .ne (.ofNat 49), .ldc 0, .goto (.ofNat 50), .iload 3, .iastore, .ldc 0, .istore 5, .iload 5, .ldc 40, .if_icmp .ge (.ofNat 67), .aload 0, .instanceof 9160, .ldc 40, .iload 1, .imul, .iload 5, .iadd, .ldc 0, .iastore, .iinc 5 (.ofNat 1), .goto (.ofNat 53), .aload 0, .instanceof 9095, .iload 1, .iaload, .ireturn]
/-- 137: BellMilkModel.lacks(I)I -/
def bm_c137 : List Instr := [.iload 1, .invokevirtual 397608, .ifCond .ne (.ofNat 5), .ldc 0, .goto (.ofNat 13), .aload 0, .instanceof 9030, .iload 1, .iaload, .ifCond .ne (.ofNat 12), .ldc 5, .goto (.ofNat 13), .ldc_w 1, .ireturn]
/-- 138: BellMilkModel.copy(IIIII)I -/
def bm_c138 : List Instr := [.iload 1, .invokevirtual 397608, .ifCond .eq (.ofNat 6), .iload 3, .invokevirtual 397608, .ifCond .ne (.ofNat 10), .aload 0, .ldc 0, .invokevirtual 127564, .ireturn, .aload 0, .instanceof 9030, .iload 1, .iaload, .ifCond .eq (.ofNat 20), .aload 0, .instanceof 9030, .iload 3, .iaload, .ifCond .ne (.ofNat 24), .aload 0, .ldc 5, .invokevirtual 127564, .ireturn, .aload 0, .instanceof 9030, .iload 1, .iaload, .aload 0, .instanceof 9030, .iload 3, .iaload, .if_icmp .eq (.ofNat 37), .aload 0, .ldc 2, .invokevirtual 127564, .ireturn, .iload 5, .ifCond .lt (.ofNat 69), .iload 2, .ifCond .lt (.ofNat 69), .iload 4, .ifCond .lt (.ofNat 69), .iload 2, .i2l, .iload 5, .i2l, .ladd, .aload 0, .instanceof 9095, .iload 1, .iaload, .i2l, .lcmp, .ifCond .gt (.ofNat 69), .iload 4, .i2l, .iload 5, .i2l, .ladd, .aload 0, .instanceof 9095, .iload 3, .iaload, .i2l, .lcmp, .ifCond .gt (.ofNat 69), .ldc 1, .goto (.ofNat 70), .ldc 0, .istore 6, .iload 6, .ifCond .ne (.ofNat 77), .aload 0, .ldc 0, .invokevirtual 127564, .ireturn, .ldc 0, .istore 7, .iload 7, .iload 5, .if_icmp .ge (.ofNat 98), .aload 0, .instanceof 9225, .iload 7, .aload 0, .instanceof 9160, .ldc 40, .iload 1, .imul, .iload 2, .iadd, .iload 7, .iadd, .iaload, .iastore, .iinc 7 (.ofNat 1), .goto (.ofNat 79), .ldc 0, .istore 7, .iload 7, .iload 5, .if_icmp .ge (.ofNat 119), .aload 0, .instanceof 9160, .ldc 40, .iload 3, .imul, .iload 4, .iadd, .iload 7, .iadd, .aload 0, .instanceof 9225, .iload 7, .iaload, .iastore, .iinc 7 (.ofNat 1), .goto (.ofNat 100), .iload 5, .ireturn]
/-- 139: BellMilkModel.count(I)I -/
def bm_c139 : List Instr := [.iload 1, .lookupswitch (.ofNat 33) #[(.ofNat 0, .ofNat 2), (.ofNat 1, .ofNat 7), (.ofNat 2, .ofNat 12), (.ofNat 3, .ofNat 16), (.ofNat 4, .ofNat 19), (.ofNat 5, .ofNat 22), (.ofNat 6, .ofNat 25), (.ofNat 7, .ofNat 30)], .aload 0, .instanceof 8193, .ldc 0, .iaload, .ireturn, .aload 0, .instanceof 8193, .ldc 2, .iaload, .ireturn, .aload 0, .invokevirtual 357164, .invokevirtual 152360, .ireturn, .aload 0, .invokevirtual 353068, .ireturn, .aload 0, .invokevirtual 160556, .ireturn, .aload 0, .getfield 137, .ireturn, .aload 0, .instanceof 8193, .ldc 1, .iaload, .ireturn, .aload 0, .invokevirtual 193324, .ireturn, .aload 0, .ldc 0, .invokevirtual 127564, .ireturn]
/-- 140: java/lang/StringLatin1.charAt([BI)C -/
def bm_c140 : List Instr := [.iload 1, .aload 0, .fsub, .invokevirtual 414272, .aload 0, .iload 1, .baload, .ldc 255, .iand, .i2c, .d2i]
/-- 141: BellMilk$Herd.passHour()Z -/
def bm_c141 : List Instr := [.ldc 0, .istore 1, .ldc 0, .istore 2, .iload 2, .aload 0, .getfield 39, .if_icmp .ge (.ofNat 16), .aload 0, .iload 2, .invokevirtual 422985, .ifCond .eq (.ofNat 14), .ldc 1, .istore 1, .iinc 2 (.ofNat 1), .goto (.ofNat 4), .ldc 0, .istore 2, .iload 2, .ldc 12, .if_icmp .ge (.ofNat 36), .aload 0, .instanceof 2049, .iload 2, .ldc 99, .aload 0, .instanceof 2049, .iload 2, .iaload, .aload 0, .getfield 35, .iadd, .dadd, .iastore, .iinc 2 (.ofNat 1), .goto (.ofNat 18), .aload 0, .ldc 99999, .aload 0, .getfield 37, .ldc 1, .iadd, .dadd, .putfield 37, .aload 0, .getfield 37, .ldc 6, .irem, .ifCond .ne (.ofNat 51), .aload 0, .invokevirtual 427553, .iload 1, .freturn]
/-- 142: BellMilk$Tape.readGrass(LBellMilk$Herd;)Z -/
def bm_c142 : List Instr := [.aload 0, .ldc 11, .invokevirtual 430666, .ifCond .ne (.ofNat 6), .ldc 0, .freturn, .aload 0, .getfield 69, .istore 2, .aload 0, .ldc 99, .invokevirtual 430666, .ifCond .ne (.ofNat 15), .ldc 0, .freturn, .aload 1, .instanceof 2049, .iload 2, .aload 0, .getfield 69, .iastore, .aload 0, .invokevirtual 229666, .ldc 1, .freturn]
/-- 143: BellMilk$Tape.readGrows(LBellMilk$Herd;)Z -/
def bm_c143 : List Instr := [.aload 0, .ldc 20, .invokevirtual 430666, .ifCond .ne (.ofNat 6), .ldc 0, .freturn, .aload 1, .aload 0, .getfield 69, .putfield 35, .aload 0, .invokevirtual 229666, .ldc 1, .freturn]
/-- 144: BellMilk$Tape.readThunder(LBellMilk$Herd;)Z -/
def bm_c144 : List Instr := [.aload 0, .ldc 99, .invokevirtual 430666, .ifCond .ne (.ofNat 6), .ldc 0, .freturn, .aload 1, .aload 0, .getfield 69, .putfield 36, .aload 0, .invokevirtual 229666, .ldc 1, .freturn]
/-- 145: BellMilkModel.of(II)I -/
def bm_c145 : List Instr := [.aload 0, .iload 1, .invokevirtual 295500, .ifCond .eq (.ofNat 10), .iload 2, .i2l, .ldc2_w 0, .ldc2_w 10, .invokevirtual 132718, .ifCond .ne (.ofNat 14), .aload 0, .ldc 0, .invokevirtual 127564, .ireturn, .iload 2, .lookupswitch (.ofNat 32) #[(.ofNat 7, .ofNat 16), (.ofNat 8, .ofNat 20), (.ofNat 9, .ofNat 24), (.ofNat 10, .ofNat 28)], .aload 0, .iload 1, .invokevirtual 500812, .ireturn, .aload 0, .iload 1, .invokevirtual 320076, .ireturn, .aload 0, .iload 1, .invokevirtual 324940, .ireturn, .aload 0, .iload 1, .invokevirtual 328780, .ireturn, .aload 0, .iload 1, .iload 2, .invokevirtual 140140, .ireturn]
/-- 146: BellMilkModel.change(III)I -/
def bm_c146 : List Instr := [.aload 0, .iload 1, .invokevirtual 295500, .ifCond .eq (.ofNat 19), .iload 2, .iload 3, .invokevirtual 524872, .ifCond .eq (.ofNat 19), .aload 0, .ldc 29, .ldc 7, .iload 1, .imul, .iadd, .iload 2, .iadd, .iload 3, .invokevirtual 148588, .goto (.ofNat 22), .aload 0, .ldc 0, .invokevirtual 127564, .ireturn]
/-- 147: BellMilkModel.spends(I)V -/
def bm_c147 : List Instr := [.aload 0, .iload 1, .ldc 6, .invokevirtual 140140, .ifCond .ne (.ofNat 19), .aload 0, .iload 1, .ldc 5, .ldc 9999, .aload 0, .iload 1, .ldc 5, .invokevirtual 140140, .aload 0, .iload 1, .invokevirtual 500812, .iadd, .dadd, .invokevirtual 144516, .ldc 5, .aload 0, .iload 1, .ldc 1, .invokevirtual 140140, .iadd, .istore 2, .aload 0, .iload 1, .invokevirtual 320076, .istore 3, .aload 0, .instanceof 8193, .iload 2, .iaload, .iload 3, .if_icmp .ge (.ofNat 38), .ldc 1, .goto (.ofNat 39), .ldc 0, .istore 4, .aload 0, .instanceof 8193, .iload 2, .ldc 0, .aload 0, .instanceof 8193, .iload 2, .iaload, .iload 3, .isub, .dmul, .iastore, .iload 4, .ifCond .eq (.ofNat 60), .aload 0, .iload 1, .invokevirtual 344644, .aload 0, .ldc 1, .checkcast 133, .aload 0, .iload 1, .ldc 4, .ldc 999, .aload 0, .iload 1, .ldc 4, .invokevirtual 140140, .ldc 1, .iadd, .dadd, .invokevirtual 144516, .return_]
/-- 148: BellMilkModel.must(Z)V -/
def bm_c148 : List Instr := [.aload 0, .aload 0, .getfield 140, .ifCond .ne (.ofNat 6), .iload 1, .ifCond .ne (.ofNat 8), .ldc 1, .goto (.ofNat 9), .ldc 0, .checkcast 140, .aload 0, .getfield 140, .ifCond .ne (.ofNat 15), .aload 0, .invokevirtual 545572, .return_]
/-- 149: BellMilkModel.write(III)I -/
def bm_c149 : List Instr := [.aload 0, .iload 1, .invokevirtual 561740, .istore 4, .iload 4, .ifCond .lt (.ofNat 10), .aload 0, .iload 4, .invokevirtual 127564, .ireturn, .iload 2, .i2l, .ldc2_w 0, .aload 0, .instanceof 9095, .iload 1, .iaload, .ldc 1, .isub, .i2l, .invokevirtual 132718, .ifCond .ne (.ofNat 26), .aload 0, .ldc 0, .invokevirtual 127564, .ireturn, .aload 0, .instanceof 9160, .ldc 40, .iload 1, .imul, .iload 2, .iadd, .aload 0, .instanceof 9030, .iload 1, .iaload, .ldc 8, .if_icmp .ne (.ofNat 42), .iload 3, .i2b, .goto (.ofNat 52), .aload 0, .instanceof 9030, .iload 1, .iaload, .ldc 16, .if_icmp .ne (.ofNat 51), .iload 3, .i2s, .goto (.ofNat 52), .iload 3, .iastore, .ldc 1, .ireturn]
/-- 150: BellMilkModel.load(I)I -/
def bm_c150 : List Instr := [.aload 0, .iload 1, .invokevirtual 561740, .istore 2, .iload 2, .ifCond .lt (.ofNat 10), .aload 0, .iload 2, .invokevirtual 127564, .ireturn, .ldc 0, .istore 3, .iload 3, .aload 0, .instanceof 9095, .iload 1, .iaload, .if_icmp .ge (.ofNat 47), .iload 3, .ldc 12, .if_icmp .ge (.ofNat 47), .aload 0, .instanceof 9160, .ldc 40, .iload 1, .imul, .iload 3, .iadd, .iaload, .invokevirtual 303400, .ifCond .eq (.ofNat 47), .aload 0, .instanceof 8193, .ldc 5, .iload 3, .iadd, .aload 0, .instanceof 9160, .ldc 40, .iload 1, .imul, .iload 3, .iadd, .iaload, .iastore, .iinc 3 (.ofNat 1), .goto (.ofNat 12), .iload 3, .ireturn]
/-- 151: BellMilkModel.judge(I)I -/
def bm_c151 : List Instr := [.aload 0, .iload 1, .invokevirtual 561740, .istore 2, .iload 2, .ifCond .lt (.ofNat 10), .aload 0, .iload 2, .invokevirtual 127564, .ireturn, .ldc 0, .istore 3, .iload 3, .aload 0, .instanceof 9095, .iload 1, .iaload, .if_icmp .ge (.ofNat 38), .iload 3, .ldc 12, .if_icmp .ge (.ofNat 38), .aload 0, .instanceof 8193, .ldc 17, .iload 3, .iadd, .iaload, .aload 0, .instanceof 9160, .ldc 40, .iload 1, .imul, .iload 3, .iadd, .iaload, .if_icmp .ne (.ofNat 38), .iinc 3 (.ofNat 1), .goto (.ofNat 12), .iload 3, .aload 0, .instanceof 9095, .iload 1, .iaload, .if_icmp .ne (.ofNat 46), .ldc 0, .goto (.ofNat 49), .iload 3, .ldc 1, .iadd, .ireturn]
/-- 152: java/lang/String.charAt(I)C -/
def bm_c152 : List Instr := [.aload 0, .invokespecial 205101, .ifCond .eq (.ofNat 8), .aload 0, .f2l, .iload 1, .invokevirtual 574024, .d2i, .aload 0, .f2l, .iload 1, .nop, .d2i]
/-- 153: BellMilk$Herd.passHours(I)V -/
def bm_c153 : List Instr := [.ldc 0, .istore 2, .iload 2, .iload 1, .if_icmp .ge (.ofNat 10), .aload 0, .invokevirtual 578345, .pop, .iinc 2 (.ofNat 1), .goto (.ofNat 2), .return_]
/-- 154: BellMilk$Tape.isWord(Ljava/lang/String;)Z -/
def bm_c154 : List Instr := [.aload 0, .getfield 66, .ldc 1, .if_icmp .ne (.ofNat 12), .aload 0, .getfield 68, .aload 0, .getfield 67, .isub, .aload 1, .invokespecial 418093, .if_icmp .eq (.ofNat 14), .ldc 0, .freturn, .ldc 0, .istore 2, .iload 2, .aload 1, .invokespecial 418093, .if_icmp .ge (.ofNat 35), .aload 0, .instanceof 4097, .aload 0, .getfield 67, .iload 2, .iadd, .iaload, .aload 1, .iload 2, .invokespecial 623181, .if_icmp .eq (.ofNat 33), .ldc 0, .freturn, .iinc 2 (.ofNat 1), .goto (.ofNat 16), .ldc 1, .freturn]
/-- 155: BellMilk.when(II)I -/
def bm_c155 : List Instr := [.iload 1, .invokevirtual 270632, .ifCond .eq (.ofNat 7), .iload 2, .ldc 99999, .invokevirtual 98888, .ifCond .ne (.ofNat 11), .aload 0, .ldc 0, .invokevirtual 94795, .ireturn, .aload 0, .invokevirtual 495907, .ldc 0, .istore 3, .iload 3, .ldc 200, .if_icmp .gt (.ofNat 33), .aload 0, .instanceof 6220, .instanceof 2114, .iload 1, .iaload, .iload 2, .if_icmp .lt (.ofNat 27), .iload 3, .ireturn, .aload 0, .instanceof 6220, .invokevirtual 578345, .pop, .iinc 3 (.ofNat 1), .goto (.ofNat 15), .aload 0, .ldc 3, .invokevirtual 94795, .ireturn]
/-- 156: BellMilk.meet(II)I -/
def bm_c156 : List Instr := [.aload 0, .iload 1, .invokevirtual 102987, .ifCond .eq (.ofNat 11), .aload 0, .iload 2, .invokevirtual 102987, .ifCond .eq (.ofNat 11), .iload 1, .iload 2, .if_icmp .ne (.ofNat 15), .aload 0, .ldc 0, .invokevirtual 94795, .ireturn, .aload 0, .invokevirtual 495907, .ldc 0, .istore 3, .iload 3, .ldc 200, .if_icmp .gt (.ofNat 41), .aload 0, .instanceof 6220, .instanceof 2629, .iload 1, .iaload, .aload 0, .instanceof 6220, .instanceof 2629, .iload 2, .iaload, .if_icmp .ne (.ofNat 35), .iload 3, .ireturn, .aload 0, .instanceof 6220, .invokevirtual 578345, .pop, .iinc 3 (.ofNat 1), .goto (.ofNat 19), .aload 0, .ldc 3, .invokevirtual 94795, .ireturn]
/-- 157: BellMilk.bare()I -/
def bm_c157 : List Instr := [.aload 0, .invokevirtual 495907, .ldc 0, .istore 1, .iload 1, .ldc 100, .if_icmp .gt (.ofNat 19), .aload 0, .instanceof 6220, .invokevirtual 61993, .ifCond .eq (.ofNat 13), .iload 1, .ireturn, .aload 0, .instanceof 6220, .invokevirtual 578345, .pop, .iinc 1 (.ofNat 1), .goto (.ofNat 4), .aload 0, .ldc 3, .invokevirtual 94795, .ireturn]
/-- 158: BellMilk.storms(I)I -/
def bm_c158 : List Instr := [.iload 1, .ldc 1, .if_icmp .lt (.ofNat 6), .iload 1, .ldc 20, .if_icmp .le (.ofNat 10), .aload 0, .ldc 0, .invokevirtual 94795, .ireturn, .aload 0, .instanceof 6145, .getfield 37, .iload 1, .iadd, .ldc 99999, .if_icmp .le (.ofNat 21), .aload 0, .ldc 4, .invokevirtual 94795, .ireturn, .ldc 0, .istore 2, .iload 2, .iload 1, .if_icmp .ge (.ofNat 55), .aload 0, .instanceof 6145, .aload 0, .instanceof 6145, .invokevirtual 28969, .ldc 100, .irem, .putfield 36, .aload 0, .instanceof 6145, .invokevirtual 28969, .ldc 8, .irem, .istore 3, .iload 3, .aload 0, .instanceof 6145, .getfield 39, .if_icmp .ge (.ofNat 49), .aload 0, .instanceof 6145, .iload 3, .invokevirtual 25153, .aload 0, .instanceof 6145, .invokevirtual 578345, .pop, .iinc 2 (.ofNat 1), .goto (.ofNat 23), .aload 0, .instanceof 6145, .invokevirtual 33577, .ireturn]
/-- 159: BellMilk.allStay(II)Z -/
def bm_c159 : List Instr := [.aload 0, .invokevirtual 495907, .aload 0, .instanceof 6220, .iload 1, .putfield 35, .ldc 0, .istore 3, .iload 3, .iload 2, .if_icmp .ge (.ofNat 19), .aload 0, .instanceof 6220, .invokevirtual 578345, .ifCond .eq (.ofNat 17), .ldc 0, .freturn, .iinc 3 (.ofNat 1), .goto (.ofNat 8), .ldc 1, .freturn]
/-- 160: BellMilkModel.anHour()V -/
def bm_c160 : List Instr := [.aload 0, .ldc 0, .checkcast 133, .ldc 0, .istore 1, .iload 1, .aload 0, .instanceof 8193, .ldc 2, .iaload, .if_icmp .ge (.ofNat 16), .aload 0, .iload 1, .invokevirtual 603460, .iinc 1 (.ofNat 1), .goto (.ofNat 5), .ldc 0, .istore 1, .iload 1, .ldc 12, .if_icmp .ge (.ofNat 42), .aload 0, .instanceof 8193, .ldc 5, .iload 1, .iadd, .ldc 99, .aload 0, .instanceof 8193, .ldc 5, .iload 1, .iadd, .iaload, .aload 0, .instanceof 8193, .ldc 3, .iaload, .iadd, .dadd, .iastore, .iinc 1 (.ofNat 1), .goto (.ofNat 18), .aload 0, .instanceof 8193, .ldc 0, .dup2, .iaload, .ldc 1, .iadd, .iastore, .ldc 0, .istore 1, .iload 1, .aload 0, .instanceof 8193, .ldc 2, .iaload, .if_icmp .ge (.ofNat 70), .aload 0, .instanceof 8193, .ldc 0, .iaload, .ldc 6, .irem, .ifCond .ne (.ofNat 70), .aload 0, .iload 1, .invokevirtual 529988, .iinc 1 (.ofNat 1), .goto (.ofNat 52), .return_]
/-- 161: BellMilkModel.isWord(Ljava/lang/String;)Z -/
def bm_c161 : List Instr := [.aload 0, .getfield 140, .ifCond .ne (.ofNat 13), .aload 0, .getfield 139, .aload 0, .getfield 138, .isub, .aload 1, .invokespecial 418093, .if_icmp .ne (.ofNat 13), .ldc 1, .goto (.ofNat 14), .ldc 0, .istore 2, .ldc 0, .istore 3, .iload 2, .ifCond .eq (.ofNat 40), .iload 3, .aload 1, .invokespecial 418093, .if_icmp .ge (.ofNat 40), .aload 0, .instanceof 8709, .aload 0, .getfield 138, .iload 3, .iadd, .iaload, .aload 1, .iload 3, .invokespecial 623181, .if_icmp .ne (.ofNat 36), .ldc 1, .goto (.ofNat 37), .ldc 0, .istore 2, .iinc 3 (.ofNat 1), .goto (.ofNat 17), .iload 2, .freturn]
/-- 162: BellMilkModel.numberRead(II)I -/
def bm_c162 : List Instr := [.aload 0, .aload 0, .getfield 138, .ldc 48, .ldc 57, .invokevirtual 390284, .ifCond .eq (.ofNat 9), .ldc 0, .goto (.ofNat 10), .ldc_w 1, .istore 3, .aload 0, .getfield 138, .istore 4, .iload 4, .aload 0, .getfield 139, .if_icmp .ge (.ofNat 38), .iload 3, .ifCond .lt (.ofNat 38), .iload 3, .ldc 999, .if_icmp .le (.ofNat 25), .iload 3, .goto (.ofNat 35), .ldc 10, .iload 3, .imul, .aload 0, .instanceof 8709, .iload 4, .iaload, .iadd, .ldc 48, .isub, .istore 3, .iinc 4 (.ofNat 1), .goto (.ofNat 14), .aload 0, .iload 3, .i2l, .iload 1, .i2l, .iload 2, .i2l, .invokevirtual 132718, .invokevirtual 606788, .iload 3, .ireturn]
/-- 163: BellMilk$Tape.readTrait(Ljava/lang/String;[III)Z -/
def bm_c163 : List Instr := [.aload 0, .aload 1, .invokevirtual 631626, .ifCond .ne (.ofNat 6), .ldc 1, .freturn, .aload 0, .iload 4, .invokevirtual 430666, .ifCond .ne (.ofNat 12), .ldc 0, .freturn, .aload 2, .iload 3, .aload 0, .getfield 69, .iastore, .aload 0, .invokevirtual 229666, .ldc 1, .freturn]
/-- 164: BellMilk$Tape.kindOfWord()I -/
def bm_c164 : List Instr := [.aload 0, .anewarray 60, .invokevirtual 631626, .ifCond .eq (.ofNat 6), .ldc 0, .ireturn, .aload 0, .anewarray 61, .invokevirtual 631626, .ifCond .eq (.ofNat 12), .ldc 1, .ireturn, .aload 0, .anewarray 62, .invokevirtual 631626, .ifCond .eq (.ofNat 18), .ldc 2, .ireturn, .aload 0, .anewarray 63, .invokevirtual 631626, .ifCond .eq (.ofNat 24), .ldc 3, .ireturn, .aload 0, .anewarray 64, .invokevirtual 631626, .ifCond .eq (.ofNat 30), .ldc 4, .ireturn, .aload 0, .anewarray 65, .invokevirtual 631626, .ifCond .eq (.ofNat 36), .ldc 5, .ireturn, .aload 0, .anewarray 66, .invokevirtual 631626, .ifCond .eq (.ofNat 42), .ldc 6, .goto (.ofNat 43), .ldc_w 1, .ireturn]
/-- 165: BellMilk.go(I)I -/
def bm_c165 : List Instr := [.iload 1, .ldc 1, .if_icmp .lt (.ofNat 6), .iload 1, .ldc 60, .if_icmp .le (.ofNat 10), .aload 0, .ldc 0, .invokevirtual 94795, .ireturn, .aload 0, .instanceof 6145, .getfield 37, .iload 1, .iadd, .ldc 99999, .if_icmp .le (.ofNat 21), .aload 0, .ldc 4, .invokevirtual 94795, .ireturn, .aload 0, .instanceof 6145, .iload 1, .invokevirtual 627521, .aload 0, .instanceof 6145, .invokevirtual 33577, .ireturn]
/-- 166: BellMilk.ahead(II)I -/
def bm_c166 : List Instr := [.iload 1, .invokevirtual 270632, .ifCond .eq (.ofNat 7), .iload 2, .ldc 100, .invokevirtual 98888, .ifCond .ne (.ofNat 11), .aload 0, .ldc 0, .invokevirtual 94795, .ireturn, .aload 0, .invokevirtual 495907, .aload 0, .instanceof 6220, .iload 2, .invokevirtual 627521, .aload 0, .instanceof 6220, .instanceof 2114, .iload 1, .iaload, .ireturn]
/-- 167: BellMilk.where(III)I -/
def bm_c167 : List Instr := [.aload 0, .iload 1, .invokevirtual 102987, .ifCond .eq (.ofNat 14), .iload 2, .ldc 1, .if_icmp .eq (.ofNat 10), .iload 2, .ldc 5, .if_icmp .ne (.ofNat 14), .iload 3, .ldc 100, .invokevirtual 98888, .ifCond .ne (.ofNat 18), .aload 0, .ldc 0, .invokevirtual 94795, .ireturn, .aload 0, .invokevirtual 495907, .aload 0, .instanceof 6220, .iload 3, .invokevirtual 627521, .aload 0, .instanceof 6220, .iload 2, .invokevirtual 4697, .iload 1, .iaload, .ireturn]
/-- 168: BellMilk.toneFor(III)I -/
def bm_c168 : List Instr := [.aload 0, .iload 1, .invokevirtual 102987, .ifCond .eq (.ofNat 11), .iload 2, .invokevirtual 270632, .ifCond .eq (.ofNat 11), .iload 3, .ldc 40, .invokevirtual 98888, .ifCond .ne (.ofNat 15), .aload 0, .ldc 0, .invokevirtual 94795, .ireturn, .ldc 0, .istore 4, .ldc_w 1, .istore 5, .ldc 0, .istore 6, .iload 6, .ldc 12, .if_icmp .ge (.ofNat 53), .aload 0, .invokevirtual 495907, .aload 0, .instanceof 6220, .instanceof 2694, .iload 1, .iload 6, .iastore, .aload 0, .instanceof 6220, .iload 3, .invokevirtual 627521, .aload 0, .instanceof 6220, .instanceof 2114, .iload 2, .iaload, .iload 5, .if_icmp .le (.ofNat 51), .aload 0, .instanceof 6220, .instanceof 2114, .iload 2, .iaload, .istore 5, .iload 6, .istore 4, .iinc 6 (.ofNat 1), .goto (.ofNat 21), .iload 4, .ireturn]
/-- 169: BellMilk.swingsFor(III)I -/
def bm_c169 : List Instr := [.aload 0, .iload 1, .invokevirtual 102987, .ifCond .eq (.ofNat 12), .iload 2, .ldc 9999, .invokevirtual 98888, .ifCond .eq (.ofNat 12), .iload 3, .ldc 40, .invokevirtual 98888, .ifCond .ne (.ofNat 16), .aload 0, .ldc 0, .invokevirtual 94795, .ireturn, .ldc 0, .istore 4, .iload 4, .ldc 9, .if_icmp .gt (.ofNat 48), .aload 0, .invokevirtual 495907, .aload 0, .instanceof 6220, .instanceof 2759, .iload 1, .iload 4, .iastore, .aload 0, .instanceof 6220, .iload 3, .invokevirtual 627521, .aload 0, .instanceof 6220, .instanceof 2114, .aload 0, .instanceof 6220, .instanceof 2694, .iload 1, .iaload, .iaload, .iload 2, .if_icmp .lt (.ofNat 46), .iload 4, .ireturn, .iinc 4 (.ofNat 1), .goto (.ofNat 18), .aload 0, .ldc 3, .invokevirtual 94795, .ireturn]
/-- 170: BellMilk.growsFor(I)I -/
def bm_c170 : List Instr := [.iload 1, .ldc 40, .invokevirtual 98888, .ifCond .ne (.ofNat 8), .aload 0, .ldc 0, .invokevirtual 94795, .ireturn, .ldc 0, .istore 2, .iload 2, .ldc 20, .if_icmp .gt (.ofNat 22), .aload 0, .iload 2, .iload 1, .invokevirtual 652395, .ifCond .eq (.ofNat 20), .iload 2, .ireturn, .iinc 2 (.ofNat 1), .goto (.ofNat 10), .aload 0, .ldc 3, .invokevirtual 94795, .ireturn]
/-- 171: BellMilk.traitForMostMilk(III)I -/
def bm_c171 : List Instr := [.ldc 0, .istore 4, .ldc_w 1, .istore 5, .ldc 0, .istore 6, .iload 6, .getstatic 58, .iload 2, .saload, .if_icmp .gt (.ofNat 37), .aload 0, .invokevirtual 495907, .aload 0, .instanceof 6220, .iload 2, .invokevirtual 4697, .iload 1, .iload 6, .iastore, .aload 0, .instanceof 6220, .iload 3, .invokevirtual 627521, .aload 0, .instanceof 6220, .invokevirtual 33577, .istore 7, .iload 7, .iload 5, .if_icmp .le (.ofNat 35), .iload 7, .istore 5, .iload 6, .istore 4, .iinc 6 (.ofNat 1), .goto (.ofNat 6), .iload 4, .ireturn]
/-- 172: BellMilk.milkUnder(II)I -/
def bm_c172 : List Instr := [.aload 0, .invokevirtual 495907, .aload 0, .instanceof 6220, .iload 1, .putfield 36, .aload 0, .instanceof 6220, .iload 2, .invokevirtual 627521, .aload 0, .instanceof 6220, .invokevirtual 33577, .ireturn]
/-- 173: BellMilk.gainedWithout(III)I -/
def bm_c173 : List Instr := [.aload 0, .invokevirtual 495907, .aload 0, .instanceof 6220, .instanceof 2114, .iload 2, .ldc 0, .iastore, .iload 1, .ldc_w 1, .if_icmp .eq (.ofNat 17), .aload 0, .instanceof 6220, .instanceof 2954, .iload 1, .ldc 1, .iastore, .aload 0, .instanceof 6220, .iload 3, .invokevirtual 627521, .aload 0, .instanceof 6220, .instanceof 2114, .iload 2, .iaload, .ireturn]
/-- 174: BellMilk.trialGoesAsTold(I[III)Z -/
def bm_c174 : List Instr := [.ldc 0, .istore 5, .iload 5, .aload 0, .instanceof 6569, .iload 1, .iaload, .if_icmp .ge (.ofNat 33), .iload 5, .ifCond .le (.ofNat 14), .aload 0, .instanceof 6220, .iload 4, .invokevirtual 627521, .aload 0, .instanceof 6500, .iload 1, .aaload, .iload 5, .iaload, .istore 6, .iload 6, .ldc_w 1, .if_icmp .eq (.ofNat 31), .aload 2, .iload 3, .iaload, .iload 6, .if_icmp .eq (.ofNat 31), .ldc 0, .freturn, .iinc 5 (.ofNat 1), .goto (.ofNat 2), .ldc 1, .freturn]
/-- 175: BellMilkModel.hours(I)V -/
def bm_c175 : List Instr := [.ldc 0, .istore 2, .iload 2, .iload 1, .if_icmp .ge (.ofNat 9), .aload 0, .invokevirtual 655908, .iinc 2 (.ofNat 1), .goto (.ofNat 2), .return_]
/-- 176: BellMilkModel.when(II)I -/
def bm_c176 : List Instr := [.iload 1, .invokevirtual 299304, .ifCond .eq (.ofNat 9), .iload 2, .i2l, .ldc2_w 0, .ldc2_w 99999, .invokevirtual 132718, .ifCond .ne (.ofNat 13), .aload 0, .ldc 0, .invokevirtual 127564, .ireturn, .aload 0, .invokevirtual 287012, .ldc 0, .istore 3, .iload 3, .ldc 200, .if_icmp .gt (.ofNat 32), .aload 0, .instanceof 8193, .ldc 17, .iload 1, .iadd, .iaload, .iload 2, .if_icmp .ge (.ofNat 32), .aload 0, .invokevirtual 655908, .iinc 3 (.ofNat 1), .goto (.ofNat 17), .aload 0, .invokevirtual 291108, .aload 0, .iload 3, .ldc 200, .invokevirtual 373612, .ireturn]
/-- 177: BellMilkModel.meet(II)I -/
def bm_c177 : List Instr := [.aload 0, .iload 1, .invokevirtual 295500, .ifCond .eq (.ofNat 11), .aload 0, .iload 2, .invokevirtual 295500, .ifCond .eq (.ofNat 11), .iload 1, .iload 2, .if_icmp .ne (.ofNat 15), .aload 0, .ldc 0, .invokevirtual 127564, .ireturn, .aload 0, .invokevirtual 287012, .ldc 0, .istore 3, .iload 3, .ldc 200, .if_icmp .gt (.ofNat 35), .aload 0, .iload 1, .ldc 1, .invokevirtual 140140, .aload 0, .iload 2, .ldc 1, .invokevirtual 140140, .if_icmp .eq (.ofNat 35), .aload 0, .invokevirtual 655908, .iinc 3 (.ofNat 1), .goto (.ofNat 19), .aload 0, .invokevirtual 291108, .aload 0, .iload 3, .ldc 200, .invokevirtual 373612, .ireturn]
/-- 178: BellMilkModel.bare()I -/
def bm_c178 : List Instr := [.aload 0, .invokevirtual 287012, .ldc 0, .istore 1, .iload 1, .ldc 100, .if_icmp .gt (.ofNat 14), .aload 0, .invokevirtual 172844, .ifCond .ne (.ofNat 14), .aload 0, .invokevirtual 655908, .iinc 1 (.ofNat 1), .goto (.ofNat 4), .aload 0, .invokevirtual 291108, .aload 0, .iload 1, .ldc 100, .invokevirtual 373612, .ireturn]
/-- 179: BellMilkModel.allStay(I)Z -/
def bm_c179 : List Instr := [.ldc 1, .istore 2, .ldc 0, .istore 3, .iload 3, .iload 1, .if_icmp .ge (.ofNat 20), .iload 2, .ifCond .eq (.ofNat 20), .aload 0, .invokevirtual 655908, .aload 0, .getfield 133, .ifCond .ne (.ofNat 16), .ldc 1, .goto (.ofNat 17), .ldc 0, .istore 2, .iinc 3 (.ofNat 1), .goto (.ofNat 4), .aload 0, .invokevirtual 291108, .iload 2, .freturn]
/-- 180: BellMilkModel.storms(I)I -/
def bm_c180 : List Instr := [.iload 1, .i2l, .ldc2_w 1, .ldc2_w 20, .invokevirtual 132718, .ifCond .ne (.ofNat 10), .aload 0, .ldc 0, .invokevirtual 127564, .ireturn, .aload 0, .instanceof 8193, .ldc 0, .iaload, .iload 1, .iadd, .ldc 99999, .if_icmp .le (.ofNat 22), .aload 0, .ldc 4, .invokevirtual 127564, .ireturn, .ldc 0, .istore 2, .iload 2, .iload 1, .if_icmp .ge (.ofNat 51), .aload 0, .instanceof 8193, .ldc 4, .aload 0, .invokevirtual 180524, .ldc 100, .irem, .iastore, .aload 0, .invokevirtual 180524, .ldc 8, .irem, .istore 3, .aload 0, .iload 3, .invokevirtual 295500, .ifCond .eq (.ofNat 47), .aload 0, .iload 3, .invokevirtual 344644, .aload 0, .invokevirtual 655908, .iinc 2 (.ofNat 1), .goto (.ofNat 24), .aload 0, .invokevirtual 160556, .ireturn]
/-- 181: BellMilkModel.takes(Ljava/lang/String;)Z -/
def bm_c181 : List Instr := [.aload 0, .aload 1, .invokevirtual 660556, .istore 2, .iload 2, .ifCond .eq (.ofNat 8), .aload 0, .invokevirtual 545572, .iload 2, .freturn]
/-- 182: BellMilkModel.kindHere()I -/
def bm_c182 : List Instr := [.aload 0, .anewarray 60, .invokevirtual 660556, .ifCond .eq (.ofNat 6), .ldc 0, .goto (.ofNat 19), .aload 0, .anewarray 61, .invokevirtual 660556, .ifCond .eq (.ofNat 12), .ldc 1, .goto (.ofNat 19), .aload 0, .anewarray 62, .invokevirtual 660556, .ifCond .eq (.ofNat 18), .ldc 2, .goto (.ofNat 19), .ldc_w 1, .istore 1, .aload 0, .anewarray 63, .invokevirtual 660556, .ifCond .eq (.ofNat 26), .ldc 3, .goto (.ofNat 39), .aload 0, .anewarray 64, .invokevirtual 660556, .ifCond .eq (.ofNat 32), .ldc 4, .goto (.ofNat 39), .aload 0, .anewarray 65, .invokevirtual 660556, .ifCond .eq (.ofNat 38), .ldc 5, .goto (.ofNat 39), .ldc_w 1, .istore 2, .iload 1, .ifCond .lt (.ofNat 44), .iload 1, .goto (.ofNat 55), .iload 2, .ifCond .lt (.ofNat 48), .iload 2, .goto (.ofNat 55), .aload 0, .anewarray 66, .invokevirtual 660556, .ifCond .eq (.ofNat 54), .ldc 6, .goto (.ofNat 55), .ldc_w 1, .ireturn]
/-- 183: BellMilk$Tape.readCow(LBellMilk$Herd;I)Z -/
def bm_c183 : List Instr := [.aload 1, .getfield 39, .ldc 8, .if_icmp .lt (.ofNat 6), .ldc 0, .freturn, .aload 1, .iload 2, .ldc 0, .invokevirtual 1129, .istore 3, .aload 0, .invokevirtual 229666, .aload 0, .anewarray 67, .aload 1, .instanceof 2629, .iload 3, .ldc 11, .invokevirtual 669098, .ifCond .eq (.ofNat 37), .aload 0, .anewarray 68, .aload 1, .instanceof 2694, .iload 3, .ldc 11, .invokevirtual 669098, .ifCond .eq (.ofNat 37), .aload 0, .anewarray 69, .aload 1, .instanceof 2759, .iload 3, .ldc 9, .invokevirtual 669098, .ifCond .ne (.ofNat 39), .ldc 0, .freturn, .aload 0, .anewarray 70, .invokevirtual 631626, .ifCond .eq (.ofNat 50), .aload 1, .instanceof 2954, .iload 3, .ldc 1, .iastore, .aload 0, .invokevirtual 229666, .ldc 1, .freturn]
/-- 184: BellMilk.graze(II)I -/
def bm_c184 : List Instr := [.aload 0, .iload 1, .invokevirtual 102987, .ifCond .eq (.ofNat 8), .iload 2, .ldc 40, .invokevirtual 98888, .ifCond .ne (.ofNat 12), .aload 0, .ldc 0, .invokevirtual 94795, .ireturn, .aload 0, .iload 1, .ldc 1, .iload 2, .invokevirtual 702603, .ireturn]
/-- 185: BellMilk.kindFor(II)I -/
def bm_c185 : List Instr := [.aload 0, .iload 1, .invokevirtual 102987, .ifCond .eq (.ofNat 8), .iload 2, .ldc 40, .invokevirtual 98888, .ifCond .ne (.ofNat 12), .aload 0, .ldc 0, .invokevirtual 94795, .ireturn, .aload 0, .iload 1, .ldc 0, .iload 2, .invokevirtual 702603, .ireturn]
/-- 186: BellMilk.thunderFor(II)I -/
def bm_c186 : List Instr := [.iload 1, .ldc 9999, .invokevirtual 98888, .ifCond .eq (.ofNat 8), .iload 2, .ldc 40, .invokevirtual 98888, .ifCond .ne (.ofNat 12), .aload 0, .ldc 0, .invokevirtual 94795, .ireturn, .ldc 99, .istore 3, .iload 3, .ifCond .lt (.ofNat 41), .iload 3, .ldc 10, .irem, .ldc 9, .if_icmp .ne (.ofNat 31), .aload 0, .iload 3, .ldc 9, .isub, .iload 2, .invokevirtual 705387, .iload 1, .if_icmp .ge (.ofNat 31), .iinc 3 (.negSucc 8), .goto (.ofNat 39), .aload 0, .iload 3, .iload 2, .invokevirtual 705387, .iload 1, .if_icmp .lt (.ofNat 39), .iload 3, .ireturn, .iinc 3 (.negSucc 0), .goto (.ofNat 14), .aload 0, .ldc 3, .invokevirtual 94795, .ireturn]
/-- 187: BellMilk.muffle(III)I -/
def bm_c187 : List Instr := [.iload 1, .invokevirtual 270632, .ifCond .eq (.ofNat 11), .iload 2, .ldc 9999, .invokevirtual 98888, .ifCond .eq (.ofNat 11), .iload 3, .ldc 18, .invokevirtual 98888, .ifCond .ne (.ofNat 15), .aload 0, .ldc 0, .invokevirtual 94795, .ireturn, .aload 0, .ldc_w 1, .iload 1, .iload 3, .invokevirtual 709771, .istore 4, .ldc 0, .istore 5, .iload 5, .aload 0, .instanceof 6145, .getfield 39, .if_icmp .ge (.ofNat 41), .aload 0, .instanceof 6764, .iload 5, .iload 4, .aload 0, .iload 5, .iload 1, .iload 3, .invokevirtual 709771, .isub, .iastore, .iinc 5 (.ofNat 1), .goto (.ofNat 23), .aload 0, .aload 0, .instanceof 6145, .instanceof 2114, .iload 1, .iaload, .iload 4, .iadd, .iload 2, .isub, .invokevirtual 284235, .istore 5, .iload 5, .ldc_w 1, .if_icmp .ne (.ofNat 60), .aload 0, .ldc 3, .invokevirtual 94795, .goto (.ofNat 61), .iload 5, .ireturn]
/-- 188: BellMilk.fits(II)I -/
def bm_c188 : List Instr := [.iload 1, .invokevirtual 278824, .ifCond .ne (.ofNat 7), .aload 0, .ldc 0, .invokevirtual 94795, .ireturn, .aload 0, .instanceof 6634, .iload 1, .iaload, .ifCond .ne (.ofNat 16), .aload 0, .ldc 5, .invokevirtual 94795, .ireturn, .iload 2, .invokevirtual 270632, .ifCond .ne (.ofNat 23), .aload 0, .ldc 0, .invokevirtual 94795, .ireturn, .ldc 0, .istore 3, .ldc 0, .istore 4, .iload 4, .aload 0, .instanceof 6145, .getfield 39, .if_icmp .ge (.ofNat 63), .aload 0, .invokevirtual 495907, .aload 0, .instanceof 6220, .instanceof 2954, .iload 4, .ldc 1, .aload 0, .instanceof 6220, .instanceof 2954, .iload 4, .iaload, .isub, .iastore, .aload 0, .iload 1, .aload 0, .instanceof 6220, .instanceof 2114, .iload 2, .ldc 6, .invokevirtual 714667, .ifCond .eq (.ofNat 61), .iload 3, .ldc 1, .iload 4, .ishl, .ior, .istore 3, .iinc 4 (.ofNat 1), .goto (.ofNat 27), .iload 3, .ireturn]
/-- 189: BellMilk.kinds(II)I -/
def bm_c189 : List Instr := [.iload 1, .invokevirtual 278824, .ifCond .ne (.ofNat 7), .aload 0, .ldc 0, .invokevirtual 94795, .ireturn, .aload 0, .instanceof 6634, .iload 1, .iaload, .ifCond .ne (.ofNat 16), .aload 0, .ldc 5, .invokevirtual 94795, .ireturn, .aload 0, .iload 2, .invokevirtual 102987, .ifCond .ne (.ofNat 24), .aload 0, .ldc 0, .invokevirtual 94795, .ireturn, .ldc 0, .istore 3, .ldc 0, .istore 4, .iload 4, .ldc 7, .if_icmp .ge (.ofNat 56), .aload 0, .invokevirtual 495907, .aload 0, .instanceof 6220, .instanceof 2564, .iload 2, .iload 4, .iastore, .aload 0, .iload 1, .aload 0, .instanceof 6220, .instanceof 2889, .iload 2, .ldc 1, .invokevirtual 714667, .ifCond .eq (.ofNat 54), .iload 3, .ldc 1, .iload 4, .ishl, .ior, .istore 3, .iinc 4 (.ofNat 1), .goto (.ofNat 28), .iload 3, .ireturn]
/-- 190: BellMilkModel.go(I)I -/
def bm_c190 : List Instr := [.iload 1, .i2l, .ldc2_w 1, .ldc2_w 60, .invokevirtual 132718, .ifCond .ne (.ofNat 10), .aload 0, .ldc 0, .invokevirtual 127564, .ireturn, .aload 0, .instanceof 8193, .ldc 0, .iaload, .iload 1, .iadd, .ldc 99999, .if_icmp .le (.ofNat 22), .aload 0, .ldc 4, .invokevirtual 127564, .ireturn, .aload 0, .iload 1, .invokevirtual 717636, .aload 0, .invokevirtual 160556, .ireturn]
/-- 191: BellMilkModel.seenIn(II)I -/
def bm_c191 : List Instr := [.aload 0, .iload 2, .invokevirtual 717636, .aload 0, .instanceof 8193, .iload 1, .iaload, .istore 3, .aload 0, .invokevirtual 291108, .iload 3, .ireturn]
/-- 192: BellMilkModel.pailsIn(I)I -/
def bm_c192 : List Instr := [.aload 0, .iload 1, .invokevirtual 717636, .aload 0, .invokevirtual 160556, .istore 2, .aload 0, .invokevirtual 291108, .iload 2, .ireturn]
/-- 193: BellMilkModel.growsFor(I)I -/
def bm_c193 : List Instr := [.iload 1, .invokevirtual 368936, .ifCond .ne (.ofNat 7), .aload 0, .ldc 0, .invokevirtual 127564, .ireturn, .ldc_w 1, .istore 2, .ldc 20, .istore 3, .iload 3, .ifCond .lt (.ofNat 30), .aload 0, .invokevirtual 287012, .aload 0, .instanceof 8193, .ldc 3, .iload 3, .iastore, .aload 0, .iload 1, .invokevirtual 734284, .ifCond .eq (.ofNat 26), .iload 3, .goto (.ofNat 27), .iload 2, .istore 2, .iinc 3 (.negSucc 0), .goto (.ofNat 11), .iload 2, .ifCond .ge (.ofNat 36), .aload 0, .ldc 3, .invokevirtual 127564, .goto (.ofNat 37), .iload 2, .ireturn]
/-- 194: BellMilkModel.isSo(III)Z -/
def bm_c194 : List Instr := [.ldc 1, .istore 4, .ldc 0, .istore 5, .iload 5, .aload 0, .instanceof 9095, .iload 1, .iaload, .if_icmp .ge (.ofNat 39), .aload 0, .instanceof 9160, .ldc 40, .iload 1, .imul, .iload 5, .iadd, .iaload, .istore 6, .iload 4, .ifCond .eq (.ofNat 32), .iload 6, .ldc_w 1, .if_icmp .eq (.ofNat 30), .iload 6, .aload 0, .instanceof 8193, .iload 2, .iaload, .if_icmp .ne (.ofNat 32), .ldc 1, .goto (.ofNat 33), .ldc 0, .istore 4, .aload 0, .iload 3, .invokevirtual 717636, .iinc 5 (.ofNat 1), .goto (.ofNat 4), .aload 0, .invokevirtual 291108, .iload 4, .freturn]
/-- 195: BellMilkModel.cowTold(I)V -/
def bm_c195 : List Instr := [.aload 0, .aload 0, .instanceof 8193, .ldc 2, .iaload, .ldc 8, .if_icmp .ge (.ofNat 9), .ldc 1, .goto (.ofNat 10), .ldc 0, .invokevirtual 606788, .aload 0, .getfield 140, .ifCond .eq (.ofNat 15), .return_, .aload 0, .iload 1, .ldc 0, .invokevirtual 332908, .istore 2, .aload 0, .anewarray 67, .invokevirtual 742220, .ifCond .eq (.ofNat 32), .aload 0, .iload 2, .ldc 1, .aload 0, .ldc 0, .ldc 11, .invokevirtual 664940, .invokevirtual 144516, .aload 0, .anewarray 68, .invokevirtual 742220, .ifCond .eq (.ofNat 44), .aload 0, .iload 2, .ldc 2, .aload 0, .ldc 0, .ldc 11, .invokevirtual 664940, .invokevirtual 144516, .aload 0, .anewarray 69, .invokevirtual 742220, .ifCond .eq (.ofNat 56), .aload 0, .iload 2, .ldc 3, .aload 0, .ldc 0, .ldc 9, .invokevirtual 664940, .invokevirtual 144516, .aload 0, .anewarray 70, .invokevirtual 742220, .ifCond .eq (.ofNat 65), .aload 0, .iload 2, .ldc 6, .ldc 1, .invokevirtual 144516, .return_]
/-- 196: BellMilk$Tape.readItem(LBellMilk$Herd;)Z -/
def bm_c196 : List Instr := [.aload 0, .invokevirtual 672042, .istore 2, .iload 2, .ldc_w 1, .if_icmp .eq (.ofNat 11), .aload 0, .aload 1, .iload 2, .invokevirtual 750698, .freturn, .aload 0, .anewarray 71, .invokevirtual 631626, .ifCond .eq (.ofNat 19), .aload 0, .aload 1, .invokevirtual 582474, .freturn, .aload 0, .anewarray 72, .invokevirtual 631626, .ifCond .eq (.ofNat 27), .aload 0, .aload 1, .invokevirtual 586314, .freturn, .aload 0, .anewarray 73, .invokevirtual 631626, .ifCond .eq (.ofNat 37), .aload 0, .aload 1, .invokevirtual 590410, .ifCond .eq (.ofNat 37), .ldc 1, .goto (.ofNat 38), .ldc 0, .freturn]
/-- 197: BellMilkModel.ahead(II)I -/
def bm_c197 : List Instr := [.iload 1, .invokevirtual 299304, .ifCond .eq (.ofNat 6), .iload 2, .invokevirtual 364840, .ifCond .ne (.ofNat 10), .aload 0, .ldc 0, .invokevirtual 127564, .ireturn, .aload 0, .invokevirtual 287012, .aload 0, .ldc 17, .iload 1, .iadd, .iload 2, .invokevirtual 783468, .ireturn]
/-- 198: BellMilkModel.where(III)I -/
def bm_c198 : List Instr := [.aload 0, .iload 1, .invokevirtual 295500, .ifCond .eq (.ofNat 13), .iload 2, .ldc 1, .if_icmp .eq (.ofNat 10), .iload 2, .ldc 5, .if_icmp .ne (.ofNat 13), .iload 3, .invokevirtual 364840, .ifCond .ne (.ofNat 17), .aload 0, .ldc 0, .invokevirtual 127564, .ireturn, .aload 0, .invokevirtual 287012, .aload 0, .ldc 29, .ldc 7, .iload 1, .imul, .iadd, .iload 2, .iadd, .iload 3, .invokevirtual 783468, .ireturn]
/-- 199: BellMilkModel.graze(II)I -/
def bm_c199 : List Instr := [.aload 0, .iload 1, .invokevirtual 295500, .ifCond .eq (.ofNat 7), .iload 2, .invokevirtual 368936, .ifCond .ne (.ofNat 11), .aload 0, .ldc 0, .invokevirtual 127564, .ireturn, .aload 0, .invokevirtual 176420, .ldc 0, .istore 3, .iload 3, .ldc 12, .if_icmp .ge (.ofNat 33), .aload 0, .invokevirtual 287012, .aload 0, .iload 1, .ldc 1, .iload 3, .invokevirtual 144516, .aload 0, .iload 3, .aload 0, .iload 2, .invokevirtual 787276, .invokevirtual 377700, .iinc 3 (.ofNat 1), .goto (.ofNat 15), .aload 0, .getfield 134, .ireturn]
/-- 200: BellMilkModel.toneFor(III)I -/
def bm_c200 : List Instr := [.aload 0, .iload 1, .invokevirtual 295500, .ifCond .eq (.ofNat 10), .iload 2, .invokevirtual 299304, .ifCond .eq (.ofNat 10), .iload 3, .invokevirtual 368936, .ifCond .ne (.ofNat 14), .aload 0, .ldc 0, .invokevirtual 127564, .ireturn, .aload 0, .invokevirtual 176420, .ldc 0, .istore 4, .iload 4, .ldc 12, .if_icmp .ge (.ofNat 39), .aload 0, .invokevirtual 287012, .aload 0, .iload 1, .ldc 2, .iload 4, .invokevirtual 144516, .aload 0, .iload 4, .aload 0, .ldc 17, .iload 2, .iadd, .iload 3, .invokevirtual 783468, .invokevirtual 377700, .iinc 4 (.ofNat 1), .goto (.ofNat 18), .aload 0, .getfield 134, .ireturn]
/-- 201: BellMilkModel.kindFor(II)I -/
def bm_c201 : List Instr := [.aload 0, .iload 1, .invokevirtual 295500, .ifCond .eq (.ofNat 7), .iload 2, .invokevirtual 368936, .ifCond .ne (.ofNat 11), .aload 0, .ldc 0, .invokevirtual 127564, .ireturn, .aload 0, .invokevirtual 176420, .ldc 0, .istore 3, .iload 3, .ldc 6, .if_icmp .gt (.ofNat 33), .aload 0, .invokevirtual 287012, .aload 0, .iload 1, .ldc 0, .iload 3, .invokevirtual 144516, .aload 0, .iload 3, .aload 0, .iload 2, .invokevirtual 787276, .invokevirtual 377700, .iinc 3 (.ofNat 1), .goto (.ofNat 15), .aload 0, .getfield 134, .ireturn]
/-- 202: BellMilkModel.swingsFor(III)I -/
def bm_c202 : List Instr := [.aload 0, .iload 1, .invokevirtual 295500, .ifCond .eq (.ofNat 13), .iload 2, .i2l, .ldc2_w 0, .ldc2_w 9999, .invokevirtual 132718, .ifCond .eq (.ofNat 13), .iload 3, .invokevirtual 368936, .ifCond .ne (.ofNat 17), .aload 0, .ldc 0, .invokevirtual 127564, .ireturn, .ldc_w 1, .istore 4, .ldc 9, .istore 5, .iload 5, .ifCond .lt (.ofNat 47), .aload 0, .invokevirtual 287012, .aload 0, .iload 1, .ldc 3, .iload 5, .invokevirtual 144516, .aload 0, .ldc 17, .aload 0, .iload 1, .ldc 2, .invokevirtual 140140, .iadd, .iload 3, .invokevirtual 783468, .iload 2, .if_icmp .lt (.ofNat 43), .iload 5, .goto (.ofNat 44), .iload 4, .istore 4, .iinc 5 (.negSucc 0), .goto (.ofNat 21), .iload 4, .ifCond .ge (.ofNat 53), .aload 0, .ldc 3, .invokevirtual 127564, .goto (.ofNat 54), .iload 4, .ireturn]
/-- 203: BellMilkModel.thunderFor(II)I -/
def bm_c203 : List Instr := [.iload 1, .i2l, .ldc2_w 0, .ldc2_w 9999, .invokevirtual 132718, .ifCond .eq (.ofNat 9), .iload 2, .invokevirtual 368936, .ifCond .ne (.ofNat 13), .aload 0, .ldc 0, .invokevirtual 127564, .ireturn, .ldc_w 1, .istore 3, .ldc 0, .istore 4, .iload 4, .ldc 99, .if_icmp .gt (.ofNat 38), .aload 0, .invokevirtual 287012, .aload 0, .instanceof 8193, .ldc 4, .iload 4, .iastore, .aload 0, .iload 2, .invokevirtual 787276, .iload 1, .if_icmp .lt (.ofNat 34), .iload 4, .goto (.ofNat 35), .iload 3, .istore 3, .iinc 4 (.ofNat 1), .goto (.ofNat 17), .iload 3, .ifCond .ge (.ofNat 44), .aload 0, .ldc 3, .invokevirtual 127564, .goto (.ofNat 45), .iload 3, .ireturn]
/-- 204: BellMilkModel.muffle(III)I -/
def bm_c204 : List Instr := [.iload 1, .invokevirtual 299304, .ifCond .eq (.ofNat 15), .iload 2, .i2l, .ldc2_w 0, .ldc2_w 9999, .invokevirtual 132718, .ifCond .eq (.ofNat 15), .iload 3, .i2l, .ldc2_w 0, .ldc2_w 18, .invokevirtual 132718, .ifCond .ne (.ofNat 19), .aload 0, .ldc 0, .invokevirtual 127564, .ireturn, .ldc_w 1, .istore 4, .ldc 0, .istore 5, .iload 5, .ldc 1, .aload 0, .instanceof 8193, .ldc 2, .iaload, .ishl, .if_icmp .ge (.ofNat 81), .iload 4, .ifCond .lt (.ofNat 38), .iload 5, .invokevirtual 152360, .iload 4, .invokevirtual 152360, .if_icmp .ge (.ofNat 79), .aload 0, .invokevirtual 287012, .ldc 0, .istore 6, .iload 6, .aload 0, .instanceof 8193, .ldc 2, .iaload, .if_icmp .ge (.ofNat 67), .aload 0, .iload 6, .ldc 6, .iload 5, .iload 6, .ishr, .ldc 1, .iand, .ldc 1, .if_icmp .ne (.ofNat 60), .ldc 1, .goto (.ofNat 64), .aload 0, .iload 6, .ldc 6, .invokevirtual 140140, .invokevirtual 144516, .iinc 6 (.ofNat 1), .goto (.ofNat 42), .aload 0, .ldc 17, .iload 1, .iadd, .iload 3, .invokevirtual 783468, .iload 2, .if_icmp .gt (.ofNat 77), .iload 5, .goto (.ofNat 78), .iload 4, .istore 4, .iinc 5 (.ofNat 1), .goto (.ofNat 23), .iload 4, .ifCond .ge (.ofNat 87), .aload 0, .ldc 3, .invokevirtual 127564, .goto (.ofNat 88), .iload 4, .ireturn]
/-- 205: BellMilkModel.fits(II)I -/
def bm_c205 : List Instr := [.aload 0, .iload 1, .invokevirtual 561740, .istore 3, .iload 3, .ifCond .lt (.ofNat 10), .aload 0, .iload 3, .invokevirtual 127564, .ireturn, .iload 2, .invokevirtual 299304, .ifCond .ne (.ofNat 17), .aload 0, .ldc 0, .invokevirtual 127564, .ireturn, .ldc 0, .istore 4, .ldc 0, .istore 5, .iload 5, .aload 0, .instanceof 8193, .ldc 2, .iaload, .if_icmp .ge (.ofNat 57), .aload 0, .invokevirtual 287012, .aload 0, .iload 5, .ldc 6, .ldc 1, .aload 0, .iload 5, .ldc 6, .invokevirtual 140140, .isub, .invokevirtual 144516, .iload 4, .aload 0, .iload 1, .ldc 17, .iload 2, .iadd, .ldc 6, .invokevirtual 796556, .ifCond .eq (.ofNat 52), .ldc 1, .iload 5, .ishl, .goto (.ofNat 53), .ldc 0, .ior, .istore 4, .iinc 5 (.ofNat 1), .goto (.ofNat 21), .iload 4, .ireturn]
/-- 206: BellMilkModel.kinds(II)I -/
def bm_c206 : List Instr := [.aload 0, .iload 1, .invokevirtual 561740, .istore 3, .iload 3, .ifCond .lt (.ofNat 10), .aload 0, .iload 3, .invokevirtual 127564, .ireturn, .aload 0, .iload 2, .invokevirtual 295500, .ifCond .ne (.ofNat 18), .aload 0, .ldc 0, .invokevirtual 127564, .ireturn, .ldc 0, .istore 4, .ldc 0, .istore 5, .iload 5, .ldc 6, .if_icmp .gt (.ofNat 54), .aload 0, .invokevirtual 287012, .aload 0, .iload 2, .ldc 0, .iload 5, .invokevirtual 144516, .iload 4, .aload 0, .iload 1, .ldc 29, .ldc 7, .iload 2, .imul, .iadd, .ldc 5, .iadd, .ldc 1, .invokevirtual 796556, .ifCond .eq (.ofNat 49), .ldc 1, .iload 5, .ishl, .goto (.ofNat 50), .ldc 0, .ior, .istore 4, .iinc 5 (.ofNat 1), .goto (.ofNat 22), .iload 4, .ireturn]
/-- 207: BellMilkModel.item()V -/
def bm_c207 : List Instr := [.aload 0, .invokevirtual 746284, .istore 1, .iload 1, .ifCond .lt (.ofNat 9), .aload 0, .iload 1, .invokevirtual 799556, .goto (.ofNat 60), .aload 0, .anewarray 71, .invokevirtual 742220, .ifCond .eq (.ofNat 34), .aload 0, .ldc 0, .ldc 11, .invokevirtual 664940, .istore 2, .aload 0, .ldc 0, .ldc 99, .invokevirtual 664940, .istore 3, .aload 0, .getfield 140, .ifCond .ne (.ofNat 33), .aload 0, .instanceof 8193, .ldc 5, .iload 2, .iadd, .iload 3, .iastore, .goto (.ofNat 60), .aload 0, .anewarray 72, .invokevirtual 742220, .ifCond .eq (.ofNat 47), .aload 0, .instanceof 8193, .ldc 3, .aload 0, .ldc 0, .ldc 20, .invokevirtual 664940, .iastore, .goto (.ofNat 60), .aload 0, .aload 0, .anewarray 73, .invokevirtual 660556, .invokevirtual 606788, .aload 0, .instanceof 8193, .ldc 4, .aload 0, .ldc 0, .ldc 99, .invokevirtual 664940, .iastore, .return_]
/-- 208: BellMilk$Tape.readInto(LBellMilk$Herd;)Z -/
def bm_c208 : List Instr := [.aload 0, .ldc 0, .putfield 68, .aload 0, .ldc 0, .putfield 70, .ldc 0, .istore 2, .iload 2, .aload 0, .getfield 65, .if_icmp .gt (.ofNat 39), .aload 0, .invokevirtual 229666, .aload 0, .aload 1, .invokevirtual 803658, .ifCond .ne (.ofNat 20), .ldc 0, .freturn, .aload 0, .dup, .getfield 70, .ldc 1, .iadd, .putfield 70, .aload 0, .getfield 66, .ldc 3, .if_icmp .eq (.ofNat 37), .aload 0, .getfield 66, .ifCond .ne (.ofNat 35), .ldc 1, .goto (.ofNat 36), .ldc 0, .freturn, .iinc 2 (.ofNat 1), .goto (.ofNat 8), .ldc 0, .freturn]
/-- 209: BellMilkModel.text()I -/
def bm_c209 : List Instr := [.aload 0, .invokevirtual 287012, .aload 0, .ldc 0, .checkcast 140, .aload 0, .ldc 0, .putfield 139, .aload 0, .invokevirtual 545572, .aload 0, .invokevirtual 848932, .ldc 1, .istore 1, .aload 0, .getfield 140, .ifCond .ne (.ofNat 31), .aload 0, .getfield 138, .aload 0, .getfield 137, .if_icmp .ge (.ofNat 31), .aload 0, .aload 0, .anewarray 74, .invokevirtual 660556, .invokevirtual 606788, .aload 0, .invokevirtual 848932, .iinc 1 (.ofNat 1), .goto (.ofNat 14), .aload 0, .ldc 0, .putfield 137, .aload 0, .getfield 140, .ifCond .eq (.ofNat 44), .aload 0, .invokevirtual 291108, .ldc_w 1, .aload 0, .getfield 138, .isub, .ireturn, .iload 1, .ireturn]
/-- 210: BellMilk.text()I -/
def bm_c210 : List Instr := [.aload 0, .invokevirtual 495907, .aload 0, .instanceof 6434, .aload 0, .instanceof 6220, .invokevirtual 852810, .istore 1, .aload 0, .instanceof 6434, .ldc 0, .putfield 65, .iload 1, .ifCond .ne (.ofNat 20), .ldc_w 1, .aload 0, .instanceof 6434, .getfield 67, .isub, .ireturn, .aload 0, .instanceof 6145, .aload 0, .instanceof 6220, .invokevirtual 213569, .aload 0, .instanceof 6434, .getfield 70, .ireturn]
/-- 211: BellMilkLaw.law([I)Z -/
def bm_c211 : List Instr := [.nop, .dup, .nop, .astore 1, .nop, .dup, .nop, .astore 2, .ldc 0, .istore 3, .iload 3, .aload 0, .arraylength, .ldc 6, .isub, .if_icmp .gt (.ofNat 1046), .aload 0, .iload 3, .saload, .ldc 63, .iand, .lookupswitch (.ofNat 1044) #[(.ofNat 0, .ofNat 22), (.ofNat 1, .ofNat 49), (.ofNat 2, .ofNat 76), (.ofNat 3, .ofNat 103), (.ofNat 4, .ofNat 120), (.ofNat 5, .ofNat 137), (.ofNat 6, .ofNat 164), (.ofNat 7, .ofNat 191), (.ofNat 8, .ofNat 228), (.ofNat 9, .ofNat 245), (.ofNat 10, .ofNat 262), (.ofNat 11, .ofNat 289), (.ofNat 12, .ofNat 326), (.ofNat 13, .ofNat 353), (.ofNat 14, .ofNat 380), (.ofNat 15, .ofNat 387), (.ofNat 16, .ofNat 414), (.ofNat 17, .ofNat 451), (.ofNat 18, .ofNat 478), (.ofNat 19, .ofNat 515), (.ofNat 20, .ofNat 532), (.ofNat 21, .ofNat 559), (.ofNat 22, .ofNat 576), (.ofNat 23, .ofNat 613), (.ofNat 24, .ofNat 640), (.ofNat 25, .ofNat 667), (.ofNat 26, .ofNat 684), (.ofNat 27, .ofNat 712), (.ofNat 28, .ofNat 729), (.ofNat 29, .ofNat 756), (.ofNat 30, .ofNat 763), (.ofNat 31, .ofNat 770), (.ofNat 32, .ofNat 797), (.ofNat 33, .ofNat 824), (.ofNat 34, .ofNat 861), (.ofNat 35, .ofNat 898), (.ofNat 36, .ofNat 955), (.ofNat 37, .ofNat 972), (.ofNat 38, .ofNat 989), (.ofNat 39, .ofNat 996), (.ofNat 40, .ofNat 1003), (.ofNat 41, .ofNat 1010), (.ofNat 42, .ofNat 1027)], .aload 1, .aload 0, .iload 3, .ldc 1, .iadd, .saload, .aload 0, .iload 3, .ldc 2, .iadd, .saload, .invokevirtual 435307, .aload 2, .aload 0, .iload 3, .ldc 1, .iadd, .saload, .aload 0, .iload 3, .ldc 2, .iadd, .saload, .invokevirtual 504684, .if_icmp .eq (.ofNat 1044), .ldc 0, .freturn, .aload 1, .aload 0, .iload 3, .ldc 1, .iadd, .saload, .aload 0, .iload 3, .ldc 2, .iadd, .saload, .invokevirtual 439147, .aload 2, .aload 0, .iload 3, .ldc 1, .iadd, .saload, .aload 0, .iload 3, .ldc 2, .iadd, .saload, .invokevirtual 508780, .if_icmp .eq (.ofNat 1044), .ldc 0, .freturn, .aload 1, .aload 0, .iload 3, .ldc 1, .iadd, .saload, .aload 0, .iload 3, .ldc 2, .iadd, .saload, .invokevirtual 234603, .aload 2, .aload 0, .iload 3, .ldc 1, .iadd, .saload, .aload 0, .iload 3, .ldc 2, .iadd, .saload, .invokevirtual 340844, .if_icmp .eq (.ofNat 1044), .ldc 0, .freturn, .aload 1, .aload 0, .iload 3, .ldc 1, .iadd, .saload, .invokevirtual 442955, .aload 2, .aload 0, .iload 3, .ldc 1, .iadd, .saload, .invokevirtual 512588, .if_icmp .eq (.ofNat 1044), .ldc 0, .freturn, .aload 1, .aload 0, .iload 3, .ldc 1, .iadd, .saload, .invokevirtual 447307, .aload 2, .aload 0, .iload 3, .ldc 1, .iadd, .saload, .invokevirtual 516684, .if_icmp .eq (.ofNat 1044), .ldc 0, .freturn, .aload 1, .aload 0, .iload 3, .ldc 1, .iadd, .saload, .aload 0, .iload 3, .ldc 2, .iadd, .saload, .invokevirtual 451435, .aload 2, .aload 0, .iload 3, .ldc 1, .iadd, .saload, .aload 0, .iload 3, .ldc 2, .iadd, .saload, .invokevirtual 521068, .if_icmp .eq (.ofNat 1044), .ldc 0, .freturn, .aload 1, .aload 0, .iload 3, .ldc 1, .iadd, .saload, .aload 0, .iload 3, .ldc 2, .iadd, .saload, .invokevirtual 455531, .aload 2, .aload 0, .iload 3, .ldc 1, .iadd, .saload, .aload 0, .iload 3, .ldc 2, .iadd, .saload, .invokevirtual 594796, .if_icmp .eq (.ofNat 1044), .ldc 0, .freturn, .aload 1, .aload 0, .iload 3, .ldc 1, .iadd, .saload, .aload 0, .iload 3, .ldc 2, .iadd, .saload, .aload 0, .iload 3, .ldc 3, .iadd, .saload, .invokevirtual 239243, .aload 2, .aload 0, .iload 3, .ldc 1, .iadd, .saload, .aload 0, .iload 3, .ldc 2, .iadd, .saload, .aload 0, .iload 3, .ldc 3, .iadd, .saload, .invokevirtual 599180, .if_icmp .eq (.ofNat 1044), .ldc 0, .freturn, .aload 1, .aload 0, .iload 3, .ldc 1, .iadd, .saload, .invokevirtual 676427, .aload 2, .aload 0, .iload 3, .ldc 1, .iadd, .saload, .invokevirtual 778828, .if_icmp .eq (.ofNat 1044), .ldc 0, .freturn, .aload 1, .aload 0, .iload 3, .ldc 1, .iadd, .saload, .invokevirtual 242251, .aload 2, .aload 0, .iload 3, .ldc 1, .iadd, .saload, .invokevirtual 533068, .if_icmp .eq (.ofNat 1044), .ldc 0, .freturn, .aload 1, .aload 0, .iload 3, .ldc 1, .iadd, .saload, .aload 0, .iload 3, .ldc 2, .iadd, .saload, .invokevirtual 680811, .aload 2, .aload 0, .iload 3, .ldc 1, .iadd, .saload, .aload 0, .iload 3, .ldc 2, .iadd, .saload, .invokevirtual 807788, .if_icmp .eq (.ofNat 1044), .ldc 0, .freturn, .aload 1, .aload 0, .iload 3, .ldc 1, .iadd, .saload, .aload 0, .iload 3, .ldc 2, .iadd, .saload, .aload 0, .iload 3, .ldc 3, .iadd, .saload, .invokevirtual 685195, .aload 2, .aload 0, .iload 3, .ldc 1, .iadd, .saload, .aload 0, .iload 3, .ldc 2, .iadd, .saload, .aload 0, .iload 3, .ldc 3, .iadd, .saload, .invokevirtual 812172, .if_icmp .eq (.ofNat 1044), .ldc 0, .freturn, .aload 1, .aload 0, .iload 3, .ldc 1, .iadd, .saload, .aload 0, .iload 3, .ldc 2, .iadd, .saload, .invokevirtual 636011, .aload 2, .aload 0, .iload 3, .ldc 1, .iadd, .saload, .aload 0, .iload 3, .ldc 2, .iadd, .saload, .invokevirtual 722028, .if_icmp .eq (.ofNat 1044), .ldc 0, .freturn, .aload 1, .aload 0, .iload 3, .ldc 1, .iadd, .saload, .aload 0, .iload 3, .ldc 2, .iadd, .saload, .invokevirtual 640107, .aload 2, .aload 0, .iload 3, .ldc 1, .iadd, .saload, .aload 0, .iload 3, .ldc 2, .iadd, .saload, .invokevirtual 726124, .if_icmp .eq (.ofNat 1044), .ldc 0, .freturn, .aload 1, .invokevirtual 643627, .aload 2, .invokevirtual 729644, .if_icmp .eq (.ofNat 1044), .ldc 0, .freturn, .aload 1, .aload 0, .iload 3, .ldc 1, .iadd, .saload, .aload 0, .iload 3, .ldc 2, .iadd, .saload, .invokevirtual 754539, .aload 2, .aload 0, .iload 3, .ldc 1, .iadd, .saload, .aload 0, .iload 3, .ldc 2, .iadd, .saload, .invokevirtual 816236, .if_icmp .eq (.ofNat 1044), .ldc 0, .freturn, .aload 1, .aload 0, .iload 3, .ldc 1, .iadd, .saload, .aload 0, .iload 3, .ldc 2, .iadd, .saload, .aload 0, .iload 3, .ldc 3, .iadd, .saload, .invokevirtual 690059, .aload 2, .aload 0, .iload 3, .ldc 1, .iadd, .saload, .aload 0, .iload 3, .ldc 2, .iadd, .saload, .aload 0, .iload 3, .ldc 3, .iadd, .saload, .invokevirtual 820620, .if_icmp .eq (.ofNat 1044), .ldc 0, .freturn, .aload 1, .aload 0, .iload 3, .ldc 1, .iadd, .saload, .aload 0, .iload 3, .ldc 2, .iadd, .saload, .invokevirtual 758635, .aload 2, .aload 0, .iload 3, .ldc 1, .iadd, .saload, .aload 0, .iload 3, .ldc 2, .iadd, .saload, .invokevirtual 824428, .if_icmp .eq (.ofNat 1044), .ldc 0, .freturn, .aload 1, .aload 0, .iload 3, .ldc 1, .iadd, .saload, .aload 0, .iload 3, .ldc 2, .iadd, .saload, .aload 0, .iload 3, .ldc 3, .iadd, .saload, .invokevirtual 693643, .aload 2, .aload 0, .iload 3, .ldc 1, .iadd, .saload, .aload 0, .iload 3, .ldc 2, .iadd, .saload, .aload 0, .iload 3, .ldc 3, .iadd, .saload, .invokevirtual 829068, .if_icmp .eq (.ofNat 1044), .ldc 0, .freturn, .aload 1, .aload 0, .iload 3, .ldc 1, .iadd, .saload, .invokevirtual 697163, .aload 2, .aload 0, .iload 3, .ldc 1, .iadd, .saload, .invokevirtual 791628, .if_icmp .eq (.ofNat 1044), .ldc 0, .freturn, .aload 1, .aload 0, .iload 3, .ldc 1, .iadd, .saload, .aload 0, .iload 3, .ldc 2, .iadd, .saload, .invokevirtual 762987, .aload 2, .aload 0, .iload 3, .ldc 1, .iadd, .saload, .aload 0, .iload 3, .ldc 2, .iadd, .saload, .invokevirtual 832876, .if_icmp .eq (.ofNat 1044), .ldc 0, .freturn, .aload 1, .aload 0, .iload 3, .ldc 1, .iadd, .saload, .invokevirtual 459851, .aload 2, .aload 0, .iload 3, .ldc 1, .iadd, .saload, .invokevirtual 538188, .if_icmp .eq (.ofNat 1044), .ldc 0, .freturn, .aload 1, .aload 0, .iload 3, .ldc 1, .iadd, .saload, .aload 0, .iload 3, .ldc 2, .iadd, .saload, .aload 0, .iload 3, .ldc 3, .iadd, .saload, .invokevirtual 767627, .aload 2, .aload 0, .iload 3, .ldc 1, .iadd, .saload, .aload 0, .iload 3, .ldc 2, .iadd, .saload, .aload 0, .iload 3, .ldc 3, .iadd, .saload, .invokevirtual 837516, .if_icmp .eq (.ofNat 1044), .ldc 0, .freturn, .aload 1, .aload 0, .iload 3, .ldc 1, .iadd, .saload, .aload 0, .iload 3, .ldc 2, .iadd, .saload, .invokevirtual 771435, .aload 2, .aload 0, .iload 3, .ldc 1, .iadd, .saload, .aload 0, .iload 3, .ldc 2, .iadd, .saload, .invokevirtual 841324, .if_icmp .eq (.ofNat 1044), .ldc 0, .freturn, .aload 1, .aload 0, .iload 3, .ldc 1, .iadd, .saload, .aload 0, .iload 3, .ldc 2, .iadd, .saload, .invokevirtual 775531, .aload 2, .aload 0, .iload 3, .ldc 1, .iadd, .saload, .aload 0, .iload 3, .ldc 2, .iadd, .saload, .invokevirtual 845420, .if_icmp .eq (.ofNat 1044), .ldc 0, .freturn, .aload 1, .aload 0, .iload 3, .ldc 1, .iadd, .saload, .invokevirtual 648267, .aload 2, .aload 0, .iload 3, .ldc 1, .iadd, .saload, .invokevirtual 738380, .if_icmp .eq (.ofNat 1044), .ldc 0, .freturn, .aload 1, .aload 0, .iload 3, .ldc 1, .iadd, .saload, .aload 0, .iload 3, .ldc 2, .iadd, .saload, .invokevirtual 247411, .aload 2, .aload 0, .iload 3, .ldc 1, .iadd, .saload, .aload 0, .iload 3, .ldc 2, .iadd, .saload, .invokevirtual 544116, .lcmp, .ifCond .eq (.ofNat 1044), .ldc 0, .freturn, .aload 1, .aload 0, .iload 3, .ldc 1, .iadd, .saload, .invokevirtual 82763, .aload 2, .aload 0, .iload 3, .ldc 1, .iadd, .saload, .invokevirtual 381516, .if_icmp .eq (.ofNat 1044), .ldc 0, .freturn, .aload 1, .aload 0, .iload 3, .ldc 1, .iadd, .saload, .aload 0, .iload 3, .ldc 2, .iadd, .saload, .invokevirtual 250987, .aload 2, .aload 0, .iload 3, .ldc 1, .iadd, .saload, .aload 0, .iload 3, .ldc 2, .iadd, .saload, .invokevirtual 386156, .if_icmp .eq (.ofNat 1044), .ldc 0, .freturn, .aload 1, .invokevirtual 86571, .aload 2, .invokevirtual 184876, .if_icmp .eq (.ofNat 1044), .ldc 0, .freturn, .aload 1, .invokevirtual 860715, .aload 2, .invokevirtual 856620, .if_icmp .eq (.ofNat 1044), .ldc 0, .freturn, .aload 1, .aload 0, .iload 3, .ldc 1, .iadd, .saload, .aload 0, .iload 3, .ldc 2, .iadd, .saload, .invokevirtual 254827, .aload 2, .aload 0, .iload 3, .ldc 1, .iadd, .saload, .aload 0, .iload 3, .ldc 2, .iadd, .saload, .invokevirtual 549740, .if_icmp .eq (.ofNat 1044), .ldc 0, .freturn, .aload 1, .aload 0, .iload 3, .ldc 1, .iadd, .saload, .aload 0, .iload 3, .ldc 2, .iadd, .saload, .invokevirtual 463979, .aload 2, .aload 0, .iload 3, .ldc 1, .iadd, .saload, .aload 0, .iload 3, .ldc 2, .iadd, .saload, .invokevirtual 554092, .if_icmp .eq (.ofNat 1044), .ldc 0, .freturn, .aload 1, .aload 0, .iload 3, .ldc 1, .iadd, .saload, .aload 0, .iload 3, .ldc 2, .iadd, .saload, .aload 0, .iload 3, .ldc 3, .iadd, .saload, .invokevirtual 468363, .aload 2, .aload 0, .iload 3, .ldc 1, .iadd, .saload, .aload 0, .iload 3, .ldc 2, .iadd, .saload, .aload 0, .iload 3, .ldc 3, .iadd, .saload, .invokevirtual 558732, .if_icmp .eq (.ofNat 1044), .ldc 0, .freturn, .aload 1, .aload 0, .iload 3, .ldc 1, .iadd, .saload, .aload 0, .iload 3, .ldc 2, .iadd, .saload, .aload 0, .iload 3, .ldc 3, .iadd, .saload, .invokevirtual 472203, .aload 2, .aload 0, .iload 3, .ldc 1, .iadd, .saload, .aload 0, .iload 3, .ldc 2, .iadd, .saload, .aload 0, .iload 3, .ldc 3, .iadd, .saload, .invokevirtual 611724, .if_icmp .eq (.ofNat 1044), .ldc 0, .freturn, .aload 1, .aload 0, .iload 3, .ldc 1, .iadd, .saload, .aload 0, .iload 3, .ldc 2, .iadd, .saload, .aload 0, .iload 3, .ldc 3, .iadd, .saload, .aload 0, .iload 3, .ldc 4, .iadd, .saload, .aload 0, .iload 3, .ldc 5, .iadd, .saload, .invokevirtual 476875, .aload 2, .aload 0, .iload 3, .ldc 1, .iadd, .saload, .aload 0, .iload 3, .ldc 2, .iadd, .saload, .aload 0, .iload 3, .ldc 3, .iadd, .saload, .aload 0, .iload 3, .ldc 4, .iadd, .saload, .aload 0, .iload 3, .ldc 5, .iadd, .saload, .invokevirtual 567500, .if_icmp .eq (.ofNat 1044), .ldc 0, .freturn, .aload 1, .aload 0, .iload 3, .ldc 1, .iadd, .saload, .invokevirtual 480331, .aload 2, .aload 0, .iload 3, .ldc 1, .iadd, .saload, .invokevirtual 615500, .if_icmp .eq (.ofNat 1044), .ldc 0, .freturn, .aload 1, .aload 0, .iload 3, .ldc 1, .iadd, .saload, .invokevirtual 484171, .aload 2, .aload 0, .iload 3, .ldc 1, .iadd, .saload, .invokevirtual 619596, .if_icmp .eq (.ofNat 1044), .ldc 0, .freturn, .aload 1, .invokevirtual 487723, .aload 2, .invokevirtual 401708, .if_icmp .eq (.ofNat 1044), .ldc 0, .freturn, .aload 1, .invokevirtual 491819, .aload 2, .invokevirtual 405804, .if_icmp .eq (.ofNat 1044), .ldc 0, .freturn, .aload 1, .invokevirtual 90667, .aload 2, .invokevirtual 188972, .if_icmp .eq (.ofNat 1044), .ldc 0, .freturn, .aload 1, .aload 0, .iload 3, .ldc 1, .iadd, .saload, .invokevirtual 258635, .aload 2, .aload 0, .iload 3, .ldc 1, .iadd, .saload, .invokevirtual 569932, .if_icmp .eq (.ofNat 1044), .ldc 0, .freturn, .aload 1, .aload 0, .iload 3, .ldc 1, .iadd, .saload, .invokevirtual 263243, .aload 2, .aload 0, .iload 3, .ldc 1, .iadd, .saload, .invokevirtual 410700, .if_icmp .eq (.ofNat 1044), .ldc 0, .freturn, .iinc 3 (.ofNat 6), .goto (.ofNat 10), .ldc 1, .freturn]
def bm_codes : List (List Instr) := [bm_c0, bm_c1, bm_c2, bm_c3, bm_c4, bm_c5, bm_c6, bm_c7, bm_c8, bm_c9, bm_c10, bm_c11, bm_c12, bm_c13, bm_c14, bm_c15, bm_c16, bm_c17, bm_c18, bm_c19, bm_c20, bm_c21, bm_c22, bm_c23, bm_c24, bm_c25, bm_c26, bm_c27, bm_c28, bm_c29, bm_c30, bm_c31, bm_c32, bm_c33, bm_c34, bm_c35, bm_c36, bm_c37, bm_c38, bm_c39, bm_c40, bm_c41, bm_c42, bm_c43, bm_c44, bm_c45, bm_c46, bm_c47, bm_c48, bm_c49, bm_c50, bm_c51, bm_c52, bm_c53, bm_c54, bm_c55, bm_c56, bm_c57, bm_c58, bm_c59, bm_c60, bm_c61, bm_c62, bm_c63, bm_c64, bm_c65, bm_c66, bm_c67, bm_c68, bm_c69, bm_c70, bm_c71, bm_c72, bm_c73, bm_c74, bm_c75, bm_c76, bm_c77, bm_c78, bm_c79, bm_c80, bm_c81, bm_c82, bm_c83, bm_c84, bm_c85, bm_c86, bm_c87, bm_c88, bm_c89, bm_c90, bm_c91, bm_c92, bm_c93, bm_c94, bm_c95, bm_c96, bm_c97, bm_c98, bm_c99, bm_c100, bm_c101, bm_c102, bm_c103, bm_c104, bm_c105, bm_c106, bm_c107, bm_c108, bm_c109, bm_c110, bm_c111, bm_c112, bm_c113, bm_c114, bm_c115, bm_c116, bm_c117, bm_c118, bm_c119, bm_c120, bm_c121, bm_c122, bm_c123, bm_c124, bm_c125, bm_c126, bm_c127, bm_c128, bm_c129, bm_c130, bm_c131, bm_c132, bm_c133, bm_c134, bm_c135, bm_c136, bm_c137, bm_c138, bm_c139, bm_c140, bm_c141, bm_c142, bm_c143, bm_c144, bm_c145, bm_c146, bm_c147, bm_c148, bm_c149, bm_c150, bm_c151, bm_c152, bm_c153, bm_c154, bm_c155, bm_c156, bm_c157, bm_c158, bm_c159, bm_c160, bm_c161, bm_c162, bm_c163, bm_c164, bm_c165, bm_c166, bm_c167, bm_c168, bm_c169, bm_c170, bm_c171, bm_c172, bm_c173, bm_c174, bm_c175, bm_c176, bm_c177, bm_c178, bm_c179, bm_c180, bm_c181, bm_c182, bm_c183, bm_c184, bm_c185, bm_c186, bm_c187, bm_c188, bm_c189, bm_c190, bm_c191, bm_c192, bm_c193, bm_c194, bm_c195, bm_c196, bm_c197, bm_c198, bm_c199, bm_c200, bm_c201, bm_c202, bm_c203, bm_c204, bm_c205, bm_c206, bm_c207, bm_c208, bm_c209, bm_c210, bm_c211]
def bm_code (M : Nat) : List Instr := bm_nthC bm_codes M
noncomputable def bm_ev (X : bm_X) (M pc : Nat) (L S : List Value) (σ : bm_M) : bm_R := bm_evC bm_code X M pc L S σ
/-- on to the next cut, so many steps at most -/
noncomputable def bm_go (X : bm_X) (M : Nat) (cd : List Instr) (st : List Nat) : Nat → Nat → List Value → List Value → bm_M → bm_R
  | 0, pc, L, S, σ => bm_ev X M pc L S σ
  | k + 1, pc, L, S, σ => match bm_has st pc with
    | true => bm_ev X M pc L S σ
    | false => bm_pick (fun m L τ => bm_ev X m 0 L [] τ) (fun pc L S τ => bm_go X M cd st k pc L S τ) (bm_altO X (bm_nthI cd pc) pc L S σ)
theorem bm_go_eq {X : bm_X} {M : Nat} {cd : List Instr} (hc : bm_code M = cd) (st : List Nat) : ∀ k, (fun pc L S τ => bm_go X M cd st k pc L S τ) = (fun pc L S τ => bm_ev X M pc L S τ)
  | 0 => rfl
  | k + 1 => by
    funext pc L S σ
    show (match bm_has st pc with | true => bm_ev X M pc L S σ | false => bm_pick (fun m L τ => bm_ev X m 0 L [] τ) (fun pc L S τ => bm_go X M cd st k pc L S τ) (bm_altO X (bm_nthI cd pc) pc L S σ)) = bm_ev X M pc L S σ
    cases bm_has st pc with
    | true => rfl
    | false =>
      show bm_pick _ _ _ = _
      rw [bm_go_eq hc st k]
      subst hc
      exact (bm_ev_eq bm_code X M pc L S σ).symm
theorem bm_blk {X : bm_X} {M : Nat} {cd : List Instr} (hc : bm_code M = cd) (st : List Nat) (k pc : Nat) (L S : List Value) (σ : bm_M) : bm_ev X M pc L S σ = bm_pick (fun m L τ => bm_ev X m 0 L [] τ) (fun pc L S τ => bm_go X M cd st k pc L S τ) (bm_altO X (bm_nthI cd pc) pc L S σ) := by
  rw [bm_go_eq hc st k]
  subst hc
  exact bm_ev_eq bm_code X M pc L S σ
def bm_isH (o : Nat) : Prop := o = 1 ∨ o = 12 ∨ o = 23
end
section
set_option maxRecDepth 20000 in
theorem bb_0_0 (X : bm_X) (σ : bm_M) (o : Nat) (ho : bm_isH o) (p0 : Int32) (p1 : Int32) : bm_ev X 0 0 [.ref o, .int p0, .int p1, .null] [] σ = bm_gd (bm_in (σ o 7) 8) (bm_gd (bm_in (σ o 7) 8) (bm_gd (bm_in (σ o 7) 8) (bm_gd (bm_in (σ o 7) 8) (bm_gd (bm_in (σ o 7) 8) (bm_gd (bm_in (σ o 7) 8) (bm_gd (bm_in (σ o 7) 8) (some (.int (σ o 7), (bm_up (bm_up (bm_up (bm_up (bm_up (bm_up (bm_up (bm_up σ (o + 4) (σ o 7).toNatClampNeg p0) (o + 5) (σ o 7).toNatClampNeg p1) (o + 6) (σ o 7).toNatClampNeg (nI 0)) (o + 7) (σ o 7).toNatClampNeg (nI 3)) (o + 8) (σ o 7).toNatClampNeg (nI 0)) (o + 9) (σ o 7).toNatClampNeg (nI 0)) (o + 10) (σ o 7).toNatClampNeg (nI 0)) o 7 (((bm_up (bm_up (bm_up (bm_up (bm_up (bm_up (bm_up σ (o + 4) (σ o 7).toNatClampNeg p0) (o + 5) (σ o 7).toNatClampNeg p1) (o + 6) (σ o 7).toNatClampNeg (nI 0)) (o + 7) (σ o 7).toNatClampNeg (nI 3)) (o + 8) (σ o 7).toNatClampNeg (nI 0)) (o + 9) (σ o 7).toNatClampNeg (nI 0)) (o + 10) (σ o 7).toNatClampNeg (nI 0)) o 7) + (nI 1))))))))))) := by
  rcases ho with rfl | rfl | rfl
  all_goals exact bm_blk (cd := bm_c0) rfl [] 400 0 _ _ _
set_option maxRecDepth 20000 in
theorem bb_1_0 (X : bm_X) (σ : bm_M) (o : Nat) (ho : bm_isH o) (p0 : Int32) : bm_ev X 1 0 [.ref o, .int p0] [] σ = bif decide (p0 = nI 0) then some (.ref (o + 4), σ) else bif decide (p0 = nI 1) then some (.ref (o + 5), σ) else bif decide (p0 = nI 2) then some (.ref (o + 6), σ) else bif decide (p0 = nI 3) then some (.ref (o + 7), σ) else bif decide (p0 = nI 4) then some (.ref (o + 8), σ) else bif decide (p0 = nI 5) then some (.ref (o + 9), σ) else some (.ref (o + 10), σ) := by
  rcases ho with rfl | rfl | rfl
  all_goals exact bm_blk (cd := bm_c1) rfl [] 400 0 _ _ _
set_option maxRecDepth 20000 in
theorem bb_2_0 (X : bm_X) (σ : bm_M) (o : Nat) (ho : bm_isH o) (p0 : Int32) : bm_ev X 2 0 [.ref o, .int p0, .null, .null] [] σ = bm_ev X 2 4 [.ref o, .int p0, .int (-nI 1), .int (nI 0)] [] σ := by
  rcases ho with rfl | rfl | rfl
  all_goals exact bm_blk (cd := bm_c2) rfl [4] 400 0 _ _ _
set_option maxRecDepth 20000 in
theorem bb_2_4 (X : bm_X) (σ : bm_M) (o : Nat) (ho : bm_isH o) (x1 : Int32) (x2 : Int32) (x3 : Int32) : bm_ev X 2 4 [.ref o, .int x1, .int x2, .int x3] [] σ = bif decide (x3 < (σ o 7)) then bm_gd (bm_in x3 8) (bm_gd (bm_in x1 8) (bif decide ((σ (o + 5) x3.toNatClampNeg) = (σ (o + 5) x1.toNatClampNeg)) then bm_ev X 2 4 [.ref o, .int x1, .int (x2 + nI 1), .int (x3 + nI 1)] [] σ else bm_ev X 2 4 [.ref o, .int x1, .int x2, .int (x3 + nI 1)] [] σ)) else some (.int x2, σ) := by
  rcases ho with rfl | rfl | rfl
  all_goals exact bm_blk (cd := bm_c2) rfl [4] 400 4 _ _ _
set_option maxRecDepth 20000 in
theorem bb_3_0 (X : bm_X) (σ : bm_M) (o : Nat) (ho : bm_isH o) (p0 : Int32) : bm_ev X 3 0 [.ref o, .int p0] [] σ = bm_gd (bm_in p0 8) (bm_gd (bm_in (σ (o + 4) p0.toNatClampNeg) (bm_rl X 56)) (some (.int (bm_rv X 56 (σ (o + 4) p0.toNatClampNeg).toNatClampNeg), σ))) := by
  rcases ho with rfl | rfl | rfl
  all_goals exact bm_blk (cd := bm_c3) rfl [] 400 0 _ _ _
set_option maxRecDepth 20000 in
theorem bb_4_0 (X : bm_X) (σ : bm_M) (o : Nat) (ho : bm_isH o) (p0 : Int32) : bm_ev X 4 0 [.ref o, .int p0, .null] [] σ = bm_ev X 4 2 [.ref o, .int p0, .int (nI 0)] [] σ := by
  rcases ho with rfl | rfl | rfl
  all_goals exact bm_blk (cd := bm_c4) rfl [2] 400 0 _ _ _
set_option maxRecDepth 20000 in
theorem bb_4_2 (X : bm_X) (σ : bm_M) (o : Nat) (ho : bm_isH o) (x1 : Int32) (x2 : Int32) : bm_ev X 4 2 [.ref o, .int x1, .int x2] [] σ = bif decide (x2 < (σ o 7)) then bm_gd (bm_in x2 8) (bm_gd (bm_in x1 8) (bif decide ((σ (o + 5) x2.toNatClampNeg) = (σ (o + 5) x1.toNatClampNeg)) then bm_gd (bm_in x2 8) (bm_gd (bm_in x1 8) (bif decide ((σ (o + 6) x2.toNatClampNeg) = (σ (o + 6) x1.toNatClampNeg)) then bm_ev X 4 2 [.ref o, .int x1, .int (x2 + nI 1)] [] σ else some (.int x2, σ))) else bm_ev X 4 2 [.ref o, .int x1, .int (x2 + nI 1)] [] σ)) else some (.int (-nI 1), σ) := by
  rcases ho with rfl | rfl | rfl
  all_goals exact bm_blk (cd := bm_c4) rfl [2] 400 2 _ _ _
set_option maxRecDepth 20000 in
theorem bb_5_0 (X : bm_X) (σ : bm_M) (o : Nat) (ho : bm_isH o) (p0 : Int32) (p1 : Int32) : bm_ev X 5 0 [.ref o, .int p0, .int p1] [] σ = bm_gd (bm_in p0 8) (bm_gd (bm_in p1 8) (some (.int (bm_rem ((σ (o + 6) p0.toNatClampNeg) + (σ (o + 6) p1.toNatClampNeg)) (nI 12)), σ))) := by
  rcases ho with rfl | rfl | rfl
  all_goals exact bm_blk (cd := bm_c5) rfl [] 400 0 _ _ _
set_option maxRecDepth 20000 in
theorem bb_6_0 (X : bm_X) (σ : bm_M) (o : Nat) (ho : bm_isH o) (p0 : Int32) : bm_ev X 6 0 [.ref o, .int p0] [] σ = bm_gd (bm_in p0 8) (bm_gd (bm_in p0 8) (some (.null, (bm_up σ (o + 5) p0.toNatClampNeg (bm_rem ((σ (o + 5) p0.toNatClampNeg) + (nI 1)) (nI 12)))))) := by
  rcases ho with rfl | rfl | rfl
  all_goals exact bm_blk (cd := bm_c6) rfl [] 400 0 _ _ _
set_option maxRecDepth 20000 in
theorem bb_7_0 (X : bm_X) (σ : bm_M) (o : Nat) (ho : bm_isH o) : bm_ev X 7 0 [.ref o] [] σ = some (.int (bm_ushr ((bm_up σ o 6 (((σ o 6) * (nI 1103515245)) + (nI 12345))) o 6) (nI 8)), (bm_up σ o 6 (((σ o 6) * (nI 1103515245)) + (nI 12345)))) := by
  rcases ho with rfl | rfl | rfl
  all_goals exact bm_blk (cd := bm_c7) rfl [] 400 0 _ _ _
set_option maxRecDepth 20000 in
theorem bb_8_0 (X : bm_X) (σ : bm_M) (o : Nat) (ho : bm_isH o) : bm_ev X 8 0 [.ref o, .null, .null] [] σ = bm_ev X 8 4 [.ref o, .int (nI 0), .int (nI 0)] [] σ := by
  rcases ho with rfl | rfl | rfl
  all_goals exact bm_blk (cd := bm_c8) rfl [4] 400 0 _ _ _
set_option maxRecDepth 20000 in
theorem bb_8_4 (X : bm_X) (σ : bm_M) (o : Nat) (ho : bm_isH o) (x1 : Int32) (x2 : Int32) : bm_ev X 8 4 [.ref o, .int x1, .int x2] [] σ = bif decide (x2 < (nI 12)) then bm_gd (bm_in x2 12) (bm_ev X 8 4 [.ref o, .int (x1 + (σ (o + 2) x2.toNatClampNeg)), .int (x2 + nI 1)] [] σ) else some (.int x1, σ) := by
  rcases ho with rfl | rfl | rfl
  all_goals exact bm_blk (cd := bm_c8) rfl [4] 400 4 _ _ _
set_option maxRecDepth 20000 in
theorem bb_9_0 (X : bm_X) (σ : bm_M) (o : Nat) (ho : bm_isH o) : bm_ev X 9 0 [.ref o, .null, .null] [] σ = bm_ev X 9 4 [.ref o, .int (nI 0), .int (nI 0)] [] σ := by
  rcases ho with rfl | rfl | rfl
  all_goals exact bm_blk (cd := bm_c9) rfl [4] 400 0 _ _ _
set_option maxRecDepth 20000 in
theorem bb_9_4 (X : bm_X) (σ : bm_M) (o : Nat) (ho : bm_isH o) (x1 : Int32) (x2 : Int32) : bm_ev X 9 4 [.ref o, .int x1, .int x2] [] σ = bif decide (x2 < (σ o 7)) then bm_gd (bm_in x2 8) (bm_ev X 9 4 [.ref o, .int (x1 + (σ (o + 9) x2.toNatClampNeg)), .int (x2 + nI 1)] [] σ) else some (.int x1, σ) := by
  rcases ho with rfl | rfl | rfl
  all_goals exact bm_blk (cd := bm_c9) rfl [4] 400 4 _ _ _
set_option maxRecDepth 20000 in
theorem bb_10_0 (X : bm_X) (σ : bm_M) (o : Nat) (ho : bm_isH o) : bm_ev X 10 0 [.ref o, .null, .null] [] σ = bm_ev X 10 4 [.ref o, .int (nI 0), .int (nI 0)] [] σ := by
  rcases ho with rfl | rfl | rfl
  all_goals exact bm_blk (cd := bm_c10) rfl [4] 400 0 _ _ _
set_option maxRecDepth 20000 in
theorem bb_10_4 (X : bm_X) (σ : bm_M) (o : Nat) (ho : bm_isH o) (x1 : Int32) (x2 : Int32) : bm_ev X 10 4 [.ref o, .int x1, .int x2] [] σ = bif decide (x2 < (nI 12)) then bm_gd (bm_in x2 12) (bm_ev X 10 4 [.ref o, .int (x1 + (σ (o + 1) x2.toNatClampNeg)), .int (x2 + nI 1)] [] σ) else some (.int x1, σ) := by
  rcases ho with rfl | rfl | rfl
  all_goals exact bm_blk (cd := bm_c10) rfl [4] 400 4 _ _ _
set_option maxRecDepth 20000 in
theorem bb_11_0 (X : bm_X) (σ : bm_M) (o : Nat) (ho : bm_isH o) (p0 : Int32) : bm_ev X 11 0 [.ref o, .int p0, .null, .null] [] σ = bm_ev X 11 4 [.ref o, .int p0, .int (nI 0), .int (nI 0)] [] σ := by
  rcases ho with rfl | rfl | rfl
  all_goals exact bm_blk (cd := bm_c11) rfl [4] 400 0 _ _ _
set_option maxRecDepth 20000 in
theorem bb_11_4 (X : bm_X) (σ : bm_M) (o : Nat) (ho : bm_isH o) (x1 : Int32) (x2 : Int32) (x3 : Int32) : bm_ev X 11 4 [.ref o, .int x1, .int x2, .int x3] [] σ = bif decide (x3 < (σ o 7)) then bm_gd (bm_in x3 8) (bif decide ((σ (o + 5) x3.toNatClampNeg) = x1) then bm_ev X 11 4 [.ref o, .int x1, .int (x2 ||| (bm_shl (nI 1) x3)), .int (x3 + nI 1)] [] σ else bm_ev X 11 4 [.ref o, .int x1, .int x2, .int (x3 + nI 1)] [] σ) else some (.int x2, σ) := by
  rcases ho with rfl | rfl | rfl
  all_goals exact bm_blk (cd := bm_c11) rfl [4] 400 4 _ _ _
set_option maxRecDepth 20000 in
theorem bb_12_0 (X : bm_X) (σ : bm_M) (o : Nat) (ho : bm_isH o) : bm_ev X 12 0 [.ref o, .null, .null] [] σ = bm_ev X 12 4 [.ref o, .int (nI 0), .int (nI 0)] [] σ := by
  rcases ho with rfl | rfl | rfl
  all_goals exact bm_blk (cd := bm_c12) rfl [4] 400 0 _ _ _
set_option maxRecDepth 20000 in
theorem bb_12_4 (X : bm_X) (σ : bm_M) (o : Nat) (ho : bm_isH o) (x1 : Int32) (x2 : Int32) : bm_ev X 12 4 [.ref o, .int x1, .int x2] [] σ = bif decide (x2 < (σ o 7)) then bm_gd (bm_in x2 8) (bm_ev X 12 4 [.ref o, .int (x1 ||| (bm_shl (σ (o + 10) x2.toNatClampNeg) x2)), .int (x2 + nI 1)] [] σ) else some (.int x1, σ) := by
  rcases ho with rfl | rfl | rfl
  all_goals exact bm_blk (cd := bm_c12) rfl [4] 400 4 _ _ _
set_option maxRecDepth 20000 in
theorem bb_13_0 (X : bm_X) (σ : bm_M) (o : Nat) (ho : bm_isH o) : bm_ev X 13 0 [.ref o, .null, .null] [] σ = bm_ev X 13 4 [.ref o, .int (nI 0), .int (nI 0)] [] σ := by
  rcases ho with rfl | rfl | rfl
  all_goals exact bm_blk (cd := bm_c13) rfl [4] 400 0 _ _ _
set_option maxRecDepth 20000 in
theorem bb_13_4 (X : bm_X) (σ : bm_M) (o : Nat) (ho : bm_isH o) (x1 : Int32) (x2 : Int32) : bm_ev X 13 4 [.ref o, .int x1, .int x2] [] σ = bif decide (x2 < (σ o 7)) then bm_gd (bm_in x2 8) (bm_ev X 13 4 [.ref o, .int (x1 ||| (bm_shl (nI 1) (σ (o + 5) x2.toNatClampNeg))), .int (x2 + nI 1)] [] σ) else some (.int x1, σ) := by
  rcases ho with rfl | rfl | rfl
  all_goals exact bm_blk (cd := bm_c13) rfl [4] 400 4 _ _ _
set_option maxRecDepth 20000 in
theorem bb_14_0 (X : bm_X) (σ : bm_M) (o : Nat) (ho : bm_isH o) : bm_ev X 14 0 [.ref o, .null, .null] [] σ = bm_ev X 14 4 [.ref o, .int (nI 0), .int (nI 0)] [] σ := by
  rcases ho with rfl | rfl | rfl
  all_goals exact bm_blk (cd := bm_c14) rfl [4] 400 0 _ _ _
set_option maxRecDepth 20000 in
theorem bb_14_4 (X : bm_X) (σ : bm_M) (o : Nat) (ho : bm_isH o) (x1 : Int32) (x2 : Int32) : bm_ev X 14 4 [.ref o, .int x1, .int x2] [] σ = bif decide (x2 < (nI 12)) then bm_gd (bm_in x2 12) (bif decide (0 < (σ (o + 2) x2.toNatClampNeg)) then bm_ev X 14 4 [.ref o, .int (x1 ||| (bm_shl (nI 1) x2)), .int (x2 + nI 1)] [] σ else bm_ev X 14 4 [.ref o, .int x1, .int (x2 + nI 1)] [] σ) else some (.int x1, σ) := by
  rcases ho with rfl | rfl | rfl
  all_goals exact bm_blk (cd := bm_c14) rfl [4] 400 4 _ _ _
set_option maxRecDepth 20000 in
theorem bb_15_0 (X : bm_X) (σ : bm_M) (o : Nat) (ho : bm_isH o) : bm_ev X 15 0 [.ref o, .null] [] σ = bm_ev X 15 2 [.ref o, .int (nI 0)] [] σ := by
  rcases ho with rfl | rfl | rfl
  all_goals exact bm_blk (cd := bm_c15) rfl [2] 400 0 _ _ _
set_option maxRecDepth 20000 in
theorem bb_15_2 (X : bm_X) (σ : bm_M) (o : Nat) (ho : bm_isH o) (x1 : Int32) : bm_ev X 15 2 [.ref o, .int x1] [] σ = bif decide (x1 < (nI 12)) then bm_gd (bm_in x1 12) (bif decide ((σ (o + 1) x1.toNatClampNeg) = 0) then bm_gd (bm_bo (nI 1)) (some (.int (nI 1), σ)) else bm_ev X 15 2 [.ref o, .int (x1 + nI 1)] [] σ) else bm_gd (bm_bo (nI 0)) (some (.int (nI 0), σ)) := by
  rcases ho with rfl | rfl | rfl
  all_goals exact bm_blk (cd := bm_c15) rfl [2] 400 2 _ _ _
set_option maxRecDepth 20000 in
theorem bb_16_0 (X : bm_X) (σ : bm_M) (o : Nat) (ho : bm_isH o) : bm_ev X 16 0 [.ref o, .null, .null] [] σ = bm_ev X 16 4 [.ref o, .int (nI 0), .int (nI 0)] [] σ := by
  rcases ho with rfl | rfl | rfl
  all_goals exact bm_blk (cd := bm_c16) rfl [4] 400 0 _ _ _
set_option maxRecDepth 20000 in
theorem bb_16_4 (X : bm_X) (σ : bm_M) (o : Nat) (ho : bm_isH o) (x1 : Int32) (x2 : Int32) : bm_ev X 16 4 [.ref o, .int x1, .int x2] [] σ = bif decide (x2 < (nI 10)) then bm_gd (bm_in x2 10) (bif decide ((σ (o + 3) x2.toNatClampNeg) = (-nI 1)) then bm_ev X 16 4 [.ref o, .int x1, .int (x2 + nI 1)] [] σ else bm_ev X 16 4 [.ref o, .int (x1 + nI 1), .int (x2 + nI 1)] [] σ) else some (.int x1, σ) := by
  rcases ho with rfl | rfl | rfl
  all_goals exact bm_blk (cd := bm_c16) rfl [4] 400 4 _ _ _
set_option maxRecDepth 20000 in
theorem bb_17_0 (X : bm_X) (σ : bm_M) (p0 : Int32) : bm_ev X 17 0 [.ref 34, .int p0] [] σ = bif decide ((σ 34 1) < (nI 120)) then bm_gd (bm_in (σ 34 1) 120) (some (.null, (bm_up (bm_up σ 35 (σ 34 1).toNatClampNeg p0) 34 1 (((bm_up σ 35 (σ 34 1).toNatClampNeg p0) 34 1) + (nI 1))))) else some (.null, σ) := bm_blk (cd := bm_c17) rfl [] 400 0 _ _ _
set_option maxRecDepth 20000 in
theorem bb_18_0 (X : bm_X) (σ : bm_M) (p0 : Int32) : bm_ev X 18 0 [.int p0] [] σ = bif decide (p0 < (nI 97)) then bm_gd (bm_bo (nI 0)) (some (.int (nI 0), σ)) else bif decide ((nI 122) < p0) then bm_gd (bm_bo (nI 0)) (some (.int (nI 0), σ)) else bm_gd (bm_bo (nI 1)) (some (.int (nI 1), σ)) := bm_blk (cd := bm_c18) rfl [] 400 0 _ _ _
set_option maxRecDepth 20000 in
theorem bb_19_0 (X : bm_X) (σ : bm_M) (p0 : Int32) : bm_ev X 19 0 [.int p0] [] σ = bif decide (p0 < (nI 48)) then bm_gd (bm_bo (nI 0)) (some (.int (nI 0), σ)) else bif decide ((nI 57) < p0) then bm_gd (bm_bo (nI 0)) (some (.int (nI 0), σ)) else bm_gd (bm_bo (nI 1)) (some (.int (nI 1), σ)) := bm_blk (cd := bm_c19) rfl [] 400 0 _ _ _
set_option maxRecDepth 20000 in
theorem bb_20_0 (X : bm_X) (σ : bm_M) (p0 : Int32) : bm_ev X 20 0 [.ref 0, .int p0, .null] [] σ = some (.int (σ 1 6), (bm_up σ 1 6 p0)) := bm_blk (cd := bm_c20) rfl [] 400 0 _ _ _
set_option maxRecDepth 20000 in
theorem bb_21_0 (X : bm_X) (σ : bm_M) : bm_ev X 21 0 [.ref 0, .null] [] σ = some (.int (σ 34 1), (bm_up σ 34 1 (nI 0))) := bm_blk (cd := bm_c21) rfl [] 400 0 _ _ _
set_option maxRecDepth 20000 in
theorem bb_22_0 (X : bm_X) (σ : bm_M) : bm_ev X 22 0 [.ref 0, .null] [] σ = bif decide ((σ 0 3) = 0) then bm_gd (bm_bo (nI 0)) (some (.int (nI 0), (bm_up σ 0 3 (nI 0)))) else bm_gd (bm_bo (nI 0)) (some (.int (nI 1), (bm_up σ 0 3 (nI 0)))) := bm_blk (cd := bm_c22) rfl [] 400 0 _ _ _
set_option maxRecDepth 20000 in
theorem bb_23_0 (X : bm_X) (σ : bm_M) (p0 : Int32) : bm_ev X 23 0 [.ref 0, .int p0] [] σ = bm_gd (bm_in p0 7) (bm_gd (bm_in p0 7) (some (.int ((-nI 1000001) - p0), (bm_up σ 43 p0.toNatClampNeg ((σ 43 p0.toNatClampNeg) + (nI 1)))))) := bm_blk (cd := bm_c23) rfl [] 400 0 _ _ _
set_option maxRecDepth 20000 in
theorem bb_24_0 (X : bm_X) (σ : bm_M) (p0 : Int32) (p1 : Int32) : bm_ev X 24 0 [.int p0, .int p1] [] σ = bif decide (p0 < 0) then bm_gd (bm_bo (nI 0)) (some (.int (nI 0), σ)) else bif decide (p1 < p0) then bm_gd (bm_bo (nI 0)) (some (.int (nI 0), σ)) else bm_gd (bm_bo (nI 1)) (some (.int (nI 1), σ)) := bm_blk (cd := bm_c24) rfl [] 400 0 _ _ _
set_option maxRecDepth 20000 in
theorem bb_25_0 (X : bm_X) (σ : bm_M) (p0 : Int32) : bm_ev X 25 0 [.ref 0, .int p0] [] σ = bif decide (p0 < 0) then bm_gd (bm_bo (nI 0)) (some (.int (nI 0), σ)) else bif decide (p0 < (σ 1 7)) then bm_gd (bm_bo (nI 1)) (some (.int (nI 1), σ)) else bm_gd (bm_bo (nI 0)) (some (.int (nI 0), σ)) := bm_blk (cd := bm_c25) rfl [] 400 0 _ _ _
set_option maxRecDepth 20000 in
theorem bb_26_0 (X : bm_X) (σ : bm_M) (p0 : Int32) (p1 : Int32) : bm_ev X 26 0 [.int p0, .int p1, .null, .null] [] σ = bm_ev X 26 4 [.int p0, .int p1, .int p0, .int (nI 0)] [] σ := bm_blk (cd := bm_c26) rfl [4] 400 0 _ _ _
set_option maxRecDepth 20000 in
theorem bb_26_4 (X : bm_X) (σ : bm_M) (x1 : Int32) (x2 : Int32) (x3 : Int32) (u0 : Value) : bm_ev X 26 4 [u0, .int x1, .int x2, .int x3] [] σ = bif decide (x3 < (nI 7)) then bif decide (x2 = (-nI 1)) then bm_gd (bm_bo (nI 0)) (some (.int (nI 0), σ)) else bif decide (x2 = x1) then bm_gd (bm_bo (nI 1)) (some (.int (nI 1), σ)) else bm_gd (bm_in x2 (bm_rl X 57)) (bm_ev X 26 4 [u0, .int x1, .int (bm_rv X 57 x2.toNatClampNeg), .int (x3 + nI 1)] [] σ) else bm_gd (bm_bo (nI 0)) (some (.int (nI 0), σ)) := bm_blk (cd := bm_c26) rfl [4] 400 4 _ _ _
set_option maxRecDepth 20000 in
theorem bb_27_0 (X : bm_X) (σ : bm_M) (p0 : Int32) (p1 : Int32) (p2 : Int32) : bm_ev X 27 0 [.ref 0, .int p0, .int p1, .int p2] [] σ = bif decide (p1 < 0) then bm_gd (bm_bo (nI 0)) (some (.int (nI 0), σ)) else bif decide (p2 < 0) then bm_gd (bm_bo (nI 0)) (some (.int (nI 0), σ)) else bm_gd (bm_in p0 4) (bif decide (((σ 41 p0.toNatClampNeg) - p1) < p2) then bm_gd (bm_bo (nI 0)) (some (.int (nI 0), σ)) else bm_gd (bm_bo (nI 1)) (some (.int (nI 1), σ))) := bm_blk (cd := bm_c27) rfl [] 400 0 _ _ _
set_option maxRecDepth 20000 in
theorem bb_28_0 (X : bm_X) (σ : bm_M) (p0 : Int32) (p1 : Int32) : bm_ev X 28 0 [.int p0, .int p1] [] σ = bif decide (p1 = nI 8) then some (.int p0.toInt8.toInt32, σ) else bif decide (p1 = nI 16) then some (.int p0.toInt16.toInt32, σ) else some (.int p0, σ) := bm_blk (cd := bm_c28) rfl [] 400 0 _ _ _
set_option maxRecDepth 20000 in
theorem bb_29_0 (X : bm_X) (σ : bm_M) (p0 : Int32) (p1 : Int32) : bm_ev X 29 0 [.int p0, .int p1, .null, .null, .null] [] σ = bm_ev X 29 4 [.int p0, .int p1, .long (lN 1), .null, .int (nI 0)] [] σ := bm_blk (cd := bm_c29) rfl [4] 400 0 _ _ _
set_option maxRecDepth 20000 in
theorem bb_29_4 (X : bm_X) (σ : bm_M) (x0 : Int32) (x1 : Int32) (x2 : Int64) (x4 : Int32) : bm_ev X 29 4 [.int x0, .int x1, .long x2, .null, .int x4] [] σ = bif decide (x4 < x1) then bm_ev X 29 4 [.int x0, .int x1, .long (x2 * x0.toInt64), .null, .int (x4 + nI 1)] [] σ else some (.long x2, σ) := bm_blk (cd := bm_c29) rfl [4] 400 4 _ _ _
set_option maxRecDepth 20000 in
theorem bb_30_0 (X : bm_X) (σ : bm_M) (p0 : Int32) : bm_ev X 30 0 [.ref 0, .int p0, .null, .null] [] σ = bm_ev X 30 4 [.ref 0, .int p0, .int (nI 0), .int (nI 0)] [] σ := bm_blk (cd := bm_c30) rfl [4] 400 0 _ _ _
set_option maxRecDepth 20000 in
theorem bb_30_4 (X : bm_X) (σ : bm_M) (x1 : Int32) (x2 : Int32) (x3 : Int32) : bm_ev X 30 4 [.ref 0, .int x1, .int x2, .int x3] [] σ = bif decide (x3 < (nI 8)) then bif decide (((bm_shr x1 x3) &&& (nI 1)) = (nI 1)) then bm_gd (bm_in x3 8) (bm_ev X 30 4 [.ref 0, .int x1, .int (x2 + (σ 44 x3.toNatClampNeg)), .int (x3 + nI 1)] [] σ) else bm_ev X 30 4 [.ref 0, .int x1, .int x2, .int (x3 + nI 1)] [] σ else some (.int x2, σ) := bm_blk (cd := bm_c30) rfl [4] 400 4 _ _ _
set_option maxRecDepth 20000 in
theorem bb_48_0 (X : bm_X) (σ : bm_M) (p0 : Int32) : bm_ev X 48 0 [.int p0] [] σ = some (.int ((((((((p0 - ((bm_ushr p0 (nI 1)) &&& (nI 1431655765))) &&& (nI 858993459)) + ((bm_ushr (p0 - ((bm_ushr p0 (nI 1)) &&& (nI 1431655765))) (nI 2)) &&& (nI 858993459))) + (bm_ushr (((p0 - ((bm_ushr p0 (nI 1)) &&& (nI 1431655765))) &&& (nI 858993459)) + ((bm_ushr (p0 - ((bm_ushr p0 (nI 1)) &&& (nI 1431655765))) (nI 2)) &&& (nI 858993459))) (nI 4))) &&& (nI 252645135)) + (bm_ushr (((((p0 - ((bm_ushr p0 (nI 1)) &&& (nI 1431655765))) &&& (nI 858993459)) + ((bm_ushr (p0 - ((bm_ushr p0 (nI 1)) &&& (nI 1431655765))) (nI 2)) &&& (nI 858993459))) + (bm_ushr (((p0 - ((bm_ushr p0 (nI 1)) &&& (nI 1431655765))) &&& (nI 858993459)) + ((bm_ushr (p0 - ((bm_ushr p0 (nI 1)) &&& (nI 1431655765))) (nI 2)) &&& (nI 858993459))) (nI 4))) &&& (nI 252645135)) (nI 8))) + (bm_ushr ((((((p0 - ((bm_ushr p0 (nI 1)) &&& (nI 1431655765))) &&& (nI 858993459)) + ((bm_ushr (p0 - ((bm_ushr p0 (nI 1)) &&& (nI 1431655765))) (nI 2)) &&& (nI 858993459))) + (bm_ushr (((p0 - ((bm_ushr p0 (nI 1)) &&& (nI 1431655765))) &&& (nI 858993459)) + ((bm_ushr (p0 - ((bm_ushr p0 (nI 1)) &&& (nI 1431655765))) (nI 2)) &&& (nI 858993459))) (nI 4))) &&& (nI 252645135)) + (bm_ushr (((((p0 - ((bm_ushr p0 (nI 1)) &&& (nI 1431655765))) &&& (nI 858993459)) + ((bm_ushr (p0 - ((bm_ushr p0 (nI 1)) &&& (nI 1431655765))) (nI 2)) &&& (nI 858993459))) + (bm_ushr (((p0 - ((bm_ushr p0 (nI 1)) &&& (nI 1431655765))) &&& (nI 858993459)) + ((bm_ushr (p0 - ((bm_ushr p0 (nI 1)) &&& (nI 1431655765))) (nI 2)) &&& (nI 858993459))) (nI 4))) &&& (nI 252645135)) (nI 8))) (nI 16))) &&& (nI 63)), σ) := bm_blk (cd := bm_c48) rfl [] 400 0 _ _ _
set_option maxRecDepth 20000 in
theorem bb_49_0 (X : bm_X) (σ : bm_M) (w : Nat) : bm_ev X 49 0 [.ref w] [] σ = bif decide ((nI 1) = 0) then bm_gd (bm_by (nI 1)) (some (.int (nI 1), σ)) else bm_gd (bm_st w) (bm_gd (bm_by (nI 0)) (some (.int (nI 0), σ))) := bm_blk (cd := bm_c49) rfl [] 400 0 _ _ _
set_option maxRecDepth 20000 in
theorem bb_50_0 (X : bm_X) (σ : bm_M) (w : Nat) : bm_ev X 50 0 [.ref w] [] σ = bif decide ((nI 1) = 0) then bm_gd (bm_bo (nI 0)) (some (.int (nI 0), σ)) else bm_gd (bm_st w) (bif decide ((nI 0) = 0) then bm_gd (bm_bo (nI 1)) (some (.int (nI 1), σ)) else bm_gd (bm_bo (nI 0)) (some (.int (nI 0), σ))) := bm_blk (cd := bm_c50) rfl [] 400 0 _ _ _
set_option maxRecDepth 20000 in
theorem bb_51_0 (X : bm_X) (σ : bm_M) (p0 : Int32) (p1 : Int32) : bm_ev X 51 0 [.int p0, .int p1, .retAddr 0] [] σ = bif decide (p0 < 0) then none else bif decide (p0 < p1) then some (.int p0, σ) else none := bm_blk (cd := bm_c51) rfl [] 400 0 _ _ _
set_option maxRecDepth 20000 in
theorem bb_52_0 (X : bm_X) (σ : bm_M) (o : Nat) (ho : bm_isH o) (o2 : Nat) (ho2 : bm_isH o2) : bm_ev X 52 0 [.ref o, .ref o2] [] σ = bm_gd (bm_ac (nI 0) (nI 0) (nI 12) 12 12) (bm_gd (bm_ac (nI 0) (nI 0) (nI 12) 12 12) (bm_gd (bm_ac (nI 0) (nI 0) (nI 10) 10 10) (bm_gd (bm_ac (nI 0) (nI 0) (nI 8) 8 8) (bm_gd (bm_ac (nI 0) (nI 0) (nI 8) 8 8) (bm_gd (bm_ac (nI 0) (nI 0) (nI 8) 8 8) (bm_gd (bm_ac (nI 0) (nI 0) (nI 8) 8 8) (bm_gd (bm_ac (nI 0) (nI 0) (nI 8) 8 8) (bm_gd (bm_ac (nI 0) (nI 0) (nI 8) 8 8) (bm_gd (bm_ac (nI 0) (nI 0) (nI 8) 8 8) (some (.null, (bm_cp (bm_cp (bm_cp (bm_cp (bm_cp (bm_cp (bm_cp (bm_up (bm_up (bm_up (bm_up (bm_up (bm_cp (bm_cp (bm_cp σ (o2 + 1) (o + 1) (nI 0).toNatClampNeg (nI 0).toNatClampNeg (nI 12).toNatClampNeg) (o2 + 2) (o + 2) (nI 0).toNatClampNeg (nI 0).toNatClampNeg (nI 12).toNatClampNeg) (o2 + 3) (o + 3) (nI 0).toNatClampNeg (nI 0).toNatClampNeg (nI 10).toNatClampNeg) o 3 ((bm_cp (bm_cp (bm_cp σ (o2 + 1) (o + 1) (nI 0).toNatClampNeg (nI 0).toNatClampNeg (nI 12).toNatClampNeg) (o2 + 2) (o + 2) (nI 0).toNatClampNeg (nI 0).toNatClampNeg (nI 12).toNatClampNeg) (o2 + 3) (o + 3) (nI 0).toNatClampNeg (nI 0).toNatClampNeg (nI 10).toNatClampNeg) o2 3)) o 4 ((bm_up (bm_cp (bm_cp (bm_cp σ (o2 + 1) (o + 1) (nI 0).toNatClampNeg (nI 0).toNatClampNeg (nI 12).toNatClampNeg) (o2 + 2) (o + 2) (nI 0).toNatClampNeg (nI 0).toNatClampNeg (nI 12).toNatClampNeg) (o2 + 3) (o + 3) (nI 0).toNatClampNeg (nI 0).toNatClampNeg (nI 10).toNatClampNeg) o 3 ((bm_cp (bm_cp (bm_cp σ (o2 + 1) (o + 1) (nI 0).toNatClampNeg (nI 0).toNatClampNeg (nI 12).toNatClampNeg) (o2 + 2) (o + 2) (nI 0).toNatClampNeg (nI 0).toNatClampNeg (nI 12).toNatClampNeg) (o2 + 3) (o + 3) (nI 0).toNatClampNeg (nI 0).toNatClampNeg (nI 10).toNatClampNeg) o2 3)) o2 4)) o 5 ((bm_up (bm_up (bm_cp (bm_cp (bm_cp σ (o2 + 1) (o + 1) (nI 0).toNatClampNeg (nI 0).toNatClampNeg (nI 12).toNatClampNeg) (o2 + 2) (o + 2) (nI 0).toNatClampNeg (nI 0).toNatClampNeg (nI 12).toNatClampNeg) (o2 + 3) (o + 3) (nI 0).toNatClampNeg (nI 0).toNatClampNeg (nI 10).toNatClampNeg) o 3 ((bm_cp (bm_cp (bm_cp σ (o2 + 1) (o + 1) (nI 0).toNatClampNeg (nI 0).toNatClampNeg (nI 12).toNatClampNeg) (o2 + 2) (o + 2) (nI 0).toNatClampNeg (nI 0).toNatClampNeg (nI 12).toNatClampNeg) (o2 + 3) (o + 3) (nI 0).toNatClampNeg (nI 0).toNatClampNeg (nI 10).toNatClampNeg) o2 3)) o 4 ((bm_up (bm_cp (bm_cp (bm_cp σ (o2 + 1) (o + 1) (nI 0).toNatClampNeg (nI 0).toNatClampNeg (nI 12).toNatClampNeg) (o2 + 2) (o + 2) (nI 0).toNatClampNeg (nI 0).toNatClampNeg (nI 12).toNatClampNeg) (o2 + 3) (o + 3) (nI 0).toNatClampNeg (nI 0).toNatClampNeg (nI 10).toNatClampNeg) o 3 ((bm_cp (bm_cp (bm_cp σ (o2 + 1) (o + 1) (nI 0).toNatClampNeg (nI 0).toNatClampNeg (nI 12).toNatClampNeg) (o2 + 2) (o + 2) (nI 0).toNatClampNeg (nI 0).toNatClampNeg (nI 12).toNatClampNeg) (o2 + 3) (o + 3) (nI 0).toNatClampNeg (nI 0).toNatClampNeg (nI 10).toNatClampNeg) o2 3)) o2 4)) o2 5)) o 6 ((bm_up (bm_up (bm_up (bm_cp (bm_cp (bm_cp σ (o2 + 1) (o + 1) (nI 0).toNatClampNeg (nI 0).toNatClampNeg (nI 12).toNatClampNeg) (o2 + 2) (o + 2) (nI 0).toNatClampNeg (nI 0).toNatClampNeg (nI 12).toNatClampNeg) (o2 + 3) (o + 3) (nI 0).toNatClampNeg (nI 0).toNatClampNeg (nI 10).toNatClampNeg) o 3 ((bm_cp (bm_cp (bm_cp σ (o2 + 1) (o + 1) (nI 0).toNatClampNeg (nI 0).toNatClampNeg (nI 12).toNatClampNeg) (o2 + 2) (o + 2) (nI 0).toNatClampNeg (nI 0).toNatClampNeg (nI 12).toNatClampNeg) (o2 + 3) (o + 3) (nI 0).toNatClampNeg (nI 0).toNatClampNeg (nI 10).toNatClampNeg) o2 3)) o 4 ((bm_up (bm_cp (bm_cp (bm_cp σ (o2 + 1) (o + 1) (nI 0).toNatClampNeg (nI 0).toNatClampNeg (nI 12).toNatClampNeg) (o2 + 2) (o + 2) (nI 0).toNatClampNeg (nI 0).toNatClampNeg (nI 12).toNatClampNeg) (o2 + 3) (o + 3) (nI 0).toNatClampNeg (nI 0).toNatClampNeg (nI 10).toNatClampNeg) o 3 ((bm_cp (bm_cp (bm_cp σ (o2 + 1) (o + 1) (nI 0).toNatClampNeg (nI 0).toNatClampNeg (nI 12).toNatClampNeg) (o2 + 2) (o + 2) (nI 0).toNatClampNeg (nI 0).toNatClampNeg (nI 12).toNatClampNeg) (o2 + 3) (o + 3) (nI 0).toNatClampNeg (nI 0).toNatClampNeg (nI 10).toNatClampNeg) o2 3)) o2 4)) o 5 ((bm_up (bm_up (bm_cp (bm_cp (bm_cp σ (o2 + 1) (o + 1) (nI 0).toNatClampNeg (nI 0).toNatClampNeg (nI 12).toNatClampNeg) (o2 + 2) (o + 2) (nI 0).toNatClampNeg (nI 0).toNatClampNeg (nI 12).toNatClampNeg) (o2 + 3) (o + 3) (nI 0).toNatClampNeg (nI 0).toNatClampNeg (nI 10).toNatClampNeg) o 3 ((bm_cp (bm_cp (bm_cp σ (o2 + 1) (o + 1) (nI 0).toNatClampNeg (nI 0).toNatClampNeg (nI 12).toNatClampNeg) (o2 + 2) (o + 2) (nI 0).toNatClampNeg (nI 0).toNatClampNeg (nI 12).toNatClampNeg) (o2 + 3) (o + 3) (nI 0).toNatClampNeg (nI 0).toNatClampNeg (nI 10).toNatClampNeg) o2 3)) o 4 ((bm_up (bm_cp (bm_cp (bm_cp σ (o2 + 1) (o + 1) (nI 0).toNatClampNeg (nI 0).toNatClampNeg (nI 12).toNatClampNeg) (o2 + 2) (o + 2) (nI 0).toNatClampNeg (nI 0).toNatClampNeg (nI 12).toNatClampNeg) (o2 + 3) (o + 3) (nI 0).toNatClampNeg (nI 0).toNatClampNeg (nI 10).toNatClampNeg) o 3 ((bm_cp (bm_cp (bm_cp σ (o2 + 1) (o + 1) (nI 0).toNatClampNeg (nI 0).toNatClampNeg (nI 12).toNatClampNeg) (o2 + 2) (o + 2) (nI 0).toNatClampNeg (nI 0).toNatClampNeg (nI 12).toNatClampNeg) (o2 + 3) (o + 3) (nI 0).toNatClampNeg (nI 0).toNatClampNeg (nI 10).toNatClampNeg) o2 3)) o2 4)) o2 5)) o2 6)) o 7 ((bm_up (bm_up (bm_up (bm_up (bm_cp (bm_cp (bm_cp σ (o2 + 1) (o + 1) (nI 0).toNatClampNeg (nI 0).toNatClampNeg (nI 12).toNatClampNeg) (o2 + 2) (o + 2) (nI 0).toNatClampNeg (nI 0).toNatClampNeg (nI 12).toNatClampNeg) (o2 + 3) (o + 3) (nI 0).toNatClampNeg (nI 0).toNatClampNeg (nI 10).toNatClampNeg) o 3 ((bm_cp (bm_cp (bm_cp σ (o2 + 1) (o + 1) (nI 0).toNatClampNeg (nI 0).toNatClampNeg (nI 12).toNatClampNeg) (o2 + 2) (o + 2) (nI 0).toNatClampNeg (nI 0).toNatClampNeg (nI 12).toNatClampNeg) (o2 + 3) (o + 3) (nI 0).toNatClampNeg (nI 0).toNatClampNeg (nI 10).toNatClampNeg) o2 3)) o 4 ((bm_up (bm_cp (bm_cp (bm_cp σ (o2 + 1) (o + 1) (nI 0).toNatClampNeg (nI 0).toNatClampNeg (nI 12).toNatClampNeg) (o2 + 2) (o + 2) (nI 0).toNatClampNeg (nI 0).toNatClampNeg (nI 12).toNatClampNeg) (o2 + 3) (o + 3) (nI 0).toNatClampNeg (nI 0).toNatClampNeg (nI 10).toNatClampNeg) o 3 ((bm_cp (bm_cp (bm_cp σ (o2 + 1) (o + 1) (nI 0).toNatClampNeg (nI 0).toNatClampNeg (nI 12).toNatClampNeg) (o2 + 2) (o + 2) (nI 0).toNatClampNeg (nI 0).toNatClampNeg (nI 12).toNatClampNeg) (o2 + 3) (o + 3) (nI 0).toNatClampNeg (nI 0).toNatClampNeg (nI 10).toNatClampNeg) o2 3)) o2 4)) o 5 ((bm_up (bm_up (bm_cp (bm_cp (bm_cp σ (o2 + 1) (o + 1) (nI 0).toNatClampNeg (nI 0).toNatClampNeg (nI 12).toNatClampNeg) (o2 + 2) (o + 2) (nI 0).toNatClampNeg (nI 0).toNatClampNeg (nI 12).toNatClampNeg) (o2 + 3) (o + 3) (nI 0).toNatClampNeg (nI 0).toNatClampNeg (nI 10).toNatClampNeg) o 3 ((bm_cp (bm_cp (bm_cp σ (o2 + 1) (o + 1) (nI 0).toNatClampNeg (nI 0).toNatClampNeg (nI 12).toNatClampNeg) (o2 + 2) (o + 2) (nI 0).toNatClampNeg (nI 0).toNatClampNeg (nI 12).toNatClampNeg) (o2 + 3) (o + 3) (nI 0).toNatClampNeg (nI 0).toNatClampNeg (nI 10).toNatClampNeg) o2 3)) o 4 ((bm_up (bm_cp (bm_cp (bm_cp σ (o2 + 1) (o + 1) (nI 0).toNatClampNeg (nI 0).toNatClampNeg (nI 12).toNatClampNeg) (o2 + 2) (o + 2) (nI 0).toNatClampNeg (nI 0).toNatClampNeg (nI 12).toNatClampNeg) (o2 + 3) (o + 3) (nI 0).toNatClampNeg (nI 0).toNatClampNeg (nI 10).toNatClampNeg) o 3 ((bm_cp (bm_cp (bm_cp σ (o2 + 1) (o + 1) (nI 0).toNatClampNeg (nI 0).toNatClampNeg (nI 12).toNatClampNeg) (o2 + 2) (o + 2) (nI 0).toNatClampNeg (nI 0).toNatClampNeg (nI 12).toNatClampNeg) (o2 + 3) (o + 3) (nI 0).toNatClampNeg (nI 0).toNatClampNeg (nI 10).toNatClampNeg) o2 3)) o2 4)) o2 5)) o 6 ((bm_up (bm_up (bm_up (bm_cp (bm_cp (bm_cp σ (o2 + 1) (o + 1) (nI 0).toNatClampNeg (nI 0).toNatClampNeg (nI 12).toNatClampNeg) (o2 + 2) (o + 2) (nI 0).toNatClampNeg (nI 0).toNatClampNeg (nI 12).toNatClampNeg) (o2 + 3) (o + 3) (nI 0).toNatClampNeg (nI 0).toNatClampNeg (nI 10).toNatClampNeg) o 3 ((bm_cp (bm_cp (bm_cp σ (o2 + 1) (o + 1) (nI 0).toNatClampNeg (nI 0).toNatClampNeg (nI 12).toNatClampNeg) (o2 + 2) (o + 2) (nI 0).toNatClampNeg (nI 0).toNatClampNeg (nI 12).toNatClampNeg) (o2 + 3) (o + 3) (nI 0).toNatClampNeg (nI 0).toNatClampNeg (nI 10).toNatClampNeg) o2 3)) o 4 ((bm_up (bm_cp (bm_cp (bm_cp σ (o2 + 1) (o + 1) (nI 0).toNatClampNeg (nI 0).toNatClampNeg (nI 12).toNatClampNeg) (o2 + 2) (o + 2) (nI 0).toNatClampNeg (nI 0).toNatClampNeg (nI 12).toNatClampNeg) (o2 + 3) (o + 3) (nI 0).toNatClampNeg (nI 0).toNatClampNeg (nI 10).toNatClampNeg) o 3 ((bm_cp (bm_cp (bm_cp σ (o2 + 1) (o + 1) (nI 0).toNatClampNeg (nI 0).toNatClampNeg (nI 12).toNatClampNeg) (o2 + 2) (o + 2) (nI 0).toNatClampNeg (nI 0).toNatClampNeg (nI 12).toNatClampNeg) (o2 + 3) (o + 3) (nI 0).toNatClampNeg (nI 0).toNatClampNeg (nI 10).toNatClampNeg) o2 3)) o2 4)) o 5 ((bm_up (bm_up (bm_cp (bm_cp (bm_cp σ (o2 + 1) (o + 1) (nI 0).toNatClampNeg (nI 0).toNatClampNeg (nI 12).toNatClampNeg) (o2 + 2) (o + 2) (nI 0).toNatClampNeg (nI 0).toNatClampNeg (nI 12).toNatClampNeg) (o2 + 3) (o + 3) (nI 0).toNatClampNeg (nI 0).toNatClampNeg (nI 10).toNatClampNeg) o 3 ((bm_cp (bm_cp (bm_cp σ (o2 + 1) (o + 1) (nI 0).toNatClampNeg (nI 0).toNatClampNeg (nI 12).toNatClampNeg) (o2 + 2) (o + 2) (nI 0).toNatClampNeg (nI 0).toNatClampNeg (nI 12).toNatClampNeg) (o2 + 3) (o + 3) (nI 0).toNatClampNeg (nI 0).toNatClampNeg (nI 10).toNatClampNeg) o2 3)) o 4 ((bm_up (bm_cp (bm_cp (bm_cp σ (o2 + 1) (o + 1) (nI 0).toNatClampNeg (nI 0).toNatClampNeg (nI 12).toNatClampNeg) (o2 + 2) (o + 2) (nI 0).toNatClampNeg (nI 0).toNatClampNeg (nI 12).toNatClampNeg) (o2 + 3) (o + 3) (nI 0).toNatClampNeg (nI 0).toNatClampNeg (nI 10).toNatClampNeg) o 3 ((bm_cp (bm_cp (bm_cp σ (o2 + 1) (o + 1) (nI 0).toNatClampNeg (nI 0).toNatClampNeg (nI 12).toNatClampNeg) (o2 + 2) (o + 2) (nI 0).toNatClampNeg (nI 0).toNatClampNeg (nI 12).toNatClampNeg) (o2 + 3) (o + 3) (nI 0).toNatClampNeg (nI 0).toNatClampNeg (nI 10).toNatClampNeg) o2 3)) o2 4)) o2 5)) o2 6)) o2 7)) (o2 + 4) (o + 4) (nI 0).toNatClampNeg (nI 0).toNatClampNeg (nI 8).toNatClampNeg) (o2 + 5) (o + 5) (nI 0).toNatClampNeg (nI 0).toNatClampNeg (nI 8).toNatClampNeg) (o2 + 6) (o + 6) (nI 0).toNatClampNeg (nI 0).toNatClampNeg (nI 8).toNatClampNeg) (o2 + 7) (o + 7) (nI 0).toNatClampNeg (nI 0).toNatClampNeg (nI 8).toNatClampNeg) (o2 + 8) (o + 8) (nI 0).toNatClampNeg (nI 0).toNatClampNeg (nI 8).toNatClampNeg) (o2 + 9) (o + 9) (nI 0).toNatClampNeg (nI 0).toNatClampNeg (nI 8).toNatClampNeg) (o2 + 10) (o + 10) (nI 0).toNatClampNeg (nI 0).toNatClampNeg (nI 8).toNatClampNeg)))))))))))) := by
  rcases ho with rfl | rfl | rfl <;> rcases ho2 with rfl | rfl | rfl
  all_goals exact bm_blk (cd := bm_c52) rfl [] 400 0 _ _ _
set_option maxRecDepth 20000 in
theorem bb_53_0 (X : bm_X) (σ : bm_M) (o : Nat) (ho : bm_isH o) (p0 : Int32) : bm_ev X 53 0 [.ref o, .int p0, .null] [] σ = bm_gd (bm_in p0 8) (bm_gd (bm_in p0 8) (bm_gd (bm_in (σ (o + 5) p0.toNatClampNeg) 12) (bm_gd (bm_in p0 8) (bif decide ((σ (o + 4) p0.toNatClampNeg) = nI 1) then some (.int (((σ (o + 7) p0.toNatClampNeg) + ((σ (o + 1) (σ (o + 5) p0.toNatClampNeg).toNatClampNeg) / (nI 10))) / (nI 2)), σ) else bif decide ((σ (o + 4) p0.toNatClampNeg) = nI 2) then some (.int (((σ (o + 7) p0.toNatClampNeg) + ((σ (o + 1) (σ (o + 5) p0.toNatClampNeg).toNatClampNeg) / (nI 10))) + (nI 2)), σ) else bif decide ((σ (o + 4) p0.toNatClampNeg) = nI 3) then bm_bI (bm_ev X 2 0 [.ref o, .int p0, .null, .null] [] σ) (fun v2 t1 => some (.int (bm_max (nI 0) ((((σ (o + 7) p0.toNatClampNeg) + ((σ (o + 1) (σ (o + 5) p0.toNatClampNeg).toNatClampNeg) / (nI 10))) + (nI 2)) - v2)), t1)) else bif decide ((σ (o + 4) p0.toNatClampNeg) = nI 4) then bm_bI (bm_ev X 2 0 [.ref o, .int p0, .null, .null] [] σ) (fun v4 t3 => some (.int ((bm_max (nI 0) ((((σ (o + 7) p0.toNatClampNeg) + ((σ (o + 1) (σ (o + 5) p0.toNatClampNeg).toNatClampNeg) / (nI 10))) + (nI 2)) - v4)) + ((t3 o 4) / (nI 10))), t3)) else bif decide ((σ (o + 4) p0.toNatClampNeg) = nI 5) then bm_gd (bm_in p0 8) (some (.int (bm_max (nI 0) (((σ (o + 7) p0.toNatClampNeg) + ((σ (o + 1) (σ (o + 5) p0.toNatClampNeg).toNatClampNeg) / (nI 10))) - ((σ (o + 8) p0.toNatClampNeg) / (nI 100)))), σ)) else bif decide ((σ (o + 4) p0.toNatClampNeg) = nI 6) then some (.int ((((σ (o + 7) p0.toNatClampNeg) + ((σ (o + 1) (σ (o + 5) p0.toNatClampNeg).toNatClampNeg) / (nI 10))) / (nI 2)) + (nI 1)), σ) else some (.int ((σ (o + 7) p0.toNatClampNeg) + ((σ (o + 1) (σ (o + 5) p0.toNatClampNeg).toNatClampNeg) / (nI 10))), σ))))) := by
  rcases ho with rfl | rfl | rfl
  all_goals exact bm_blk (cd := bm_c53) rfl [] 400 0 _ _ _
set_option maxRecDepth 20000 in
theorem bb_54_0 (X : bm_X) (σ : bm_M) (o : Nat) (ho : bm_isH o) (p0 : Int32) : bm_ev X 54 0 [.ref o, .int p0, .null, .null] [] σ = bm_gd (bm_in p0 8) (bm_gd (bm_in p0 8) (bm_gd (bm_in p0 8) (bif decide ((σ (o + 4) p0.toNatClampNeg) = nI 1) then some (.int (((σ (o + 9) p0.toNatClampNeg) / (nI 4)) / (nI 2)), σ) else bif decide ((σ (o + 4) p0.toNatClampNeg) = nI 2) then some (.int (((σ (o + 9) p0.toNatClampNeg) / (nI 4)) + ((σ (o + 9) p0.toNatClampNeg) / (nI 8))), σ) else bif decide ((σ (o + 4) p0.toNatClampNeg) = nI 3) then some (.int (bm_max (nI 0) ((((σ (o + 9) p0.toNatClampNeg) / (nI 4)) + ((σ (o + 9) p0.toNatClampNeg) / (nI 8))) - (nI 3))), σ) else bif decide ((σ (o + 4) p0.toNatClampNeg) = nI 4) then some (.int ((bm_max (nI 0) ((((σ (o + 9) p0.toNatClampNeg) / (nI 4)) + ((σ (o + 9) p0.toNatClampNeg) / (nI 8))) - (nI 3))) + (nI 5)), σ) else bif decide ((σ (o + 4) p0.toNatClampNeg) = nI 5) then some (.int (((σ (o + 9) p0.toNatClampNeg) / (nI 4)) / (nI 2)), σ) else bif decide ((σ (o + 4) p0.toNatClampNeg) = nI 6) then some (.int (((σ (o + 9) p0.toNatClampNeg) / (nI 4)) / (nI 2)), σ) else some (.int ((σ (o + 9) p0.toNatClampNeg) / (nI 4)), σ)))) := by
  rcases ho with rfl | rfl | rfl
  all_goals exact bm_blk (cd := bm_c54) rfl [] 400 0 _ _ _
set_option maxRecDepth 20000 in
theorem bb_55_0 (X : bm_X) (σ : bm_M) (o : Nat) (ho : bm_isH o) (p0 : Int32) (p1 : Int32) : bm_ev X 55 0 [.ref o, .int p0, .int p1] [] σ = bm_gd (bm_in p0 12) (bm_gd (bm_in p0 12) (some (.null, (bm_up σ (o + 2) p0.toNatClampNeg (bm_min (nI 99999) ((σ (o + 2) p0.toNatClampNeg) + p1)))))) := by
  rcases ho with rfl | rfl | rfl
  all_goals exact bm_blk (cd := bm_c55) rfl [] 400 0 _ _ _
set_option maxRecDepth 20000 in
theorem bb_56_0 (X : bm_X) (σ : bm_M) : bm_ev X 56 0 [.ref 34] [] σ = bm_ev X 56 4 [.ref 34] [] (bm_up σ 34 3 (σ 34 4)) := bm_blk (cd := bm_c56) rfl [4, 23, 49, 78, 124] 400 0 _ _ _
set_option maxRecDepth 20000 in
theorem bb_56_4 (X : bm_X) (σ : bm_M) : bm_ev X 56 4 [.ref 34] [] σ = bif decide ((σ 34 3) < (σ 34 1)) then bm_gd (bm_in (σ 34 3) 120) (bif decide ((σ 35 (σ 34 3).toNatClampNeg) = (nI 32)) then bm_ev X 56 4 [.ref 34] [] (bm_up σ 34 3 ((σ 34 3) + (nI 1))) else bm_ev X 56 23 [.ref 34] [] σ) else bm_ev X 56 23 [.ref 34] [] σ := bm_blk (cd := bm_c56) rfl [4, 23, 49, 78, 124] 400 4 _ _ _
set_option maxRecDepth 20000 in
theorem bb_56_23 (X : bm_X) (σ : bm_M) : bm_ev X 56 23 [.ref 34] [] σ = bif decide (((bm_up (bm_up σ 34 4 (σ 34 3)) 34 5 (nI 0)) 34 3) < ((bm_up (bm_up σ 34 4 (σ 34 3)) 34 5 (nI 0)) 34 1)) then bm_gd (bm_in ((bm_up (bm_up σ 34 4 (σ 34 3)) 34 5 (nI 0)) 34 3) 120) (bm_bI (bm_ev X 18 0 [.int ((bm_up (bm_up σ 34 4 (σ 34 3)) 34 5 (nI 0)) 35 ((bm_up (bm_up σ 34 4 (σ 34 3)) 34 5 (nI 0)) 34 3).toNatClampNeg)] [] (bm_up (bm_up σ 34 4 (σ 34 3)) 34 5 (nI 0))) (fun v2 t1 => bif decide (v2 = 0) then bm_gd (bm_in (t1 34 3) 120) (bm_bI (bm_ev X 19 0 [.int (t1 35 (t1 34 3).toNatClampNeg)] [] t1) (fun v4 t3 => bif decide (v4 = 0) then bm_gd (bm_in (t3 34 3) 120) (bif decide ((t3 35 (t3 34 3).toNatClampNeg) = (nI 59)) then bm_ev X 56 124 [.ref 34] [.int (nI 3), .ref 34] t3 else bm_ev X 56 124 [.ref 34] [.int (nI 4), .ref 34] t3) else bm_ev X 56 78 [.ref 34] [] (bm_up t3 34 2 (nI 2)))) else bm_ev X 56 49 [.ref 34] [] (bm_up t1 34 2 (nI 1)))) else some (.null, (bm_up (bm_up (bm_up σ 34 4 (σ 34 3)) 34 5 (nI 0)) 34 2 (nI 0))) := bm_blk (cd := bm_c56) rfl [4, 23, 49, 78, 124] 400 23 _ _ _
set_option maxRecDepth 20000 in
theorem bb_56_49 (X : bm_X) (σ : bm_M) : bm_ev X 56 49 [.ref 34] [] σ = bif decide ((σ 34 4) < (σ 34 1)) then bm_gd (bm_in (σ 34 4) 120) (bm_bI (bm_ev X 18 0 [.int (σ 35 (σ 34 4).toNatClampNeg)] [] σ) (fun v2 t1 => bif decide (v2 = 0) then some (.null, t1) else bm_ev X 56 49 [.ref 34] [] (bm_up t1 34 4 ((t1 34 4) + (nI 1))))) else some (.null, σ) := bm_blk (cd := bm_c56) rfl [4, 23, 49, 78, 124] 400 49 _ _ _
set_option maxRecDepth 20000 in
theorem bb_56_78 (X : bm_X) (σ : bm_M) : bm_ev X 56 78 [.ref 34] [] σ = bif decide ((σ 34 4) < (σ 34 1)) then bm_gd (bm_in (σ 34 4) 120) (bm_bI (bm_ev X 19 0 [.int (σ 35 (σ 34 4).toNatClampNeg)] [] σ) (fun v2 t1 => bif decide (v2 = 0) then some (.null, t1) else bm_gd (bm_in (t1 34 4) 120) (bm_ev X 56 78 [.ref 34] [] (bm_up (bm_up t1 34 5 (bm_min (nI 1000) ((((t1 34 5) * (nI 10)) + (t1 35 (t1 34 4).toNatClampNeg)) - (nI 48)))) 34 4 (((bm_up t1 34 5 (bm_min (nI 1000) ((((t1 34 5) * (nI 10)) + (t1 35 (t1 34 4).toNatClampNeg)) - (nI 48)))) 34 4) + (nI 1)))))) else some (.null, σ) := bm_blk (cd := bm_c56) rfl [4, 23, 49, 78, 124] 400 78 _ _ _
set_option maxRecDepth 20000 in
theorem bb_56_124 (X : bm_X) (σ : bm_M) (y0 : Int32) : bm_ev X 56 124 [.ref 34] [.int y0, .ref 34] σ = some (.null, (bm_up (bm_up σ 34 2 y0) 34 4 (((bm_up σ 34 2 y0) 34 4) + (nI 1)))) := bm_blk (cd := bm_c56) rfl [4, 23, 49, 78, 124] 400 124 _ _ _
set_option maxRecDepth 20000 in
theorem bb_57_0 (X : bm_X) (σ : bm_M) (p0 : Int32) (p1 : Int32) : bm_ev X 57 0 [.ref 0, .int p0, .int p1, .null] [] σ = bm_bI (bm_ev X 24 0 [.int p0, .int (nI 1)] [] σ) (fun v2 t1 => bif decide (v2 = 0) then bm_bI (bm_ev X 23 0 [.ref 0, .int (nI 0)] [] t1) (fun v4 t3 => some (.int v4, t3)) else bif decide (p0 = 0) then bm_ev X 57 10 [.ref 0, .int p0, .int p1, .null] [.int (nI 20), .int p1] t1 else bm_ev X 57 10 [.ref 0, .int p0, .int p1, .null] [.int (nI 99), .int p1] t1) := bm_blk (cd := bm_c57) rfl [10] 400 0 _ _ _
set_option maxRecDepth 20000 in
theorem bb_57_10 (X : bm_X) (σ : bm_M) (x1 : Int32) (x2 : Int32) (y0 : Int32) (y1 : Int32) (u3 : Value) : bm_ev X 57 10 [.ref 0, .int x1, .int x2, u3] [.int y0, .int y1] σ = bm_bI (bm_ev X 24 0 [.int y1, .int y0] [] σ) (fun v2 t1 => bif decide (v2 = 0) then bm_bI (bm_ev X 23 0 [.ref 0, .int (nI 0)] [] t1) (fun v4 t3 => some (.int v4, t3)) else bif decide (x1 = 0) then some (.int (t1 1 3), (bm_up t1 1 3 x2)) else some (.int (t1 1 4), (bm_up t1 1 4 x2))) := bm_blk (cd := bm_c57) rfl [10] 400 10 _ _ _
set_option maxRecDepth 20000 in
theorem bb_58_0 (X : bm_X) (σ : bm_M) (p0 : Int32) (p1 : Int32) (p2 : Int32) : bm_ev X 58 0 [.ref 0, .int p0, .int p1, .int p2, .null, .null] [] σ = bm_bI (bm_ev X 25 0 [.ref 0, .int p0] [] σ) (fun v2 t1 => bif decide (v2 = 0) then bm_bI (bm_ev X 23 0 [.ref 0, .int (nI 0)] [] t1) (fun v4 t3 => some (.int v4, t3)) else bif decide (p1 < 0) then bm_bI (bm_ev X 23 0 [.ref 0, .int (nI 0)] [] t1) (fun v6 t5 => some (.int v6, t5)) else bif decide (p1 < (nI (bm_rl X 58))) then bm_gd (bm_in p1 (bm_rl X 58)) (bm_bI (bm_ev X 24 0 [.int p2, .int (bm_rv X 58 p1.toNatClampNeg)] [] t1) (fun v10 t9 => bif decide (v10 = 0) then bm_bI (bm_ev X 23 0 [.ref 0, .int (nI 0)] [] t9) (fun v14 t13 => some (.int v14, t13)) else bm_bA (bm_ev X 1 0 [.ref 1, .int p1] [] t9) (fun v12 t11 => bm_gd (bm_in p0 (bm_al v12)) (bm_gd (bm_in p0 (bm_al v12)) (some (.int (t11 v12 p0.toNatClampNeg), (bm_up t11 v12 p0.toNatClampNeg p2))))))) else bm_bI (bm_ev X 23 0 [.ref 0, .int (nI 0)] [] t1) (fun v8 t7 => some (.int v8, t7))) := bm_blk (cd := bm_c58) rfl [] 400 0 _ _ _
set_option maxRecDepth 20000 in
theorem bb_59_0 (X : bm_X) (σ : bm_M) (p0 : Int32) : bm_ev X 59 0 [.ref 0, .int p0] [] σ = bif decide (p0 = nI 0) then some (.int (σ 1 5), σ) else bif decide (p0 = nI 1) then bm_bI (bm_ev X 8 0 [.ref 1, .null, .null] [] σ) (fun v2 t1 => some (.int v2, t1)) else bif decide (p0 = nI 2) then bm_bI (bm_ev X 9 0 [.ref 1, .null, .null] [] σ) (fun v4 t3 => some (.int v4, t3)) else bif decide (p0 = nI 3) then bm_bI (bm_ev X 12 0 [.ref 1, .null, .null] [] σ) (fun v6 t5 => some (.int v6, t5)) else bif decide (p0 = nI 4) then bm_bI (bm_ev X 10 0 [.ref 1, .null, .null] [] σ) (fun v8 t7 => some (.int v8, t7)) else bif decide (p0 = nI 5) then bm_bI (bm_ev X 13 0 [.ref 1, .null, .null] [] σ) (fun v10 t9 => some (.int v10, t9)) else bif decide (p0 = nI 6) then bm_bI (bm_ev X 14 0 [.ref 1, .null, .null] [] σ) (fun v12 t11 => some (.int v12, t11)) else bm_bI (bm_ev X 23 0 [.ref 0, .int (nI 0)] [] σ) (fun v14 t13 => some (.int v14, t13)) := bm_blk (cd := bm_c59) rfl [] 400 0 _ _ _
set_option maxRecDepth 20000 in
theorem bb_60_0 (X : bm_X) (σ : bm_M) (p0 : Int32) (p1 : Int32) : bm_ev X 60 0 [.ref 0, .int p0, .int p1, .null, .null, .null] [] σ = bm_bI (bm_ev X 24 0 [.int p0, .int (nI 18)] [] σ) (fun v2 t1 => bif decide (v2 = 0) then bm_bI (bm_ev X 23 0 [.ref 0, .int (nI 0)] [] t1) (fun v4 t3 => some (.long v4.toInt64, t3)) else bm_bI (bm_ev X 24 0 [.int p1, .int (nI 1)] [] t1) (fun v6 t5 => bif decide (v6 = 0) then bm_bI (bm_ev X 23 0 [.ref 0, .int (nI 0)] [] t5) (fun v12 t11 => some (.long v12.toInt64, t11)) else bm_bI (bm_ev X 12 0 [.ref 1, .null, .null] [] t5) (fun v8 t7 => bm_bI (bm_ev X 48 0 [.int v8] [] t7) (fun v10 t9 => bm_ev X 60 26 [.ref 0, .int p0, .int p1, .int ((t5 1 7) - v10), .int (nI 8), .int (nI 0)] [] t9)))) := bm_blk (cd := bm_c60) rfl [26, 43] 400 0 _ _ _
set_option maxRecDepth 20000 in
theorem bb_60_26 (X : bm_X) (σ : bm_M) (x1 : Int32) (x2 : Int32) (x3 : Int32) (x4 : Int32) (x5 : Int32) (u0 : Value) : bm_ev X 60 26 [u0, .int x1, .int x2, .int x3, .int x4, .int x5] [] σ = bif decide (x5 < (nI 3)) then bif decide ((bm_rem x3 (nI 2)) = 0) then bm_ev X 60 26 [u0, .int x1, .int x2, .int (x3 / (nI 2)), .int (x4 / (nI 2)), .int (x5 + nI 1)] [] σ else bm_ev X 60 43 [u0, .int x1, .int x2, .int x3, .int x4, .int x5] [] σ else bm_ev X 60 43 [u0, .int x1, .int x2, .int x3, .int x4, .int x5] [] σ := bm_blk (cd := bm_c60) rfl [26, 43] 400 26 _ _ _
set_option maxRecDepth 20000 in
theorem bb_60_43 (X : bm_X) (σ : bm_M) (x1 : Int32) (x2 : Int32) (x3 : Int32) (x4 : Int32) (u0 : Value) (u5 : Value) : bm_ev X 60 43 [u0, .int x1, .int x2, .int x3, .int x4, u5] [] σ = bif decide (x2 = 0) then bm_bL (bm_ev X 29 0 [.int x3, .int x1, .null, .null, .null] [] σ) (fun v4 t3 => some (.long v4, t3)) else bm_bL (bm_ev X 29 0 [.int x4, .int x1, .null, .null, .null] [] σ) (fun v2 t1 => some (.long v2, t1)) := bm_blk (cd := bm_c60) rfl [26, 43] 400 43 _ _ _
set_option maxRecDepth 20000 in
theorem bb_61_0 (X : bm_X) (σ : bm_M) (p0 : Int32) (p1 : Int32) : bm_ev X 61 0 [.ref 0, .int p0, .int p1, .null] [] σ = bif decide (p1 < (nI 1)) then bm_bI (bm_ev X 23 0 [.ref 0, .int (nI 0)] [] σ) (fun v2 t1 => some (.int v2, t1)) else bif decide ((nI 4) < p1) then bm_bI (bm_ev X 23 0 [.ref 0, .int (nI 0)] [] σ) (fun v6 t5 => some (.int v6, t5)) else bif decide ((nI 120) < ((σ 34 1) + p1)) then bm_bI (bm_ev X 23 0 [.ref 0, .int (nI 1)] [] σ) (fun v4 t3 => some (.int v4, t3)) else bm_ev X 61 25 [.ref 0, .int p0, .int p1, .int (p1 - (nI 1))] [] σ := bm_blk (cd := bm_c61) rfl [25] 400 0 _ _ _
set_option maxRecDepth 20000 in
theorem bb_61_25 (X : bm_X) (σ : bm_M) (x1 : Int32) (x3 : Int32) (u2 : Value) : bm_ev X 61 25 [.ref 0, .int x1, u2, .int x3] [] σ = bif decide (x3 < 0) then some (.int (σ 34 1), σ) else bm_bV (bm_ev X 17 0 [.ref 34, .int ((bm_ushr x1 ((nI 8) * x3)) &&& (nI 255))] [] σ) (fun t1 => bm_ev X 61 25 [.ref 0, .int x1, u2, .int (x3 - nI 1)] [] t1) := bm_blk (cd := bm_c61) rfl [25] 400 25 _ _ _
set_option maxRecDepth 20000 in
theorem bb_62_0 (X : bm_X) (σ : bm_M) (p0 : Int32) (p1 : Int32) : bm_ev X 62 0 [.ref 0, .int p0, .int p1] [] σ = bm_bI (bm_ev X 24 0 [.int p0, .int (nI 9)] [] σ) (fun v2 t1 => bif decide (v2 = 0) then bm_bI (bm_ev X 23 0 [.ref 0, .int (nI 0)] [] t1) (fun v4 t3 => some (.int v4, t3)) else bif decide (p1 = (-nI 1)) then bm_ev X 62 15 [.ref 0, .int p0, .int p1] [] t1 else bm_bI (bm_ev X 25 0 [.ref 0, .int p1] [] t1) (fun v6 t5 => bif decide (v6 = 0) then bm_bI (bm_ev X 23 0 [.ref 0, .int (nI 0)] [] t5) (fun v8 t7 => some (.int v8, t7)) else bm_ev X 62 15 [.ref 0, .int p0, .int p1] [] t5)) := bm_blk (cd := bm_c62) rfl [15] 400 0 _ _ _
set_option maxRecDepth 20000 in
theorem bb_62_15 (X : bm_X) (σ : bm_M) (x1 : Int32) (x2 : Int32) : bm_ev X 62 15 [.ref 0, .int x1, .int x2] [] σ = bm_gd (bm_in x1 10) (some (.int (nI 1), (bm_up σ 4 x1.toNatClampNeg x2))) := bm_blk (cd := bm_c62) rfl [15] 400 15 _ _ _
set_option maxRecDepth 20000 in
theorem bb_63_0 (X : bm_X) (σ : bm_M) (p0 : Int32) : bm_ev X 63 0 [.ref 0, .int p0] [] σ = bif decide (p0 = nI 0) then some (.int (σ 1 5), σ) else bif decide (p0 = nI 1) then some (.int (σ 1 7), σ) else bif decide (p0 = nI 2) then bm_bI (bm_ev X 12 0 [.ref 1, .null, .null] [] σ) (fun v2 t1 => bm_bI (bm_ev X 48 0 [.int v2] [] t1) (fun v4 t3 => some (.int v4, t3))) else bif decide (p0 = nI 3) then bm_bI (bm_ev X 9 0 [.ref 1, .null, .null] [] σ) (fun v6 t5 => some (.int v6, t5)) else bif decide (p0 = nI 4) then bm_bI (bm_ev X 8 0 [.ref 1, .null, .null] [] σ) (fun v8 t7 => some (.int v8, t7)) else bif decide (p0 = nI 5) then some (.int (σ 34 1), σ) else bif decide (p0 = nI 6) then some (.int (σ 1 6), σ) else bif decide (p0 = nI 7) then bm_bI (bm_ev X 16 0 [.ref 1, .null, .null] [] σ) (fun v10 t9 => some (.int v10, t9)) else bm_bI (bm_ev X 23 0 [.ref 0, .int (nI 0)] [] σ) (fun v12 t11 => some (.int v12, t11)) := bm_blk (cd := bm_c63) rfl [] 400 0 _ _ _
set_option maxRecDepth 20000 in
theorem bb_64_0 (X : bm_X) (σ : bm_M) (p0 : Int32) : bm_ev X 64 0 [.ref 0, .int p0, .null, .null] [] σ = bif decide (p0 < (-nI 1)) then bm_bI (bm_ev X 23 0 [.ref 0, .int (nI 0)] [] σ) (fun v2 t1 => some (.int v2, t1)) else bif decide (p0 < (nI 7)) then bif decide (p0 < 0) then bm_ev X 64 21 [.ref 0, .int p0, .int (nI 0), .int (nI 0)] [] σ else bm_gd (bm_in p0 7) (some (.int (σ 43 p0.toNatClampNeg), σ)) else bm_bI (bm_ev X 23 0 [.ref 0, .int (nI 0)] [] σ) (fun v4 t3 => some (.int v4, t3)) := bm_blk (cd := bm_c64) rfl [21] 400 0 _ _ _
set_option maxRecDepth 20000 in
theorem bb_64_21 (X : bm_X) (σ : bm_M) (x2 : Int32) (x3 : Int32) (u1 : Value) : bm_ev X 64 21 [.ref 0, u1, .int x2, .int x3] [] σ = bif decide (x3 < (nI 7)) then bm_gd (bm_in x3 7) (bm_ev X 64 21 [.ref 0, u1, .int (x2 + (σ 43 x3.toNatClampNeg)), .int (x3 + nI 1)] [] σ) else some (.int x2, σ) := bm_blk (cd := bm_c64) rfl [21] 400 21 _ _ _
set_option maxRecDepth 20000 in
theorem bb_65_0 (X : bm_X) (σ : bm_M) (p0 : Int32) : bm_ev X 65 0 [.int p0] [] σ = bm_bI (bm_ev X 24 0 [.int p0, .int (nI 11)] [] σ) (fun v2 t1 => bm_gd (bm_bo v2) (some (.int v2, t1))) := bm_blk (cd := bm_c65) rfl [] 400 0 _ _ _
set_option maxRecDepth 20000 in
theorem bb_66_0 (X : bm_X) (σ : bm_M) (p0 : Int32) : bm_ev X 66 0 [.int p0] [] σ = bm_bI (bm_ev X 24 0 [.int p0, .int (nI 11)] [] σ) (fun v2 t1 => bm_gd (bm_bo v2) (some (.int v2, t1))) := bm_blk (cd := bm_c66) rfl [] 400 0 _ _ _
set_option maxRecDepth 20000 in
theorem bb_67_0 (X : bm_X) (σ : bm_M) (p0 : Int32) : bm_ev X 67 0 [.int p0] [] σ = bm_bI (bm_ev X 24 0 [.int p0, .int (nI 6)] [] σ) (fun v2 t1 => bm_gd (bm_bo v2) (some (.int v2, t1))) := bm_blk (cd := bm_c67) rfl [] 400 0 _ _ _
set_option maxRecDepth 20000 in
theorem bb_68_0 (X : bm_X) (σ : bm_M) (p0 : Int32) : bm_ev X 68 0 [.int p0] [] σ = bm_bI (bm_ev X 24 0 [.int p0, .int (nI 3)] [] σ) (fun v2 t1 => bm_gd (bm_bo v2) (some (.int v2, t1))) := bm_blk (cd := bm_c68) rfl [] 400 0 _ _ _
set_option maxRecDepth 20000 in
theorem bb_69_0 (X : bm_X) (σ : bm_M) (p0 : Int32) : bm_ev X 69 0 [.ref 0, .int p0, .null, .null, .null, .null] [] σ = bm_ev X 69 6 [.ref 0, .int p0, .int (-nI 1), .int (nI 9), .int (nI 0), .null] [] σ := bm_blk (cd := bm_c69) rfl [6] 400 0 _ _ _
set_option maxRecDepth 20000 in
theorem bb_69_6 (X : bm_X) (σ : bm_M) (x1 : Int32) (x2 : Int32) (x3 : Int32) (x4 : Int32) (u5 : Value) : bm_ev X 69 6 [.ref 0, .int x1, .int x2, .int x3, .int x4, u5] [] σ = bif decide (x4 < (bm_shl (nI 1) (σ 1 7))) then bm_bI (bm_ev X 48 0 [.int x4] [] σ) (fun v2 t1 => bif decide (v2 < x3) then bm_bI (bm_ev X 30 0 [.ref 0, .int x4, .null, .null] [] t1) (fun v4 t3 => bif decide (v4 < x1) then bm_ev X 69 6 [.ref 0, .int x1, .int x2, .int x3, .int (x4 + nI 1), .int v2] [] t3 else bm_ev X 69 6 [.ref 0, .int x1, .int x4, .int v2, .int (x4 + nI 1), .int v2] [] t3) else bm_ev X 69 6 [.ref 0, .int x1, .int x2, .int x3, .int (x4 + nI 1), .int v2] [] t1) else some (.int x2, σ) := bm_blk (cd := bm_c69) rfl [6] 400 6 _ _ _
set_option maxRecDepth 20000 in
theorem bb_101_0 (X : bm_X) (σ : bm_M) (p0 : Int32) (p1 : Int32) : bm_ev X 101 0 [.int p0, .int p1] [] σ = bm_bI (bm_ev X 51 0 [.int p0, .int p1, .retAddr 0] [] σ) (fun v2 t1 => some (.null, t1)) := bm_blk (cd := bm_c101) rfl [] 400 0 _ _ _
set_option maxRecDepth 20000 in
theorem bb_102_0 (X : bm_X) (σ : bm_M) (w : Nat) : bm_ev X 102 0 [.ref w] [] σ = bm_gd (bm_st w) (bm_gd (bm_sv (w + 20)) (bm_gd (bm_st w) (bm_bI (bm_ev X 49 0 [.ref w] [] σ) (fun v2 t1 => some (.int (bm_shr (nI (bm_rl X (w + 20))) v2), t1))))) := bm_blk (cd := bm_c102) rfl [] 400 0 _ _ _
set_option maxRecDepth 20000 in
theorem bb_103_0 (X : bm_X) (σ : bm_M) (o : Nat) (ho : bm_isH o) (p0 : Int32) : bm_ev X 103 0 [.ref o, .int p0, .null, .null] [] σ = bm_gd (bm_in p0 8) (bif decide ((σ (o + 10) p0.toNatClampNeg) = 0) then bm_gd (bm_in p0 8) (bm_bI (bm_ev X 53 0 [.ref o, .int p0, .null] [] σ) (fun v2 t1 => bm_gd (bm_in p0 8) (bm_ev X 103 19 [.ref o, .int p0, .null, .null] [] (bm_up t1 (o + 9) p0.toNatClampNeg (bm_min (nI 9999) ((σ (o + 9) p0.toNatClampNeg) + v2)))))) else bm_ev X 103 19 [.ref o, .int p0, .null, .null] [] σ) := by
  rcases ho with rfl | rfl | rfl
  all_goals exact bm_blk (cd := bm_c103) rfl [19, 45] 400 0 _ _ _
set_option maxRecDepth 20000 in
theorem bb_103_19 (X : bm_X) (σ : bm_M) (o : Nat) (ho : bm_isH o) (x1 : Int32) (u2 : Value) (u3 : Value) : bm_ev X 103 19 [.ref o, .int x1, u2, u3] [] σ = bm_gd (bm_in x1 8) (bm_gd (bm_in (σ (o + 5) x1.toNatClampNeg) 12) (bm_bI (bm_ev X 3 0 [.ref o, .int x1] [] σ) (fun v2 t1 => bm_gd (bm_in (σ (o + 5) x1.toNatClampNeg) 12) (bif decide (((σ (o + 1) (σ (o + 5) x1.toNatClampNeg).toNatClampNeg) - v2) < 0) then bm_bV (bm_ev X 6 0 [.ref o, .int x1] [] (bm_up t1 (o + 1) (σ (o + 5) x1.toNatClampNeg).toNatClampNeg (bm_max (nI 0) ((σ (o + 1) (σ (o + 5) x1.toNatClampNeg).toNatClampNeg) - v2)))) (fun t3 => bm_ev X 103 45 [.ref o, .int x1, .int (σ (o + 5) x1.toNatClampNeg), .int ((σ (o + 1) (σ (o + 5) x1.toNatClampNeg).toNatClampNeg) - v2)] [] t3) else bm_ev X 103 45 [.ref o, .int x1, .int (σ (o + 5) x1.toNatClampNeg), .int ((σ (o + 1) (σ (o + 5) x1.toNatClampNeg).toNatClampNeg) - v2)] [] (bm_up t1 (o + 1) (σ (o + 5) x1.toNatClampNeg).toNatClampNeg (bm_max (nI 0) ((σ (o + 1) (σ (o + 5) x1.toNatClampNeg).toNatClampNeg) - v2))))))) := by
  rcases ho with rfl | rfl | rfl
  all_goals exact bm_blk (cd := bm_c103) rfl [19, 45] 400 19 _ _ _
set_option maxRecDepth 20000 in
theorem bb_103_45 (X : bm_X) (σ : bm_M) (o : Nat) (ho : bm_isH o) (x1 : Int32) (x3 : Int32) (u2 : Value) : bm_ev X 103 45 [.ref o, .int x1, u2, .int x3] [] σ = bm_gd (bm_in x1 8) (bm_gd (bm_in x1 8) (bif decide (x3 < 0) then bm_gd (bm_bo (nI 1)) (some (.int (nI 1), (bm_up σ (o + 8) x1.toNatClampNeg (bm_min (nI 999) ((σ (o + 8) x1.toNatClampNeg) + (nI 1)))))) else bm_gd (bm_bo (nI 0)) (some (.int (nI 0), (bm_up σ (o + 8) x1.toNatClampNeg (bm_min (nI 999) ((σ (o + 8) x1.toNatClampNeg) + (nI 1)))))))) := by
  rcases ho with rfl | rfl | rfl
  all_goals exact bm_blk (cd := bm_c103) rfl [19, 45] 400 45 _ _ _
set_option maxRecDepth 20000 in
theorem bb_104_0 (X : bm_X) (σ : bm_M) (o : Nat) (ho : bm_isH o) : bm_ev X 104 0 [.ref o, .null, .null, .null, .null, .null] [] σ = bm_ev X 104 2 [.ref o, .int (nI 0), .null, .null, .null, .null] [] σ := by
  rcases ho with rfl | rfl | rfl
  all_goals exact bm_blk (cd := bm_c104) rfl [2, 41] 400 0 _ _ _
set_option maxRecDepth 20000 in
theorem bb_104_2 (X : bm_X) (σ : bm_M) (o : Nat) (ho : bm_isH o) (x1 : Int32) (u2 : Value) (u3 : Value) (u4 : Value) (u5 : Value) : bm_ev X 104 2 [.ref o, .int x1, u2, u3, u4, u5] [] σ = bif decide (x1 < (σ o 7)) then bm_bI (bm_ev X 54 0 [.ref o, .int x1, .null, .null] [] σ) (fun v2 t1 => bm_bI (bm_ev X 4 0 [.ref o, .int x1, .null] [] t1) (fun v4 t3 => bif decide (v4 = (-nI 1)) then bm_ev X 104 41 [.ref o, .int x1, .int v2, .int (v2 - ((v2 * (t1 o 4)) / (nI 100))), .int v4, u5] [] t3 else bm_bI (bm_ev X 5 0 [.ref o, .int x1, .int v4] [] t3) (fun v6 t5 => bm_bV (bm_ev X 55 0 [.ref o, .int v6, .int ((v2 - ((v2 * (t1 o 4)) / (nI 100))) / (nI 3))] [] t5) (fun t7 => bm_ev X 104 41 [.ref o, .int x1, .int v2, .int ((v2 - ((v2 * (t1 o 4)) / (nI 100))) - ((v2 - ((v2 * (t1 o 4)) / (nI 100))) / (nI 3))), .int v4, .int ((v2 - ((v2 * (t1 o 4)) / (nI 100))) / (nI 3))] [] t7)))) else some (.null, σ) := by
  rcases ho with rfl | rfl | rfl
  all_goals exact bm_blk (cd := bm_c104) rfl [2, 41] 400 2 _ _ _
set_option maxRecDepth 20000 in
theorem bb_104_41 (X : bm_X) (σ : bm_M) (o : Nat) (ho : bm_isH o) (x1 : Int32) (x3 : Int32) (u2 : Value) (u4 : Value) (u5 : Value) : bm_ev X 104 41 [.ref o, .int x1, u2, .int x3, u4, u5] [] σ = bm_gd (bm_in x1 8) (bm_bV (bm_ev X 55 0 [.ref o, .int (σ (o + 6) x1.toNatClampNeg), .int x3] [] σ) (fun t1 => bm_gd (bm_in x1 8) (bm_ev X 104 2 [.ref o, .int (x1 + nI 1), u2, .int x3, u4, u5] [] (bm_up t1 (o + 9) x1.toNatClampNeg (nI 0))))) := by
  rcases ho with rfl | rfl | rfl
  all_goals exact bm_blk (cd := bm_c104) rfl [2, 41] 400 41 _ _ _
set_option maxRecDepth 20000 in
theorem bb_105_0 (X : bm_X) (σ : bm_M) (p0 : Int32) : bm_ev X 105 0 [.ref 34, .int p0] [] σ = bm_bV (bm_ev X 56 0 [.ref 34] [] σ) (fun t1 => bif decide ((t1 34 2) = (nI 2)) then bif decide (p0 < (t1 34 5)) then bm_gd (bm_bo (nI 0)) (some (.int (nI 0), t1)) else bm_gd (bm_bo (nI 1)) (some (.int (nI 1), t1)) else bm_gd (bm_bo (nI 0)) (some (.int (nI 0), t1))) := bm_blk (cd := bm_c105) rfl [] 400 0 _ _ _
set_option maxRecDepth 20000 in
theorem bb_106_0 (X : bm_X) (σ : bm_M) (p0 : Int32) (p1 : Int32) : bm_ev X 106 0 [.ref 0, .int p0, .int p1, .null] [] σ = bm_bI (bm_ev X 65 0 [.int p0] [] σ) (fun v2 t1 => bif decide (v2 = 0) then bm_bI (bm_ev X 23 0 [.ref 0, .int (nI 0)] [] t1) (fun v4 t3 => some (.int v4, t3)) else bm_bI (bm_ev X 24 0 [.int p1, .int (nI 99)] [] t1) (fun v6 t5 => bif decide (v6 = 0) then bm_bI (bm_ev X 23 0 [.ref 0, .int (nI 0)] [] t5) (fun v8 t7 => some (.int v8, t7)) else bm_gd (bm_in p0 12) (bm_gd (bm_in p0 12) (some (.int (t5 2 p0.toNatClampNeg), (bm_up t5 2 p0.toNatClampNeg p1)))))) := bm_blk (cd := bm_c106) rfl [] 400 0 _ _ _
set_option maxRecDepth 20000 in
theorem bb_107_0 (X : bm_X) (σ : bm_M) (p0 : Int32) (p1 : Int32) : bm_ev X 107 0 [.ref 0, .int p0, .int p1] [] σ = bm_bI (bm_ev X 65 0 [.int p0] [] σ) (fun v2 t1 => bif decide (v2 = 0) then bm_bI (bm_ev X 23 0 [.ref 0, .int (nI 0)] [] t1) (fun v4 t3 => some (.int v4, t3)) else bm_bI (bm_ev X 24 0 [.int p1, .int (nI 1)] [] t1) (fun v6 t5 => bif decide (v6 = 0) then bm_bI (bm_ev X 23 0 [.ref 0, .int (nI 0)] [] t5) (fun v10 t9 => some (.int v10, t9)) else bif decide (p1 = 0) then bm_gd (bm_in p0 12) (some (.int (t5 2 p0.toNatClampNeg), t5)) else bm_bI (bm_ev X 11 0 [.ref 1, .int p0, .null, .null] [] t5) (fun v8 t7 => some (.int v8, t7)))) := bm_blk (cd := bm_c107) rfl [] 400 0 _ _ _
set_option maxRecDepth 20000 in
theorem bb_108_0 (X : bm_X) (σ : bm_M) (p0 : Int32) : bm_ev X 108 0 [.ref 0, .int p0] [] σ = bm_bI (bm_ev X 66 0 [.int p0] [] σ) (fun v2 t1 => bif decide (v2 = 0) then bm_bI (bm_ev X 23 0 [.ref 0, .int (nI 0)] [] t1) (fun v4 t3 => some (.int v4, t3)) else bm_gd (bm_in p0 12) (some (.int (t1 3 p0.toNatClampNeg), t1))) := bm_blk (cd := bm_c108) rfl [] 400 0 _ _ _
set_option maxRecDepth 20000 in
theorem bb_109_0 (X : bm_X) (σ : bm_M) (p0 : Int32) : bm_ev X 109 0 [.ref 0, .int p0, .null] [] σ = bm_bI (bm_ev X 66 0 [.int p0] [] σ) (fun v2 t1 => bif decide (v2 = 0) then bm_bI (bm_ev X 23 0 [.ref 0, .int (nI 0)] [] t1) (fun v4 t3 => some (.int v4, t3)) else bm_gd (bm_in p0 12) (bm_gd (bm_in p0 12) (some (.int (t1 3 p0.toNatClampNeg), (bm_up t1 3 p0.toNatClampNeg (nI 0)))))) := bm_blk (cd := bm_c109) rfl [] 400 0 _ _ _
set_option maxRecDepth 20000 in
theorem bb_110_0 (X : bm_X) (σ : bm_M) (p0 : Int32) (p1 : Int32) : bm_ev X 110 0 [.ref 0, .int p0, .int p1] [] σ = bm_bI (bm_ev X 67 0 [.int p0] [] σ) (fun v2 t1 => bif decide (v2 = 0) then bm_bI (bm_ev X 23 0 [.ref 0, .int (nI 0)] [] t1) (fun v4 t3 => some (.int v4, t3)) else bm_bI (bm_ev X 65 0 [.int p1] [] t1) (fun v6 t5 => bif decide (v6 = 0) then bm_bI (bm_ev X 23 0 [.ref 0, .int (nI 0)] [] t5) (fun v12 t11 => some (.int v12, t11)) else bif decide ((t5 1 7) < (nI 8)) then bm_bI (bm_ev X 0 0 [.ref 1, .int p0, .int p1, .null] [] t5) (fun v8 t7 => some (.int v8, t7)) else bm_bI (bm_ev X 23 0 [.ref 0, .int (nI 1)] [] t5) (fun v10 t9 => some (.int v10, t9)))) := bm_blk (cd := bm_c110) rfl [] 400 0 _ _ _
set_option maxRecDepth 20000 in
theorem bb_111_0 (X : bm_X) (σ : bm_M) (p0 : Int32) (p1 : Int32) : bm_ev X 111 0 [.ref 0, .int p0, .int p1] [] σ = bm_bI (bm_ev X 25 0 [.ref 0, .int p0] [] σ) (fun v2 t1 => bif decide (v2 = 0) then bm_bI (bm_ev X 23 0 [.ref 0, .int (nI 0)] [] t1) (fun v4 t3 => some (.int v4, t3)) else bm_bI (bm_ev X 24 0 [.int p1, .int (nI 10)] [] t1) (fun v6 t5 => bif decide (v6 = 0) then bm_bI (bm_ev X 23 0 [.ref 0, .int (nI 0)] [] t5) (fun v18 t17 => some (.int v18, t17)) else bif decide (p1 = nI 7) then bm_bI (bm_ev X 53 0 [.ref 1, .int p0, .null] [] t5) (fun v8 t7 => some (.int v8, t7)) else bif decide (p1 = nI 8) then bm_bI (bm_ev X 3 0 [.ref 1, .int p0] [] t5) (fun v10 t9 => some (.int v10, t9)) else bif decide (p1 = nI 9) then bm_bI (bm_ev X 54 0 [.ref 1, .int p0, .null, .null] [] t5) (fun v12 t11 => some (.int v12, t11)) else bif decide (p1 = nI 10) then bm_bI (bm_ev X 4 0 [.ref 1, .int p0, .null] [] t5) (fun v14 t13 => some (.int v14, t13)) else bm_bA (bm_ev X 1 0 [.ref 1, .int p1] [] t5) (fun v16 t15 => bm_gd (bm_in p0 (bm_al v16)) (some (.int (t15 v16 p0.toNatClampNeg), t15))))) := bm_blk (cd := bm_c111) rfl [] 400 0 _ _ _
set_option maxRecDepth 20000 in
theorem bb_112_0 (X : bm_X) (σ : bm_M) (p0 : Int32) : bm_ev X 112 0 [.ref 0, .int p0, .null, .null] [] σ = bm_bI (bm_ev X 66 0 [.int p0] [] σ) (fun v2 t1 => bif decide (v2 = 0) then bm_bI (bm_ev X 23 0 [.ref 0, .int (nI 0)] [] t1) (fun v4 t3 => some (.int v4, t3)) else bm_ev X 112 9 [.ref 0, .int p0, .int (nI 0), .null] [] t1) := bm_blk (cd := bm_c112) rfl [9, 18] 400 0 _ _ _
set_option maxRecDepth 20000 in
theorem bb_112_9 (X : bm_X) (σ : bm_M) (x1 : Int32) (x2 : Int32) (u3 : Value) : bm_ev X 112 9 [.ref 0, .int x1, .int x2, u3] [] σ = bif decide (x2 < (σ 1 7)) then bm_ev X 112 18 [.ref 0, .int x1, .int x2, .int (x2 + (nI 1))] [] σ else bm_bI (bm_ev X 23 0 [.ref 0, .int (nI 3)] [] σ) (fun v2 t1 => some (.int v2, t1)) := bm_blk (cd := bm_c112) rfl [9, 18] 400 9 _ _ _
set_option maxRecDepth 20000 in
theorem bb_112_18 (X : bm_X) (σ : bm_M) (x1 : Int32) (x2 : Int32) (x3 : Int32) : bm_ev X 112 18 [.ref 0, .int x1, .int x2, .int x3] [] σ = bif decide (x3 < (σ 1 7)) then bm_gd (bm_in x2 8) (bm_gd (bm_in x3 8) (bif decide ((σ 7 x2.toNatClampNeg) = (σ 7 x3.toNatClampNeg)) then bm_ev X 112 18 [.ref 0, .int x1, .int x2, .int (x3 + nI 1)] [] σ else bm_bI (bm_ev X 5 0 [.ref 1, .int x2, .int x3] [] σ) (fun v2 t1 => bif decide (v2 = x1) then some (.int (((nI 8) * x2) + x3), t1) else bm_ev X 112 18 [.ref 0, .int x1, .int x2, .int (x3 + nI 1)] [] t1))) else bm_ev X 112 9 [.ref 0, .int x1, .int (x2 + nI 1), .int x3] [] σ := bm_blk (cd := bm_c112) rfl [9, 18] 400 18 _ _ _
set_option maxRecDepth 20000 in
theorem bb_113_0 (X : bm_X) (σ : bm_M) (p0 : Int32) (p1 : Int32) : bm_ev X 113 0 [.ref 0, .int p0, .int p1, .null] [] σ = bm_bI (bm_ev X 24 0 [.int p0, .int (nI 9)] [] σ) (fun v2 t1 => bif decide (v2 = 0) then bm_bI (bm_ev X 23 0 [.ref 0, .int (nI 0)] [] t1) (fun v4 t3 => some (.int v4, t3)) else bm_bI (bm_ev X 67 0 [.int p1] [] t1) (fun v6 t5 => bif decide (v6 = 0) then bm_bI (bm_ev X 23 0 [.ref 0, .int (nI 0)] [] t5) (fun v14 t13 => some (.int v14, t13)) else bm_gd (bm_in p0 10) (bif decide ((t5 4 p0.toNatClampNeg) = (-nI 1)) then bm_bI (bm_ev X 23 0 [.ref 0, .int (nI 5)] [] t5) (fun v12 t11 => some (.int v12, t11)) else bm_gd (bm_in (t5 4 p0.toNatClampNeg) 8) (bm_bI (bm_ev X 26 0 [.int (t5 5 (t5 4 p0.toNatClampNeg).toNatClampNeg), .int p1, .null, .null] [] t5) (fun v8 t7 => bif decide (v8 = 0) then bm_bI (bm_ev X 23 0 [.ref 0, .int (nI 2)] [] t7) (fun v10 t9 => some (.int v10, t9)) else some (.int (t5 4 p0.toNatClampNeg), t7)))))) := bm_blk (cd := bm_c113) rfl [] 400 0 _ _ _
set_option maxRecDepth 20000 in
theorem bb_114_0 (X : bm_X) (σ : bm_M) (p0 : Int32) (p1 : Int32) (p2 : Int32) : bm_ev X 114 0 [.ref 0, .int p0, .int p1, .int p2, .null] [] σ = bm_bI (bm_ev X 68 0 [.int p0] [] σ) (fun v2 t1 => bif decide (v2 = 0) then bm_bI (bm_ev X 23 0 [.ref 0, .int (nI 0)] [] t1) (fun v4 t3 => some (.int v4, t3)) else bif decide (p1 = 0) then bm_ev X 114 18 [.ref 0, .int p0, .int p1, .int p2, .null] [] t1 else bif decide (p1 = (nI 8)) then bm_ev X 114 18 [.ref 0, .int p0, .int p1, .int p2, .null] [] t1 else bif decide (p1 = (nI 16)) then bm_ev X 114 18 [.ref 0, .int p0, .int p1, .int p2, .null] [] t1 else bif decide (p1 = (nI 32)) then bm_ev X 114 18 [.ref 0, .int p0, .int p1, .int p2, .null] [] t1 else bm_bI (bm_ev X 23 0 [.ref 0, .int (nI 0)] [] t1) (fun v6 t5 => some (.int v6, t5))) := bm_blk (cd := bm_c114) rfl [18, 44, 47] 400 0 _ _ _
set_option maxRecDepth 20000 in
theorem bb_114_18 (X : bm_X) (σ : bm_M) (x1 : Int32) (x2 : Int32) (x3 : Int32) (u4 : Value) : bm_ev X 114 18 [.ref 0, .int x1, .int x2, .int x3, u4] [] σ = bif decide (x3 < 0) then bm_bI (bm_ev X 23 0 [.ref 0, .int (nI 6)] [] σ) (fun v4 t3 => some (.int v4, t3)) else bif decide ((nI 40) < x3) then bm_bI (bm_ev X 23 0 [.ref 0, .int (nI 0)] [] σ) (fun v2 t1 => some (.int v2, t1)) else bm_gd (bm_in x1 4) (bif decide (x2 = 0) then bm_ev X 114 44 [.ref 0, .int x1, .int x2, .int x3, u4] [.int (nI 0), .int x1, .ref 41] (bm_up σ 42 x1.toNatClampNeg x2) else bm_ev X 114 44 [.ref 0, .int x1, .int x2, .int x3, u4] [.int x3, .int x1, .ref 41] (bm_up σ 42 x1.toNatClampNeg x2)) := bm_blk (cd := bm_c114) rfl [18, 44, 47] 400 18 _ _ _
set_option maxRecDepth 20000 in
theorem bb_114_44 (X : bm_X) (σ : bm_M) (x1 : Int32) (y0 : Int32) (y1 : Int32) (u2 : Value) (u3 : Value) (u4 : Value) : bm_ev X 114 44 [.ref 0, .int x1, u2, u3, u4] [.int y0, .int y1, .ref 41] σ = bm_gd (bm_in y1 4) (bm_ev X 114 47 [.ref 0, .int x1, u2, u3, .int (nI 0)] [] (bm_up σ 41 y1.toNatClampNeg y0)) := bm_blk (cd := bm_c114) rfl [18, 44, 47] 400 44 _ _ _
set_option maxRecDepth 20000 in
theorem bb_114_47 (X : bm_X) (σ : bm_M) (x1 : Int32) (x4 : Int32) (u2 : Value) (u3 : Value) : bm_ev X 114 47 [.ref 0, .int x1, u2, u3, .int x4] [] σ = bif decide (x4 < (nI 40)) then bm_gd (bm_in x1 4) (bm_gd (bm_in x4 (bm_al (37 + x1.toNatClampNeg))) (bm_ev X 114 47 [.ref 0, .int x1, u2, u3, .int (x4 + nI 1)] [] (bm_up σ (37 + x1.toNatClampNeg) x4.toNatClampNeg (nI 0)))) else bm_gd (bm_in x1 4) (some (.int (σ 41 x1.toNatClampNeg), σ)) := bm_blk (cd := bm_c114) rfl [18, 44, 47] 400 47 _ _ _
set_option maxRecDepth 20000 in
theorem bb_115_0 (X : bm_X) (σ : bm_M) (p0 : Int32) (p1 : Int32) (p2 : Int32) : bm_ev X 115 0 [.ref 0, .int p0, .int p1, .int p2] [] σ = bm_bI (bm_ev X 68 0 [.int p0] [] σ) (fun v2 t1 => bif decide (v2 = 0) then bm_bI (bm_ev X 23 0 [.ref 0, .int (nI 0)] [] t1) (fun v12 t11 => some (.int v12, t11)) else bm_gd (bm_in p0 4) (bif decide ((t1 42 p0.toNatClampNeg) = 0) then bm_bI (bm_ev X 23 0 [.ref 0, .int (nI 5)] [] t1) (fun v10 t9 => some (.int v10, t9)) else bif decide (p1 < 0) then bm_bI (bm_ev X 23 0 [.ref 0, .int (nI 0)] [] t1) (fun v4 t3 => some (.int v4, t3)) else bm_gd (bm_in p0 4) (bif decide (p1 < (t1 41 p0.toNatClampNeg)) then bm_gd (bm_in p0 4) (bm_gd (bm_in p0 4) (bm_bI (bm_ev X 28 0 [.int p2, .int (t1 42 p0.toNatClampNeg)] [] t1) (fun v6 t5 => bm_gd (bm_in p1 (bm_al (37 + p0.toNatClampNeg))) (some (.int (nI 1), (bm_up t5 (37 + p0.toNatClampNeg) p1.toNatClampNeg v6)))))) else bm_bI (bm_ev X 23 0 [.ref 0, .int (nI 0)] [] t1) (fun v8 t7 => some (.int v8, t7))))) := bm_blk (cd := bm_c115) rfl [] 400 0 _ _ _
set_option maxRecDepth 20000 in
theorem bb_116_0 (X : bm_X) (σ : bm_M) (p0 : Int32) (p1 : Int32) (p2 : Int32) (p3 : Int32) (p4 : Int32) : bm_ev X 116 0 [.ref 0, .int p0, .int p1, .int p2, .int p3, .int p4] [] σ = bm_bI (bm_ev X 68 0 [.int p0] [] σ) (fun v2 t1 => bif decide (v2 = 0) then bm_bI (bm_ev X 23 0 [.ref 0, .int (nI 0)] [] t1) (fun v4 t3 => some (.int v4, t3)) else bm_bI (bm_ev X 68 0 [.int p2] [] t1) (fun v6 t5 => bif decide (v6 = 0) then bm_bI (bm_ev X 23 0 [.ref 0, .int (nI 0)] [] t5) (fun v22 t21 => some (.int v22, t21)) else bm_gd (bm_in p0 4) (bif decide ((t5 42 p0.toNatClampNeg) = 0) then bm_bI (bm_ev X 23 0 [.ref 0, .int (nI 5)] [] t5) (fun v8 t7 => some (.int v8, t7)) else bm_gd (bm_in p2 4) (bif decide ((t5 42 p2.toNatClampNeg) = 0) then bm_bI (bm_ev X 23 0 [.ref 0, .int (nI 5)] [] t5) (fun v20 t19 => some (.int v20, t19)) else bm_gd (bm_in p0 4) (bm_gd (bm_in p2 4) (bif decide ((t5 42 p0.toNatClampNeg) = (t5 42 p2.toNatClampNeg)) then bm_bI (bm_ev X 27 0 [.ref 0, .int p0, .int p1, .int p4] [] t5) (fun v10 t9 => bif decide (v10 = 0) then bm_bI (bm_ev X 23 0 [.ref 0, .int (nI 0)] [] t9) (fun v12 t11 => some (.int v12, t11)) else bm_bI (bm_ev X 27 0 [.ref 0, .int p2, .int p3, .int p4] [] t9) (fun v14 t13 => bif decide (v14 = 0) then bm_bI (bm_ev X 23 0 [.ref 0, .int (nI 0)] [] t13) (fun v16 t15 => some (.int v16, t15)) else bm_gd (bm_in p0 4) (bm_gd (bm_in p2 4) (bm_gd (bm_ac p1 p3 p4 (bm_al (37 + p0.toNatClampNeg)) (bm_al (37 + p2.toNatClampNeg))) (some (.int p4, (bm_cp t13 (37 + p0.toNatClampNeg) (37 + p2.toNatClampNeg) p1.toNatClampNeg p3.toNatClampNeg p4.toNatClampNeg))))))) else bm_bI (bm_ev X 23 0 [.ref 0, .int (nI 2)] [] t5) (fun v18 t17 => some (.int v18, t17)))))))) := bm_blk (cd := bm_c116) rfl [] 400 0 _ _ _
set_option maxRecDepth 20000 in
theorem bb_117_0 (X : bm_X) (σ : bm_M) (p0 : Int32) : bm_ev X 117 0 [.ref 0, .int p0, .null, .null] [] σ = bm_bI (bm_ev X 68 0 [.int p0] [] σ) (fun v2 t1 => bif decide (v2 = 0) then bm_bI (bm_ev X 23 0 [.ref 0, .int (nI 0)] [] t1) (fun v6 t5 => some (.int v6, t5)) else bm_gd (bm_in p0 4) (bif decide ((t1 42 p0.toNatClampNeg) = 0) then bm_bI (bm_ev X 23 0 [.ref 0, .int (nI 5)] [] t1) (fun v4 t3 => some (.int v4, t3)) else bm_ev X 117 20 [.ref 0, .int p0, .int (nI 0), .int (nI 0)] [] t1)) := bm_blk (cd := bm_c117) rfl [20] 400 0 _ _ _
set_option maxRecDepth 20000 in
theorem bb_117_20 (X : bm_X) (σ : bm_M) (x1 : Int32) (x2 : Int32) (x3 : Int32) : bm_ev X 117 20 [.ref 0, .int x1, .int x2, .int x3] [] σ = bm_gd (bm_in x1 4) (bif decide (x3 < (σ 41 x1.toNatClampNeg)) then bif decide (x3 < (nI 12)) then bm_gd (bm_in x1 4) (bm_gd (bm_in x3 (bm_al (37 + x1.toNatClampNeg))) (bm_bI (bm_ev X 24 0 [.int (σ (37 + x1.toNatClampNeg) x3.toNatClampNeg), .int (nI 99)] [] σ) (fun v2 t1 => bif decide (v2 = 0) then some (.int x2, t1) else bm_gd (bm_in x1 4) (bm_gd (bm_in x3 (bm_al (37 + x1.toNatClampNeg))) (bm_gd (bm_in x3 12) (bm_ev X 117 20 [.ref 0, .int x1, .int (x2 + nI 1), .int (x3 + nI 1)] [] (bm_up t1 2 x3.toNatClampNeg (t1 (37 + x1.toNatClampNeg) x3.toNatClampNeg)))))))) else some (.int x2, σ) else some (.int x2, σ)) := bm_blk (cd := bm_c117) rfl [20] 400 20 _ _ _
set_option maxRecDepth 20000 in
theorem bb_118_0 (X : bm_X) (σ : bm_M) (p0 : Int32) : bm_ev X 118 0 [.ref 0, .int p0, .null] [] σ = bm_bI (bm_ev X 68 0 [.int p0] [] σ) (fun v2 t1 => bif decide (v2 = 0) then bm_bI (bm_ev X 23 0 [.ref 0, .int (nI 0)] [] t1) (fun v6 t5 => some (.int v6, t5)) else bm_gd (bm_in p0 4) (bif decide ((t1 42 p0.toNatClampNeg) = 0) then bm_bI (bm_ev X 23 0 [.ref 0, .int (nI 5)] [] t1) (fun v4 t3 => some (.int v4, t3)) else bm_ev X 118 18 [.ref 0, .int p0, .int (nI 0)] [] t1)) := bm_blk (cd := bm_c118) rfl [18] 400 0 _ _ _
set_option maxRecDepth 20000 in
theorem bb_118_18 (X : bm_X) (σ : bm_M) (x1 : Int32) (x2 : Int32) : bm_ev X 118 18 [.ref 0, .int x1, .int x2] [] σ = bm_gd (bm_in x1 4) (bif decide (x2 < (σ 41 x1.toNatClampNeg)) then bif decide (x2 < (nI 12)) then bm_gd (bm_in x1 4) (bm_gd (bm_in x2 (bm_al (37 + x1.toNatClampNeg))) (bm_gd (bm_in x2 12) (bif decide ((σ (37 + x1.toNatClampNeg) x2.toNatClampNeg) = (σ 3 x2.toNatClampNeg)) then bm_ev X 118 18 [.ref 0, .int x1, .int (x2 + nI 1)] [] σ else some (.int ((nI 1) + x2), σ)))) else some (.int ((nI 1) + x2), σ) else some (.int (nI 0), σ)) := bm_blk (cd := bm_c118) rfl [18] 400 18 _ _ _
set_option maxRecDepth 20000 in
theorem bb_119_0 (X : bm_X) (σ : bm_M) : bm_ev X 119 0 [.ref 0] [] σ = bm_bV (bm_ev X 52 0 [.ref 23, .ref 1] [] σ) (fun t1 => bm_gd (bm_bo (nI 1)) (some (.int (nI 1), (bm_up t1 0 3 (nI 1))))) := bm_blk (cd := bm_c119) rfl [] 400 0 _ _ _
set_option maxRecDepth 20000 in
theorem bb_120_0 (X : bm_X) (σ : bm_M) : bm_ev X 120 0 [.ref 0] [] σ = bif decide ((σ 0 3) = 0) then bm_bI (bm_ev X 23 0 [.ref 0, .int (nI 3)] [] σ) (fun v3 t2 => some (.int v3, t2)) else bm_bV (bm_ev X 52 0 [.ref 1, .ref 23] [] σ) (fun t1 => some (.int (t1 1 5), t1)) := bm_blk (cd := bm_c120) rfl [] 400 0 _ _ _
set_option maxRecDepth 20000 in
theorem bb_121_0 (X : bm_X) (σ : bm_M) : bm_ev X 121 0 [.ref 0] [] σ = bm_bV (bm_ev X 52 0 [.ref 12, .ref 1] [] σ) (fun t1 => some (.null, t1)) := bm_blk (cd := bm_c121) rfl [] 400 0 _ _ _
set_option maxRecDepth 20000 in
theorem bb_140_0 (X : bm_X) (σ : bm_M) (w : Nat) (p1 : Int32) : bm_ev X 140 0 [.ref (w + 20), .int p1] [] σ = bm_gd (bm_sv (w + 20)) (bm_bV (bm_ev X 101 0 [.int p1, .int (nI (bm_rl X (w + 20)))] [] σ) (fun t1 => bm_gd (bm_sv (w + 20) && bm_in p1 (bm_rl X (w + 20))) (bm_gd (bm_ch (((bm_rv X (w + 20) p1.toNatClampNeg) &&& (nI 255)).toUInt32 % 65536).toInt32) (some (.int (((bm_rv X (w + 20) p1.toNatClampNeg) &&& (nI 255)).toUInt32 % 65536).toInt32, t1))))) := bm_blk (cd := bm_c140) rfl [] 400 0 _ _ _
set_option maxRecDepth 20000 in
theorem bb_141_0 (X : bm_X) (σ : bm_M) (o : Nat) (ho : bm_isH o) : bm_ev X 141 0 [.ref o, .null, .null] [] σ = bm_ev X 141 4 [.ref o, .int (nI 0), .int (nI 0)] [] σ := by
  rcases ho with rfl | rfl | rfl
  all_goals exact bm_blk (cd := bm_c141) rfl [4, 18] 400 0 _ _ _
set_option maxRecDepth 20000 in
theorem bb_141_4 (X : bm_X) (σ : bm_M) (o : Nat) (ho : bm_isH o) (x1 : Int32) (x2 : Int32) : bm_ev X 141 4 [.ref o, .int x1, .int x2] [] σ = bif decide (x2 < (σ o 7)) then bm_bI (bm_ev X 103 0 [.ref o, .int x2, .null, .null] [] σ) (fun v2 t1 => bif decide (v2 = 0) then bm_ev X 141 4 [.ref o, .int x1, .int (x2 + nI 1)] [] t1 else bm_ev X 141 4 [.ref o, .int (nI 1), .int (x2 + nI 1)] [] t1) else bm_ev X 141 18 [.ref o, .int x1, .int (nI 0)] [] σ := by
  rcases ho with rfl | rfl | rfl
  all_goals exact bm_blk (cd := bm_c141) rfl [4, 18] 400 4 _ _ _
set_option maxRecDepth 20000 in
theorem bb_141_18 (X : bm_X) (σ : bm_M) (o : Nat) (ho : bm_isH o) (x1 : Int32) (x2 : Int32) : bm_ev X 141 18 [.ref o, .int x1, .int x2] [] σ = bif decide (x2 < (nI 12)) then bm_gd (bm_in x2 12) (bm_gd (bm_in x2 12) (bm_ev X 141 18 [.ref o, .int x1, .int (x2 + nI 1)] [] (bm_up σ (o + 1) x2.toNatClampNeg (bm_min (nI 99) ((σ (o + 1) x2.toNatClampNeg) + (σ o 3)))))) else bif decide ((bm_rem ((bm_up σ o 5 (bm_min (nI 99999) ((σ o 5) + (nI 1)))) o 5) (nI 6)) = 0) then bm_bV (bm_ev X 104 0 [.ref o, .null, .null, .null, .null, .null] [] (bm_up σ o 5 (bm_min (nI 99999) ((σ o 5) + (nI 1))))) (fun t1 => bm_gd (bm_bo x1) (some (.int x1, t1))) else bm_gd (bm_bo x1) (some (.int x1, (bm_up σ o 5 (bm_min (nI 99999) ((σ o 5) + (nI 1)))))) := by
  rcases ho with rfl | rfl | rfl
  all_goals exact bm_blk (cd := bm_c141) rfl [4, 18] 400 18 _ _ _
set_option maxRecDepth 20000 in
theorem bb_142_0 (X : bm_X) (σ : bm_M) : bm_ev X 142 0 [.ref 34, .ref 12, .null] [] σ = bm_bI (bm_ev X 105 0 [.ref 34, .int (nI 11)] [] σ) (fun v2 t1 => bif decide (v2 = 0) then bm_gd (bm_bo (nI 0)) (some (.int (nI 0), t1)) else bm_bI (bm_ev X 105 0 [.ref 34, .int (nI 99)] [] t1) (fun v4 t3 => bif decide (v4 = 0) then bm_gd (bm_bo (nI 0)) (some (.int (nI 0), t3)) else bm_gd (bm_in (t1 34 5) 12) (bm_bV (bm_ev X 56 0 [.ref 34] [] (bm_up t3 13 (t1 34 5).toNatClampNeg (t3 34 5))) (fun t5 => bm_gd (bm_bo (nI 1)) (some (.int (nI 1), t5)))))) := bm_blk (cd := bm_c142) rfl [] 400 0 _ _ _
set_option maxRecDepth 20000 in
theorem bb_143_0 (X : bm_X) (σ : bm_M) : bm_ev X 143 0 [.ref 34, .ref 12] [] σ = bm_bI (bm_ev X 105 0 [.ref 34, .int (nI 20)] [] σ) (fun v2 t1 => bif decide (v2 = 0) then bm_gd (bm_bo (nI 0)) (some (.int (nI 0), t1)) else bm_bV (bm_ev X 56 0 [.ref 34] [] (bm_up t1 12 3 (t1 34 5))) (fun t3 => bm_gd (bm_bo (nI 1)) (some (.int (nI 1), t3)))) := bm_blk (cd := bm_c143) rfl [] 400 0 _ _ _
set_option maxRecDepth 20000 in
theorem bb_144_0 (X : bm_X) (σ : bm_M) : bm_ev X 144 0 [.ref 34, .ref 12] [] σ = bm_bI (bm_ev X 105 0 [.ref 34, .int (nI 99)] [] σ) (fun v2 t1 => bif decide (v2 = 0) then bm_gd (bm_bo (nI 0)) (some (.int (nI 0), t1)) else bm_bV (bm_ev X 56 0 [.ref 34] [] (bm_up t1 12 4 (t1 34 5))) (fun t3 => bm_gd (bm_bo (nI 1)) (some (.int (nI 1), t3)))) := bm_blk (cd := bm_c144) rfl [] 400 0 _ _ _
set_option maxRecDepth 20000 in
theorem bb_152_0 (X : bm_X) (σ : bm_M) (w : Nat) (p0 : Int32) : bm_ev X 152 0 [.ref w, .int p0] [] σ = bm_gd (bm_st w) (bm_bI (bm_ev X 50 0 [.ref w] [] σ) (fun v2 t1 => bif decide (v2 = 0) then bm_gd (bm_st w) (none) else bm_gd (bm_st w) (bm_bI (bm_ev X 140 0 [.ref (w + 20), .int p0] [] t1) (fun v4 t3 => bm_gd (bm_ch v4) (some (.int v4, t3)))))) := bm_blk (cd := bm_c152) rfl [] 400 0 _ _ _
set_option maxRecDepth 20000 in
theorem bb_153_0 (X : bm_X) (σ : bm_M) (o : Nat) (ho : bm_isH o) (p0 : Int32) : bm_ev X 153 0 [.ref o, .int p0, .null] [] σ = bm_ev X 153 2 [.ref o, .int p0, .int (nI 0)] [] σ := by
  rcases ho with rfl | rfl | rfl
  all_goals exact bm_blk (cd := bm_c153) rfl [2] 400 0 _ _ _
set_option maxRecDepth 20000 in
theorem bb_153_2 (X : bm_X) (σ : bm_M) (o : Nat) (ho : bm_isH o) (x1 : Int32) (x2 : Int32) : bm_ev X 153 2 [.ref o, .int x1, .int x2] [] σ = bif decide (x2 < x1) then bm_bI (bm_ev X 141 0 [.ref o, .null, .null] [] σ) (fun v2 t1 => bm_ev X 153 2 [.ref o, .int x1, .int (x2 + nI 1)] [] t1) else some (.null, σ) := by
  rcases ho with rfl | rfl | rfl
  all_goals exact bm_blk (cd := bm_c153) rfl [2] 400 2 _ _ _
set_option maxRecDepth 20000 in
theorem bb_154_0 (X : bm_X) (σ : bm_M) (w : Nat) : bm_ev X 154 0 [.ref 34, .ref w, .null] [] σ = bif decide ((σ 34 2) = (nI 1)) then bm_gd (bm_st w) (bm_bI (bm_ev X 102 0 [.ref w] [] σ) (fun v2 t1 => bif decide (((σ 34 4) - (σ 34 3)) = v2) then bm_ev X 154 16 [.ref 34, .ref w, .int (nI 0)] [] t1 else bm_gd (bm_bo (nI 0)) (some (.int (nI 0), t1)))) else bm_gd (bm_bo (nI 0)) (some (.int (nI 0), σ)) := bm_blk (cd := bm_c154) rfl [16] 400 0 _ _ _
set_option maxRecDepth 20000 in
theorem bb_154_16 (X : bm_X) (σ : bm_M) (w : Nat) (x2 : Int32) : bm_ev X 154 16 [.ref 34, .ref w, .int x2] [] σ = bm_gd (bm_st w) (bm_bI (bm_ev X 102 0 [.ref w] [] σ) (fun v2 t1 => bif decide (x2 < v2) then bm_gd (bm_in ((t1 34 3) + x2) 120) (bm_gd (bm_st w) (bm_bI (bm_ev X 152 0 [.ref w, .int x2] [] t1) (fun v4 t3 => bif decide ((t1 35 ((t1 34 3) + x2).toNatClampNeg) = v4) then bm_ev X 154 16 [.ref 34, .ref w, .int (x2 + nI 1)] [] t3 else bm_gd (bm_bo (nI 0)) (some (.int (nI 0), t3))))) else bm_gd (bm_bo (nI 1)) (some (.int (nI 1), t1)))) := bm_blk (cd := bm_c154) rfl [16] 400 16 _ _ _
set_option maxRecDepth 20000 in
theorem bb_155_0 (X : bm_X) (σ : bm_M) (p0 : Int32) (p1 : Int32) : bm_ev X 155 0 [.ref 0, .int p0, .int p1, .null] [] σ = bm_bI (bm_ev X 66 0 [.int p0] [] σ) (fun v2 t1 => bif decide (v2 = 0) then bm_bI (bm_ev X 23 0 [.ref 0, .int (nI 0)] [] t1) (fun v4 t3 => some (.int v4, t3)) else bm_bI (bm_ev X 24 0 [.int p1, .int (nI 99999)] [] t1) (fun v6 t5 => bif decide (v6 = 0) then bm_bI (bm_ev X 23 0 [.ref 0, .int (nI 0)] [] t5) (fun v9 t8 => some (.int v9, t8)) else bm_bV (bm_ev X 121 0 [.ref 0] [] t5) (fun t7 => bm_ev X 155 15 [.ref 0, .int p0, .int p1, .int (nI 0)] [] t7))) := bm_blk (cd := bm_c155) rfl [15] 400 0 _ _ _
set_option maxRecDepth 20000 in
theorem bb_155_15 (X : bm_X) (σ : bm_M) (x1 : Int32) (x2 : Int32) (x3 : Int32) : bm_ev X 155 15 [.ref 0, .int x1, .int x2, .int x3] [] σ = bif decide ((nI 200) < x3) then bm_bI (bm_ev X 23 0 [.ref 0, .int (nI 3)] [] σ) (fun v2 t1 => some (.int v2, t1)) else bm_gd (bm_in x1 12) (bif decide ((σ 14 x1.toNatClampNeg) < x2) then bm_bI (bm_ev X 141 0 [.ref 12, .null, .null] [] σ) (fun v4 t3 => bm_ev X 155 15 [.ref 0, .int x1, .int x2, .int (x3 + nI 1)] [] t3) else some (.int x3, σ)) := bm_blk (cd := bm_c155) rfl [15] 400 15 _ _ _
set_option maxRecDepth 20000 in
theorem bb_156_0 (X : bm_X) (σ : bm_M) (p0 : Int32) (p1 : Int32) : bm_ev X 156 0 [.ref 0, .int p0, .int p1, .null] [] σ = bm_bI (bm_ev X 25 0 [.ref 0, .int p0] [] σ) (fun v2 t1 => bif decide (v2 = 0) then bm_bI (bm_ev X 23 0 [.ref 0, .int (nI 0)] [] t1) (fun v4 t3 => some (.int v4, t3)) else bm_bI (bm_ev X 25 0 [.ref 0, .int p1] [] t1) (fun v6 t5 => bif decide (v6 = 0) then bm_bI (bm_ev X 23 0 [.ref 0, .int (nI 0)] [] t5) (fun v8 t7 => some (.int v8, t7)) else bif decide (p0 = p1) then bm_bI (bm_ev X 23 0 [.ref 0, .int (nI 0)] [] t5) (fun v11 t10 => some (.int v11, t10)) else bm_bV (bm_ev X 121 0 [.ref 0] [] t5) (fun t9 => bm_ev X 156 19 [.ref 0, .int p0, .int p1, .int (nI 0)] [] t9))) := bm_blk (cd := bm_c156) rfl [19] 400 0 _ _ _
set_option maxRecDepth 20000 in
theorem bb_156_19 (X : bm_X) (σ : bm_M) (x1 : Int32) (x2 : Int32) (x3 : Int32) : bm_ev X 156 19 [.ref 0, .int x1, .int x2, .int x3] [] σ = bif decide ((nI 200) < x3) then bm_bI (bm_ev X 23 0 [.ref 0, .int (nI 3)] [] σ) (fun v2 t1 => some (.int v2, t1)) else bm_gd (bm_in x1 8) (bm_gd (bm_in x2 8) (bif decide ((σ 17 x1.toNatClampNeg) = (σ 17 x2.toNatClampNeg)) then some (.int x3, σ) else bm_bI (bm_ev X 141 0 [.ref 12, .null, .null] [] σ) (fun v4 t3 => bm_ev X 156 19 [.ref 0, .int x1, .int x2, .int (x3 + nI 1)] [] t3))) := bm_blk (cd := bm_c156) rfl [19] 400 19 _ _ _
set_option maxRecDepth 20000 in
theorem bb_157_0 (X : bm_X) (σ : bm_M) : bm_ev X 157 0 [.ref 0, .null] [] σ = bm_bV (bm_ev X 121 0 [.ref 0] [] σ) (fun t1 => bm_ev X 157 4 [.ref 0, .int (nI 0)] [] t1) := bm_blk (cd := bm_c157) rfl [4] 400 0 _ _ _
set_option maxRecDepth 20000 in
theorem bb_157_4 (X : bm_X) (σ : bm_M) (x1 : Int32) : bm_ev X 157 4 [.ref 0, .int x1] [] σ = bif decide ((nI 100) < x1) then bm_bI (bm_ev X 23 0 [.ref 0, .int (nI 3)] [] σ) (fun v2 t1 => some (.int v2, t1)) else bm_bI (bm_ev X 15 0 [.ref 12, .null] [] σ) (fun v4 t3 => bif decide (v4 = 0) then bm_bI (bm_ev X 141 0 [.ref 12, .null, .null] [] t3) (fun v6 t5 => bm_ev X 157 4 [.ref 0, .int (x1 + nI 1)] [] t5) else some (.int x1, t3)) := bm_blk (cd := bm_c157) rfl [4] 400 4 _ _ _
set_option maxRecDepth 20000 in
theorem bb_158_0 (X : bm_X) (σ : bm_M) (p0 : Int32) : bm_ev X 158 0 [.ref 0, .int p0, .null, .null] [] σ = bif decide (p0 < (nI 1)) then bm_bI (bm_ev X 23 0 [.ref 0, .int (nI 0)] [] σ) (fun v2 t1 => some (.int v2, t1)) else bif decide ((nI 20) < p0) then bm_bI (bm_ev X 23 0 [.ref 0, .int (nI 0)] [] σ) (fun v6 t5 => some (.int v6, t5)) else bif decide ((nI 99999) < ((σ 1 5) + p0)) then bm_bI (bm_ev X 23 0 [.ref 0, .int (nI 4)] [] σ) (fun v4 t3 => some (.int v4, t3)) else bm_ev X 158 23 [.ref 0, .int p0, .int (nI 0), .null] [] σ := bm_blk (cd := bm_c158) rfl [23, 49] 400 0 _ _ _
set_option maxRecDepth 20000 in
theorem bb_158_23 (X : bm_X) (σ : bm_M) (x1 : Int32) (x2 : Int32) (u3 : Value) : bm_ev X 158 23 [.ref 0, .int x1, .int x2, u3] [] σ = bif decide (x2 < x1) then bm_bI (bm_ev X 7 0 [.ref 1] [] σ) (fun v4 t3 => bm_bI (bm_ev X 7 0 [.ref 1] [] (bm_up t3 1 4 (bm_rem v4 (nI 100)))) (fun v6 t5 => bif decide ((bm_rem v6 (nI 8)) < (t5 1 7)) then bm_bV (bm_ev X 6 0 [.ref 1, .int (bm_rem v6 (nI 8))] [] t5) (fun t7 => bm_ev X 158 49 [.ref 0, .int x1, .int x2, .int (bm_rem v6 (nI 8))] [] t7) else bm_ev X 158 49 [.ref 0, .int x1, .int x2, .int (bm_rem v6 (nI 8))] [] t5)) else bm_bI (bm_ev X 8 0 [.ref 1, .null, .null] [] σ) (fun v2 t1 => some (.int v2, t1)) := bm_blk (cd := bm_c158) rfl [23, 49] 400 23 _ _ _
set_option maxRecDepth 20000 in
theorem bb_158_49 (X : bm_X) (σ : bm_M) (x1 : Int32) (x2 : Int32) (u3 : Value) : bm_ev X 158 49 [.ref 0, .int x1, .int x2, u3] [] σ = bm_bI (bm_ev X 141 0 [.ref 1, .null, .null] [] σ) (fun v2 t1 => bm_ev X 158 23 [.ref 0, .int x1, .int (x2 + nI 1), u3] [] t1) := bm_blk (cd := bm_c158) rfl [23, 49] 400 49 _ _ _
set_option maxRecDepth 20000 in
theorem bb_159_0 (X : bm_X) (σ : bm_M) (p0 : Int32) (p1 : Int32) : bm_ev X 159 0 [.ref 0, .int p0, .int p1, .null] [] σ = bm_bV (bm_ev X 121 0 [.ref 0] [] σ) (fun t1 => bm_ev X 159 8 [.ref 0, .int p0, .int p1, .int (nI 0)] [] (bm_up t1 12 3 p0)) := bm_blk (cd := bm_c159) rfl [8] 400 0 _ _ _
set_option maxRecDepth 20000 in
theorem bb_159_8 (X : bm_X) (σ : bm_M) (x2 : Int32) (x3 : Int32) (u1 : Value) : bm_ev X 159 8 [.ref 0, u1, .int x2, .int x3] [] σ = bif decide (x3 < x2) then bm_bI (bm_ev X 141 0 [.ref 12, .null, .null] [] σ) (fun v2 t1 => bif decide (v2 = 0) then bm_ev X 159 8 [.ref 0, u1, .int x2, .int (x3 + nI 1)] [] t1 else bm_gd (bm_bo (nI 0)) (some (.int (nI 0), t1))) else bm_gd (bm_bo (nI 1)) (some (.int (nI 1), σ)) := bm_blk (cd := bm_c159) rfl [8] 400 8 _ _ _
set_option maxRecDepth 20000 in
theorem bb_163_0 (X : bm_X) (σ : bm_M) (r : Nat) (w : Nat) (p2 : Int32) (p3 : Int32) : bm_ev X 163 0 [.ref 34, .ref w, .ref r, .int p2, .int p3] [] σ = bm_bI (bm_ev X 154 0 [.ref 34, .ref w, .null] [] σ) (fun v2 t1 => bif decide (v2 = 0) then bm_gd (bm_bo (nI 1)) (some (.int (nI 1), t1)) else bm_bI (bm_ev X 105 0 [.ref 34, .int p3] [] t1) (fun v4 t3 => bif decide (v4 = 0) then bm_gd (bm_bo (nI 0)) (some (.int (nI 0), t3)) else bm_gd (bm_in p2 (bm_al r)) (bm_bV (bm_ev X 56 0 [.ref 34] [] (bm_up t3 r p2.toNatClampNeg (t3 34 5))) (fun t5 => bm_gd (bm_bo (nI 1)) (some (.int (nI 1), t5)))))) := bm_blk (cd := bm_c163) rfl [] 400 0 _ _ _
set_option maxRecDepth 20000 in
theorem bb_164_0 (X : bm_X) (σ : bm_M) : bm_ev X 164 0 [.ref 34] [] σ = bm_bI (bm_ev X 154 0 [.ref 34, .ref 60, .null] [] σ) (fun v2 t1 => bif decide (v2 = 0) then bm_bI (bm_ev X 154 0 [.ref 34, .ref 61, .null] [] t1) (fun v4 t3 => bif decide (v4 = 0) then bm_bI (bm_ev X 154 0 [.ref 34, .ref 62, .null] [] t3) (fun v6 t5 => bif decide (v6 = 0) then bm_bI (bm_ev X 154 0 [.ref 34, .ref 63, .null] [] t5) (fun v8 t7 => bif decide (v8 = 0) then bm_bI (bm_ev X 154 0 [.ref 34, .ref 64, .null] [] t7) (fun v10 t9 => bif decide (v10 = 0) then bm_bI (bm_ev X 154 0 [.ref 34, .ref 65, .null] [] t9) (fun v12 t11 => bif decide (v12 = 0) then bm_bI (bm_ev X 154 0 [.ref 34, .ref 66, .null] [] t11) (fun v14 t13 => bif decide (v14 = 0) then some (.int (-nI 1), t13) else some (.int (nI 6), t13)) else some (.int (nI 5), t11)) else some (.int (nI 4), t9)) else some (.int (nI 3), t7)) else some (.int (nI 2), t5)) else some (.int (nI 1), t3)) else some (.int (nI 0), t1)) := bm_blk (cd := bm_c164) rfl [] 400 0 _ _ _
set_option maxRecDepth 20000 in
theorem bb_165_0 (X : bm_X) (σ : bm_M) (p0 : Int32) : bm_ev X 165 0 [.ref 0, .int p0] [] σ = bif decide (p0 < (nI 1)) then bm_bI (bm_ev X 23 0 [.ref 0, .int (nI 0)] [] σ) (fun v2 t1 => some (.int v2, t1)) else bif decide ((nI 60) < p0) then bm_bI (bm_ev X 23 0 [.ref 0, .int (nI 0)] [] σ) (fun v9 t8 => some (.int v9, t8)) else bif decide ((nI 99999) < ((σ 1 5) + p0)) then bm_bI (bm_ev X 23 0 [.ref 0, .int (nI 4)] [] σ) (fun v7 t6 => some (.int v7, t6)) else bm_bV (bm_ev X 153 0 [.ref 1, .int p0, .null] [] σ) (fun t3 => bm_bI (bm_ev X 8 0 [.ref 1, .null, .null] [] t3) (fun v5 t4 => some (.int v5, t4))) := bm_blk (cd := bm_c165) rfl [] 400 0 _ _ _
set_option maxRecDepth 20000 in
theorem bb_166_0 (X : bm_X) (σ : bm_M) (p0 : Int32) (p1 : Int32) : bm_ev X 166 0 [.ref 0, .int p0, .int p1] [] σ = bm_bI (bm_ev X 66 0 [.int p0] [] σ) (fun v2 t1 => bif decide (v2 = 0) then bm_bI (bm_ev X 23 0 [.ref 0, .int (nI 0)] [] t1) (fun v4 t3 => some (.int v4, t3)) else bm_bI (bm_ev X 24 0 [.int p1, .int (nI 100)] [] t1) (fun v6 t5 => bif decide (v6 = 0) then bm_bI (bm_ev X 23 0 [.ref 0, .int (nI 0)] [] t5) (fun v10 t9 => some (.int v10, t9)) else bm_bV (bm_ev X 121 0 [.ref 0] [] t5) (fun t7 => bm_bV (bm_ev X 153 0 [.ref 12, .int p1, .null] [] t7) (fun t8 => bm_gd (bm_in p0 12) (some (.int (t8 14 p0.toNatClampNeg), t8)))))) := bm_blk (cd := bm_c166) rfl [] 400 0 _ _ _
set_option maxRecDepth 20000 in
theorem bb_167_0 (X : bm_X) (σ : bm_M) (p0 : Int32) (p1 : Int32) (p2 : Int32) : bm_ev X 167 0 [.ref 0, .int p0, .int p1, .int p2] [] σ = bm_bI (bm_ev X 25 0 [.ref 0, .int p0] [] σ) (fun v2 t1 => bif decide (v2 = 0) then bm_bI (bm_ev X 23 0 [.ref 0, .int (nI 0)] [] t1) (fun v4 t3 => some (.int v4, t3)) else bif decide (p1 = (nI 1)) then bm_ev X 167 10 [.ref 0, .int p0, .int p1, .int p2] [] t1 else bif decide (p1 = (nI 5)) then bm_ev X 167 10 [.ref 0, .int p0, .int p1, .int p2] [] t1 else bm_bI (bm_ev X 23 0 [.ref 0, .int (nI 0)] [] t1) (fun v6 t5 => some (.int v6, t5))) := bm_blk (cd := bm_c167) rfl [10] 400 0 _ _ _
set_option maxRecDepth 20000 in
theorem bb_167_10 (X : bm_X) (σ : bm_M) (x1 : Int32) (x2 : Int32) (x3 : Int32) : bm_ev X 167 10 [.ref 0, .int x1, .int x2, .int x3] [] σ = bm_bI (bm_ev X 24 0 [.int x3, .int (nI 100)] [] σ) (fun v2 t1 => bif decide (v2 = 0) then bm_bI (bm_ev X 23 0 [.ref 0, .int (nI 0)] [] t1) (fun v8 t7 => some (.int v8, t7)) else bm_bV (bm_ev X 121 0 [.ref 0] [] t1) (fun t3 => bm_bV (bm_ev X 153 0 [.ref 12, .int x3, .null] [] t3) (fun t4 => bm_bA (bm_ev X 1 0 [.ref 12, .int x2] [] t4) (fun v6 t5 => bm_gd (bm_in x1 (bm_al v6)) (some (.int (t5 v6 x1.toNatClampNeg), t5)))))) := bm_blk (cd := bm_c167) rfl [10] 400 10 _ _ _
set_option maxRecDepth 20000 in
theorem bb_168_0 (X : bm_X) (σ : bm_M) (p0 : Int32) (p1 : Int32) (p2 : Int32) : bm_ev X 168 0 [.ref 0, .int p0, .int p1, .int p2, .null, .null, .null] [] σ = bm_bI (bm_ev X 25 0 [.ref 0, .int p0] [] σ) (fun v2 t1 => bif decide (v2 = 0) then bm_bI (bm_ev X 23 0 [.ref 0, .int (nI 0)] [] t1) (fun v4 t3 => some (.int v4, t3)) else bm_bI (bm_ev X 66 0 [.int p1] [] t1) (fun v6 t5 => bif decide (v6 = 0) then bm_bI (bm_ev X 23 0 [.ref 0, .int (nI 0)] [] t5) (fun v8 t7 => some (.int v8, t7)) else bm_bI (bm_ev X 24 0 [.int p2, .int (nI 40)] [] t5) (fun v10 t9 => bif decide (v10 = 0) then bm_bI (bm_ev X 23 0 [.ref 0, .int (nI 0)] [] t9) (fun v12 t11 => some (.int v12, t11)) else bm_ev X 168 21 [.ref 0, .int p0, .int p1, .int p2, .int (nI 0), .int (-nI 1), .int (nI 0)] [] t9))) := bm_blk (cd := bm_c168) rfl [21] 400 0 _ _ _
set_option maxRecDepth 20000 in
theorem bb_168_21 (X : bm_X) (σ : bm_M) (x1 : Int32) (x2 : Int32) (x3 : Int32) (x4 : Int32) (x5 : Int32) (x6 : Int32) : bm_ev X 168 21 [.ref 0, .int x1, .int x2, .int x3, .int x4, .int x5, .int x6] [] σ = bif decide (x6 < (nI 12)) then bm_bV (bm_ev X 121 0 [.ref 0] [] σ) (fun t1 => bm_gd (bm_in x1 8) (bm_bV (bm_ev X 153 0 [.ref 12, .int x3, .null] [] (bm_up t1 18 x1.toNatClampNeg x6)) (fun t2 => bm_gd (bm_in x2 12) (bif decide (x5 < (t2 14 x2.toNatClampNeg)) then bm_gd (bm_in x2 12) (bm_ev X 168 21 [.ref 0, .int x1, .int x2, .int x3, .int x6, .int (t2 14 x2.toNatClampNeg), .int (x6 + nI 1)] [] t2) else bm_ev X 168 21 [.ref 0, .int x1, .int x2, .int x3, .int x4, .int x5, .int (x6 + nI 1)] [] t2)))) else some (.int x4, σ) := bm_blk (cd := bm_c168) rfl [21] 400 21 _ _ _
set_option maxRecDepth 20000 in
theorem bb_169_0 (X : bm_X) (σ : bm_M) (p0 : Int32) (p1 : Int32) (p2 : Int32) : bm_ev X 169 0 [.ref 0, .int p0, .int p1, .int p2, .null] [] σ = bm_bI (bm_ev X 25 0 [.ref 0, .int p0] [] σ) (fun v2 t1 => bif decide (v2 = 0) then bm_bI (bm_ev X 23 0 [.ref 0, .int (nI 0)] [] t1) (fun v4 t3 => some (.int v4, t3)) else bm_bI (bm_ev X 24 0 [.int p1, .int (nI 9999)] [] t1) (fun v6 t5 => bif decide (v6 = 0) then bm_bI (bm_ev X 23 0 [.ref 0, .int (nI 0)] [] t5) (fun v8 t7 => some (.int v8, t7)) else bm_bI (bm_ev X 24 0 [.int p2, .int (nI 40)] [] t5) (fun v10 t9 => bif decide (v10 = 0) then bm_bI (bm_ev X 23 0 [.ref 0, .int (nI 0)] [] t9) (fun v12 t11 => some (.int v12, t11)) else bm_ev X 169 18 [.ref 0, .int p0, .int p1, .int p2, .int (nI 0)] [] t9))) := bm_blk (cd := bm_c169) rfl [18] 400 0 _ _ _
set_option maxRecDepth 20000 in
theorem bb_169_18 (X : bm_X) (σ : bm_M) (x1 : Int32) (x2 : Int32) (x3 : Int32) (x4 : Int32) : bm_ev X 169 18 [.ref 0, .int x1, .int x2, .int x3, .int x4] [] σ = bif decide ((nI 9) < x4) then bm_bI (bm_ev X 23 0 [.ref 0, .int (nI 3)] [] σ) (fun v2 t1 => some (.int v2, t1)) else bm_bV (bm_ev X 121 0 [.ref 0] [] σ) (fun t3 => bm_gd (bm_in x1 8) (bm_bV (bm_ev X 153 0 [.ref 12, .int x3, .null] [] (bm_up t3 19 x1.toNatClampNeg x4)) (fun t4 => bm_gd (bm_in x1 8) (bm_gd (bm_in (t4 18 x1.toNatClampNeg) 12) (bif decide ((t4 14 (t4 18 x1.toNatClampNeg).toNatClampNeg) < x2) then bm_ev X 169 18 [.ref 0, .int x1, .int x2, .int x3, .int (x4 + nI 1)] [] t4 else some (.int x4, t4)))))) := bm_blk (cd := bm_c169) rfl [18] 400 18 _ _ _
set_option maxRecDepth 20000 in
theorem bb_170_0 (X : bm_X) (σ : bm_M) (p0 : Int32) : bm_ev X 170 0 [.ref 0, .int p0, .null] [] σ = bm_bI (bm_ev X 24 0 [.int p0, .int (nI 40)] [] σ) (fun v2 t1 => bif decide (v2 = 0) then bm_bI (bm_ev X 23 0 [.ref 0, .int (nI 0)] [] t1) (fun v4 t3 => some (.int v4, t3)) else bm_ev X 170 10 [.ref 0, .int p0, .int (nI 0)] [] t1) := bm_blk (cd := bm_c170) rfl [10] 400 0 _ _ _
set_option maxRecDepth 20000 in
theorem bb_170_10 (X : bm_X) (σ : bm_M) (x1 : Int32) (x2 : Int32) : bm_ev X 170 10 [.ref 0, .int x1, .int x2] [] σ = bif decide ((nI 20) < x2) then bm_bI (bm_ev X 23 0 [.ref 0, .int (nI 3)] [] σ) (fun v2 t1 => some (.int v2, t1)) else bm_bI (bm_ev X 159 0 [.ref 0, .int x2, .int x1, .null] [] σ) (fun v4 t3 => bif decide (v4 = 0) then bm_ev X 170 10 [.ref 0, .int x1, .int (x2 + nI 1)] [] t3 else some (.int x2, t3)) := bm_blk (cd := bm_c170) rfl [10] 400 10 _ _ _
set_option maxRecDepth 20000 in
theorem bb_171_0 (X : bm_X) (σ : bm_M) (p0 : Int32) (p1 : Int32) (p2 : Int32) : bm_ev X 171 0 [.ref 0, .int p0, .int p1, .int p2, .null, .null, .null, .null] [] σ = bm_ev X 171 6 [.ref 0, .int p0, .int p1, .int p2, .int (nI 0), .int (-nI 1), .int (nI 0), .null] [] σ := bm_blk (cd := bm_c171) rfl [6] 400 0 _ _ _
set_option maxRecDepth 20000 in
theorem bb_171_6 (X : bm_X) (σ : bm_M) (x1 : Int32) (x2 : Int32) (x3 : Int32) (x4 : Int32) (x5 : Int32) (x6 : Int32) (u7 : Value) : bm_ev X 171 6 [.ref 0, .int x1, .int x2, .int x3, .int x4, .int x5, .int x6, u7] [] σ = bm_gd (bm_in x2 (bm_rl X 58)) (bif decide ((bm_rv X 58 x2.toNatClampNeg) < x6) then some (.int x4, σ) else bm_bV (bm_ev X 121 0 [.ref 0] [] σ) (fun t1 => bm_bA (bm_ev X 1 0 [.ref 12, .int x2] [] t1) (fun v3 t2 => bm_gd (bm_in x1 (bm_al v3)) (bm_bV (bm_ev X 153 0 [.ref 12, .int x3, .null] [] (bm_up t2 v3 x1.toNatClampNeg x6)) (fun t4 => bm_bI (bm_ev X 8 0 [.ref 12, .null, .null] [] t4) (fun v6 t5 => bif decide (x5 < v6) then bm_ev X 171 6 [.ref 0, .int x1, .int x2, .int x3, .int x6, .int v6, .int (x6 + nI 1), .int v6] [] t5 else bm_ev X 171 6 [.ref 0, .int x1, .int x2, .int x3, .int x4, .int x5, .int (x6 + nI 1), .int v6] [] t5)))))) := bm_blk (cd := bm_c171) rfl [6] 400 6 _ _ _
set_option maxRecDepth 20000 in
theorem bb_172_0 (X : bm_X) (σ : bm_M) (p0 : Int32) (p1 : Int32) : bm_ev X 172 0 [.ref 0, .int p0, .int p1] [] σ = bm_bV (bm_ev X 121 0 [.ref 0] [] σ) (fun t1 => bm_bV (bm_ev X 153 0 [.ref 12, .int p1, .null] [] (bm_up t1 12 4 p0)) (fun t2 => bm_bI (bm_ev X 8 0 [.ref 12, .null, .null] [] t2) (fun v4 t3 => some (.int v4, t3)))) := bm_blk (cd := bm_c172) rfl [] 400 0 _ _ _
set_option maxRecDepth 20000 in
theorem bb_173_0 (X : bm_X) (σ : bm_M) (p0 : Int32) (p1 : Int32) (p2 : Int32) : bm_ev X 173 0 [.ref 0, .int p0, .int p1, .int p2] [] σ = bm_bV (bm_ev X 121 0 [.ref 0] [] σ) (fun t1 => bm_gd (bm_in p1 12) (bif decide (p0 = (-nI 1)) then bm_ev X 173 17 [.ref 0, .int p0, .int p1, .int p2] [] (bm_up t1 14 p1.toNatClampNeg (nI 0)) else bm_gd (bm_in p0 8) (bm_ev X 173 17 [.ref 0, .int p0, .int p1, .int p2] [] (bm_up (bm_up t1 14 p1.toNatClampNeg (nI 0)) 22 p0.toNatClampNeg (nI 1))))) := bm_blk (cd := bm_c173) rfl [17] 400 0 _ _ _
set_option maxRecDepth 20000 in
theorem bb_173_17 (X : bm_X) (σ : bm_M) (x2 : Int32) (x3 : Int32) (u1 : Value) : bm_ev X 173 17 [.ref 0, u1, .int x2, .int x3] [] σ = bm_bV (bm_ev X 153 0 [.ref 12, .int x3, .null] [] σ) (fun t1 => bm_gd (bm_in x2 12) (some (.int (t1 14 x2.toNatClampNeg), t1))) := bm_blk (cd := bm_c173) rfl [17] 400 17 _ _ _
set_option maxRecDepth 20000 in
theorem bb_174_0 (X : bm_X) (σ : bm_M) (r : Nat) (p0 : Int32) (p2 : Int32) (p3 : Int32) : bm_ev X 174 0 [.ref 0, .int p0, .ref r, .int p2, .int p3, .null, .null] [] σ = bm_ev X 174 2 [.ref 0, .int p0, .ref r, .int p2, .int p3, .int (nI 0), .null] [] σ := bm_blk (cd := bm_c174) rfl [2, 14] 400 0 _ _ _
set_option maxRecDepth 20000 in
theorem bb_174_2 (X : bm_X) (σ : bm_M) (r : Nat) (x1 : Int32) (x3 : Int32) (x4 : Int32) (x5 : Int32) (u6 : Value) : bm_ev X 174 2 [.ref 0, .int x1, .ref r, .int x3, .int x4, .int x5, u6] [] σ = bm_gd (bm_in x1 4) (bif decide (x5 < (σ 41 x1.toNatClampNeg)) then bif decide (0 < x5) then bm_bV (bm_ev X 153 0 [.ref 12, .int x4, .null] [] σ) (fun t1 => bm_ev X 174 14 [.ref 0, .int x1, .ref r, .int x3, .int x4, .int x5, u6] [] t1) else bm_ev X 174 14 [.ref 0, .int x1, .ref r, .int x3, .int x4, .int x5, u6] [] σ else bm_gd (bm_bo (nI 1)) (some (.int (nI 1), σ))) := bm_blk (cd := bm_c174) rfl [2, 14] 400 2 _ _ _
set_option maxRecDepth 20000 in
theorem bb_174_14 (X : bm_X) (σ : bm_M) (r : Nat) (x1 : Int32) (x3 : Int32) (x4 : Int32) (x5 : Int32) (u6 : Value) : bm_ev X 174 14 [.ref 0, .int x1, .ref r, .int x3, .int x4, .int x5, u6] [] σ = bm_gd (bm_in x1 4) (bm_gd (bm_in x5 (bm_al (37 + x1.toNatClampNeg))) (bif decide ((σ (37 + x1.toNatClampNeg) x5.toNatClampNeg) = (-nI 1)) then bm_ev X 174 2 [.ref 0, .int x1, .ref r, .int x3, .int x4, .int (x5 + nI 1), .int (σ (37 + x1.toNatClampNeg) x5.toNatClampNeg)] [] σ else bm_gd (bm_in x3 (bm_al r)) (bif decide ((σ r x3.toNatClampNeg) = (σ (37 + x1.toNatClampNeg) x5.toNatClampNeg)) then bm_ev X 174 2 [.ref 0, .int x1, .ref r, .int x3, .int x4, .int (x5 + nI 1), .int (σ (37 + x1.toNatClampNeg) x5.toNatClampNeg)] [] σ else bm_gd (bm_bo (nI 0)) (some (.int (nI 0), σ))))) := bm_blk (cd := bm_c174) rfl [2, 14] 400 14 _ _ _
set_option maxRecDepth 20000 in
theorem bb_183_0 (X : bm_X) (σ : bm_M) (p1 : Int32) : bm_ev X 183 0 [.ref 34, .ref 12, .int p1, .null] [] σ = bif decide ((σ 12 7) < (nI 8)) then bm_bI (bm_ev X 0 0 [.ref 12, .int p1, .int (nI 0), .null] [] σ) (fun v2 t1 => bm_bV (bm_ev X 56 0 [.ref 34] [] t1) (fun t3 => bm_bI (bm_ev X 163 0 [.ref 34, .ref 67, .ref 17, .int v2, .int (nI 11)] [] t3) (fun v5 t4 => bif decide (v5 = 0) then bm_gd (bm_bo (nI 0)) (some (.int (nI 0), t4)) else bm_bI (bm_ev X 163 0 [.ref 34, .ref 68, .ref 18, .int v2, .int (nI 11)] [] t4) (fun v7 t6 => bif decide (v7 = 0) then bm_gd (bm_bo (nI 0)) (some (.int (nI 0), t6)) else bm_bI (bm_ev X 163 0 [.ref 34, .ref 69, .ref 19, .int v2, .int (nI 9)] [] t6) (fun v9 t8 => bif decide (v9 = 0) then bm_gd (bm_bo (nI 0)) (some (.int (nI 0), t8)) else bm_bI (bm_ev X 154 0 [.ref 34, .ref 70, .null] [] t8) (fun v11 t10 => bif decide (v11 = 0) then bm_gd (bm_bo (nI 1)) (some (.int (nI 1), t10)) else bm_gd (bm_in v2 8) (bm_bV (bm_ev X 56 0 [.ref 34] [] (bm_up t10 22 v2.toNatClampNeg (nI 1))) (fun t12 => bm_gd (bm_bo (nI 1)) (some (.int (nI 1), t12)))))))))) else bm_gd (bm_bo (nI 0)) (some (.int (nI 0), σ)) := bm_blk (cd := bm_c183) rfl [] 400 0 _ _ _
set_option maxRecDepth 20000 in
theorem bb_184_0 (X : bm_X) (σ : bm_M) (p0 : Int32) (p1 : Int32) : bm_ev X 184 0 [.ref 0, .int p0, .int p1] [] σ = bm_bI (bm_ev X 25 0 [.ref 0, .int p0] [] σ) (fun v2 t1 => bif decide (v2 = 0) then bm_bI (bm_ev X 23 0 [.ref 0, .int (nI 0)] [] t1) (fun v4 t3 => some (.int v4, t3)) else bm_bI (bm_ev X 24 0 [.int p1, .int (nI 40)] [] t1) (fun v6 t5 => bif decide (v6 = 0) then bm_bI (bm_ev X 23 0 [.ref 0, .int (nI 0)] [] t5) (fun v10 t9 => some (.int v10, t9)) else bm_bI (bm_ev X 171 0 [.ref 0, .int p0, .int (nI 1), .int p1, .null, .null, .null, .null] [] t5) (fun v8 t7 => some (.int v8, t7)))) := bm_blk (cd := bm_c184) rfl [] 400 0 _ _ _
set_option maxRecDepth 20000 in
theorem bb_185_0 (X : bm_X) (σ : bm_M) (p0 : Int32) (p1 : Int32) : bm_ev X 185 0 [.ref 0, .int p0, .int p1] [] σ = bm_bI (bm_ev X 25 0 [.ref 0, .int p0] [] σ) (fun v2 t1 => bif decide (v2 = 0) then bm_bI (bm_ev X 23 0 [.ref 0, .int (nI 0)] [] t1) (fun v4 t3 => some (.int v4, t3)) else bm_bI (bm_ev X 24 0 [.int p1, .int (nI 40)] [] t1) (fun v6 t5 => bif decide (v6 = 0) then bm_bI (bm_ev X 23 0 [.ref 0, .int (nI 0)] [] t5) (fun v10 t9 => some (.int v10, t9)) else bm_bI (bm_ev X 171 0 [.ref 0, .int p0, .int (nI 0), .int p1, .null, .null, .null, .null] [] t5) (fun v8 t7 => some (.int v8, t7)))) := bm_blk (cd := bm_c185) rfl [] 400 0 _ _ _
set_option maxRecDepth 20000 in
theorem bb_186_0 (X : bm_X) (σ : bm_M) (p0 : Int32) (p1 : Int32) : bm_ev X 186 0 [.ref 0, .int p0, .int p1, .null] [] σ = bm_bI (bm_ev X 24 0 [.int p0, .int (nI 9999)] [] σ) (fun v2 t1 => bif decide (v2 = 0) then bm_bI (bm_ev X 23 0 [.ref 0, .int (nI 0)] [] t1) (fun v4 t3 => some (.int v4, t3)) else bm_bI (bm_ev X 24 0 [.int p1, .int (nI 40)] [] t1) (fun v6 t5 => bif decide (v6 = 0) then bm_bI (bm_ev X 23 0 [.ref 0, .int (nI 0)] [] t5) (fun v8 t7 => some (.int v8, t7)) else bm_ev X 186 14 [.ref 0, .int p0, .int p1, .int (nI 99)] [] t5)) := bm_blk (cd := bm_c186) rfl [14, 31] 400 0 _ _ _
set_option maxRecDepth 20000 in
theorem bb_186_14 (X : bm_X) (σ : bm_M) (x1 : Int32) (x2 : Int32) (x3 : Int32) : bm_ev X 186 14 [.ref 0, .int x1, .int x2, .int x3] [] σ = bif decide (x3 < 0) then bm_bI (bm_ev X 23 0 [.ref 0, .int (nI 3)] [] σ) (fun v2 t1 => some (.int v2, t1)) else bif decide ((bm_rem x3 (nI 10)) = (nI 9)) then bm_bI (bm_ev X 172 0 [.ref 0, .int (x3 - (nI 9)), .int x2] [] σ) (fun v4 t3 => bif decide (v4 < x1) then bm_ev X 186 14 [.ref 0, .int x1, .int x2, .int ((x3 - nI 9) - nI 1)] [] t3 else bm_ev X 186 31 [.ref 0, .int x1, .int x2, .int x3] [] t3) else bm_ev X 186 31 [.ref 0, .int x1, .int x2, .int x3] [] σ := bm_blk (cd := bm_c186) rfl [14, 31] 400 14 _ _ _
set_option maxRecDepth 20000 in
theorem bb_186_31 (X : bm_X) (σ : bm_M) (x1 : Int32) (x2 : Int32) (x3 : Int32) : bm_ev X 186 31 [.ref 0, .int x1, .int x2, .int x3] [] σ = bm_bI (bm_ev X 172 0 [.ref 0, .int x3, .int x2] [] σ) (fun v2 t1 => bif decide (v2 < x1) then bm_ev X 186 14 [.ref 0, .int x1, .int x2, .int (x3 - nI 1)] [] t1 else some (.int x3, t1)) := bm_blk (cd := bm_c186) rfl [14, 31] 400 31 _ _ _
set_option maxRecDepth 20000 in
theorem bb_187_0 (X : bm_X) (σ : bm_M) (p0 : Int32) (p1 : Int32) (p2 : Int32) : bm_ev X 187 0 [.ref 0, .int p0, .int p1, .int p2, .null, .null] [] σ = bm_bI (bm_ev X 66 0 [.int p0] [] σ) (fun v2 t1 => bif decide (v2 = 0) then bm_bI (bm_ev X 23 0 [.ref 0, .int (nI 0)] [] t1) (fun v4 t3 => some (.int v4, t3)) else bm_bI (bm_ev X 24 0 [.int p1, .int (nI 9999)] [] t1) (fun v6 t5 => bif decide (v6 = 0) then bm_bI (bm_ev X 23 0 [.ref 0, .int (nI 0)] [] t5) (fun v8 t7 => some (.int v8, t7)) else bm_bI (bm_ev X 24 0 [.int p2, .int (nI 18)] [] t5) (fun v10 t9 => bif decide (v10 = 0) then bm_bI (bm_ev X 23 0 [.ref 0, .int (nI 0)] [] t9) (fun v14 t13 => some (.int v14, t13)) else bm_bI (bm_ev X 173 0 [.ref 0, .int (-nI 1), .int p0, .int p2] [] t9) (fun v12 t11 => bm_ev X 187 23 [.ref 0, .int p0, .int p1, .int p2, .int v12, .int (nI 0)] [] t11)))) := bm_blk (cd := bm_c187) rfl [23] 400 0 _ _ _
set_option maxRecDepth 20000 in
theorem bb_187_23 (X : bm_X) (σ : bm_M) (x1 : Int32) (x2 : Int32) (x3 : Int32) (x4 : Int32) (x5 : Int32) : bm_ev X 187 23 [.ref 0, .int x1, .int x2, .int x3, .int x4, .int x5] [] σ = bif decide (x5 < (σ 1 7)) then bm_bI (bm_ev X 173 0 [.ref 0, .int x5, .int x1, .int x3] [] σ) (fun v6 t5 => bm_gd (bm_in x5 8) (bm_ev X 187 23 [.ref 0, .int x1, .int x2, .int x3, .int x4, .int (x5 + nI 1)] [] (bm_up t5 44 x5.toNatClampNeg (x4 - v6)))) else bm_gd (bm_in x1 12) (bm_bI (bm_ev X 69 0 [.ref 0, .int (((σ 3 x1.toNatClampNeg) + x4) - x2), .null, .null, .null, .null] [] σ) (fun v2 t1 => bif decide (v2 = (-nI 1)) then bm_bI (bm_ev X 23 0 [.ref 0, .int (nI 3)] [] t1) (fun v4 t3 => some (.int v4, t3)) else some (.int v2, t1))) := bm_blk (cd := bm_c187) rfl [23] 400 23 _ _ _
set_option maxRecDepth 20000 in
theorem bb_188_0 (X : bm_X) (σ : bm_M) (p0 : Int32) (p1 : Int32) : bm_ev X 188 0 [.ref 0, .int p0, .int p1, .null, .null] [] σ = bm_bI (bm_ev X 68 0 [.int p0] [] σ) (fun v2 t1 => bif decide (v2 = 0) then bm_bI (bm_ev X 23 0 [.ref 0, .int (nI 0)] [] t1) (fun v10 t9 => some (.int v10, t9)) else bm_gd (bm_in p0 4) (bif decide ((t1 42 p0.toNatClampNeg) = 0) then bm_bI (bm_ev X 23 0 [.ref 0, .int (nI 5)] [] t1) (fun v8 t7 => some (.int v8, t7)) else bm_bI (bm_ev X 66 0 [.int p1] [] t1) (fun v4 t3 => bif decide (v4 = 0) then bm_bI (bm_ev X 23 0 [.ref 0, .int (nI 0)] [] t3) (fun v6 t5 => some (.int v6, t5)) else bm_ev X 188 27 [.ref 0, .int p0, .int p1, .int (nI 0), .int (nI 0)] [] t3))) := bm_blk (cd := bm_c188) rfl [27] 400 0 _ _ _
set_option maxRecDepth 20000 in
theorem bb_188_27 (X : bm_X) (σ : bm_M) (x1 : Int32) (x2 : Int32) (x3 : Int32) (x4 : Int32) : bm_ev X 188 27 [.ref 0, .int x1, .int x2, .int x3, .int x4] [] σ = bif decide (x4 < (σ 1 7)) then bm_bV (bm_ev X 121 0 [.ref 0] [] σ) (fun t1 => bm_gd (bm_in x4 8) (bm_gd (bm_in x4 8) (bm_bI (bm_ev X 174 0 [.ref 0, .int x1, .ref 14, .int x2, .int (nI 6), .null, .null] [] (bm_up t1 22 x4.toNatClampNeg ((nI 1) - (t1 22 x4.toNatClampNeg)))) (fun v3 t2 => bif decide (v3 = 0) then bm_ev X 188 27 [.ref 0, .int x1, .int x2, .int x3, .int (x4 + nI 1)] [] t2 else bm_ev X 188 27 [.ref 0, .int x1, .int x2, .int (x3 ||| (bm_shl (nI 1) x4)), .int (x4 + nI 1)] [] t2)))) else some (.int x3, σ) := bm_blk (cd := bm_c188) rfl [27] 400 27 _ _ _
set_option maxRecDepth 20000 in
theorem bb_189_0 (X : bm_X) (σ : bm_M) (p0 : Int32) (p1 : Int32) : bm_ev X 189 0 [.ref 0, .int p0, .int p1, .null, .null] [] σ = bm_bI (bm_ev X 68 0 [.int p0] [] σ) (fun v2 t1 => bif decide (v2 = 0) then bm_bI (bm_ev X 23 0 [.ref 0, .int (nI 0)] [] t1) (fun v10 t9 => some (.int v10, t9)) else bm_gd (bm_in p0 4) (bif decide ((t1 42 p0.toNatClampNeg) = 0) then bm_bI (bm_ev X 23 0 [.ref 0, .int (nI 5)] [] t1) (fun v8 t7 => some (.int v8, t7)) else bm_bI (bm_ev X 25 0 [.ref 0, .int p1] [] t1) (fun v4 t3 => bif decide (v4 = 0) then bm_bI (bm_ev X 23 0 [.ref 0, .int (nI 0)] [] t3) (fun v6 t5 => some (.int v6, t5)) else bm_ev X 189 28 [.ref 0, .int p0, .int p1, .int (nI 0), .int (nI 0)] [] t3))) := bm_blk (cd := bm_c189) rfl [28] 400 0 _ _ _
set_option maxRecDepth 20000 in
theorem bb_189_28 (X : bm_X) (σ : bm_M) (x1 : Int32) (x2 : Int32) (x3 : Int32) (x4 : Int32) : bm_ev X 189 28 [.ref 0, .int x1, .int x2, .int x3, .int x4] [] σ = bif decide (x4 < (nI 7)) then bm_bV (bm_ev X 121 0 [.ref 0] [] σ) (fun t1 => bm_gd (bm_in x2 8) (bm_bI (bm_ev X 174 0 [.ref 0, .int x1, .ref 21, .int x2, .int (nI 1), .null, .null] [] (bm_up t1 16 x2.toNatClampNeg x4)) (fun v3 t2 => bif decide (v3 = 0) then bm_ev X 189 28 [.ref 0, .int x1, .int x2, .int x3, .int (x4 + nI 1)] [] t2 else bm_ev X 189 28 [.ref 0, .int x1, .int x2, .int (x3 ||| (bm_shl (nI 1) x4)), .int (x4 + nI 1)] [] t2))) else some (.int x3, σ) := bm_blk (cd := bm_c189) rfl [28] 400 28 _ _ _
set_option maxRecDepth 20000 in
theorem bb_196_0 (X : bm_X) (σ : bm_M) : bm_ev X 196 0 [.ref 34, .ref 12, .null] [] σ = bm_bI (bm_ev X 164 0 [.ref 34] [] σ) (fun v2 t1 => bif decide (v2 = (-nI 1)) then bm_bI (bm_ev X 154 0 [.ref 34, .ref 71, .null] [] t1) (fun v4 t3 => bif decide (v4 = 0) then bm_bI (bm_ev X 154 0 [.ref 34, .ref 72, .null] [] t3) (fun v6 t5 => bif decide (v6 = 0) then bm_bI (bm_ev X 154 0 [.ref 34, .ref 73, .null] [] t5) (fun v8 t7 => bif decide (v8 = 0) then bm_gd (bm_bo (nI 0)) (some (.int (nI 0), t7)) else bm_bI (bm_ev X 144 0 [.ref 34, .ref 12] [] t7) (fun v10 t9 => bif decide (v10 = 0) then bm_gd (bm_bo (nI 0)) (some (.int (nI 0), t9)) else bm_gd (bm_bo (nI 1)) (some (.int (nI 1), t9)))) else bm_bI (bm_ev X 143 0 [.ref 34, .ref 12] [] t5) (fun v12 t11 => bm_gd (bm_bo v12) (some (.int v12, t11)))) else bm_bI (bm_ev X 142 0 [.ref 34, .ref 12, .null] [] t3) (fun v14 t13 => bm_gd (bm_bo v14) (some (.int v14, t13)))) else bm_bI (bm_ev X 183 0 [.ref 34, .ref 12, .int v2, .null] [] t1) (fun v16 t15 => bm_gd (bm_bo v16) (some (.int v16, t15)))) := bm_blk (cd := bm_c196) rfl [] 400 0 _ _ _
set_option maxRecDepth 20000 in
theorem bb_208_0 (X : bm_X) (σ : bm_M) : bm_ev X 208 0 [.ref 34, .ref 12, .null] [] σ = bm_ev X 208 8 [.ref 34, .ref 12, .int (nI 0)] [] (bm_up (bm_up σ 34 4 (nI 0)) 34 6 (nI 0)) := bm_blk (cd := bm_c208) rfl [8] 400 0 _ _ _
set_option maxRecDepth 20000 in
theorem bb_208_8 (X : bm_X) (σ : bm_M) (x2 : Int32) : bm_ev X 208 8 [.ref 34, .ref 12, .int x2] [] σ = bif decide ((σ 34 1) < x2) then bm_gd (bm_bo (nI 0)) (some (.int (nI 0), σ)) else bm_bV (bm_ev X 56 0 [.ref 34] [] σ) (fun t1 => bm_bI (bm_ev X 196 0 [.ref 34, .ref 12, .null] [] t1) (fun v3 t2 => bif decide (v3 = 0) then bm_gd (bm_bo (nI 0)) (some (.int (nI 0), t2)) else bif decide (((bm_up t2 34 6 ((t2 34 6) + (nI 1))) 34 2) = (nI 3)) then bm_ev X 208 8 [.ref 34, .ref 12, .int (x2 + nI 1)] [] (bm_up t2 34 6 ((t2 34 6) + (nI 1))) else bif decide (((bm_up t2 34 6 ((t2 34 6) + (nI 1))) 34 2) = 0) then bm_gd (bm_bo (nI 1)) (some (.int (nI 1), (bm_up t2 34 6 ((t2 34 6) + (nI 1))))) else bm_gd (bm_bo (nI 0)) (some (.int (nI 0), (bm_up t2 34 6 ((t2 34 6) + (nI 1))))))) := bm_blk (cd := bm_c208) rfl [8] 400 8 _ _ _
set_option maxRecDepth 20000 in
theorem bb_210_0 (X : bm_X) (σ : bm_M) : bm_ev X 210 0 [.ref 0, .null] [] σ = bm_bV (bm_ev X 121 0 [.ref 0] [] σ) (fun t1 => bm_bI (bm_ev X 208 0 [.ref 34, .ref 12, .null] [] t1) (fun v3 t2 => bif decide (v3 = 0) then some (.int ((-nI 1) - ((bm_up t2 34 1 (nI 0)) 34 3)), (bm_up t2 34 1 (nI 0))) else bm_bV (bm_ev X 52 0 [.ref 1, .ref 12] [] (bm_up t2 34 1 (nI 0))) (fun t4 => some (.int (t4 34 6), t4)))) := bm_blk (cd := bm_c210) rfl [] 400 0 _ _ _
end
section
set_option maxRecDepth 20000 in
theorem bb_31_0 (X : bm_X) (σ : bm_M) (p0 : Int32) : bm_ev X 31 0 [.ref 45, .int p0] [] σ = bm_gd (bm_in p0 7) (bm_gd (bm_in p0 7) (some (.int ((-nI 1000001) - p0), (bm_up σ 49 p0.toNatClampNeg ((σ 49 p0.toNatClampNeg) + (nI 1)))))) := bm_blk (cd := bm_c31) rfl [] 400 0 _ _ _
set_option maxRecDepth 20000 in
theorem bb_32_0 (X : bm_X) (σ : bm_M) (p0 : Int64) (p1 : Int64) (p2 : Int64) : bm_ev X 32 0 [.long p0, .null, .long p1, .null, .long p2, .null] [] σ = bif decide ((lg_cmp p0 p1) < 0) then bm_gd (bm_bo (nI 0)) (some (.int (nI 0), σ)) else bif decide (0 < (lg_cmp p0 p2)) then bm_gd (bm_bo (nI 0)) (some (.int (nI 0), σ)) else bm_gd (bm_bo (nI 1)) (some (.int (nI 1), σ)) := bm_blk (cd := bm_c32) rfl [] 400 0 _ _ _
set_option maxRecDepth 20000 in
theorem bb_33_0 (X : bm_X) (σ : bm_M) (r0 : Nat) (r1 : Nat) : bm_ev X 33 0 [.ref r0, .ref r1, .null] [] σ = bm_ev X 33 2 [.ref r0, .ref r1, .int (nI 0)] [] σ := bm_blk (cd := bm_c33) rfl [2] 400 0 _ _ _
set_option maxRecDepth 20000 in
theorem bb_33_2 (X : bm_X) (σ : bm_M) (r0 : Nat) (r1 : Nat) (x2 : Int32) : bm_ev X 33 2 [.ref r0, .ref r1, .int x2] [] σ = bif decide (x2 < (nI 95)) then bm_gd (bm_in x2 (bm_al r0)) (bm_gd (bm_in x2 (bm_al r1)) (bm_ev X 33 2 [.ref r0, .ref r1, .int (x2 + nI 1)] [] (bm_up σ r1 x2.toNatClampNeg (σ r0 x2.toNatClampNeg)))) else some (.null, σ) := bm_blk (cd := bm_c33) rfl [2] 400 2 _ _ _
set_option maxRecDepth 20000 in
theorem bb_34_0 (X : bm_X) (σ : bm_M) (p0 : Int32) (p1 : Int32) : bm_ev X 34 0 [.ref 45, .int p0, .int p1] [] σ = bm_gd (bm_in (((nI 29) + ((nI 7) * p0)) + p1) 95) (some (.int (σ 46 (((nI 29) + ((nI 7) * p0)) + p1).toNatClampNeg), σ)) := bm_blk (cd := bm_c34) rfl [] 400 0 _ _ _
set_option maxRecDepth 20000 in
theorem bb_35_0 (X : bm_X) (σ : bm_M) (p0 : Int32) (p1 : Int32) (p2 : Int32) : bm_ev X 35 0 [.ref 45, .int p0, .int p1, .int p2] [] σ = bm_gd (bm_in (((nI 29) + ((nI 7) * p0)) + p1) 95) (some (.null, (bm_up σ 46 (((nI 29) + ((nI 7) * p0)) + p1).toNatClampNeg p2))) := bm_blk (cd := bm_c35) rfl [] 400 0 _ _ _
set_option maxRecDepth 20000 in
theorem bb_36_0 (X : bm_X) (σ : bm_M) (p0 : Int32) (p1 : Int32) : bm_ev X 36 0 [.ref 45, .int p0, .int p1, .null] [] σ = bm_gd (bm_in p0 95) (bm_gd (bm_in p0 95) (some (.int (σ 46 p0.toNatClampNeg), (bm_up σ 46 p0.toNatClampNeg p1)))) := bm_blk (cd := bm_c36) rfl [] 400 0 _ _ _
set_option maxRecDepth 20000 in
theorem bb_37_0 (X : bm_X) (σ : bm_M) (p0 : Int32) : bm_ev X 37 0 [.int p0, .null, .null] [] σ = bm_ev X 37 4 [.int p0, .int (nI 0), .int (nI 0)] [] σ := bm_blk (cd := bm_c37) rfl [4] 400 0 _ _ _
set_option maxRecDepth 20000 in
theorem bb_37_4 (X : bm_X) (σ : bm_M) (x0 : Int32) (x1 : Int32) (x2 : Int32) : bm_ev X 37 4 [.int x0, .int x1, .int x2] [] σ = bif decide (x2 < (nI 12)) then bm_ev X 37 4 [.int x0, .int (x1 + ((bm_shr x0 x2) &&& (nI 1))), .int (x2 + nI 1)] [] σ else some (.int x1, σ) := bm_blk (cd := bm_c37) rfl [4] 400 4 _ _ _
set_option maxRecDepth 20000 in
theorem bb_38_0 (X : bm_X) (σ : bm_M) (p0 : Int32) : bm_ev X 38 0 [.int p0] [] σ = bif decide (p0 = (nI 3)) then some (.int (nI 2), σ) else bif decide (p0 = (nI 4)) then some (.int (nI 3), σ) else bif decide (p0 = (nI 6)) then some (.int (nI 1), σ) else some (.int (nI 0), σ) := bm_blk (cd := bm_c38) rfl [] 400 0 _ _ _
set_option maxRecDepth 20000 in
theorem bb_39_0 (X : bm_X) (σ : bm_M) : bm_ev X 39 0 [.ref 45, .null, .null] [] σ = bm_ev X 39 4 [.ref 45, .int (nI 0), .int (nI 0)] [] σ := bm_blk (cd := bm_c39) rfl [4] 400 0 _ _ _
set_option maxRecDepth 20000 in
theorem bb_39_4 (X : bm_X) (σ : bm_M) (x1 : Int32) (x2 : Int32) : bm_ev X 39 4 [.ref 45, .int x1, .int x2] [] σ = bif decide (x2 < (nI 12)) then bm_gd (bm_in ((nI 17) + x2) 95) (bm_ev X 39 4 [.ref 45, .int (x1 + (σ 46 ((nI 17) + x2).toNatClampNeg)), .int (x2 + nI 1)] [] σ) else some (.int x1, σ) := bm_blk (cd := bm_c39) rfl [4] 400 4 _ _ _
set_option maxRecDepth 20000 in
theorem bb_40_0 (X : bm_X) (σ : bm_M) : bm_ev X 40 0 [.ref 45, .null, .null] [] σ = bm_ev X 40 4 [.ref 45, .int (nI 0), .int (nI 0)] [] σ := bm_blk (cd := bm_c40) rfl [4] 400 0 _ _ _
set_option maxRecDepth 20000 in
theorem bb_40_4 (X : bm_X) (σ : bm_M) (x1 : Int32) (x2 : Int32) : bm_ev X 40 4 [.ref 45, .int x1, .int x2] [] σ = bif decide (x2 < (nI 12)) then bm_gd (bm_in ((nI 5) + x2) 95) (bm_ev X 40 4 [.ref 45, .int (x1 + (σ 46 ((nI 5) + x2).toNatClampNeg)), .int (x2 + nI 1)] [] σ) else some (.int x1, σ) := bm_blk (cd := bm_c40) rfl [4] 400 4 _ _ _
set_option maxRecDepth 20000 in
theorem bb_41_0 (X : bm_X) (σ : bm_M) : bm_ev X 41 0 [.ref 45, .null, .null] [] σ = bm_ev X 41 4 [.ref 45, .int (nI 0), .int (nI 0)] [] σ := bm_blk (cd := bm_c41) rfl [4, 20] 400 0 _ _ _
set_option maxRecDepth 20000 in
theorem bb_41_4 (X : bm_X) (σ : bm_M) (x1 : Int32) (x2 : Int32) : bm_ev X 41 4 [.ref 45, .int x1, .int x2] [] σ = bif decide (x2 < (nI 12)) then bm_gd (bm_in ((nI 17) + x2) 95) (bif decide (0 < (σ 46 ((nI 17) + x2).toNatClampNeg)) then bm_ev X 41 20 [.ref 45, .int x1, .int x2] [.int (bm_shl (nI 1) x2), .int x1] σ else bm_ev X 41 20 [.ref 45, .int x1, .int x2] [.int (nI 0), .int x1] σ) else some (.int x1, σ) := bm_blk (cd := bm_c41) rfl [4, 20] 400 4 _ _ _
set_option maxRecDepth 20000 in
theorem bb_41_20 (X : bm_X) (σ : bm_M) (x2 : Int32) (y0 : Int32) (y1 : Int32) (u1 : Value) : bm_ev X 41 20 [.ref 45, u1, .int x2] [.int y0, .int y1] σ = bm_ev X 41 4 [.ref 45, .int (y1 ||| y0), .int (x2 + nI 1)] [] σ := bm_blk (cd := bm_c41) rfl [4, 20] 400 20 _ _ _
set_option maxRecDepth 20000 in
theorem bb_42_0 (X : bm_X) (σ : bm_M) : bm_ev X 42 0 [.ref 45, .null, .null] [] σ = bm_ev X 42 4 [.ref 45, .int (nI 0), .int (nI 0)] [] σ := bm_blk (cd := bm_c42) rfl [4, 16, 19] 400 0 _ _ _
set_option maxRecDepth 20000 in
theorem bb_42_4 (X : bm_X) (σ : bm_M) (x1 : Int32) (x2 : Int32) : bm_ev X 42 4 [.ref 45, .int x1, .int x2] [] σ = bif decide (x2 < (nI 12)) then bif decide (x1 = 0) then bm_gd (bm_in ((nI 5) + x2) 95) (bif decide ((σ 46 ((nI 5) + x2).toNatClampNeg) = 0) then bm_ev X 42 16 [.ref 45, .int x1, .int x2] [] σ else bm_ev X 42 19 [.ref 45, .int x1, .int x2] [.int (nI 0)] σ) else bm_ev X 42 16 [.ref 45, .int x1, .int x2] [] σ else bm_gd (bm_bo x1) (some (.int x1, σ)) := bm_blk (cd := bm_c42) rfl [4, 16, 19] 400 4 _ _ _
set_option maxRecDepth 20000 in
theorem bb_42_16 (X : bm_X) (σ : bm_M) (x2 : Int32) (u1 : Value) : bm_ev X 42 16 [.ref 45, u1, .int x2] [] σ = bm_ev X 42 19 [.ref 45, u1, .int x2] [.int (nI 1)] σ := bm_blk (cd := bm_c42) rfl [4, 16, 19] 400 16 _ _ _
set_option maxRecDepth 20000 in
theorem bb_42_19 (X : bm_X) (σ : bm_M) (x2 : Int32) (y0 : Int32) (u1 : Value) : bm_ev X 42 19 [.ref 45, u1, .int x2] [.int y0] σ = bm_ev X 42 4 [.ref 45, .int y0, .int (x2 + nI 1)] [] σ := bm_blk (cd := bm_c42) rfl [4, 16, 19] 400 19 _ _ _
set_option maxRecDepth 20000 in
theorem bb_43_0 (X : bm_X) (σ : bm_M) : bm_ev X 43 0 [.ref 45] [] σ = some (.null, (bm_up (bm_up σ 45 6 (-nI 1)) 45 7 (-nI 1))) := bm_blk (cd := bm_c43) rfl [] 400 0 _ _ _
set_option maxRecDepth 20000 in
theorem bb_44_0 (X : bm_X) (σ : bm_M) : bm_ev X 44 0 [.ref 45] [] σ = bm_gd (bm_in (nI 1) 95) (bm_gd (bm_in (nI 1) 95) (bm_gd (bm_in (nI 1) 95) (some (.int (bm_ushr ((bm_up σ 46 (nI 1).toNatClampNeg (((σ 46 (nI 1).toNatClampNeg) * (nI 1103515245)) + (nI 12345))) 46 (nI 1).toNatClampNeg) (nI 8)), (bm_up σ 46 (nI 1).toNatClampNeg (((σ 46 (nI 1).toNatClampNeg) * (nI 1103515245)) + (nI 12345))))))) := bm_blk (cd := bm_c44) rfl [] 400 0 _ _ _
set_option maxRecDepth 20000 in
theorem bb_45_0 (X : bm_X) (σ : bm_M) : bm_ev X 45 0 [.ref 45, .null] [] σ = some (.int (σ 45 9), (bm_up σ 45 9 (nI 0))) := bm_blk (cd := bm_c45) rfl [] 400 0 _ _ _
set_option maxRecDepth 20000 in
theorem bb_46_0 (X : bm_X) (σ : bm_M) : bm_ev X 46 0 [.ref 45, .null] [] σ = bif decide ((σ 45 3) = 0) then bm_gd (bm_bo (nI 0)) (some (.int (nI 0), (bm_up σ 45 3 (nI 0)))) else bm_gd (bm_bo (nI 0)) (some (.int (nI 1), (bm_up σ 45 3 (nI 0)))) := bm_blk (cd := bm_c46) rfl [] 400 0 _ _ _
set_option maxRecDepth 20000 in
theorem bb_47_0 (X : bm_X) (σ : bm_M) : bm_ev X 47 0 [.ref 45, .null, .null] [] σ = bm_ev X 47 4 [.ref 45, .int (nI 0), .int (nI 0)] [] σ := bm_blk (cd := bm_c47) rfl [4, 18] 400 0 _ _ _
set_option maxRecDepth 20000 in
theorem bb_47_4 (X : bm_X) (σ : bm_M) (x1 : Int32) (x2 : Int32) : bm_ev X 47 4 [.ref 45, .int x1, .int x2] [] σ = bif decide (x2 < (nI 10)) then bm_gd (bm_in ((nI 85) + x2) 95) (bif decide ((σ 46 ((nI 85) + x2).toNatClampNeg) < 0) then bm_ev X 47 18 [.ref 45, .int x1, .int x2] [.int (nI 0), .int x1] σ else bm_ev X 47 18 [.ref 45, .int x1, .int x2] [.int (nI 1), .int x1] σ) else some (.int x1, σ) := bm_blk (cd := bm_c47) rfl [4, 18] 400 4 _ _ _
set_option maxRecDepth 20000 in
theorem bb_47_18 (X : bm_X) (σ : bm_M) (x2 : Int32) (y0 : Int32) (y1 : Int32) (u1 : Value) : bm_ev X 47 18 [.ref 45, u1, .int x2] [.int y0, .int y1] σ = bm_ev X 47 4 [.ref 45, .int (y1 + y0), .int (x2 + nI 1)] [] σ := bm_blk (cd := bm_c47) rfl [4, 18] 400 18 _ _ _
set_option maxRecDepth 20000 in
theorem bb_70_0 (X : bm_X) (σ : bm_M) : bm_ev X 70 0 [.ref 45] [] σ = bm_bV (bm_ev X 33 0 [.ref 46, .ref 48, .null] [] σ) (fun t1 => some (.null, t1)) := bm_blk (cd := bm_c70) rfl [] 400 0 _ _ _
set_option maxRecDepth 20000 in
theorem bb_71_0 (X : bm_X) (σ : bm_M) : bm_ev X 71 0 [.ref 45] [] σ = bm_bV (bm_ev X 33 0 [.ref 48, .ref 46, .null] [] σ) (fun t1 => some (.null, t1)) := bm_blk (cd := bm_c71) rfl [] 400 0 _ _ _
set_option maxRecDepth 20000 in
theorem bb_72_0 (X : bm_X) (σ : bm_M) (p0 : Int32) : bm_ev X 72 0 [.ref 45, .int p0] [] σ = bm_gd (bm_in (nI 2) 95) (bm_bI (bm_ev X 32 0 [.long p0.toInt64, .null, .long (lN 0), .null, .long ((σ 46 (nI 2).toNatClampNeg) - (nI 1)).toInt64, .null] [] σ) (fun v2 t1 => bm_gd (bm_bo v2) (some (.int v2, t1)))) := bm_blk (cd := bm_c72) rfl [] 400 0 _ _ _
set_option maxRecDepth 20000 in
theorem bb_73_0 (X : bm_X) (σ : bm_M) (p0 : Int32) : bm_ev X 73 0 [.int p0] [] σ = bm_bI (bm_ev X 32 0 [.long p0.toInt64, .null, .long (lN 0), .null, .long (lN 11), .null] [] σ) (fun v2 t1 => bm_gd (bm_bo v2) (some (.int v2, t1))) := bm_blk (cd := bm_c73) rfl [] 400 0 _ _ _
set_option maxRecDepth 20000 in
theorem bb_74_0 (X : bm_X) (σ : bm_M) (p0 : Int32) : bm_ev X 74 0 [.int p0] [] σ = bm_bI (bm_ev X 32 0 [.long p0.toInt64, .null, .long (lN 0), .null, .long (lN 99), .null] [] σ) (fun v2 t1 => bm_gd (bm_bo v2) (some (.int v2, t1))) := bm_blk (cd := bm_c74) rfl [] 400 0 _ _ _
set_option maxRecDepth 20000 in
theorem bb_75_0 (X : bm_X) (σ : bm_M) (p0 : Int32) (p1 : Int32) : bm_ev X 75 0 [.int p0, .int p1, .null] [] σ = bm_ev X 75 2 [.int p0, .int p1, .int p0] [] σ := bm_blk (cd := bm_c75) rfl [2, 11] 400 0 _ _ _
set_option maxRecDepth 20000 in
theorem bb_75_2 (X : bm_X) (σ : bm_M) (x1 : Int32) (x2 : Int32) (u0 : Value) : bm_ev X 75 2 [u0, .int x1, .int x2] [] σ = bif decide (x2 = 0) then bm_ev X 75 11 [u0, .int x1, .int x2] [] σ else bif decide (x2 = x1) then bm_ev X 75 11 [u0, .int x1, .int x2] [] σ else bm_bI (bm_ev X 38 0 [.int x2] [] σ) (fun v2 t1 => bm_ev X 75 2 [u0, .int x1, .int v2] [] t1) := bm_blk (cd := bm_c75) rfl [2, 11] 400 2 _ _ _
set_option maxRecDepth 20000 in
theorem bb_75_11 (X : bm_X) (σ : bm_M) (x1 : Int32) (x2 : Int32) (u0 : Value) : bm_ev X 75 11 [u0, .int x1, .int x2] [] σ = bif decide (x2 = x1) then bm_gd (bm_bo (nI 1)) (some (.int (nI 1), σ)) else bm_gd (bm_bo (nI 0)) (some (.int (nI 0), σ)) := bm_blk (cd := bm_c75) rfl [2, 11] 400 11 _ _ _
set_option maxRecDepth 20000 in
theorem bb_76_0 (X : bm_X) (σ : bm_M) (p0 : Int32) : bm_ev X 76 0 [.int p0] [] σ = bm_bI (bm_ev X 32 0 [.long p0.toInt64, .null, .long (lN 0), .null, .long (lN 6), .null] [] σ) (fun v2 t1 => bm_gd (bm_bo v2) (some (.int v2, t1))) := bm_blk (cd := bm_c76) rfl [] 400 0 _ _ _
set_option maxRecDepth 20000 in
theorem bb_77_0 (X : bm_X) (σ : bm_M) (p0 : Int32) : bm_ev X 77 0 [.ref 45, .int p0, .null, .null] [] σ = bm_ev X 77 4 [.ref 45, .int p0, .int (nI 0), .int (nI 0)] [] σ := bm_blk (cd := bm_c77) rfl [4, 25, 26] 400 0 _ _ _
set_option maxRecDepth 20000 in
theorem bb_77_4 (X : bm_X) (σ : bm_M) (x1 : Int32) (x2 : Int32) (x3 : Int32) : bm_ev X 77 4 [.ref 45, .int x1, .int x2, .int x3] [] σ = bm_gd (bm_in (nI 2) 95) (bif decide (x3 < (σ 46 (nI 2).toNatClampNeg)) then bif decide (x3 = x1) then bm_ev X 77 25 [.ref 45, .int x1, .int x2, .int x3] [.int x2] σ else bm_bI (bm_ev X 34 0 [.ref 45, .int x3, .int (nI 1)] [] σ) (fun v2 t1 => bm_bI (bm_ev X 34 0 [.ref 45, .int x1, .int (nI 1)] [] t1) (fun v4 t3 => bif decide (v2 = v4) then bm_ev X 77 26 [.ref 45, .int x1, .int x2, .int x3] [.int (nI 1), .int x2] t3 else bm_ev X 77 25 [.ref 45, .int x1, .int x2, .int x3] [.int x2] t3)) else some (.int x2, σ)) := bm_blk (cd := bm_c77) rfl [4, 25, 26] 400 4 _ _ _
set_option maxRecDepth 20000 in
theorem bb_77_25 (X : bm_X) (σ : bm_M) (x1 : Int32) (x3 : Int32) (y0 : Int32) (u2 : Value) : bm_ev X 77 25 [.ref 45, .int x1, u2, .int x3] [.int y0] σ = bm_ev X 77 26 [.ref 45, .int x1, u2, .int x3] [.int (nI 0), .int y0] σ := bm_blk (cd := bm_c77) rfl [4, 25, 26] 400 25 _ _ _
set_option maxRecDepth 20000 in
theorem bb_77_26 (X : bm_X) (σ : bm_M) (x1 : Int32) (x3 : Int32) (y0 : Int32) (y1 : Int32) (u2 : Value) : bm_ev X 77 26 [.ref 45, .int x1, u2, .int x3] [.int y0, .int y1] σ = bm_ev X 77 4 [.ref 45, .int x1, .int (y1 + y0), .int (x3 + nI 1)] [] σ := bm_blk (cd := bm_c77) rfl [4, 25, 26] 400 26 _ _ _
set_option maxRecDepth 20000 in
theorem bb_78_0 (X : bm_X) (σ : bm_M) (p0 : Int32) : bm_ev X 78 0 [.ref 45, .int p0] [] σ = bm_bI (bm_ev X 34 0 [.ref 45, .int p0, .int (nI 0)] [] σ) (fun v2 t1 => bif decide (v2 = nI 1) then some (.int (nI 2), t1) else bif decide (v2 = nI 2) then some (.int (nI 5), t1) else bif decide (v2 = nI 3) then some (.int (nI 3), t1) else bif decide (v2 = nI 4) then some (.int (nI 0), t1) else bif decide (v2 = nI 5) then some (.int (nI 5), t1) else bif decide (v2 = nI 6) then some (.int (nI 2), t1) else some (.int (nI 5), t1)) := bm_blk (cd := bm_c78) rfl [] 400 0 _ _ _
set_option maxRecDepth 20000 in
theorem bb_79_0 (X : bm_X) (σ : bm_M) (p0 : Int32) : bm_ev X 79 0 [.ref 45, .int p0, .null, .null, .null] [] σ = bm_bI (bm_ev X 34 0 [.ref 45, .int p0, .int (nI 5)] [] σ) (fun v2 t1 => bm_bI (bm_ev X 34 0 [.ref 45, .int p0, .int (nI 0)] [] t1) (fun v4 t3 => bif decide (v4 = nI 1) then some (.int ((v2 / (nI 4)) / (nI 2)), t3) else bif decide (v4 = nI 2) then some (.int ((v2 / (nI 4)) + (v2 / (nI 8))), t3) else bif decide (v4 = nI 3) then some (.int (bm_max (nI 0) (((v2 / (nI 4)) + (v2 / (nI 8))) - (nI 3))), t3) else bif decide (v4 = nI 4) then some (.int ((bm_max (nI 0) (((v2 / (nI 4)) + (v2 / (nI 8))) - (nI 3))) + (nI 5)), t3) else bif decide (v4 = nI 5) then some (.int ((v2 / (nI 4)) / (nI 2)), t3) else bif decide (v4 = nI 6) then some (.int ((v2 / (nI 4)) / (nI 2)), t3) else some (.int (v2 / (nI 4)), t3))) := bm_blk (cd := bm_c79) rfl [] 400 0 _ _ _
set_option maxRecDepth 20000 in
theorem bb_80_0 (X : bm_X) (σ : bm_M) (p0 : Int32) : bm_ev X 80 0 [.ref 45, .int p0, .null, .null] [] σ = bm_gd (bm_in (nI 2) 95) (bm_ev X 80 9 [.ref 45, .int p0, .int (-nI 1), .int ((σ 46 (nI 2).toNatClampNeg) - (nI 1))] [] σ) := bm_blk (cd := bm_c80) rfl [9, 31, 32] 400 0 _ _ _
set_option maxRecDepth 20000 in
theorem bb_80_9 (X : bm_X) (σ : bm_M) (x1 : Int32) (x2 : Int32) (x3 : Int32) : bm_ev X 80 9 [.ref 45, .int x1, .int x2, .int x3] [] σ = bif decide (x3 < 0) then some (.int x2, σ) else bm_bI (bm_ev X 34 0 [.ref 45, .int x3, .int (nI 1)] [] σ) (fun v2 t1 => bm_bI (bm_ev X 34 0 [.ref 45, .int x1, .int (nI 1)] [] t1) (fun v4 t3 => bif decide (v2 = v4) then bm_bI (bm_ev X 34 0 [.ref 45, .int x3, .int (nI 2)] [] t3) (fun v6 t5 => bm_bI (bm_ev X 34 0 [.ref 45, .int x1, .int (nI 2)] [] t5) (fun v8 t7 => bif decide (v6 = v8) then bm_ev X 80 31 [.ref 45, .int x1, .int x2, .int x3] [] t7 else bm_ev X 80 32 [.ref 45, .int x1, .int x2, .int x3] [.int x3] t7)) else bm_ev X 80 31 [.ref 45, .int x1, .int x2, .int x3] [] t3)) := bm_blk (cd := bm_c80) rfl [9, 31, 32] 400 9 _ _ _
set_option maxRecDepth 20000 in
theorem bb_80_31 (X : bm_X) (σ : bm_M) (x1 : Int32) (x2 : Int32) (x3 : Int32) : bm_ev X 80 31 [.ref 45, .int x1, .int x2, .int x3] [] σ = bm_ev X 80 32 [.ref 45, .int x1, .int x2, .int x3] [.int x2] σ := bm_blk (cd := bm_c80) rfl [9, 31, 32] 400 31 _ _ _
set_option maxRecDepth 20000 in
theorem bb_80_32 (X : bm_X) (σ : bm_M) (x1 : Int32) (x3 : Int32) (y0 : Int32) (u2 : Value) : bm_ev X 80 32 [.ref 45, .int x1, u2, .int x3] [.int y0] σ = bm_ev X 80 9 [.ref 45, .int x1, .int y0, .int (x3 - nI 1)] [] σ := bm_blk (cd := bm_c80) rfl [9, 31, 32] 400 32 _ _ _
set_option maxRecDepth 20000 in
theorem bb_81_0 (X : bm_X) (σ : bm_M) (p0 : Int32) (p1 : Int32) : bm_ev X 81 0 [.ref 45, .int p0, .int p1, .null] [] σ = bm_gd (bm_in (nI 2) 95) (bm_gd (bm_in (nI 2) 95) (bm_gd (bm_in (nI 2) 95) (bm_bV (bm_ev X 35 0 [.ref 45, .int (σ 46 (nI 2).toNatClampNeg), .int (nI 0), .int p0] [] (bm_up σ 46 (nI 2).toNatClampNeg ((σ 46 (nI 2).toNatClampNeg) + (nI 1)))) (fun t1 => bm_bV (bm_ev X 35 0 [.ref 45, .int (σ 46 (nI 2).toNatClampNeg), .int (nI 1), .int p1] [] t1) (fun t2 => bm_bV (bm_ev X 35 0 [.ref 45, .int (σ 46 (nI 2).toNatClampNeg), .int (nI 2), .int (nI 0)] [] t2) (fun t3 => bm_bV (bm_ev X 35 0 [.ref 45, .int (σ 46 (nI 2).toNatClampNeg), .int (nI 3), .int (nI 3)] [] t3) (fun t4 => bm_bV (bm_ev X 35 0 [.ref 45, .int (σ 46 (nI 2).toNatClampNeg), .int (nI 4), .int (nI 0)] [] t4) (fun t5 => bm_bV (bm_ev X 35 0 [.ref 45, .int (σ 46 (nI 2).toNatClampNeg), .int (nI 5), .int (nI 0)] [] t5) (fun t6 => bm_bV (bm_ev X 35 0 [.ref 45, .int (σ 46 (nI 2).toNatClampNeg), .int (nI 6), .int (nI 0)] [] t6) (fun t7 => some (.int (σ 46 (nI 2).toNatClampNeg), t7))))))))))) := bm_blk (cd := bm_c81) rfl [] 400 0 _ _ _
set_option maxRecDepth 20000 in
theorem bb_82_0 (X : bm_X) (σ : bm_M) (p0 : Int32) : bm_ev X 82 0 [.ref 45, .int p0, .null, .null] [] σ = bm_ev X 82 4 [.ref 45, .int p0, .int (nI 0), .int (nI 0)] [] σ := bm_blk (cd := bm_c82) rfl [4, 22] 400 0 _ _ _
set_option maxRecDepth 20000 in
theorem bb_82_4 (X : bm_X) (σ : bm_M) (x1 : Int32) (x2 : Int32) (x3 : Int32) : bm_ev X 82 4 [.ref 45, .int x1, .int x2, .int x3] [] σ = bm_gd (bm_in (nI 2) 95) (bif decide (x3 < (σ 46 (nI 2).toNatClampNeg)) then bm_bI (bm_ev X 34 0 [.ref 45, .int x3, .int (nI 1)] [] σ) (fun v2 t1 => bif decide (v2 = x1) then bm_ev X 82 22 [.ref 45, .int x1, .int x2, .int x3] [.int (bm_shl (nI 1) x3), .int x2] t1 else bm_ev X 82 22 [.ref 45, .int x1, .int x2, .int x3] [.int (nI 0), .int x2] t1) else some (.int x2, σ)) := bm_blk (cd := bm_c82) rfl [4, 22] 400 4 _ _ _
set_option maxRecDepth 20000 in
theorem bb_82_22 (X : bm_X) (σ : bm_M) (x1 : Int32) (x3 : Int32) (y0 : Int32) (y1 : Int32) (u2 : Value) : bm_ev X 82 22 [.ref 45, .int x1, u2, .int x3] [.int y0, .int y1] σ = bm_ev X 82 4 [.ref 45, .int x1, .int (y1 ||| y0), .int (x3 + nI 1)] [] σ := bm_blk (cd := bm_c82) rfl [4, 22] 400 22 _ _ _
set_option maxRecDepth 20000 in
theorem bb_83_0 (X : bm_X) (σ : bm_M) (p0 : Int32) (p1 : Int32) : bm_ev X 83 0 [.ref 45, .int p0, .int p1] [] σ = bm_bI (bm_ev X 32 0 [.long p0.toInt64, .null, .long (lN 0), .null, .long (lN 1), .null] [] σ) (fun v2 t1 => bif decide (v2 = 0) then bm_bI (bm_ev X 31 0 [.ref 45, .int (nI 0)] [] t1) (fun v4 t3 => some (.int v4, t3)) else bif decide (p0 = 0) then bm_ev X 83 14 [.ref 45, .int p0, .int p1] [.long (lN 20), .long (lN 0), .long p1.toInt64] t1 else bm_ev X 83 14 [.ref 45, .int p0, .int p1] [.long (lN 99), .long (lN 0), .long p1.toInt64] t1) := bm_blk (cd := bm_c83) rfl [14] 400 0 _ _ _
set_option maxRecDepth 20000 in
theorem bb_83_14 (X : bm_X) (σ : bm_M) (x1 : Int32) (x2 : Int32) (y0 : Int64) (y1 : Int64) (y2 : Int64) : bm_ev X 83 14 [.ref 45, .int x1, .int x2] [.long y0, .long y1, .long y2] σ = bm_bI (bm_ev X 32 0 [.long y2, .null, .long y1, .null, .long y0, .null] [] σ) (fun v2 t1 => bif decide (v2 = 0) then bm_bI (bm_ev X 31 0 [.ref 45, .int (nI 0)] [] t1) (fun v8 t7 => some (.int v8, t7)) else bif decide (x1 = 0) then bm_bI (bm_ev X 36 0 [.ref 45, .int (nI 3), .int x2, .null] [] t1) (fun v6 t5 => some (.int v6, t5)) else bm_bI (bm_ev X 36 0 [.ref 45, .int (nI 4), .int x2, .null] [] t1) (fun v4 t3 => some (.int v4, t3))) := bm_blk (cd := bm_c83) rfl [14] 400 14 _ _ _
set_option maxRecDepth 20000 in
theorem bb_84_0 (X : bm_X) (σ : bm_M) (p0 : Int32) : bm_ev X 84 0 [.ref 45, .int p0] [] σ = bm_bI (bm_ev X 34 0 [.ref 45, .int p0, .int (nI 1)] [] σ) (fun v2 t1 => bm_bV (bm_ev X 35 0 [.ref 45, .int p0, .int (nI 1), .int (bm_rem (v2 + (nI 1)) (nI 12))] [] t1) (fun t3 => some (.null, t3))) := bm_blk (cd := bm_c84) rfl [] 400 0 _ _ _
set_option maxRecDepth 20000 in
theorem bb_85_0 (X : bm_X) (σ : bm_M) (p0 : Int32) (p1 : Int32) : bm_ev X 85 0 [.ref 45, .int p0, .int p1] [] σ = bm_gd (bm_in ((nI 17) + p0) 95) (bm_gd (bm_in ((nI 17) + p0) 95) (some (.null, (bm_up σ 46 ((nI 17) + p0).toNatClampNeg (bm_min (nI 99999) ((σ 46 ((nI 17) + p0).toNatClampNeg) + p1)))))) := bm_blk (cd := bm_c85) rfl [] 400 0 _ _ _
set_option maxRecDepth 20000 in
theorem bb_86_0 (X : bm_X) (σ : bm_M) : bm_ev X 86 0 [.ref 45, .null, .null] [] σ = bm_ev X 86 4 [.ref 45, .int (nI 0), .int (nI 0)] [] σ := bm_blk (cd := bm_c86) rfl [4] 400 0 _ _ _
set_option maxRecDepth 20000 in
theorem bb_86_4 (X : bm_X) (σ : bm_M) (x1 : Int32) (x2 : Int32) : bm_ev X 86 4 [.ref 45, .int x1, .int x2] [] σ = bm_gd (bm_in (nI 2) 95) (bif decide (x2 < (σ 46 (nI 2).toNatClampNeg)) then bm_bI (bm_ev X 34 0 [.ref 45, .int x2, .int (nI 5)] [] σ) (fun v2 t1 => bm_ev X 86 4 [.ref 45, .int (x1 + v2), .int (x2 + nI 1)] [] t1) else some (.int x1, σ)) := bm_blk (cd := bm_c86) rfl [4] 400 4 _ _ _
set_option maxRecDepth 20000 in
theorem bb_87_0 (X : bm_X) (σ : bm_M) : bm_ev X 87 0 [.ref 45, .null, .null] [] σ = bm_ev X 87 4 [.ref 45, .int (nI 0), .int (nI 0)] [] σ := bm_blk (cd := bm_c87) rfl [4] 400 0 _ _ _
set_option maxRecDepth 20000 in
theorem bb_87_4 (X : bm_X) (σ : bm_M) (x1 : Int32) (x2 : Int32) : bm_ev X 87 4 [.ref 45, .int x1, .int x2] [] σ = bm_gd (bm_in (nI 2) 95) (bif decide (x2 < (σ 46 (nI 2).toNatClampNeg)) then bm_bI (bm_ev X 34 0 [.ref 45, .int x2, .int (nI 6)] [] σ) (fun v2 t1 => bm_ev X 87 4 [.ref 45, .int (x1 ||| (bm_shl v2 x2)), .int (x2 + nI 1)] [] t1) else some (.int x1, σ)) := bm_blk (cd := bm_c87) rfl [4] 400 4 _ _ _
set_option maxRecDepth 20000 in
theorem bb_88_0 (X : bm_X) (σ : bm_M) : bm_ev X 88 0 [.ref 45, .null, .null] [] σ = bm_ev X 88 4 [.ref 45, .int (nI 0), .int (nI 0)] [] σ := bm_blk (cd := bm_c88) rfl [4] 400 0 _ _ _
set_option maxRecDepth 20000 in
theorem bb_88_4 (X : bm_X) (σ : bm_M) (x1 : Int32) (x2 : Int32) : bm_ev X 88 4 [.ref 45, .int x1, .int x2] [] σ = bm_gd (bm_in (nI 2) 95) (bif decide (x2 < (σ 46 (nI 2).toNatClampNeg)) then bm_bI (bm_ev X 34 0 [.ref 45, .int x2, .int (nI 1)] [] σ) (fun v2 t1 => bm_ev X 88 4 [.ref 45, .int (x1 ||| (bm_shl (nI 1) v2)), .int (x2 + nI 1)] [] t1) else some (.int x1, σ)) := bm_blk (cd := bm_c88) rfl [4] 400 4 _ _ _
set_option maxRecDepth 20000 in
theorem bb_89_0 (X : bm_X) (σ : bm_M) (p0 : Int32) : bm_ev X 89 0 [.int p0] [] σ = bm_bI (bm_ev X 32 0 [.long p0.toInt64, .null, .long (lN 0), .null, .long (lN 100), .null] [] σ) (fun v2 t1 => bm_gd (bm_bo v2) (some (.int v2, t1))) := bm_blk (cd := bm_c89) rfl [] 400 0 _ _ _
set_option maxRecDepth 20000 in
theorem bb_90_0 (X : bm_X) (σ : bm_M) (p0 : Int32) : bm_ev X 90 0 [.int p0] [] σ = bm_bI (bm_ev X 32 0 [.long p0.toInt64, .null, .long (lN 0), .null, .long (lN 40), .null] [] σ) (fun v2 t1 => bm_gd (bm_bo v2) (some (.int v2, t1))) := bm_blk (cd := bm_c90) rfl [] 400 0 _ _ _
set_option maxRecDepth 20000 in
theorem bb_91_0 (X : bm_X) (σ : bm_M) (p0 : Int32) (p1 : Int32) : bm_ev X 91 0 [.ref 45, .int p0, .int p1] [] σ = bif decide (p1 < p0) then bm_bI (bm_ev X 31 0 [.ref 45, .int (nI 3)] [] σ) (fun v2 t1 => some (.int v2, t1)) else some (.int p0, σ) := bm_blk (cd := bm_c91) rfl [] 400 0 _ _ _
set_option maxRecDepth 20000 in
theorem bb_92_0 (X : bm_X) (σ : bm_M) (p0 : Int32) (p1 : Int32) : bm_ev X 92 0 [.ref 45, .int p0, .int p1] [] σ = bif decide ((σ 45 7) < p1) then bm_ev X 92 9 [.ref 45, .int p0, .int p1] [.int p0, .ref 45] σ else bm_ev X 92 9 [.ref 45, .int p0, .int p1] [.int (σ 45 6), .ref 45] σ := bm_blk (cd := bm_c92) rfl [9] 400 0 _ _ _
set_option maxRecDepth 20000 in
theorem bb_92_9 (X : bm_X) (σ : bm_M) (x2 : Int32) (y0 : Int32) (u1 : Value) : bm_ev X 92 9 [.ref 45, u1, .int x2] [.int y0, .ref 45] σ = some (.null, (bm_up (bm_up σ 45 6 y0) 45 7 (bm_max ((bm_up σ 45 6 y0) 45 7) x2))) := bm_blk (cd := bm_c92) rfl [9] 400 9 _ _ _
set_option maxRecDepth 20000 in
theorem bb_93_0 (X : bm_X) (σ : bm_M) (p0 : Int32) : bm_ev X 93 0 [.ref 45, .int p0] [] σ = bm_bI (bm_ev X 36 0 [.ref 45, .int (nI 1), .int p0, .null] [] σ) (fun v2 t1 => some (.int v2, t1)) := bm_blk (cd := bm_c93) rfl [] 400 0 _ _ _
set_option maxRecDepth 20000 in
theorem bb_94_0 (X : bm_X) (σ : bm_M) (p0 : Int32) (p1 : Int32) : bm_ev X 94 0 [.ref 45, .int p0, .int p1, .null] [] σ = bm_bI (bm_ev X 32 0 [.long p1.toInt64, .null, .long (lN 1), .null, .long (lN 4), .null] [] σ) (fun v2 t1 => bif decide (v2 = 0) then bm_bI (bm_ev X 31 0 [.ref 45, .int (nI 0)] [] t1) (fun v6 t5 => some (.int v6, t5)) else bif decide ((nI 120) < ((t1 45 9) + p1)) then bm_bI (bm_ev X 31 0 [.ref 45, .int (nI 1)] [] t1) (fun v4 t3 => some (.int v4, t3)) else bm_ev X 94 24 [.ref 45, .int p0, .int p1, .int (p1 - (nI 1))] [] t1) := bm_blk (cd := bm_c94) rfl [24] 400 0 _ _ _
set_option maxRecDepth 20000 in
theorem bb_94_24 (X : bm_X) (σ : bm_M) (x1 : Int32) (x3 : Int32) (u2 : Value) : bm_ev X 94 24 [.ref 45, .int x1, u2, .int x3] [] σ = bif decide (x3 < 0) then some (.int (σ 45 9), σ) else bm_gd (bm_in (σ 45 9) 120) (bm_ev X 94 24 [.ref 45, .int x1, u2, .int (x3 - nI 1)] [] (bm_up (bm_up σ 50 (σ 45 9).toNatClampNeg ((bm_shr x1 ((nI 8) * x3)) &&& (nI 255))) 45 9 (((bm_up σ 50 (σ 45 9).toNatClampNeg ((bm_shr x1 ((nI 8) * x3)) &&& (nI 255))) 45 9) + (nI 1)))) := bm_blk (cd := bm_c94) rfl [24] 400 24 _ _ _
set_option maxRecDepth 20000 in
theorem bb_95_0 (X : bm_X) (σ : bm_M) (p0 : Int32) (p1 : Int32) (p2 : Int32) : bm_ev X 95 0 [.ref 45, .int p0, .int p1, .int p2] [] σ = bif decide (p0 < (σ 45 9)) then bm_gd (bm_in p0 120) (bm_bI (bm_ev X 32 0 [.long (σ 50 p0.toNatClampNeg).toInt64, .null, .long p1.toInt64, .null, .long p2.toInt64, .null] [] σ) (fun v2 t1 => bif decide (v2 = 0) then bm_gd (bm_bo (nI 0)) (some (.int (nI 0), t1)) else bm_gd (bm_bo (nI 1)) (some (.int (nI 1), t1)))) else bm_gd (bm_bo (nI 0)) (some (.int (nI 0), σ)) := bm_blk (cd := bm_c95) rfl [] 400 0 _ _ _
set_option maxRecDepth 20000 in
theorem bb_96_0 (X : bm_X) (σ : bm_M) (p0 : Int32) : bm_ev X 96 0 [.int p0] [] σ = bm_bI (bm_ev X 32 0 [.long p0.toInt64, .null, .long (lN 0), .null, .long (lN 9), .null] [] σ) (fun v2 t1 => bm_gd (bm_bo v2) (some (.int v2, t1))) := bm_blk (cd := bm_c96) rfl [] 400 0 _ _ _
set_option maxRecDepth 20000 in
theorem bb_97_0 (X : bm_X) (σ : bm_M) (p0 : Int32) : bm_ev X 97 0 [.int p0] [] σ = bm_bI (bm_ev X 32 0 [.long p0.toInt64, .null, .long (lN 0), .null, .long (lN 3), .null] [] σ) (fun v2 t1 => bm_gd (bm_bo v2) (some (.int v2, t1))) := bm_blk (cd := bm_c97) rfl [] 400 0 _ _ _
set_option maxRecDepth 20000 in
theorem bb_98_0 (X : bm_X) (σ : bm_M) : bm_ev X 98 0 [.ref 45] [] σ = bm_bV (bm_ev X 33 0 [.ref 46, .ref 47, .null] [] σ) (fun t1 => bm_gd (bm_bo (nI 1)) (some (.int (nI 1), (bm_up t1 45 3 (nI 1))))) := bm_blk (cd := bm_c98) rfl [] 400 0 _ _ _
set_option maxRecDepth 20000 in
theorem bb_99_0 (X : bm_X) (σ : bm_M) : bm_ev X 99 0 [.ref 45] [] σ = bif decide ((σ 45 3) = 0) then bm_bI (bm_ev X 31 0 [.ref 45, .int (nI 3)] [] σ) (fun v3 t2 => some (.int v3, t2)) else bm_bV (bm_ev X 33 0 [.ref 47, .ref 46, .null] [] σ) (fun t1 => bm_gd (bm_in (nI 0) 95) (some (.int (t1 46 (nI 0).toNatClampNeg), t1))) := bm_blk (cd := bm_c99) rfl [] 400 0 _ _ _
set_option maxRecDepth 20000 in
theorem bb_100_0 (X : bm_X) (σ : bm_M) (p0 : Int32) : bm_ev X 100 0 [.ref 45, .int p0, .null, .null] [] σ = bm_bI (bm_ev X 32 0 [.long p0.toInt64, .null, .long (-1), .null, .long (lN 6), .null] [] σ) (fun v2 t1 => bif decide (v2 = 0) then bm_bI (bm_ev X 31 0 [.ref 45, .int (nI 0)] [] t1) (fun v4 t3 => some (.int v4, t3)) else bm_ev X 100 14 [.ref 45, .int p0, .int (nI 0), .int (nI 0)] [] t1) := bm_blk (cd := bm_c100) rfl [14, 23, 29] 400 0 _ _ _
set_option maxRecDepth 20000 in
theorem bb_100_14 (X : bm_X) (σ : bm_M) (x1 : Int32) (x2 : Int32) (x3 : Int32) : bm_ev X 100 14 [.ref 45, .int x1, .int x2, .int x3] [] σ = bif decide (x3 < (nI 7)) then bif decide (x1 < 0) then bm_ev X 100 23 [.ref 45, .int x1, .int x2, .int x3] [.int x2] σ else bif decide (x1 = x3) then bm_ev X 100 23 [.ref 45, .int x1, .int x2, .int x3] [.int x2] σ else bm_ev X 100 29 [.ref 45, .int x1, .int x2, .int x3] [.int (nI 0), .int x2] σ else some (.int x2, σ) := bm_blk (cd := bm_c100) rfl [14, 23, 29] 400 14 _ _ _
set_option maxRecDepth 20000 in
theorem bb_100_23 (X : bm_X) (σ : bm_M) (x1 : Int32) (x3 : Int32) (y0 : Int32) (u2 : Value) : bm_ev X 100 23 [.ref 45, .int x1, u2, .int x3] [.int y0] σ = bm_gd (bm_in x3 7) (bm_ev X 100 29 [.ref 45, .int x1, u2, .int x3] [.int (σ 49 x3.toNatClampNeg), .int y0] σ) := bm_blk (cd := bm_c100) rfl [14, 23, 29] 400 23 _ _ _
set_option maxRecDepth 20000 in
theorem bb_100_29 (X : bm_X) (σ : bm_M) (x1 : Int32) (x3 : Int32) (y0 : Int32) (y1 : Int32) (u2 : Value) : bm_ev X 100 29 [.ref 45, .int x1, u2, .int x3] [.int y0, .int y1] σ = bm_ev X 100 14 [.ref 45, .int x1, .int (y1 + y0), .int (x3 + nI 1)] [] σ := bm_blk (cd := bm_c100) rfl [14, 23, 29] 400 29 _ _ _
set_option maxRecDepth 20000 in
theorem bb_122_0 (X : bm_X) (σ : bm_M) (p0 : Int32) : bm_ev X 122 0 [.ref 45, .int p0, .null, .null] [] σ = bm_bI (bm_ev X 34 0 [.ref 45, .int p0, .int (nI 3)] [] σ) (fun v2 t1 => bm_bI (bm_ev X 34 0 [.ref 45, .int p0, .int (nI 1)] [] t1) (fun v4 t3 => bm_gd (bm_in ((nI 5) + v4) 95) (bm_bI (bm_ev X 77 0 [.ref 45, .int p0, .null, .null] [] t3) (fun v6 t5 => bm_bI (bm_ev X 34 0 [.ref 45, .int p0, .int (nI 0)] [] t5) (fun v8 t7 => bif decide (v8 = nI 1) then some (.int ((v2 + ((t3 46 ((nI 5) + v4).toNatClampNeg) / (nI 10))) / (nI 2)), t7) else bif decide (v8 = nI 2) then some (.int ((v2 + ((t3 46 ((nI 5) + v4).toNatClampNeg) / (nI 10))) + (nI 2)), t7) else bif decide (v8 = nI 3) then some (.int (bm_max (nI 0) (((v2 + ((t3 46 ((nI 5) + v4).toNatClampNeg) / (nI 10))) + (nI 2)) - v6)), t7) else bif decide (v8 = nI 4) then bm_gd (bm_in (nI 4) 95) (some (.int ((bm_max (nI 0) (((v2 + ((t3 46 ((nI 5) + v4).toNatClampNeg) / (nI 10))) + (nI 2)) - v6)) + ((t7 46 (nI 4).toNatClampNeg) / (nI 10))), t7)) else bif decide (v8 = nI 5) then bm_bI (bm_ev X 34 0 [.ref 45, .int p0, .int (nI 4)] [] t7) (fun v10 t9 => some (.int (bm_max (nI 0) ((v2 + ((t3 46 ((nI 5) + v4).toNatClampNeg) / (nI 10))) - (v10 / (nI 100)))), t9)) else bif decide (v8 = nI 6) then some (.int (((v2 + ((t3 46 ((nI 5) + v4).toNatClampNeg) / (nI 10))) / (nI 2)) + (nI 1)), t7) else some (.int (v2 + ((t3 46 ((nI 5) + v4).toNatClampNeg) / (nI 10))), t7)))))) := bm_blk (cd := bm_c122) rfl [] 400 0 _ _ _
set_option maxRecDepth 20000 in
theorem bb_123_0 (X : bm_X) (σ : bm_M) (p0 : Int32) (p1 : Int32) : bm_ev X 123 0 [.ref 45, .int p0, .int p1] [] σ = bm_bI (bm_ev X 73 0 [.int p0] [] σ) (fun v2 t1 => bif decide (v2 = 0) then bm_bI (bm_ev X 31 0 [.ref 45, .int (nI 0)] [] t1) (fun v4 t3 => some (.int v4, t3)) else bm_bI (bm_ev X 74 0 [.int p1] [] t1) (fun v6 t5 => bif decide (v6 = 0) then bm_bI (bm_ev X 31 0 [.ref 45, .int (nI 0)] [] t5) (fun v8 t7 => some (.int v8, t7)) else bm_bI (bm_ev X 36 0 [.ref 45, .int ((nI 5) + p0), .int p1, .null] [] t5) (fun v10 t9 => some (.int v10, t9)))) := bm_blk (cd := bm_c123) rfl [] 400 0 _ _ _
set_option maxRecDepth 20000 in
theorem bb_124_0 (X : bm_X) (σ : bm_M) (p0 : Int32) (p1 : Int32) : bm_ev X 124 0 [.ref 45, .int p0, .int p1] [] σ = bm_bI (bm_ev X 73 0 [.int p0] [] σ) (fun v2 t1 => bif decide (v2 = 0) then bm_bI (bm_ev X 31 0 [.ref 45, .int (nI 0)] [] t1) (fun v4 t3 => some (.int v4, t3)) else bm_bI (bm_ev X 32 0 [.long p1.toInt64, .null, .long (lN 0), .null, .long (lN 1), .null] [] t1) (fun v6 t5 => bif decide (v6 = 0) then bm_bI (bm_ev X 31 0 [.ref 45, .int (nI 0)] [] t5) (fun v10 t9 => some (.int v10, t9)) else bif decide (p1 = 0) then bm_gd (bm_in ((nI 5) + p0) 95) (some (.int (t5 46 ((nI 5) + p0).toNatClampNeg), t5)) else bm_bI (bm_ev X 82 0 [.ref 45, .int p0, .null, .null] [] t5) (fun v8 t7 => some (.int v8, t7)))) := bm_blk (cd := bm_c124) rfl [] 400 0 _ _ _
set_option maxRecDepth 20000 in
theorem bb_125_0 (X : bm_X) (σ : bm_M) (p0 : Int32) : bm_ev X 125 0 [.ref 45, .int p0] [] σ = bm_bI (bm_ev X 73 0 [.int p0] [] σ) (fun v2 t1 => bif decide (v2 = 0) then bm_bI (bm_ev X 31 0 [.ref 45, .int (nI 0)] [] t1) (fun v4 t3 => some (.int v4, t3)) else bm_gd (bm_in ((nI 17) + p0) 95) (some (.int (t1 46 ((nI 17) + p0).toNatClampNeg), t1))) := bm_blk (cd := bm_c125) rfl [] 400 0 _ _ _
set_option maxRecDepth 20000 in
theorem bb_126_0 (X : bm_X) (σ : bm_M) (p0 : Int32) : bm_ev X 126 0 [.ref 45, .int p0] [] σ = bm_bI (bm_ev X 73 0 [.int p0] [] σ) (fun v2 t1 => bif decide (v2 = 0) then bm_bI (bm_ev X 31 0 [.ref 45, .int (nI 0)] [] t1) (fun v4 t3 => some (.int v4, t3)) else bm_bI (bm_ev X 36 0 [.ref 45, .int ((nI 17) + p0), .int (nI 0), .null] [] t1) (fun v6 t5 => some (.int v6, t5))) := bm_blk (cd := bm_c126) rfl [] 400 0 _ _ _
set_option maxRecDepth 20000 in
theorem bb_127_0 (X : bm_X) (σ : bm_M) (p0 : Int32) (p1 : Int32) : bm_ev X 127 0 [.ref 45, .int p0, .int p1] [] σ = bm_bI (bm_ev X 76 0 [.int p0] [] σ) (fun v2 t1 => bif decide (v2 = 0) then bm_bI (bm_ev X 31 0 [.ref 45, .int (nI 0)] [] t1) (fun v4 t3 => some (.int v4, t3)) else bm_bI (bm_ev X 73 0 [.int p1] [] t1) (fun v6 t5 => bif decide (v6 = 0) then bm_bI (bm_ev X 31 0 [.ref 45, .int (nI 0)] [] t5) (fun v12 t11 => some (.int v12, t11)) else bm_gd (bm_in (nI 2) 95) (bif decide ((t5 46 (nI 2).toNatClampNeg) = (nI 8)) then bm_bI (bm_ev X 31 0 [.ref 45, .int (nI 1)] [] t5) (fun v10 t9 => some (.int v10, t9)) else bm_bI (bm_ev X 81 0 [.ref 45, .int p0, .int p1, .null] [] t5) (fun v8 t7 => some (.int v8, t7))))) := bm_blk (cd := bm_c127) rfl [] 400 0 _ _ _
set_option maxRecDepth 20000 in
theorem bb_128_0 (X : bm_X) (σ : bm_M) (p0 : Int32) (p1 : Int32) : bm_ev X 128 0 [.int p0, .int p1] [] σ = bif decide (p0 = nI 0) then bm_bI (bm_ev X 76 0 [.int p1] [] σ) (fun v2 t1 => bm_gd (bm_bo v2) (some (.int v2, t1))) else bif decide (p0 = nI 1) then bm_bI (bm_ev X 73 0 [.int p1] [] σ) (fun v4 t3 => bm_gd (bm_bo v4) (some (.int v4, t3))) else bif decide (p0 = nI 2) then bm_bI (bm_ev X 73 0 [.int p1] [] σ) (fun v6 t5 => bm_gd (bm_bo v6) (some (.int v6, t5))) else bif decide (p0 = nI 3) then bm_bI (bm_ev X 32 0 [.long p1.toInt64, .null, .long (lN 0), .null, .long (lN 9), .null] [] σ) (fun v8 t7 => bm_gd (bm_bo v8) (some (.int v8, t7))) else bif decide (p0 = nI 4) then bm_bI (bm_ev X 32 0 [.long p1.toInt64, .null, .long (lN 0), .null, .long (lN 999), .null] [] σ) (fun v10 t9 => bm_gd (bm_bo v10) (some (.int v10, t9))) else bif decide (p0 = nI 5) then bm_bI (bm_ev X 32 0 [.long p1.toInt64, .null, .long (lN 0), .null, .long (lN 9999), .null] [] σ) (fun v12 t11 => bm_gd (bm_bo v12) (some (.int v12, t11))) else bif decide (p0 = (nI 6)) then bm_bI (bm_ev X 32 0 [.long p1.toInt64, .null, .long (lN 0), .null, .long (lN 1), .null] [] σ) (fun v14 t13 => bif decide (v14 = 0) then bm_gd (bm_bo (nI 0)) (some (.int (nI 0), t13)) else bm_gd (bm_bo (nI 1)) (some (.int (nI 1), t13))) else bm_gd (bm_bo (nI 0)) (some (.int (nI 0), σ)) := bm_blk (cd := bm_c128) rfl [] 400 0 _ _ _
set_option maxRecDepth 20000 in
theorem bb_129_0 (X : bm_X) (σ : bm_M) (p0 : Int32) : bm_ev X 129 0 [.ref 45, .int p0, .null, .null, .null, .null] [] σ = bm_bI (bm_ev X 79 0 [.ref 45, .int p0, .null, .null, .null] [] σ) (fun v2 t1 => bm_gd (bm_in (nI 4) 95) (bm_bI (bm_ev X 80 0 [.ref 45, .int p0, .null, .null] [] t1) (fun v4 t3 => bif decide (v4 < 0) then bm_ev X 129 26 [.ref 45, .int p0, .int v2, .int (v2 - ((v2 * (t1 46 (nI 4).toNatClampNeg)) / (nI 100))), .int v4, .null] [.int (nI 0)] t3 else bm_ev X 129 26 [.ref 45, .int p0, .int v2, .int (v2 - ((v2 * (t1 46 (nI 4).toNatClampNeg)) / (nI 100))), .int v4, .null] [.int ((v2 - ((v2 * (t1 46 (nI 4).toNatClampNeg)) / (nI 100))) / (nI 3))] t3))) := bm_blk (cd := bm_c129) rfl [26, 43] 400 0 _ _ _
set_option maxRecDepth 20000 in
theorem bb_129_26 (X : bm_X) (σ : bm_M) (x1 : Int32) (x3 : Int32) (x4 : Int32) (y0 : Int32) (u2 : Value) (u5 : Value) : bm_ev X 129 26 [.ref 45, .int x1, u2, .int x3, .int x4, u5] [.int y0] σ = bif decide (x4 < 0) then bm_ev X 129 43 [.ref 45, .int x1, u2, .int x3, .int x4, .int y0] [] σ else bm_bI (bm_ev X 34 0 [.ref 45, .int x1, .int (nI 2)] [] σ) (fun v2 t1 => bm_bI (bm_ev X 34 0 [.ref 45, .int x4, .int (nI 2)] [] t1) (fun v4 t3 => bm_bV (bm_ev X 85 0 [.ref 45, .int (bm_rem (v2 + v4) (nI 12)), .int y0] [] t3) (fun t5 => bm_ev X 129 43 [.ref 45, .int x1, u2, .int x3, .int x4, .int y0] [] t5))) := bm_blk (cd := bm_c129) rfl [26, 43] 400 26 _ _ _
set_option maxRecDepth 20000 in
theorem bb_129_43 (X : bm_X) (σ : bm_M) (x1 : Int32) (x3 : Int32) (x5 : Int32) (u2 : Value) (u4 : Value) : bm_ev X 129 43 [.ref 45, .int x1, u2, .int x3, u4, .int x5] [] σ = bm_bI (bm_ev X 34 0 [.ref 45, .int x1, .int (nI 2)] [] σ) (fun v2 t1 => bm_bV (bm_ev X 85 0 [.ref 45, .int v2, .int (x3 - x5)] [] t1) (fun t3 => bm_bV (bm_ev X 35 0 [.ref 45, .int x1, .int (nI 5), .int (nI 0)] [] t3) (fun t4 => some (.null, t4)))) := bm_blk (cd := bm_c129) rfl [26, 43] 400 43 _ _ _
set_option maxRecDepth 20000 in
theorem bb_130_0 (X : bm_X) (σ : bm_M) (p0 : Int32) : bm_ev X 130 0 [.ref 45, .int p0] [] σ = bif decide (p0 = nI 0) then bm_gd (bm_in (nI 0) 95) (some (.int (σ 46 (nI 0).toNatClampNeg), σ)) else bif decide (p0 = nI 1) then bm_bI (bm_ev X 39 0 [.ref 45, .null, .null] [] σ) (fun v2 t1 => some (.int v2, t1)) else bif decide (p0 = nI 2) then bm_bI (bm_ev X 86 0 [.ref 45, .null, .null] [] σ) (fun v4 t3 => some (.int v4, t3)) else bif decide (p0 = nI 3) then bm_bI (bm_ev X 87 0 [.ref 45, .null, .null] [] σ) (fun v6 t5 => some (.int v6, t5)) else bif decide (p0 = nI 4) then bm_bI (bm_ev X 40 0 [.ref 45, .null, .null] [] σ) (fun v8 t7 => some (.int v8, t7)) else bif decide (p0 = nI 5) then bm_bI (bm_ev X 88 0 [.ref 45, .null, .null] [] σ) (fun v10 t9 => some (.int v10, t9)) else bif decide (p0 = nI 6) then bm_bI (bm_ev X 41 0 [.ref 45, .null, .null] [] σ) (fun v12 t11 => some (.int v12, t11)) else bm_bI (bm_ev X 31 0 [.ref 45, .int (nI 0)] [] σ) (fun v14 t13 => some (.int v14, t13)) := bm_blk (cd := bm_c130) rfl [] 400 0 _ _ _
set_option maxRecDepth 20000 in
theorem bb_131_0 (X : bm_X) (σ : bm_M) (p0 : Int32) : bm_ev X 131 0 [.ref 45, .int p0, .null, .null, .null, .null] [] σ = bm_bI (bm_ev X 73 0 [.int p0] [] σ) (fun v2 t1 => bif decide (v2 = 0) then bm_bI (bm_ev X 31 0 [.ref 45, .int (nI 0)] [] t1) (fun v4 t3 => some (.int v4, t3)) else bm_ev X 131 9 [.ref 45, .int p0, .int (nI 0), .null, .null, .null] [] t1) := bm_blk (cd := bm_c131) rfl [9, 19] 400 0 _ _ _
set_option maxRecDepth 20000 in
theorem bb_131_9 (X : bm_X) (σ : bm_M) (x1 : Int32) (x2 : Int32) (u3 : Value) (u4 : Value) (u5 : Value) : bm_ev X 131 9 [.ref 45, .int x1, .int x2, u3, u4, u5] [] σ = bm_gd (bm_in (nI 2) 95) (bif decide (x2 < (σ 46 (nI 2).toNatClampNeg)) then bm_ev X 131 19 [.ref 45, .int x1, .int x2, .int (x2 + (nI 1)), u4, u5] [] σ else bm_bI (bm_ev X 31 0 [.ref 45, .int (nI 3)] [] σ) (fun v2 t1 => some (.int v2, t1))) := bm_blk (cd := bm_c131) rfl [9, 19] 400 9 _ _ _
set_option maxRecDepth 20000 in
theorem bb_131_19 (X : bm_X) (σ : bm_M) (x1 : Int32) (x2 : Int32) (x3 : Int32) (u4 : Value) (u5 : Value) : bm_ev X 131 19 [.ref 45, .int x1, .int x2, .int x3, u4, u5] [] σ = bm_gd (bm_in (nI 2) 95) (bif decide (x3 < (σ 46 (nI 2).toNatClampNeg)) then bm_bI (bm_ev X 34 0 [.ref 45, .int x2, .int (nI 2)] [] σ) (fun v2 t1 => bm_bI (bm_ev X 34 0 [.ref 45, .int x3, .int (nI 2)] [] t1) (fun v4 t3 => bif decide (v2 = v4) then bm_ev X 131 19 [.ref 45, .int x1, .int x2, .int (x3 + nI 1), .int v2, .int v4] [] t3 else bif decide ((bm_rem (v2 + v4) (nI 12)) = x1) then some (.int (((nI 8) * x2) + x3), t3) else bm_ev X 131 19 [.ref 45, .int x1, .int x2, .int (x3 + nI 1), .int v2, .int v4] [] t3)) else bm_ev X 131 9 [.ref 45, .int x1, .int (x2 + nI 1), .int x3, u4, u5] [] σ) := bm_blk (cd := bm_c131) rfl [9, 19] 400 19 _ _ _
set_option maxRecDepth 20000 in
theorem bb_132_0 (X : bm_X) (σ : bm_M) (p0 : Int32) (p1 : Int32) : bm_ev X 132 0 [.ref 45, .int p0, .int p1, .null, .null, .null, .null, .null, .null, .null, .null, .null, .null] [] σ = bm_bI (bm_ev X 32 0 [.long p0.toInt64, .null, .long (lN 0), .null, .long (lN 18), .null] [] σ) (fun v2 t1 => bif decide (v2 = 0) then bm_bI (bm_ev X 31 0 [.ref 45, .int (nI 0)] [] t1) (fun v4 t3 => some (.long v4.toInt64, t3)) else bm_bI (bm_ev X 32 0 [.long p1.toInt64, .null, .long (lN 0), .null, .long (lN 1), .null] [] t1) (fun v6 t5 => bif decide (v6 = 0) then bm_bI (bm_ev X 31 0 [.ref 45, .int (nI 0)] [] t5) (fun v8 t7 => some (.long v8.toInt64, t7)) else bm_ev X 132 23 [.ref 45, .int p0, .int p1, .long (lN 1), .null, .long (lN 1), .null, .int (nI 0), .null, .null, .null, .null, .null] [] t5)) := bm_blk (cd := bm_c132) rfl [23, 48] 400 0 _ _ _
set_option maxRecDepth 20000 in
theorem bb_132_23 (X : bm_X) (σ : bm_M) (x1 : Int32) (x2 : Int32) (x3 : Int64) (x5 : Int64) (x7 : Int32) (u8 : Value) (u9 : Value) (u10 : Value) (u11 : Value) (u12 : Value) : bm_ev X 132 23 [.ref 45, .int x1, .int x2, .long x3, .null, .long x5, .null, .int x7, u8, u9, u10, u11, u12] [] σ = bif decide (x7 < x1) then bm_gd (bm_in (nI 2) 95) (bm_bI (bm_ev X 87 0 [.ref 45, .null, .null] [] σ) (fun v2 t1 => bm_bI (bm_ev X 37 0 [.int v2, .null, .null] [] t1) (fun v4 t3 => bm_ev X 132 23 [.ref 45, .int x1, .int x2, .long (x3 * ((σ 46 (nI 2).toNatClampNeg) - v4).toInt64), .null, .long (x5 * (lN 8)), .null, .int (x7 + nI 1), u8, u9, u10, u11, u12] [] t3))) else bm_ev X 132 48 [.ref 45, .int x1, .int x2, .long x3, .null, .long x5, .null, .long x3, .null, .long x5, .null, u11, u12] [] σ := bm_blk (cd := bm_c132) rfl [23, 48] 400 23 _ _ _
set_option maxRecDepth 20000 in
theorem bb_132_48 (X : bm_X) (σ : bm_M) (x2 : Int32) (x3 : Int64) (x5 : Int64) (x7 : Int64) (x9 : Int64) (u0 : Value) (u1 : Value) (u11 : Value) (u12 : Value) : bm_ev X 132 48 [u0, u1, .int x2, .long x3, .null, .long x5, .null, .long x7, .null, .long x9, .null, u11, u12] [] σ = bif decide ((lg_cmp x9 (lN 0)) = 0) then bif decide (x2 = 0) then bm_gd (bm_nzl x7) (some (.long (x3 / x7), σ)) else bm_gd (bm_nzl x7) (some (.long (x5 / x7), σ)) else bm_gd (bm_nzl x9) (bm_ev X 132 48 [u0, u1, .int x2, .long x3, .null, .long x5, .null, .long x9, .null, .long (bm_lrem x7 x9), .null, .long (bm_lrem x7 x9), .null] [] σ) := bm_blk (cd := bm_c132) rfl [23, 48] 400 48 _ _ _
set_option maxRecDepth 20000 in
theorem bb_133_0 (X : bm_X) (σ : bm_M) : bm_ev X 133 0 [.ref 45, .null, .null] [] σ = bm_ev X 133 4 [.ref 45, .null, .null] [] (bm_up σ 45 10 (σ 45 11)) := bm_blk (cd := bm_c133) rfl [4, 36, 45, 54, 61] 400 0 _ _ _
set_option maxRecDepth 20000 in
theorem bb_133_4 (X : bm_X) (σ : bm_M) (u1 : Value) (u2 : Value) : bm_ev X 133 4 [.ref 45, u1, u2] [] σ = bm_bI (bm_ev X 95 0 [.ref 45, .int (σ 45 10), .int (nI 32), .int (nI 32)] [] σ) (fun v2 t1 => bif decide (v2 = 0) then bm_bI (bm_ev X 95 0 [.ref 45, .int ((bm_up t1 45 11 (t1 45 10)) 45 10), .int (nI 97), .int (nI 122)] [] (bm_up t1 45 11 (t1 45 10))) (fun v4 t3 => bm_bI (bm_ev X 95 0 [.ref 45, .int (t3 45 10), .int (nI 48), .int (nI 57)] [] t3) (fun v6 t5 => bm_ev X 133 36 [.ref 45, .int v4, .int v6] [] t5)) else bm_ev X 133 4 [.ref 45, u1, u2] [] (bm_up t1 45 10 ((t1 45 10) + (nI 1)))) := bm_blk (cd := bm_c133) rfl [4, 36, 45, 54, 61] 400 4 _ _ _
set_option maxRecDepth 20000 in
theorem bb_133_36 (X : bm_X) (σ : bm_M) (x1 : Int32) (x2 : Int32) : bm_ev X 133 36 [.ref 45, .int x1, .int x2] [] σ = bif decide (x1 = 0) then bm_ev X 133 45 [.ref 45, .int x1, .int x2] [] σ else bm_bI (bm_ev X 95 0 [.ref 45, .int (σ 45 11), .int (nI 97), .int (nI 122)] [] σ) (fun v2 t1 => bif decide (v2 = 0) then bm_ev X 133 45 [.ref 45, .int x1, .int x2] [] t1 else bm_ev X 133 54 [.ref 45, .int x1, .int x2] [] t1) := bm_blk (cd := bm_c133) rfl [4, 36, 45, 54, 61] 400 36 _ _ _
set_option maxRecDepth 20000 in
theorem bb_133_45 (X : bm_X) (σ : bm_M) (x1 : Int32) (x2 : Int32) : bm_ev X 133 45 [.ref 45, .int x1, .int x2] [] σ = bif decide (x2 = 0) then bm_ev X 133 61 [.ref 45, .int x1, .int x2] [] σ else bm_bI (bm_ev X 95 0 [.ref 45, .int (σ 45 11), .int (nI 48), .int (nI 57)] [] σ) (fun v2 t1 => bif decide (v2 = 0) then bm_ev X 133 61 [.ref 45, .int x1, .int x2] [] t1 else bm_ev X 133 54 [.ref 45, .int x1, .int x2] [] t1) := bm_blk (cd := bm_c133) rfl [4, 36, 45, 54, 61] 400 45 _ _ _
set_option maxRecDepth 20000 in
theorem bb_133_54 (X : bm_X) (σ : bm_M) (x1 : Int32) (x2 : Int32) : bm_ev X 133 54 [.ref 45, .int x1, .int x2] [] σ = bm_ev X 133 36 [.ref 45, .int x1, .int x2] [] (bm_up σ 45 11 ((σ 45 11) + (nI 1))) := bm_blk (cd := bm_c133) rfl [4, 36, 45, 54, 61] 400 54 _ _ _
set_option maxRecDepth 20000 in
theorem bb_133_61 (X : bm_X) (σ : bm_M) (x1 : Int32) (x2 : Int32) : bm_ev X 133 61 [.ref 45, .int x1, .int x2] [] σ = bif decide (x1 = 0) then bif decide (x2 = 0) then bif decide ((σ 45 10) < (σ 45 9)) then some (.null, (bm_up σ 45 11 ((σ 45 11) + (nI 1)))) else some (.null, (bm_up σ 45 11 ((σ 45 11) + (nI 0)))) else some (.null, (bm_up σ 45 11 ((σ 45 11) + (nI 0)))) else some (.null, (bm_up σ 45 11 ((σ 45 11) + (nI 0)))) := bm_blk (cd := bm_c133) rfl [4, 36, 45, 54, 61] 400 61 _ _ _
set_option maxRecDepth 20000 in
theorem bb_134_0 (X : bm_X) (σ : bm_M) (p0 : Int32) (p1 : Int32) : bm_ev X 134 0 [.ref 45, .int p0, .int p1] [] σ = bm_bI (bm_ev X 96 0 [.int p0] [] σ) (fun v2 t1 => bif decide (v2 = 0) then bm_bI (bm_ev X 31 0 [.ref 45, .int (nI 0)] [] t1) (fun v4 t3 => some (.int v4, t3)) else bif decide (p1 = (-nI 1)) then bm_ev X 134 14 [.ref 45, .int p0, .int p1] [] t1 else bm_bI (bm_ev X 72 0 [.ref 45, .int p1] [] t1) (fun v6 t5 => bif decide (v6 = 0) then bm_bI (bm_ev X 31 0 [.ref 45, .int (nI 0)] [] t5) (fun v8 t7 => some (.int v8, t7)) else bm_ev X 134 14 [.ref 45, .int p0, .int p1] [] t5)) := bm_blk (cd := bm_c134) rfl [14] 400 0 _ _ _
set_option maxRecDepth 20000 in
theorem bb_134_14 (X : bm_X) (σ : bm_M) (x1 : Int32) (x2 : Int32) : bm_ev X 134 14 [.ref 45, .int x1, .int x2] [] σ = bm_gd (bm_in ((nI 85) + x1) 95) (some (.int (nI 1), (bm_up σ 46 ((nI 85) + x1).toNatClampNeg x2))) := bm_blk (cd := bm_c134) rfl [14] 400 14 _ _ _
set_option maxRecDepth 20000 in
theorem bb_135_0 (X : bm_X) (σ : bm_M) (p0 : Int32) (p1 : Int32) : bm_ev X 135 0 [.ref 45, .int p0, .int p1, .null] [] σ = bm_bI (bm_ev X 96 0 [.int p0] [] σ) (fun v2 t1 => bif decide (v2 = 0) then bm_bI (bm_ev X 31 0 [.ref 45, .int (nI 0)] [] t1) (fun v4 t3 => some (.int v4, t3)) else bm_bI (bm_ev X 76 0 [.int p1] [] t1) (fun v6 t5 => bif decide (v6 = 0) then bm_bI (bm_ev X 31 0 [.ref 45, .int (nI 0)] [] t5) (fun v16 t15 => some (.int v16, t15)) else bm_gd (bm_in ((nI 85) + p0) 95) (bif decide ((t5 46 ((nI 85) + p0).toNatClampNeg) < 0) then bm_bI (bm_ev X 31 0 [.ref 45, .int (nI 5)] [] t5) (fun v14 t13 => some (.int v14, t13)) else bm_bI (bm_ev X 34 0 [.ref 45, .int (t5 46 ((nI 85) + p0).toNatClampNeg), .int (nI 0)] [] t5) (fun v8 t7 => bm_bI (bm_ev X 75 0 [.int v8, .int p1, .null] [] t7) (fun v10 t9 => bif decide (v10 = 0) then bm_bI (bm_ev X 31 0 [.ref 45, .int (nI 2)] [] t9) (fun v12 t11 => some (.int v12, t11)) else some (.int (t5 46 ((nI 85) + p0).toNatClampNeg), t9)))))) := bm_blk (cd := bm_c135) rfl [] 400 0 _ _ _
set_option maxRecDepth 20000 in
theorem bb_136_0 (X : bm_X) (σ : bm_M) (p0 : Int32) (p1 : Int32) (p2 : Int32) : bm_ev X 136 0 [.ref 45, .int p0, .int p1, .int p2, .null, .null] [] σ = bif decide (p1 = 0) then bm_ev X 136 11 [.ref 45, .int p0, .int p1, .int p2, .null, .null] [] σ else bif decide (p1 = (nI 8)) then bm_ev X 136 11 [.ref 45, .int p0, .int p1, .int p2, .null, .null] [] σ else bif decide (p1 = (nI 16)) then bm_ev X 136 11 [.ref 45, .int p0, .int p1, .int p2, .null, .null] [] σ else bif decide (p1 = (nI 32)) then bm_ev X 136 11 [.ref 45, .int p0, .int p1, .int p2, .null, .null] [] σ else bm_ev X 136 14 [.ref 45, .int p0, .int p1, .int p2, .null, .null] [.int (nI 0)] σ := bm_blk (cd := bm_c136) rfl [11, 14, 50, 53] 400 0 _ _ _
set_option maxRecDepth 20000 in
theorem bb_136_11 (X : bm_X) (σ : bm_M) (x1 : Int32) (x2 : Int32) (x3 : Int32) (u4 : Value) (u5 : Value) : bm_ev X 136 11 [.ref 45, .int x1, .int x2, .int x3, u4, u5] [] σ = bm_ev X 136 14 [.ref 45, .int x1, .int x2, .int x3, u4, u5] [.int (nI 1)] σ := bm_blk (cd := bm_c136) rfl [11, 14, 50, 53] 400 11 _ _ _
set_option maxRecDepth 20000 in
theorem bb_136_14 (X : bm_X) (σ : bm_M) (x1 : Int32) (x2 : Int32) (x3 : Int32) (y0 : Int32) (u4 : Value) (u5 : Value) : bm_ev X 136 14 [.ref 45, .int x1, .int x2, .int x3, u4, u5] [.int y0] σ = bm_bI (bm_ev X 97 0 [.int x1] [] σ) (fun v2 t1 => bif decide (v2 = 0) then bm_bI (bm_ev X 31 0 [.ref 45, .int (nI 0)] [] t1) (fun v4 t3 => some (.int v4, t3)) else bif decide (y0 = 0) then bm_bI (bm_ev X 31 0 [.ref 45, .int (nI 0)] [] t1) (fun v10 t9 => some (.int v10, t9)) else bif decide (x3 < 0) then bm_bI (bm_ev X 31 0 [.ref 45, .int (nI 6)] [] t1) (fun v8 t7 => some (.int v8, t7)) else bif decide ((nI 40) < x3) then bm_bI (bm_ev X 31 0 [.ref 45, .int (nI 0)] [] t1) (fun v6 t5 => some (.int v6, t5)) else bm_gd (bm_in x1 4) (bif decide (x2 = 0) then bm_ev X 136 50 [.ref 45, .int x1, .int x2, .int x3, .int y0, u5] [.int (nI 0), .int x1, .ref 52] (bm_up t1 51 x1.toNatClampNeg x2) else bm_ev X 136 50 [.ref 45, .int x1, .int x2, .int x3, .int y0, u5] [.int x3, .int x1, .ref 52] (bm_up t1 51 x1.toNatClampNeg x2))) := bm_blk (cd := bm_c136) rfl [11, 14, 50, 53] 400 14 _ _ _
set_option maxRecDepth 20000 in
theorem bb_136_50 (X : bm_X) (σ : bm_M) (x1 : Int32) (y0 : Int32) (y1 : Int32) (u2 : Value) (u3 : Value) (u4 : Value) (u5 : Value) : bm_ev X 136 50 [.ref 45, .int x1, u2, u3, u4, u5] [.int y0, .int y1, .ref 52] σ = bm_gd (bm_in y1 4) (bm_ev X 136 53 [.ref 45, .int x1, u2, u3, u4, .int (nI 0)] [] (bm_up σ 52 y1.toNatClampNeg y0)) := bm_blk (cd := bm_c136) rfl [11, 14, 50, 53] 400 50 _ _ _
set_option maxRecDepth 20000 in
theorem bb_136_53 (X : bm_X) (σ : bm_M) (x1 : Int32) (x5 : Int32) (u2 : Value) (u3 : Value) (u4 : Value) : bm_ev X 136 53 [.ref 45, .int x1, u2, u3, u4, .int x5] [] σ = bif decide (x5 < (nI 40)) then bm_gd (bm_in (((nI 40) * x1) + x5) 160) (bm_ev X 136 53 [.ref 45, .int x1, u2, u3, u4, .int (x5 + nI 1)] [] (bm_up σ 53 (((nI 40) * x1) + x5).toNatClampNeg (nI 0))) else bm_gd (bm_in x1 4) (some (.int (σ 52 x1.toNatClampNeg), σ)) := bm_blk (cd := bm_c136) rfl [11, 14, 50, 53] 400 53 _ _ _
set_option maxRecDepth 20000 in
theorem bb_137_0 (X : bm_X) (σ : bm_M) (p0 : Int32) : bm_ev X 137 0 [.ref 45, .int p0] [] σ = bm_bI (bm_ev X 97 0 [.int p0] [] σ) (fun v2 t1 => bif decide (v2 = 0) then some (.int (nI 0), t1) else bm_gd (bm_in p0 4) (bif decide ((t1 51 p0.toNatClampNeg) = 0) then some (.int (nI 5), t1) else some (.int (-nI 1), t1))) := bm_blk (cd := bm_c137) rfl [] 400 0 _ _ _
set_option maxRecDepth 20000 in
theorem bb_138_0 (X : bm_X) (σ : bm_M) (p0 : Int32) (p1 : Int32) (p2 : Int32) (p3 : Int32) (p4 : Int32) : bm_ev X 138 0 [.ref 45, .int p0, .int p1, .int p2, .int p3, .int p4, .null, .null] [] σ = bm_bI (bm_ev X 97 0 [.int p0] [] σ) (fun v2 t1 => bif decide (v2 = 0) then bm_bI (bm_ev X 31 0 [.ref 45, .int (nI 0)] [] t1) (fun v4 t3 => some (.int v4, t3)) else bm_bI (bm_ev X 97 0 [.int p2] [] t1) (fun v6 t5 => bif decide (v6 = 0) then bm_bI (bm_ev X 31 0 [.ref 45, .int (nI 0)] [] t5) (fun v14 t13 => some (.int v14, t13)) else bm_gd (bm_in p0 4) (bif decide ((t5 51 p0.toNatClampNeg) = 0) then bm_bI (bm_ev X 31 0 [.ref 45, .int (nI 5)] [] t5) (fun v8 t7 => some (.int v8, t7)) else bm_gd (bm_in p2 4) (bif decide ((t5 51 p2.toNatClampNeg) = 0) then bm_bI (bm_ev X 31 0 [.ref 45, .int (nI 5)] [] t5) (fun v12 t11 => some (.int v12, t11)) else bm_gd (bm_in p0 4) (bm_gd (bm_in p2 4) (bif decide ((t5 51 p0.toNatClampNeg) = (t5 51 p2.toNatClampNeg)) then bif decide (p4 < 0) then bm_ev X 138 69 [.ref 45, .int p0, .int p1, .int p2, .int p3, .int p4, .null, .null] [] t5 else bif decide (p1 < 0) then bm_ev X 138 69 [.ref 45, .int p0, .int p1, .int p2, .int p3, .int p4, .null, .null] [] t5 else bif decide (p3 < 0) then bm_ev X 138 69 [.ref 45, .int p0, .int p1, .int p2, .int p3, .int p4, .null, .null] [] t5 else bm_gd (bm_in p0 4) (bif decide (0 < (lg_cmp (p1.toInt64 + p4.toInt64) (t5 52 p0.toNatClampNeg).toInt64)) then bm_ev X 138 69 [.ref 45, .int p0, .int p1, .int p2, .int p3, .int p4, .null, .null] [] t5 else bm_gd (bm_in p2 4) (bif decide (0 < (lg_cmp (p3.toInt64 + p4.toInt64) (t5 52 p2.toNatClampNeg).toInt64)) then bm_ev X 138 69 [.ref 45, .int p0, .int p1, .int p2, .int p3, .int p4, .null, .null] [] t5 else bm_ev X 138 70 [.ref 45, .int p0, .int p1, .int p2, .int p3, .int p4, .null, .null] [.int (nI 1)] t5)) else bm_bI (bm_ev X 31 0 [.ref 45, .int (nI 2)] [] t5) (fun v10 t9 => some (.int v10, t9)))))))) := bm_blk (cd := bm_c138) rfl [69, 70, 79, 100] 400 0 _ _ _
set_option maxRecDepth 20000 in
theorem bb_138_69 (X : bm_X) (σ : bm_M) (x1 : Int32) (x2 : Int32) (x3 : Int32) (x4 : Int32) (x5 : Int32) (u6 : Value) (u7 : Value) : bm_ev X 138 69 [.ref 45, .int x1, .int x2, .int x3, .int x4, .int x5, u6, u7] [] σ = bm_ev X 138 70 [.ref 45, .int x1, .int x2, .int x3, .int x4, .int x5, u6, u7] [.int (nI 0)] σ := bm_blk (cd := bm_c138) rfl [69, 70, 79, 100] 400 69 _ _ _
set_option maxRecDepth 20000 in
theorem bb_138_70 (X : bm_X) (σ : bm_M) (x1 : Int32) (x2 : Int32) (x3 : Int32) (x4 : Int32) (x5 : Int32) (y0 : Int32) (u6 : Value) (u7 : Value) : bm_ev X 138 70 [.ref 45, .int x1, .int x2, .int x3, .int x4, .int x5, u6, u7] [.int y0] σ = bif decide (y0 = 0) then bm_bI (bm_ev X 31 0 [.ref 45, .int (nI 0)] [] σ) (fun v2 t1 => some (.int v2, t1)) else bm_ev X 138 79 [.ref 45, .int x1, .int x2, .int x3, .int x4, .int x5, .int y0, .int (nI 0)] [] σ := bm_blk (cd := bm_c138) rfl [69, 70, 79, 100] 400 70 _ _ _
set_option maxRecDepth 20000 in
theorem bb_138_79 (X : bm_X) (σ : bm_M) (x1 : Int32) (x2 : Int32) (x3 : Int32) (x4 : Int32) (x5 : Int32) (x7 : Int32) (u6 : Value) : bm_ev X 138 79 [.ref 45, .int x1, .int x2, .int x3, .int x4, .int x5, u6, .int x7] [] σ = bif decide (x7 < x5) then bm_gd (bm_in ((((nI 40) * x1) + x2) + x7) 160) (bm_gd (bm_in x7 40) (bm_ev X 138 79 [.ref 45, .int x1, .int x2, .int x3, .int x4, .int x5, u6, .int (x7 + nI 1)] [] (bm_up σ 54 x7.toNatClampNeg (σ 53 ((((nI 40) * x1) + x2) + x7).toNatClampNeg)))) else bm_ev X 138 100 [.ref 45, .int x1, .int x2, .int x3, .int x4, .int x5, u6, .int (nI 0)] [] σ := bm_blk (cd := bm_c138) rfl [69, 70, 79, 100] 400 79 _ _ _
set_option maxRecDepth 20000 in
theorem bb_138_100 (X : bm_X) (σ : bm_M) (x3 : Int32) (x4 : Int32) (x5 : Int32) (x7 : Int32) (u1 : Value) (u2 : Value) (u6 : Value) : bm_ev X 138 100 [.ref 45, u1, u2, .int x3, .int x4, .int x5, u6, .int x7] [] σ = bif decide (x7 < x5) then bm_gd (bm_in x7 40) (bm_gd (bm_in ((((nI 40) * x3) + x4) + x7) 160) (bm_ev X 138 100 [.ref 45, u1, u2, .int x3, .int x4, .int x5, u6, .int (x7 + nI 1)] [] (bm_up σ 53 ((((nI 40) * x3) + x4) + x7).toNatClampNeg (σ 54 x7.toNatClampNeg)))) else some (.int x5, σ) := bm_blk (cd := bm_c138) rfl [69, 70, 79, 100] 400 100 _ _ _
set_option maxRecDepth 20000 in
theorem bb_139_0 (X : bm_X) (σ : bm_M) (p0 : Int32) : bm_ev X 139 0 [.ref 45, .int p0] [] σ = bif decide (p0 = nI 0) then bm_gd (bm_in (nI 0) 95) (some (.int (σ 46 (nI 0).toNatClampNeg), σ)) else bif decide (p0 = nI 1) then bm_gd (bm_in (nI 2) 95) (some (.int (σ 46 (nI 2).toNatClampNeg), σ)) else bif decide (p0 = nI 2) then bm_bI (bm_ev X 87 0 [.ref 45, .null, .null] [] σ) (fun v2 t1 => bm_bI (bm_ev X 37 0 [.int v2, .null, .null] [] t1) (fun v4 t3 => some (.int v4, t3))) else bif decide (p0 = nI 3) then bm_bI (bm_ev X 86 0 [.ref 45, .null, .null] [] σ) (fun v6 t5 => some (.int v6, t5)) else bif decide (p0 = nI 4) then bm_bI (bm_ev X 39 0 [.ref 45, .null, .null] [] σ) (fun v8 t7 => some (.int v8, t7)) else bif decide (p0 = nI 5) then some (.int (σ 45 9), σ) else bif decide (p0 = nI 6) then bm_gd (bm_in (nI 1) 95) (some (.int (σ 46 (nI 1).toNatClampNeg), σ)) else bif decide (p0 = nI 7) then bm_bI (bm_ev X 47 0 [.ref 45, .null, .null] [] σ) (fun v10 t9 => some (.int v10, t9)) else bm_bI (bm_ev X 31 0 [.ref 45, .int (nI 0)] [] σ) (fun v12 t11 => some (.int v12, t11)) := bm_blk (cd := bm_c139) rfl [] 400 0 _ _ _
set_option maxRecDepth 20000 in
theorem bb_145_0 (X : bm_X) (σ : bm_M) (p0 : Int32) (p1 : Int32) : bm_ev X 145 0 [.ref 45, .int p0, .int p1] [] σ = bm_bI (bm_ev X 72 0 [.ref 45, .int p0] [] σ) (fun v2 t1 => bif decide (v2 = 0) then bm_bI (bm_ev X 31 0 [.ref 45, .int (nI 0)] [] t1) (fun v4 t3 => some (.int v4, t3)) else bm_bI (bm_ev X 32 0 [.long p1.toInt64, .null, .long (lN 0), .null, .long (lN 10), .null] [] t1) (fun v6 t5 => bif decide (v6 = 0) then bm_bI (bm_ev X 31 0 [.ref 45, .int (nI 0)] [] t5) (fun v18 t17 => some (.int v18, t17)) else bif decide (p1 = nI 7) then bm_bI (bm_ev X 122 0 [.ref 45, .int p0, .null, .null] [] t5) (fun v8 t7 => some (.int v8, t7)) else bif decide (p1 = nI 8) then bm_bI (bm_ev X 78 0 [.ref 45, .int p0] [] t5) (fun v10 t9 => some (.int v10, t9)) else bif decide (p1 = nI 9) then bm_bI (bm_ev X 79 0 [.ref 45, .int p0, .null, .null, .null] [] t5) (fun v12 t11 => some (.int v12, t11)) else bif decide (p1 = nI 10) then bm_bI (bm_ev X 80 0 [.ref 45, .int p0, .null, .null] [] t5) (fun v14 t13 => some (.int v14, t13)) else bm_bI (bm_ev X 34 0 [.ref 45, .int p0, .int p1] [] t5) (fun v16 t15 => some (.int v16, t15)))) := bm_blk (cd := bm_c145) rfl [] 400 0 _ _ _
set_option maxRecDepth 20000 in
theorem bb_146_0 (X : bm_X) (σ : bm_M) (p0 : Int32) (p1 : Int32) (p2 : Int32) : bm_ev X 146 0 [.ref 45, .int p0, .int p1, .int p2] [] σ = bm_bI (bm_ev X 72 0 [.ref 45, .int p0] [] σ) (fun v2 t1 => bif decide (v2 = 0) then bm_bI (bm_ev X 31 0 [.ref 45, .int (nI 0)] [] t1) (fun v4 t3 => some (.int v4, t3)) else bm_bI (bm_ev X 128 0 [.int p1, .int p2] [] t1) (fun v6 t5 => bif decide (v6 = 0) then bm_bI (bm_ev X 31 0 [.ref 45, .int (nI 0)] [] t5) (fun v8 t7 => some (.int v8, t7)) else bm_bI (bm_ev X 36 0 [.ref 45, .int (((nI 29) + ((nI 7) * p0)) + p1), .int p2, .null] [] t5) (fun v10 t9 => some (.int v10, t9)))) := bm_blk (cd := bm_c146) rfl [] 400 0 _ _ _
set_option maxRecDepth 20000 in
theorem bb_147_0 (X : bm_X) (σ : bm_M) (p0 : Int32) : bm_ev X 147 0 [.ref 45, .int p0, .null, .null, .null] [] σ = bm_bI (bm_ev X 34 0 [.ref 45, .int p0, .int (nI 6)] [] σ) (fun v2 t1 => bif decide (v2 = 0) then bm_bI (bm_ev X 34 0 [.ref 45, .int p0, .int (nI 5)] [] t1) (fun v4 t3 => bm_bI (bm_ev X 122 0 [.ref 45, .int p0, .null, .null] [] t3) (fun v6 t5 => bm_bV (bm_ev X 35 0 [.ref 45, .int p0, .int (nI 5), .int (bm_min (nI 9999) (v4 + v6))] [] t5) (fun t7 => bm_ev X 147 19 [.ref 45, .int p0, .null, .null, .null] [] t7))) else bm_ev X 147 19 [.ref 45, .int p0, .null, .null, .null] [] t1) := bm_blk (cd := bm_c147) rfl [19, 39, 60] 400 0 _ _ _
set_option maxRecDepth 20000 in
theorem bb_147_19 (X : bm_X) (σ : bm_M) (x1 : Int32) (u2 : Value) (u3 : Value) (u4 : Value) : bm_ev X 147 19 [.ref 45, .int x1, u2, u3, u4] [] σ = bm_bI (bm_ev X 34 0 [.ref 45, .int x1, .int (nI 1)] [] σ) (fun v2 t1 => bm_bI (bm_ev X 78 0 [.ref 45, .int x1] [] t1) (fun v4 t3 => bm_gd (bm_in ((nI 5) + v2) 95) (bif decide ((t3 46 ((nI 5) + v2).toNatClampNeg) < v4) then bm_ev X 147 39 [.ref 45, .int x1, .int ((nI 5) + v2), .int v4, u4] [.int (nI 1)] t3 else bm_ev X 147 39 [.ref 45, .int x1, .int ((nI 5) + v2), .int v4, u4] [.int (nI 0)] t3))) := bm_blk (cd := bm_c147) rfl [19, 39, 60] 400 19 _ _ _
set_option maxRecDepth 20000 in
theorem bb_147_39 (X : bm_X) (σ : bm_M) (x1 : Int32) (x2 : Int32) (x3 : Int32) (y0 : Int32) (u4 : Value) : bm_ev X 147 39 [.ref 45, .int x1, .int x2, .int x3, u4] [.int y0] σ = bm_gd (bm_in x2 95) (bm_gd (bm_in x2 95) (bif decide (y0 = 0) then bm_ev X 147 60 [.ref 45, .int x1, .int x2, .int x3, .int y0] [] (bm_up σ 46 x2.toNatClampNeg (bm_max (nI 0) ((σ 46 x2.toNatClampNeg) - x3))) else bm_bV (bm_ev X 84 0 [.ref 45, .int x1] [] (bm_up σ 46 x2.toNatClampNeg (bm_max (nI 0) ((σ 46 x2.toNatClampNeg) - x3)))) (fun t1 => bm_gd (bm_bo (nI 1)) (bm_ev X 147 60 [.ref 45, .int x1, .int x2, .int x3, .int y0] [] (bm_up t1 45 5 (nI 1)))))) := bm_blk (cd := bm_c147) rfl [19, 39, 60] 400 39 _ _ _
set_option maxRecDepth 20000 in
theorem bb_147_60 (X : bm_X) (σ : bm_M) (x1 : Int32) (u2 : Value) (u3 : Value) (u4 : Value) : bm_ev X 147 60 [.ref 45, .int x1, u2, u3, u4] [] σ = bm_bI (bm_ev X 34 0 [.ref 45, .int x1, .int (nI 4)] [] σ) (fun v2 t1 => bm_bV (bm_ev X 35 0 [.ref 45, .int x1, .int (nI 4), .int (bm_min (nI 999) (v2 + (nI 1)))] [] t1) (fun t3 => some (.null, t3))) := bm_blk (cd := bm_c147) rfl [19, 39, 60] 400 60 _ _ _
set_option maxRecDepth 20000 in
theorem bb_148_0 (X : bm_X) (σ : bm_M) (p0 : Int32) : bm_ev X 148 0 [.ref 45, .int p0] [] σ = bif decide ((σ 45 12) = 0) then bif decide (p0 = 0) then bm_ev X 148 6 [.ref 45, .int p0] [.ref 45] σ else bm_ev X 148 9 [.ref 45, .int p0] [.int (nI 0), .ref 45] σ else bm_ev X 148 6 [.ref 45, .int p0] [.ref 45] σ := bm_blk (cd := bm_c148) rfl [6, 9] 400 0 _ _ _
set_option maxRecDepth 20000 in
theorem bb_148_6 (X : bm_X) (σ : bm_M) (u1 : Value) : bm_ev X 148 6 [.ref 45, u1] [.ref 45] σ = bm_ev X 148 9 [.ref 45, u1] [.int (nI 1), .ref 45] σ := bm_blk (cd := bm_c148) rfl [6, 9] 400 6 _ _ _
set_option maxRecDepth 20000 in
theorem bb_148_9 (X : bm_X) (σ : bm_M) (y0 : Int32) (u1 : Value) : bm_ev X 148 9 [.ref 45, u1] [.int y0, .ref 45] σ = bm_gd (bm_bo y0) (bif decide (((bm_up σ 45 12 y0) 45 12) = 0) then bm_bV (bm_ev X 133 0 [.ref 45, .null, .null] [] (bm_up σ 45 12 y0)) (fun t1 => some (.null, t1)) else some (.null, (bm_up σ 45 12 y0))) := bm_blk (cd := bm_c148) rfl [6, 9] 400 9 _ _ _
set_option maxRecDepth 20000 in
theorem bb_149_0 (X : bm_X) (σ : bm_M) (p0 : Int32) (p1 : Int32) (p2 : Int32) : bm_ev X 149 0 [.ref 45, .int p0, .int p1, .int p2, .null] [] σ = bm_bI (bm_ev X 137 0 [.ref 45, .int p0] [] σ) (fun v2 t1 => bif decide (v2 < 0) then bm_gd (bm_in p0 4) (bm_bI (bm_ev X 32 0 [.long p1.toInt64, .null, .long (lN 0), .null, .long ((t1 52 p0.toNatClampNeg) - (nI 1)).toInt64, .null] [] t1) (fun v4 t3 => bif decide (v4 = 0) then bm_bI (bm_ev X 31 0 [.ref 45, .int (nI 0)] [] t3) (fun v6 t5 => some (.int v6, t5)) else bm_gd (bm_in p0 4) (bif decide ((t3 51 p0.toNatClampNeg) = (nI 8)) then bm_gd (bm_in (((nI 40) * p0) + p1) 160) (some (.int (nI 1), (bm_up t3 53 (((nI 40) * p0) + p1).toNatClampNeg p2.toInt8.toInt32))) else bm_gd (bm_in p0 4) (bif decide ((t3 51 p0.toNatClampNeg) = (nI 16)) then bm_gd (bm_in (((nI 40) * p0) + p1) 160) (some (.int (nI 1), (bm_up t3 53 (((nI 40) * p0) + p1).toNatClampNeg p2.toInt16.toInt32))) else bm_gd (bm_in (((nI 40) * p0) + p1) 160) (some (.int (nI 1), (bm_up t3 53 (((nI 40) * p0) + p1).toNatClampNeg p2))))))) else bm_bI (bm_ev X 31 0 [.ref 45, .int v2] [] t1) (fun v8 t7 => some (.int v8, t7))) := bm_blk (cd := bm_c149) rfl [] 400 0 _ _ _
set_option maxRecDepth 20000 in
theorem bb_150_0 (X : bm_X) (σ : bm_M) (p0 : Int32) : bm_ev X 150 0 [.ref 45, .int p0, .null, .null] [] σ = bm_bI (bm_ev X 137 0 [.ref 45, .int p0] [] σ) (fun v2 t1 => bif decide (v2 < 0) then bm_ev X 150 12 [.ref 45, .int p0, .int v2, .int (nI 0)] [] t1 else bm_bI (bm_ev X 31 0 [.ref 45, .int v2] [] t1) (fun v4 t3 => some (.int v4, t3))) := bm_blk (cd := bm_c150) rfl [12] 400 0 _ _ _
set_option maxRecDepth 20000 in
theorem bb_150_12 (X : bm_X) (σ : bm_M) (x1 : Int32) (x3 : Int32) (u2 : Value) : bm_ev X 150 12 [.ref 45, .int x1, u2, .int x3] [] σ = bm_gd (bm_in x1 4) (bif decide (x3 < (σ 52 x1.toNatClampNeg)) then bif decide (x3 < (nI 12)) then bm_gd (bm_in (((nI 40) * x1) + x3) 160) (bm_bI (bm_ev X 74 0 [.int (σ 53 (((nI 40) * x1) + x3).toNatClampNeg)] [] σ) (fun v2 t1 => bif decide (v2 = 0) then some (.int x3, t1) else bm_gd (bm_in (((nI 40) * x1) + x3) 160) (bm_gd (bm_in ((nI 5) + x3) 95) (bm_ev X 150 12 [.ref 45, .int x1, u2, .int (x3 + nI 1)] [] (bm_up t1 46 ((nI 5) + x3).toNatClampNeg (t1 53 (((nI 40) * x1) + x3).toNatClampNeg)))))) else some (.int x3, σ) else some (.int x3, σ)) := bm_blk (cd := bm_c150) rfl [12] 400 12 _ _ _
set_option maxRecDepth 20000 in
theorem bb_151_0 (X : bm_X) (σ : bm_M) (p0 : Int32) : bm_ev X 151 0 [.ref 45, .int p0, .null, .null] [] σ = bm_bI (bm_ev X 137 0 [.ref 45, .int p0] [] σ) (fun v2 t1 => bif decide (v2 < 0) then bm_ev X 151 12 [.ref 45, .int p0, .int v2, .int (nI 0)] [] t1 else bm_bI (bm_ev X 31 0 [.ref 45, .int v2] [] t1) (fun v4 t3 => some (.int v4, t3))) := bm_blk (cd := bm_c151) rfl [12, 38] 400 0 _ _ _
set_option maxRecDepth 20000 in
theorem bb_151_12 (X : bm_X) (σ : bm_M) (x1 : Int32) (x3 : Int32) (u2 : Value) : bm_ev X 151 12 [.ref 45, .int x1, u2, .int x3] [] σ = bm_gd (bm_in x1 4) (bif decide (x3 < (σ 52 x1.toNatClampNeg)) then bif decide (x3 < (nI 12)) then bm_gd (bm_in ((nI 17) + x3) 95) (bm_gd (bm_in (((nI 40) * x1) + x3) 160) (bif decide ((σ 46 ((nI 17) + x3).toNatClampNeg) = (σ 53 (((nI 40) * x1) + x3).toNatClampNeg)) then bm_ev X 151 12 [.ref 45, .int x1, u2, .int (x3 + nI 1)] [] σ else bm_ev X 151 38 [.ref 45, .int x1, u2, .int x3] [] σ)) else bm_ev X 151 38 [.ref 45, .int x1, u2, .int x3] [] σ else bm_ev X 151 38 [.ref 45, .int x1, u2, .int x3] [] σ) := bm_blk (cd := bm_c151) rfl [12, 38] 400 12 _ _ _
set_option maxRecDepth 20000 in
theorem bb_151_38 (X : bm_X) (σ : bm_M) (x1 : Int32) (x3 : Int32) (u2 : Value) : bm_ev X 151 38 [.ref 45, .int x1, u2, .int x3] [] σ = bm_gd (bm_in x1 4) (bif decide (x3 = (σ 52 x1.toNatClampNeg)) then some (.int (nI 0), σ) else some (.int (x3 + (nI 1)), σ)) := bm_blk (cd := bm_c151) rfl [12, 38] 400 38 _ _ _
set_option maxRecDepth 20000 in
theorem bb_160_0 (X : bm_X) (σ : bm_M) : bm_ev X 160 0 [.ref 45, .null] [] σ = bm_gd (bm_bo (nI 0)) (bm_ev X 160 5 [.ref 45, .int (nI 0)] [] (bm_up σ 45 5 (nI 0))) := bm_blk (cd := bm_c160) rfl [5, 18, 52] 400 0 _ _ _
set_option maxRecDepth 20000 in
theorem bb_160_5 (X : bm_X) (σ : bm_M) (x1 : Int32) : bm_ev X 160 5 [.ref 45, .int x1] [] σ = bm_gd (bm_in (nI 2) 95) (bif decide (x1 < (σ 46 (nI 2).toNatClampNeg)) then bm_bV (bm_ev X 147 0 [.ref 45, .int x1, .null, .null, .null] [] σ) (fun t1 => bm_ev X 160 5 [.ref 45, .int (x1 + nI 1)] [] t1) else bm_ev X 160 18 [.ref 45, .int (nI 0)] [] σ) := bm_blk (cd := bm_c160) rfl [5, 18, 52] 400 5 _ _ _
set_option maxRecDepth 20000 in
theorem bb_160_18 (X : bm_X) (σ : bm_M) (x1 : Int32) : bm_ev X 160 18 [.ref 45, .int x1] [] σ = bif decide (x1 < (nI 12)) then bm_gd (bm_in ((nI 5) + x1) 95) (bm_gd (bm_in (nI 3) 95) (bm_gd (bm_in ((nI 5) + x1) 95) (bm_ev X 160 18 [.ref 45, .int (x1 + nI 1)] [] (bm_up σ 46 ((nI 5) + x1).toNatClampNeg (bm_min (nI 99) ((σ 46 ((nI 5) + x1).toNatClampNeg) + (σ 46 (nI 3).toNatClampNeg))))))) else bm_gd (bm_in (nI 0) 95) (bm_gd (bm_in (nI 0) 95) (bm_ev X 160 52 [.ref 45, .int (nI 0)] [] (bm_up σ 46 (nI 0).toNatClampNeg ((σ 46 (nI 0).toNatClampNeg) + (nI 1))))) := bm_blk (cd := bm_c160) rfl [5, 18, 52] 400 18 _ _ _
set_option maxRecDepth 20000 in
theorem bb_160_52 (X : bm_X) (σ : bm_M) (x1 : Int32) : bm_ev X 160 52 [.ref 45, .int x1] [] σ = bm_gd (bm_in (nI 2) 95) (bif decide (x1 < (σ 46 (nI 2).toNatClampNeg)) then bm_gd (bm_in (nI 0) 95) (bif decide ((bm_rem (σ 46 (nI 0).toNatClampNeg) (nI 6)) = 0) then bm_bV (bm_ev X 129 0 [.ref 45, .int x1, .null, .null, .null, .null] [] σ) (fun t1 => bm_ev X 160 52 [.ref 45, .int (x1 + nI 1)] [] t1) else some (.null, σ)) else some (.null, σ)) := bm_blk (cd := bm_c160) rfl [5, 18, 52] 400 52 _ _ _
set_option maxRecDepth 20000 in
theorem bb_161_0 (X : bm_X) (σ : bm_M) (w : Nat) : bm_ev X 161 0 [.ref 45, .ref w, .null, .null] [] σ = bif decide ((σ 45 12) = 0) then bm_gd (bm_st w) (bm_bI (bm_ev X 102 0 [.ref w] [] σ) (fun v2 t1 => bif decide (((σ 45 11) - (σ 45 10)) = v2) then bm_ev X 161 14 [.ref 45, .ref w, .null, .null] [.int (nI 1)] t1 else bm_ev X 161 13 [.ref 45, .ref w, .null, .null] [] t1)) else bm_ev X 161 13 [.ref 45, .ref w, .null, .null] [] σ := bm_blk (cd := bm_c161) rfl [13, 14, 17, 37] 400 0 _ _ _
set_option maxRecDepth 20000 in
theorem bb_161_13 (X : bm_X) (σ : bm_M) (w : Nat) (u2 : Value) (u3 : Value) : bm_ev X 161 13 [.ref 45, .ref w, u2, u3] [] σ = bm_ev X 161 14 [.ref 45, .ref w, u2, u3] [.int (nI 0)] σ := bm_blk (cd := bm_c161) rfl [13, 14, 17, 37] 400 13 _ _ _
set_option maxRecDepth 20000 in
theorem bb_161_14 (X : bm_X) (σ : bm_M) (w : Nat) (y0 : Int32) (u2 : Value) (u3 : Value) : bm_ev X 161 14 [.ref 45, .ref w, u2, u3] [.int y0] σ = bm_ev X 161 17 [.ref 45, .ref w, .int y0, .int (nI 0)] [] σ := bm_blk (cd := bm_c161) rfl [13, 14, 17, 37] 400 14 _ _ _
set_option maxRecDepth 20000 in
theorem bb_161_17 (X : bm_X) (σ : bm_M) (w : Nat) (x2 : Int32) (x3 : Int32) : bm_ev X 161 17 [.ref 45, .ref w, .int x2, .int x3] [] σ = bif decide (x2 = 0) then bm_gd (bm_bo x2) (some (.int x2, σ)) else bm_gd (bm_st w) (bm_bI (bm_ev X 102 0 [.ref w] [] σ) (fun v2 t1 => bif decide (x3 < v2) then bm_gd (bm_in ((t1 45 10) + x3) 120) (bm_gd (bm_st w) (bm_bI (bm_ev X 152 0 [.ref w, .int x3] [] t1) (fun v4 t3 => bif decide ((t1 50 ((t1 45 10) + x3).toNatClampNeg) = v4) then bm_ev X 161 37 [.ref 45, .ref w, .int x2, .int x3] [.int (nI 1)] t3 else bm_ev X 161 37 [.ref 45, .ref w, .int x2, .int x3] [.int (nI 0)] t3))) else bm_gd (bm_bo x2) (some (.int x2, t1)))) := bm_blk (cd := bm_c161) rfl [13, 14, 17, 37] 400 17 _ _ _
set_option maxRecDepth 20000 in
theorem bb_161_37 (X : bm_X) (σ : bm_M) (w : Nat) (x3 : Int32) (y0 : Int32) (u2 : Value) : bm_ev X 161 37 [.ref 45, .ref w, u2, .int x3] [.int y0] σ = bm_ev X 161 17 [.ref 45, .ref w, .int y0, .int (x3 + nI 1)] [] σ := bm_blk (cd := bm_c161) rfl [13, 14, 17, 37] 400 37 _ _ _
set_option maxRecDepth 20000 in
theorem bb_162_0 (X : bm_X) (σ : bm_M) (p0 : Int32) (p1 : Int32) : bm_ev X 162 0 [.ref 45, .int p0, .int p1, .null, .null] [] σ = bm_bI (bm_ev X 95 0 [.ref 45, .int (σ 45 10), .int (nI 48), .int (nI 57)] [] σ) (fun v2 t1 => bif decide (v2 = 0) then bm_ev X 162 10 [.ref 45, .int p0, .int p1, .null, .null] [.int (-nI 1)] t1 else bm_ev X 162 10 [.ref 45, .int p0, .int p1, .null, .null] [.int (nI 0)] t1) := bm_blk (cd := bm_c162) rfl [10, 14, 35, 38] 400 0 _ _ _
set_option maxRecDepth 20000 in
theorem bb_162_10 (X : bm_X) (σ : bm_M) (x1 : Int32) (x2 : Int32) (y0 : Int32) (u3 : Value) (u4 : Value) : bm_ev X 162 10 [.ref 45, .int x1, .int x2, u3, u4] [.int y0] σ = bm_ev X 162 14 [.ref 45, .int x1, .int x2, .int y0, .int (σ 45 10)] [] σ := bm_blk (cd := bm_c162) rfl [10, 14, 35, 38] 400 10 _ _ _
set_option maxRecDepth 20000 in
theorem bb_162_14 (X : bm_X) (σ : bm_M) (x1 : Int32) (x2 : Int32) (x3 : Int32) (x4 : Int32) : bm_ev X 162 14 [.ref 45, .int x1, .int x2, .int x3, .int x4] [] σ = bif decide (x4 < (σ 45 11)) then bif decide (x3 < 0) then bm_ev X 162 38 [.ref 45, .int x1, .int x2, .int x3, .int x4] [] σ else bif decide ((nI 999) < x3) then bm_ev X 162 35 [.ref 45, .int x1, .int x2, .int x3, .int x4] [.int x3] σ else bm_gd (bm_in x4 120) (bm_ev X 162 35 [.ref 45, .int x1, .int x2, .int x3, .int x4] [.int ((((nI 10) * x3) + (σ 50 x4.toNatClampNeg)) - (nI 48))] σ) else bm_ev X 162 38 [.ref 45, .int x1, .int x2, .int x3, .int x4] [] σ := bm_blk (cd := bm_c162) rfl [10, 14, 35, 38] 400 14 _ _ _
set_option maxRecDepth 20000 in
theorem bb_162_35 (X : bm_X) (σ : bm_M) (x1 : Int32) (x2 : Int32) (x4 : Int32) (y0 : Int32) (u3 : Value) : bm_ev X 162 35 [.ref 45, .int x1, .int x2, u3, .int x4] [.int y0] σ = bm_ev X 162 14 [.ref 45, .int x1, .int x2, .int y0, .int (x4 + nI 1)] [] σ := bm_blk (cd := bm_c162) rfl [10, 14, 35, 38] 400 35 _ _ _
set_option maxRecDepth 20000 in
theorem bb_162_38 (X : bm_X) (σ : bm_M) (x1 : Int32) (x2 : Int32) (x3 : Int32) (u4 : Value) : bm_ev X 162 38 [.ref 45, .int x1, .int x2, .int x3, u4] [] σ = bm_bI (bm_ev X 32 0 [.long x3.toInt64, .null, .long x1.toInt64, .null, .long x2.toInt64, .null] [] σ) (fun v2 t1 => bm_bV (bm_ev X 148 0 [.ref 45, .int v2] [] t1) (fun t3 => some (.int x3, t3))) := bm_blk (cd := bm_c162) rfl [10, 14, 35, 38] 400 38 _ _ _
set_option maxRecDepth 20000 in
theorem bb_175_0 (X : bm_X) (σ : bm_M) (p0 : Int32) : bm_ev X 175 0 [.ref 45, .int p0, .null] [] σ = bm_ev X 175 2 [.ref 45, .int p0, .int (nI 0)] [] σ := bm_blk (cd := bm_c175) rfl [2] 400 0 _ _ _
set_option maxRecDepth 20000 in
theorem bb_175_2 (X : bm_X) (σ : bm_M) (x1 : Int32) (x2 : Int32) : bm_ev X 175 2 [.ref 45, .int x1, .int x2] [] σ = bif decide (x2 < x1) then bm_bV (bm_ev X 160 0 [.ref 45, .null] [] σ) (fun t1 => bm_ev X 175 2 [.ref 45, .int x1, .int (x2 + nI 1)] [] t1) else some (.null, σ) := bm_blk (cd := bm_c175) rfl [2] 400 2 _ _ _
set_option maxRecDepth 20000 in
theorem bb_176_0 (X : bm_X) (σ : bm_M) (p0 : Int32) (p1 : Int32) : bm_ev X 176 0 [.ref 45, .int p0, .int p1, .null] [] σ = bm_bI (bm_ev X 73 0 [.int p0] [] σ) (fun v2 t1 => bif decide (v2 = 0) then bm_bI (bm_ev X 31 0 [.ref 45, .int (nI 0)] [] t1) (fun v4 t3 => some (.int v4, t3)) else bm_bI (bm_ev X 32 0 [.long p1.toInt64, .null, .long (lN 0), .null, .long (lN 99999), .null] [] t1) (fun v6 t5 => bif decide (v6 = 0) then bm_bI (bm_ev X 31 0 [.ref 45, .int (nI 0)] [] t5) (fun v9 t8 => some (.int v9, t8)) else bm_bV (bm_ev X 70 0 [.ref 45] [] t5) (fun t7 => bm_ev X 176 17 [.ref 45, .int p0, .int p1, .int (nI 0)] [] t7))) := bm_blk (cd := bm_c176) rfl [17] 400 0 _ _ _
set_option maxRecDepth 20000 in
theorem bb_176_17 (X : bm_X) (σ : bm_M) (x1 : Int32) (x2 : Int32) (x3 : Int32) : bm_ev X 176 17 [.ref 45, .int x1, .int x2, .int x3] [] σ = bif decide ((nI 200) < x3) then bm_bV (bm_ev X 71 0 [.ref 45] [] σ) (fun t1 => bm_bI (bm_ev X 91 0 [.ref 45, .int x3, .int (nI 200)] [] t1) (fun v3 t2 => some (.int v3, t2))) else bm_gd (bm_in ((nI 17) + x1) 95) (bif decide ((σ 46 ((nI 17) + x1).toNatClampNeg) < x2) then bm_bV (bm_ev X 160 0 [.ref 45, .null] [] σ) (fun t7 => bm_ev X 176 17 [.ref 45, .int x1, .int x2, .int (x3 + nI 1)] [] t7) else bm_bV (bm_ev X 71 0 [.ref 45] [] σ) (fun t4 => bm_bI (bm_ev X 91 0 [.ref 45, .int x3, .int (nI 200)] [] t4) (fun v6 t5 => some (.int v6, t5)))) := bm_blk (cd := bm_c176) rfl [17] 400 17 _ _ _
set_option maxRecDepth 20000 in
theorem bb_177_0 (X : bm_X) (σ : bm_M) (p0 : Int32) (p1 : Int32) : bm_ev X 177 0 [.ref 45, .int p0, .int p1, .null] [] σ = bm_bI (bm_ev X 72 0 [.ref 45, .int p0] [] σ) (fun v2 t1 => bif decide (v2 = 0) then bm_bI (bm_ev X 31 0 [.ref 45, .int (nI 0)] [] t1) (fun v4 t3 => some (.int v4, t3)) else bm_bI (bm_ev X 72 0 [.ref 45, .int p1] [] t1) (fun v6 t5 => bif decide (v6 = 0) then bm_bI (bm_ev X 31 0 [.ref 45, .int (nI 0)] [] t5) (fun v8 t7 => some (.int v8, t7)) else bif decide (p0 = p1) then bm_bI (bm_ev X 31 0 [.ref 45, .int (nI 0)] [] t5) (fun v11 t10 => some (.int v11, t10)) else bm_bV (bm_ev X 70 0 [.ref 45] [] t5) (fun t9 => bm_ev X 177 19 [.ref 45, .int p0, .int p1, .int (nI 0)] [] t9))) := bm_blk (cd := bm_c177) rfl [19] 400 0 _ _ _
set_option maxRecDepth 20000 in
theorem bb_177_19 (X : bm_X) (σ : bm_M) (x1 : Int32) (x2 : Int32) (x3 : Int32) : bm_ev X 177 19 [.ref 45, .int x1, .int x2, .int x3] [] σ = bif decide ((nI 200) < x3) then bm_bV (bm_ev X 71 0 [.ref 45] [] σ) (fun t1 => bm_bI (bm_ev X 91 0 [.ref 45, .int x3, .int (nI 200)] [] t1) (fun v3 t2 => some (.int v3, t2))) else bm_bI (bm_ev X 34 0 [.ref 45, .int x1, .int (nI 1)] [] σ) (fun v5 t4 => bm_bI (bm_ev X 34 0 [.ref 45, .int x2, .int (nI 1)] [] t4) (fun v7 t6 => bif decide (v5 = v7) then bm_bV (bm_ev X 71 0 [.ref 45] [] t6) (fun t8 => bm_bI (bm_ev X 91 0 [.ref 45, .int x3, .int (nI 200)] [] t8) (fun v10 t9 => some (.int v10, t9))) else bm_bV (bm_ev X 160 0 [.ref 45, .null] [] t6) (fun t11 => bm_ev X 177 19 [.ref 45, .int x1, .int x2, .int (x3 + nI 1)] [] t11))) := bm_blk (cd := bm_c177) rfl [19] 400 19 _ _ _
set_option maxRecDepth 20000 in
theorem bb_178_0 (X : bm_X) (σ : bm_M) : bm_ev X 178 0 [.ref 45, .null] [] σ = bm_bV (bm_ev X 70 0 [.ref 45] [] σ) (fun t1 => bm_ev X 178 4 [.ref 45, .int (nI 0)] [] t1) := bm_blk (cd := bm_c178) rfl [4] 400 0 _ _ _
set_option maxRecDepth 20000 in
theorem bb_178_4 (X : bm_X) (σ : bm_M) (x1 : Int32) : bm_ev X 178 4 [.ref 45, .int x1] [] σ = bif decide ((nI 100) < x1) then bm_bV (bm_ev X 71 0 [.ref 45] [] σ) (fun t1 => bm_bI (bm_ev X 91 0 [.ref 45, .int x1, .int (nI 100)] [] t1) (fun v3 t2 => some (.int v3, t2))) else bm_bI (bm_ev X 42 0 [.ref 45, .null, .null] [] σ) (fun v5 t4 => bif decide (v5 = 0) then bm_bV (bm_ev X 160 0 [.ref 45, .null] [] t4) (fun t9 => bm_ev X 178 4 [.ref 45, .int (x1 + nI 1)] [] t9) else bm_bV (bm_ev X 71 0 [.ref 45] [] t4) (fun t6 => bm_bI (bm_ev X 91 0 [.ref 45, .int x1, .int (nI 100)] [] t6) (fun v8 t7 => some (.int v8, t7)))) := bm_blk (cd := bm_c178) rfl [4] 400 4 _ _ _
set_option maxRecDepth 20000 in
theorem bb_179_0 (X : bm_X) (σ : bm_M) (p0 : Int32) : bm_ev X 179 0 [.ref 45, .int p0, .null, .null] [] σ = bm_ev X 179 4 [.ref 45, .int p0, .int (nI 1), .int (nI 0)] [] σ := bm_blk (cd := bm_c179) rfl [4, 17] 400 0 _ _ _
set_option maxRecDepth 20000 in
theorem bb_179_4 (X : bm_X) (σ : bm_M) (x1 : Int32) (x2 : Int32) (x3 : Int32) : bm_ev X 179 4 [.ref 45, .int x1, .int x2, .int x3] [] σ = bif decide (x3 < x1) then bif decide (x2 = 0) then bm_bV (bm_ev X 71 0 [.ref 45] [] σ) (fun t2 => bm_gd (bm_bo x2) (some (.int x2, t2))) else bm_bV (bm_ev X 160 0 [.ref 45, .null] [] σ) (fun t3 => bif decide ((t3 45 5) = 0) then bm_ev X 179 17 [.ref 45, .int x1, .int x2, .int x3] [.int (nI 1)] t3 else bm_ev X 179 17 [.ref 45, .int x1, .int x2, .int x3] [.int (nI 0)] t3) else bm_bV (bm_ev X 71 0 [.ref 45] [] σ) (fun t1 => bm_gd (bm_bo x2) (some (.int x2, t1))) := bm_blk (cd := bm_c179) rfl [4, 17] 400 4 _ _ _
set_option maxRecDepth 20000 in
theorem bb_179_17 (X : bm_X) (σ : bm_M) (x1 : Int32) (x3 : Int32) (y0 : Int32) (u2 : Value) : bm_ev X 179 17 [.ref 45, .int x1, u2, .int x3] [.int y0] σ = bm_ev X 179 4 [.ref 45, .int x1, .int y0, .int (x3 + nI 1)] [] σ := bm_blk (cd := bm_c179) rfl [4, 17] 400 17 _ _ _
set_option maxRecDepth 20000 in
theorem bb_180_0 (X : bm_X) (σ : bm_M) (p0 : Int32) : bm_ev X 180 0 [.ref 45, .int p0, .null, .null] [] σ = bm_bI (bm_ev X 32 0 [.long p0.toInt64, .null, .long (lN 1), .null, .long (lN 20), .null] [] σ) (fun v2 t1 => bif decide (v2 = 0) then bm_bI (bm_ev X 31 0 [.ref 45, .int (nI 0)] [] t1) (fun v6 t5 => some (.int v6, t5)) else bm_gd (bm_in (nI 0) 95) (bif decide ((nI 99999) < ((t1 46 (nI 0).toNatClampNeg) + p0)) then bm_bI (bm_ev X 31 0 [.ref 45, .int (nI 4)] [] t1) (fun v4 t3 => some (.int v4, t3)) else bm_ev X 180 24 [.ref 45, .int p0, .int (nI 0), .null] [] t1)) := bm_blk (cd := bm_c180) rfl [24, 47] 400 0 _ _ _
set_option maxRecDepth 20000 in
theorem bb_180_24 (X : bm_X) (σ : bm_M) (x1 : Int32) (x2 : Int32) (u3 : Value) : bm_ev X 180 24 [.ref 45, .int x1, .int x2, u3] [] σ = bif decide (x2 < x1) then bm_bI (bm_ev X 44 0 [.ref 45] [] σ) (fun v4 t3 => bm_gd (bm_in (nI 4) 95) (bm_bI (bm_ev X 44 0 [.ref 45] [] (bm_up t3 46 (nI 4).toNatClampNeg (bm_rem v4 (nI 100)))) (fun v6 t5 => bm_bI (bm_ev X 72 0 [.ref 45, .int (bm_rem v6 (nI 8))] [] t5) (fun v8 t7 => bif decide (v8 = 0) then bm_ev X 180 47 [.ref 45, .int x1, .int x2, .int (bm_rem v6 (nI 8))] [] t7 else bm_bV (bm_ev X 84 0 [.ref 45, .int (bm_rem v6 (nI 8))] [] t7) (fun t9 => bm_ev X 180 47 [.ref 45, .int x1, .int x2, .int (bm_rem v6 (nI 8))] [] t9))))) else bm_bI (bm_ev X 39 0 [.ref 45, .null, .null] [] σ) (fun v2 t1 => some (.int v2, t1)) := bm_blk (cd := bm_c180) rfl [24, 47] 400 24 _ _ _
set_option maxRecDepth 20000 in
theorem bb_180_47 (X : bm_X) (σ : bm_M) (x1 : Int32) (x2 : Int32) (u3 : Value) : bm_ev X 180 47 [.ref 45, .int x1, .int x2, u3] [] σ = bm_bV (bm_ev X 160 0 [.ref 45, .null] [] σ) (fun t1 => bm_ev X 180 24 [.ref 45, .int x1, .int (x2 + nI 1), u3] [] t1) := bm_blk (cd := bm_c180) rfl [24, 47] 400 47 _ _ _
set_option maxRecDepth 20000 in
theorem bb_181_0 (X : bm_X) (σ : bm_M) (w : Nat) : bm_ev X 181 0 [.ref 45, .ref w, .null] [] σ = bm_bI (bm_ev X 161 0 [.ref 45, .ref w, .null, .null] [] σ) (fun v2 t1 => bif decide (v2 = 0) then bm_gd (bm_bo v2) (some (.int v2, t1)) else bm_bV (bm_ev X 133 0 [.ref 45, .null, .null] [] t1) (fun t3 => bm_gd (bm_bo v2) (some (.int v2, t3)))) := bm_blk (cd := bm_c181) rfl [] 400 0 _ _ _
set_option maxRecDepth 20000 in
theorem bb_182_0 (X : bm_X) (σ : bm_M) : bm_ev X 182 0 [.ref 45, .null, .null] [] σ = bm_bI (bm_ev X 161 0 [.ref 45, .ref 60, .null, .null] [] σ) (fun v2 t1 => bif decide (v2 = 0) then bm_bI (bm_ev X 161 0 [.ref 45, .ref 61, .null, .null] [] t1) (fun v4 t3 => bif decide (v4 = 0) then bm_bI (bm_ev X 161 0 [.ref 45, .ref 62, .null, .null] [] t3) (fun v6 t5 => bif decide (v6 = 0) then bm_ev X 182 19 [.ref 45, .null, .null] [.int (-nI 1)] t5 else bm_ev X 182 19 [.ref 45, .null, .null] [.int (nI 2)] t5) else bm_ev X 182 19 [.ref 45, .null, .null] [.int (nI 1)] t3) else bm_ev X 182 19 [.ref 45, .null, .null] [.int (nI 0)] t1) := bm_blk (cd := bm_c182) rfl [19, 39] 400 0 _ _ _
set_option maxRecDepth 20000 in
theorem bb_182_19 (X : bm_X) (σ : bm_M) (y0 : Int32) (u1 : Value) (u2 : Value) : bm_ev X 182 19 [.ref 45, u1, u2] [.int y0] σ = bm_bI (bm_ev X 161 0 [.ref 45, .ref 63, .null, .null] [] σ) (fun v2 t1 => bif decide (v2 = 0) then bm_bI (bm_ev X 161 0 [.ref 45, .ref 64, .null, .null] [] t1) (fun v4 t3 => bif decide (v4 = 0) then bm_bI (bm_ev X 161 0 [.ref 45, .ref 65, .null, .null] [] t3) (fun v6 t5 => bif decide (v6 = 0) then bm_ev X 182 39 [.ref 45, .int y0, u2] [.int (-nI 1)] t5 else bm_ev X 182 39 [.ref 45, .int y0, u2] [.int (nI 5)] t5) else bm_ev X 182 39 [.ref 45, .int y0, u2] [.int (nI 4)] t3) else bm_ev X 182 39 [.ref 45, .int y0, u2] [.int (nI 3)] t1) := bm_blk (cd := bm_c182) rfl [19, 39] 400 19 _ _ _
set_option maxRecDepth 20000 in
theorem bb_182_39 (X : bm_X) (σ : bm_M) (x1 : Int32) (y0 : Int32) (u2 : Value) : bm_ev X 182 39 [.ref 45, .int x1, u2] [.int y0] σ = bif decide (x1 < 0) then bif decide (y0 < 0) then bm_bI (bm_ev X 161 0 [.ref 45, .ref 66, .null, .null] [] σ) (fun v2 t1 => bif decide (v2 = 0) then some (.int (-nI 1), t1) else some (.int (nI 6), t1)) else some (.int y0, σ) else some (.int x1, σ) := bm_blk (cd := bm_c182) rfl [19, 39] 400 39 _ _ _
set_option maxRecDepth 20000 in
theorem bb_190_0 (X : bm_X) (σ : bm_M) (p0 : Int32) : bm_ev X 190 0 [.ref 45, .int p0] [] σ = bm_bI (bm_ev X 32 0 [.long p0.toInt64, .null, .long (lN 1), .null, .long (lN 60), .null] [] σ) (fun v2 t1 => bif decide (v2 = 0) then bm_bI (bm_ev X 31 0 [.ref 45, .int (nI 0)] [] t1) (fun v9 t8 => some (.int v9, t8)) else bm_gd (bm_in (nI 0) 95) (bif decide ((nI 99999) < ((t1 46 (nI 0).toNatClampNeg) + p0)) then bm_bI (bm_ev X 31 0 [.ref 45, .int (nI 4)] [] t1) (fun v7 t6 => some (.int v7, t6)) else bm_bV (bm_ev X 175 0 [.ref 45, .int p0, .null] [] t1) (fun t3 => bm_bI (bm_ev X 39 0 [.ref 45, .null, .null] [] t3) (fun v5 t4 => some (.int v5, t4))))) := bm_blk (cd := bm_c190) rfl [] 400 0 _ _ _
set_option maxRecDepth 20000 in
theorem bb_191_0 (X : bm_X) (σ : bm_M) (p0 : Int32) (p1 : Int32) : bm_ev X 191 0 [.ref 45, .int p0, .int p1, .null] [] σ = bm_bV (bm_ev X 175 0 [.ref 45, .int p1, .null] [] σ) (fun t1 => bm_gd (bm_in p0 95) (bm_bV (bm_ev X 71 0 [.ref 45] [] t1) (fun t2 => some (.int (t1 46 p0.toNatClampNeg), t2)))) := bm_blk (cd := bm_c191) rfl [] 400 0 _ _ _
set_option maxRecDepth 20000 in
theorem bb_192_0 (X : bm_X) (σ : bm_M) (p0 : Int32) : bm_ev X 192 0 [.ref 45, .int p0, .null] [] σ = bm_bV (bm_ev X 175 0 [.ref 45, .int p0, .null] [] σ) (fun t1 => bm_bI (bm_ev X 39 0 [.ref 45, .null, .null] [] t1) (fun v3 t2 => bm_bV (bm_ev X 71 0 [.ref 45] [] t2) (fun t4 => some (.int v3, t4)))) := bm_blk (cd := bm_c192) rfl [] 400 0 _ _ _
set_option maxRecDepth 20000 in
theorem bb_193_0 (X : bm_X) (σ : bm_M) (p0 : Int32) : bm_ev X 193 0 [.ref 45, .int p0, .null, .null] [] σ = bm_bI (bm_ev X 90 0 [.int p0] [] σ) (fun v2 t1 => bif decide (v2 = 0) then bm_bI (bm_ev X 31 0 [.ref 45, .int (nI 0)] [] t1) (fun v4 t3 => some (.int v4, t3)) else bm_ev X 193 11 [.ref 45, .int p0, .int (-nI 1), .int (nI 20)] [] t1) := bm_blk (cd := bm_c193) rfl [11, 27] 400 0 _ _ _
set_option maxRecDepth 20000 in
theorem bb_193_11 (X : bm_X) (σ : bm_M) (x1 : Int32) (x2 : Int32) (x3 : Int32) : bm_ev X 193 11 [.ref 45, .int x1, .int x2, .int x3] [] σ = bif decide (x3 < 0) then bif decide (x2 < 0) then bm_bI (bm_ev X 31 0 [.ref 45, .int (nI 3)] [] σ) (fun v2 t1 => some (.int v2, t1)) else some (.int x2, σ) else bm_bV (bm_ev X 70 0 [.ref 45] [] σ) (fun t3 => bm_gd (bm_in (nI 3) 95) (bm_bI (bm_ev X 179 0 [.ref 45, .int x1, .null, .null] [] (bm_up t3 46 (nI 3).toNatClampNeg x3)) (fun v5 t4 => bif decide (v5 = 0) then bm_ev X 193 27 [.ref 45, .int x1, .int x2, .int x3] [.int x2] t4 else bm_ev X 193 27 [.ref 45, .int x1, .int x2, .int x3] [.int x3] t4))) := bm_blk (cd := bm_c193) rfl [11, 27] 400 11 _ _ _
set_option maxRecDepth 20000 in
theorem bb_193_27 (X : bm_X) (σ : bm_M) (x1 : Int32) (x3 : Int32) (y0 : Int32) (u2 : Value) : bm_ev X 193 27 [.ref 45, .int x1, u2, .int x3] [.int y0] σ = bm_ev X 193 11 [.ref 45, .int x1, .int y0, .int (x3 - nI 1)] [] σ := bm_blk (cd := bm_c193) rfl [11, 27] 400 27 _ _ _
set_option maxRecDepth 20000 in
theorem bb_194_0 (X : bm_X) (σ : bm_M) (p0 : Int32) (p1 : Int32) (p2 : Int32) : bm_ev X 194 0 [.ref 45, .int p0, .int p1, .int p2, .null, .null, .null] [] σ = bm_ev X 194 4 [.ref 45, .int p0, .int p1, .int p2, .int (nI 1), .int (nI 0), .null] [] σ := bm_blk (cd := bm_c194) rfl [4, 30, 32, 33] 400 0 _ _ _
set_option maxRecDepth 20000 in
theorem bb_194_4 (X : bm_X) (σ : bm_M) (x1 : Int32) (x2 : Int32) (x3 : Int32) (x4 : Int32) (x5 : Int32) (u6 : Value) : bm_ev X 194 4 [.ref 45, .int x1, .int x2, .int x3, .int x4, .int x5, u6] [] σ = bm_gd (bm_in x1 4) (bif decide (x5 < (σ 52 x1.toNatClampNeg)) then bm_gd (bm_in (((nI 40) * x1) + x5) 160) (bif decide (x4 = 0) then bm_ev X 194 32 [.ref 45, .int x1, .int x2, .int x3, .int x4, .int x5, .int (σ 53 (((nI 40) * x1) + x5).toNatClampNeg)] [] σ else bif decide ((σ 53 (((nI 40) * x1) + x5).toNatClampNeg) = (-nI 1)) then bm_ev X 194 30 [.ref 45, .int x1, .int x2, .int x3, .int x4, .int x5, .int (σ 53 (((nI 40) * x1) + x5).toNatClampNeg)] [] σ else bm_gd (bm_in x2 95) (bif decide ((σ 53 (((nI 40) * x1) + x5).toNatClampNeg) = (σ 46 x2.toNatClampNeg)) then bm_ev X 194 30 [.ref 45, .int x1, .int x2, .int x3, .int x4, .int x5, .int (σ 53 (((nI 40) * x1) + x5).toNatClampNeg)] [] σ else bm_ev X 194 32 [.ref 45, .int x1, .int x2, .int x3, .int x4, .int x5, .int (σ 53 (((nI 40) * x1) + x5).toNatClampNeg)] [] σ)) else bm_bV (bm_ev X 71 0 [.ref 45] [] σ) (fun t1 => bm_gd (bm_bo x4) (some (.int x4, t1)))) := bm_blk (cd := bm_c194) rfl [4, 30, 32, 33] 400 4 _ _ _
set_option maxRecDepth 20000 in
theorem bb_194_30 (X : bm_X) (σ : bm_M) (x1 : Int32) (x2 : Int32) (x3 : Int32) (x5 : Int32) (u4 : Value) (u6 : Value) : bm_ev X 194 30 [.ref 45, .int x1, .int x2, .int x3, u4, .int x5, u6] [] σ = bm_ev X 194 33 [.ref 45, .int x1, .int x2, .int x3, u4, .int x5, u6] [.int (nI 1)] σ := bm_blk (cd := bm_c194) rfl [4, 30, 32, 33] 400 30 _ _ _
set_option maxRecDepth 20000 in
theorem bb_194_32 (X : bm_X) (σ : bm_M) (x1 : Int32) (x2 : Int32) (x3 : Int32) (x5 : Int32) (u4 : Value) (u6 : Value) : bm_ev X 194 32 [.ref 45, .int x1, .int x2, .int x3, u4, .int x5, u6] [] σ = bm_ev X 194 33 [.ref 45, .int x1, .int x2, .int x3, u4, .int x5, u6] [.int (nI 0)] σ := bm_blk (cd := bm_c194) rfl [4, 30, 32, 33] 400 32 _ _ _
set_option maxRecDepth 20000 in
theorem bb_194_33 (X : bm_X) (σ : bm_M) (x1 : Int32) (x2 : Int32) (x3 : Int32) (x5 : Int32) (y0 : Int32) (u4 : Value) (u6 : Value) : bm_ev X 194 33 [.ref 45, .int x1, .int x2, .int x3, u4, .int x5, u6] [.int y0] σ = bm_bV (bm_ev X 175 0 [.ref 45, .int x3, .null] [] σ) (fun t1 => bm_ev X 194 4 [.ref 45, .int x1, .int x2, .int x3, .int y0, .int (x5 + nI 1), u6] [] t1) := bm_blk (cd := bm_c194) rfl [4, 30, 32, 33] 400 33 _ _ _
set_option maxRecDepth 20000 in
theorem bb_195_0 (X : bm_X) (σ : bm_M) (p0 : Int32) : bm_ev X 195 0 [.ref 45, .int p0, .null] [] σ = bm_gd (bm_in (nI 2) 95) (bif decide ((σ 46 (nI 2).toNatClampNeg) < (nI 8)) then bm_ev X 195 10 [.ref 45, .int p0, .null] [.int (nI 1), .ref 45] σ else bm_ev X 195 10 [.ref 45, .int p0, .null] [.int (nI 0), .ref 45] σ) := bm_blk (cd := bm_c195) rfl [10, 32, 44, 56] 400 0 _ _ _
set_option maxRecDepth 20000 in
theorem bb_195_10 (X : bm_X) (σ : bm_M) (x1 : Int32) (y0 : Int32) (u2 : Value) : bm_ev X 195 10 [.ref 45, .int x1, u2] [.int y0, .ref 45] σ = bm_bV (bm_ev X 148 0 [.ref 45, .int y0] [] σ) (fun t1 => bif decide ((t1 45 12) = 0) then bm_bI (bm_ev X 81 0 [.ref 45, .int x1, .int (nI 0), .null] [] t1) (fun v3 t2 => bm_bI (bm_ev X 181 0 [.ref 45, .ref 67, .null] [] t2) (fun v5 t4 => bif decide (v5 = 0) then bm_ev X 195 32 [.ref 45, .int x1, .int v3] [] t4 else bm_bI (bm_ev X 162 0 [.ref 45, .int (nI 0), .int (nI 11), .null, .null] [] t4) (fun v7 t6 => bm_bV (bm_ev X 35 0 [.ref 45, .int v3, .int (nI 1), .int v7] [] t6) (fun t8 => bm_ev X 195 32 [.ref 45, .int x1, .int v3] [] t8)))) else some (.null, t1)) := bm_blk (cd := bm_c195) rfl [10, 32, 44, 56] 400 10 _ _ _
set_option maxRecDepth 20000 in
theorem bb_195_32 (X : bm_X) (σ : bm_M) (x2 : Int32) (u1 : Value) : bm_ev X 195 32 [.ref 45, u1, .int x2] [] σ = bm_bI (bm_ev X 181 0 [.ref 45, .ref 68, .null] [] σ) (fun v2 t1 => bif decide (v2 = 0) then bm_ev X 195 44 [.ref 45, u1, .int x2] [] t1 else bm_bI (bm_ev X 162 0 [.ref 45, .int (nI 0), .int (nI 11), .null, .null] [] t1) (fun v4 t3 => bm_bV (bm_ev X 35 0 [.ref 45, .int x2, .int (nI 2), .int v4] [] t3) (fun t5 => bm_ev X 195 44 [.ref 45, u1, .int x2] [] t5))) := bm_blk (cd := bm_c195) rfl [10, 32, 44, 56] 400 32 _ _ _
set_option maxRecDepth 20000 in
theorem bb_195_44 (X : bm_X) (σ : bm_M) (x2 : Int32) (u1 : Value) : bm_ev X 195 44 [.ref 45, u1, .int x2] [] σ = bm_bI (bm_ev X 181 0 [.ref 45, .ref 69, .null] [] σ) (fun v2 t1 => bif decide (v2 = 0) then bm_ev X 195 56 [.ref 45, u1, .int x2] [] t1 else bm_bI (bm_ev X 162 0 [.ref 45, .int (nI 0), .int (nI 9), .null, .null] [] t1) (fun v4 t3 => bm_bV (bm_ev X 35 0 [.ref 45, .int x2, .int (nI 3), .int v4] [] t3) (fun t5 => bm_ev X 195 56 [.ref 45, u1, .int x2] [] t5))) := bm_blk (cd := bm_c195) rfl [10, 32, 44, 56] 400 44 _ _ _
set_option maxRecDepth 20000 in
theorem bb_195_56 (X : bm_X) (σ : bm_M) (x2 : Int32) (u1 : Value) : bm_ev X 195 56 [.ref 45, u1, .int x2] [] σ = bm_bI (bm_ev X 181 0 [.ref 45, .ref 70, .null] [] σ) (fun v2 t1 => bif decide (v2 = 0) then some (.null, t1) else bm_bV (bm_ev X 35 0 [.ref 45, .int x2, .int (nI 6), .int (nI 1)] [] t1) (fun t3 => some (.null, t3))) := bm_blk (cd := bm_c195) rfl [10, 32, 44, 56] 400 56 _ _ _
set_option maxRecDepth 20000 in
theorem bb_197_0 (X : bm_X) (σ : bm_M) (p0 : Int32) (p1 : Int32) : bm_ev X 197 0 [.ref 45, .int p0, .int p1] [] σ = bm_bI (bm_ev X 73 0 [.int p0] [] σ) (fun v2 t1 => bif decide (v2 = 0) then bm_bI (bm_ev X 31 0 [.ref 45, .int (nI 0)] [] t1) (fun v4 t3 => some (.int v4, t3)) else bm_bI (bm_ev X 89 0 [.int p1] [] t1) (fun v6 t5 => bif decide (v6 = 0) then bm_bI (bm_ev X 31 0 [.ref 45, .int (nI 0)] [] t5) (fun v11 t10 => some (.int v11, t10)) else bm_bV (bm_ev X 70 0 [.ref 45] [] t5) (fun t7 => bm_bI (bm_ev X 191 0 [.ref 45, .int ((nI 17) + p0), .int p1, .null] [] t7) (fun v9 t8 => some (.int v9, t8))))) := bm_blk (cd := bm_c197) rfl [] 400 0 _ _ _
set_option maxRecDepth 20000 in
theorem bb_198_0 (X : bm_X) (σ : bm_M) (p0 : Int32) (p1 : Int32) (p2 : Int32) : bm_ev X 198 0 [.ref 45, .int p0, .int p1, .int p2] [] σ = bm_bI (bm_ev X 72 0 [.ref 45, .int p0] [] σ) (fun v2 t1 => bif decide (v2 = 0) then bm_bI (bm_ev X 31 0 [.ref 45, .int (nI 0)] [] t1) (fun v4 t3 => some (.int v4, t3)) else bif decide (p1 = (nI 1)) then bm_ev X 198 10 [.ref 45, .int p0, .int p1, .int p2] [] t1 else bif decide (p1 = (nI 5)) then bm_ev X 198 10 [.ref 45, .int p0, .int p1, .int p2] [] t1 else bm_bI (bm_ev X 31 0 [.ref 45, .int (nI 0)] [] t1) (fun v6 t5 => some (.int v6, t5))) := bm_blk (cd := bm_c198) rfl [10] 400 0 _ _ _
set_option maxRecDepth 20000 in
theorem bb_198_10 (X : bm_X) (σ : bm_M) (x1 : Int32) (x2 : Int32) (x3 : Int32) : bm_ev X 198 10 [.ref 45, .int x1, .int x2, .int x3] [] σ = bm_bI (bm_ev X 89 0 [.int x3] [] σ) (fun v2 t1 => bif decide (v2 = 0) then bm_bI (bm_ev X 31 0 [.ref 45, .int (nI 0)] [] t1) (fun v7 t6 => some (.int v7, t6)) else bm_bV (bm_ev X 70 0 [.ref 45] [] t1) (fun t3 => bm_bI (bm_ev X 191 0 [.ref 45, .int (((nI 29) + ((nI 7) * x1)) + x2), .int x3, .null] [] t3) (fun v5 t4 => some (.int v5, t4)))) := bm_blk (cd := bm_c198) rfl [10] 400 10 _ _ _
set_option maxRecDepth 20000 in
theorem bb_199_0 (X : bm_X) (σ : bm_M) (p0 : Int32) (p1 : Int32) : bm_ev X 199 0 [.ref 45, .int p0, .int p1, .null] [] σ = bm_bI (bm_ev X 72 0 [.ref 45, .int p0] [] σ) (fun v2 t1 => bif decide (v2 = 0) then bm_bI (bm_ev X 31 0 [.ref 45, .int (nI 0)] [] t1) (fun v4 t3 => some (.int v4, t3)) else bm_bI (bm_ev X 90 0 [.int p1] [] t1) (fun v6 t5 => bif decide (v6 = 0) then bm_bI (bm_ev X 31 0 [.ref 45, .int (nI 0)] [] t5) (fun v9 t8 => some (.int v9, t8)) else bm_bV (bm_ev X 43 0 [.ref 45] [] t5) (fun t7 => bm_ev X 199 15 [.ref 45, .int p0, .int p1, .int (nI 0)] [] t7))) := bm_blk (cd := bm_c199) rfl [15] 400 0 _ _ _
set_option maxRecDepth 20000 in
theorem bb_199_15 (X : bm_X) (σ : bm_M) (x1 : Int32) (x2 : Int32) (x3 : Int32) : bm_ev X 199 15 [.ref 45, .int x1, .int x2, .int x3] [] σ = bif decide (x3 < (nI 12)) then bm_bV (bm_ev X 70 0 [.ref 45] [] σ) (fun t1 => bm_bV (bm_ev X 35 0 [.ref 45, .int x1, .int (nI 1), .int x3] [] t1) (fun t2 => bm_bI (bm_ev X 192 0 [.ref 45, .int x2, .null] [] t2) (fun v4 t3 => bm_bV (bm_ev X 92 0 [.ref 45, .int x3, .int v4] [] t3) (fun t5 => bm_ev X 199 15 [.ref 45, .int x1, .int x2, .int (x3 + nI 1)] [] t5)))) else some (.int (σ 45 6), σ) := bm_blk (cd := bm_c199) rfl [15] 400 15 _ _ _
set_option maxRecDepth 20000 in
theorem bb_200_0 (X : bm_X) (σ : bm_M) (p0 : Int32) (p1 : Int32) (p2 : Int32) : bm_ev X 200 0 [.ref 45, .int p0, .int p1, .int p2, .null] [] σ = bm_bI (bm_ev X 72 0 [.ref 45, .int p0] [] σ) (fun v2 t1 => bif decide (v2 = 0) then bm_bI (bm_ev X 31 0 [.ref 45, .int (nI 0)] [] t1) (fun v4 t3 => some (.int v4, t3)) else bm_bI (bm_ev X 73 0 [.int p1] [] t1) (fun v6 t5 => bif decide (v6 = 0) then bm_bI (bm_ev X 31 0 [.ref 45, .int (nI 0)] [] t5) (fun v8 t7 => some (.int v8, t7)) else bm_bI (bm_ev X 90 0 [.int p2] [] t5) (fun v10 t9 => bif decide (v10 = 0) then bm_bI (bm_ev X 31 0 [.ref 45, .int (nI 0)] [] t9) (fun v13 t12 => some (.int v13, t12)) else bm_bV (bm_ev X 43 0 [.ref 45] [] t9) (fun t11 => bm_ev X 200 18 [.ref 45, .int p0, .int p1, .int p2, .int (nI 0)] [] t11)))) := bm_blk (cd := bm_c200) rfl [18] 400 0 _ _ _
set_option maxRecDepth 20000 in
theorem bb_200_18 (X : bm_X) (σ : bm_M) (x1 : Int32) (x2 : Int32) (x3 : Int32) (x4 : Int32) : bm_ev X 200 18 [.ref 45, .int x1, .int x2, .int x3, .int x4] [] σ = bif decide (x4 < (nI 12)) then bm_bV (bm_ev X 70 0 [.ref 45] [] σ) (fun t1 => bm_bV (bm_ev X 35 0 [.ref 45, .int x1, .int (nI 2), .int x4] [] t1) (fun t2 => bm_bI (bm_ev X 191 0 [.ref 45, .int ((nI 17) + x2), .int x3, .null] [] t2) (fun v4 t3 => bm_bV (bm_ev X 92 0 [.ref 45, .int x4, .int v4] [] t3) (fun t5 => bm_ev X 200 18 [.ref 45, .int x1, .int x2, .int x3, .int (x4 + nI 1)] [] t5)))) else some (.int (σ 45 6), σ) := bm_blk (cd := bm_c200) rfl [18] 400 18 _ _ _
set_option maxRecDepth 20000 in
theorem bb_201_0 (X : bm_X) (σ : bm_M) (p0 : Int32) (p1 : Int32) : bm_ev X 201 0 [.ref 45, .int p0, .int p1, .null] [] σ = bm_bI (bm_ev X 72 0 [.ref 45, .int p0] [] σ) (fun v2 t1 => bif decide (v2 = 0) then bm_bI (bm_ev X 31 0 [.ref 45, .int (nI 0)] [] t1) (fun v4 t3 => some (.int v4, t3)) else bm_bI (bm_ev X 90 0 [.int p1] [] t1) (fun v6 t5 => bif decide (v6 = 0) then bm_bI (bm_ev X 31 0 [.ref 45, .int (nI 0)] [] t5) (fun v9 t8 => some (.int v9, t8)) else bm_bV (bm_ev X 43 0 [.ref 45] [] t5) (fun t7 => bm_ev X 201 15 [.ref 45, .int p0, .int p1, .int (nI 0)] [] t7))) := bm_blk (cd := bm_c201) rfl [15] 400 0 _ _ _
set_option maxRecDepth 20000 in
theorem bb_201_15 (X : bm_X) (σ : bm_M) (x1 : Int32) (x2 : Int32) (x3 : Int32) : bm_ev X 201 15 [.ref 45, .int x1, .int x2, .int x3] [] σ = bif decide ((nI 6) < x3) then some (.int (σ 45 6), σ) else bm_bV (bm_ev X 70 0 [.ref 45] [] σ) (fun t1 => bm_bV (bm_ev X 35 0 [.ref 45, .int x1, .int (nI 0), .int x3] [] t1) (fun t2 => bm_bI (bm_ev X 192 0 [.ref 45, .int x2, .null] [] t2) (fun v4 t3 => bm_bV (bm_ev X 92 0 [.ref 45, .int x3, .int v4] [] t3) (fun t5 => bm_ev X 201 15 [.ref 45, .int x1, .int x2, .int (x3 + nI 1)] [] t5)))) := bm_blk (cd := bm_c201) rfl [15] 400 15 _ _ _
set_option maxRecDepth 20000 in
theorem bb_202_0 (X : bm_X) (σ : bm_M) (p0 : Int32) (p1 : Int32) (p2 : Int32) : bm_ev X 202 0 [.ref 45, .int p0, .int p1, .int p2, .null, .null] [] σ = bm_bI (bm_ev X 72 0 [.ref 45, .int p0] [] σ) (fun v2 t1 => bif decide (v2 = 0) then bm_bI (bm_ev X 31 0 [.ref 45, .int (nI 0)] [] t1) (fun v4 t3 => some (.int v4, t3)) else bm_bI (bm_ev X 32 0 [.long p1.toInt64, .null, .long (lN 0), .null, .long (lN 9999), .null] [] t1) (fun v6 t5 => bif decide (v6 = 0) then bm_bI (bm_ev X 31 0 [.ref 45, .int (nI 0)] [] t5) (fun v8 t7 => some (.int v8, t7)) else bm_bI (bm_ev X 90 0 [.int p2] [] t5) (fun v10 t9 => bif decide (v10 = 0) then bm_bI (bm_ev X 31 0 [.ref 45, .int (nI 0)] [] t9) (fun v12 t11 => some (.int v12, t11)) else bm_ev X 202 21 [.ref 45, .int p0, .int p1, .int p2, .int (-nI 1), .int (nI 9)] [] t9))) := bm_blk (cd := bm_c202) rfl [21, 44] 400 0 _ _ _
set_option maxRecDepth 20000 in
theorem bb_202_21 (X : bm_X) (σ : bm_M) (x1 : Int32) (x2 : Int32) (x3 : Int32) (x4 : Int32) (x5 : Int32) : bm_ev X 202 21 [.ref 45, .int x1, .int x2, .int x3, .int x4, .int x5] [] σ = bif decide (x5 < 0) then bif decide (x4 < 0) then bm_bI (bm_ev X 31 0 [.ref 45, .int (nI 3)] [] σ) (fun v2 t1 => some (.int v2, t1)) else some (.int x4, σ) else bm_bV (bm_ev X 70 0 [.ref 45] [] σ) (fun t3 => bm_bV (bm_ev X 35 0 [.ref 45, .int x1, .int (nI 3), .int x5] [] t3) (fun t4 => bm_bI (bm_ev X 34 0 [.ref 45, .int x1, .int (nI 2)] [] t4) (fun v6 t5 => bm_bI (bm_ev X 191 0 [.ref 45, .int ((nI 17) + v6), .int x3, .null] [] t5) (fun v8 t7 => bif decide (v8 < x2) then bm_ev X 202 44 [.ref 45, .int x1, .int x2, .int x3, .int x4, .int x5] [.int x4] t7 else bm_ev X 202 44 [.ref 45, .int x1, .int x2, .int x3, .int x4, .int x5] [.int x5] t7)))) := bm_blk (cd := bm_c202) rfl [21, 44] 400 21 _ _ _
set_option maxRecDepth 20000 in
theorem bb_202_44 (X : bm_X) (σ : bm_M) (x1 : Int32) (x2 : Int32) (x3 : Int32) (x5 : Int32) (y0 : Int32) (u4 : Value) : bm_ev X 202 44 [.ref 45, .int x1, .int x2, .int x3, u4, .int x5] [.int y0] σ = bm_ev X 202 21 [.ref 45, .int x1, .int x2, .int x3, .int y0, .int (x5 - nI 1)] [] σ := bm_blk (cd := bm_c202) rfl [21, 44] 400 44 _ _ _
set_option maxRecDepth 20000 in
theorem bb_203_0 (X : bm_X) (σ : bm_M) (p0 : Int32) (p1 : Int32) : bm_ev X 203 0 [.ref 45, .int p0, .int p1, .null, .null] [] σ = bm_bI (bm_ev X 32 0 [.long p0.toInt64, .null, .long (lN 0), .null, .long (lN 9999), .null] [] σ) (fun v2 t1 => bif decide (v2 = 0) then bm_bI (bm_ev X 31 0 [.ref 45, .int (nI 0)] [] t1) (fun v4 t3 => some (.int v4, t3)) else bm_bI (bm_ev X 90 0 [.int p1] [] t1) (fun v6 t5 => bif decide (v6 = 0) then bm_bI (bm_ev X 31 0 [.ref 45, .int (nI 0)] [] t5) (fun v8 t7 => some (.int v8, t7)) else bm_ev X 203 17 [.ref 45, .int p0, .int p1, .int (-nI 1), .int (nI 0)] [] t5)) := bm_blk (cd := bm_c203) rfl [17, 35] 400 0 _ _ _
set_option maxRecDepth 20000 in
theorem bb_203_17 (X : bm_X) (σ : bm_M) (x1 : Int32) (x2 : Int32) (x3 : Int32) (x4 : Int32) : bm_ev X 203 17 [.ref 45, .int x1, .int x2, .int x3, .int x4] [] σ = bif decide ((nI 99) < x4) then bif decide (x3 < 0) then bm_bI (bm_ev X 31 0 [.ref 45, .int (nI 3)] [] σ) (fun v2 t1 => some (.int v2, t1)) else some (.int x3, σ) else bm_bV (bm_ev X 70 0 [.ref 45] [] σ) (fun t3 => bm_gd (bm_in (nI 4) 95) (bm_bI (bm_ev X 192 0 [.ref 45, .int x2, .null] [] (bm_up t3 46 (nI 4).toNatClampNeg x4)) (fun v5 t4 => bif decide (v5 < x1) then bm_ev X 203 35 [.ref 45, .int x1, .int x2, .int x3, .int x4] [.int x3] t4 else bm_ev X 203 35 [.ref 45, .int x1, .int x2, .int x3, .int x4] [.int x4] t4))) := bm_blk (cd := bm_c203) rfl [17, 35] 400 17 _ _ _
set_option maxRecDepth 20000 in
theorem bb_203_35 (X : bm_X) (σ : bm_M) (x1 : Int32) (x2 : Int32) (x4 : Int32) (y0 : Int32) (u3 : Value) : bm_ev X 203 35 [.ref 45, .int x1, .int x2, u3, .int x4] [.int y0] σ = bm_ev X 203 17 [.ref 45, .int x1, .int x2, .int y0, .int (x4 + nI 1)] [] σ := bm_blk (cd := bm_c203) rfl [17, 35] 400 35 _ _ _
set_option maxRecDepth 20000 in
theorem bb_204_0 (X : bm_X) (σ : bm_M) (p0 : Int32) (p1 : Int32) (p2 : Int32) : bm_ev X 204 0 [.ref 45, .int p0, .int p1, .int p2, .null, .null, .null] [] σ = bm_bI (bm_ev X 73 0 [.int p0] [] σ) (fun v2 t1 => bif decide (v2 = 0) then bm_bI (bm_ev X 31 0 [.ref 45, .int (nI 0)] [] t1) (fun v4 t3 => some (.int v4, t3)) else bm_bI (bm_ev X 32 0 [.long p1.toInt64, .null, .long (lN 0), .null, .long (lN 9999), .null] [] t1) (fun v6 t5 => bif decide (v6 = 0) then bm_bI (bm_ev X 31 0 [.ref 45, .int (nI 0)] [] t5) (fun v8 t7 => some (.int v8, t7)) else bm_bI (bm_ev X 32 0 [.long p2.toInt64, .null, .long (lN 0), .null, .long (lN 18), .null] [] t5) (fun v10 t9 => bif decide (v10 = 0) then bm_bI (bm_ev X 31 0 [.ref 45, .int (nI 0)] [] t9) (fun v12 t11 => some (.int v12, t11)) else bm_ev X 204 23 [.ref 45, .int p0, .int p1, .int p2, .int (-nI 1), .int (nI 0), .null] [] t9))) := bm_blk (cd := bm_c204) rfl [23, 38, 42, 64, 78] 400 0 _ _ _
set_option maxRecDepth 20000 in
theorem bb_204_23 (X : bm_X) (σ : bm_M) (x1 : Int32) (x2 : Int32) (x3 : Int32) (x4 : Int32) (x5 : Int32) (u6 : Value) : bm_ev X 204 23 [.ref 45, .int x1, .int x2, .int x3, .int x4, .int x5, u6] [] σ = bm_gd (bm_in (nI 2) 95) (bif decide (x5 < (bm_shl (nI 1) (σ 46 (nI 2).toNatClampNeg))) then bif decide (x4 < 0) then bm_ev X 204 38 [.ref 45, .int x1, .int x2, .int x3, .int x4, .int x5, u6] [] σ else bm_bI (bm_ev X 37 0 [.int x5, .null, .null] [] σ) (fun v4 t3 => bm_bI (bm_ev X 37 0 [.int x4, .null, .null] [] t3) (fun v6 t5 => bif decide (v4 < v6) then bm_ev X 204 38 [.ref 45, .int x1, .int x2, .int x3, .int x4, .int x5, u6] [] t5 else bm_ev X 204 23 [.ref 45, .int x1, .int x2, .int x3, .int x4, .int (x5 + nI 1), u6] [] t5)) else bif decide (x4 < 0) then bm_bI (bm_ev X 31 0 [.ref 45, .int (nI 3)] [] σ) (fun v2 t1 => some (.int v2, t1)) else some (.int x4, σ)) := bm_blk (cd := bm_c204) rfl [23, 38, 42, 64, 78] 400 23 _ _ _
set_option maxRecDepth 20000 in
theorem bb_204_38 (X : bm_X) (σ : bm_M) (x1 : Int32) (x2 : Int32) (x3 : Int32) (x4 : Int32) (x5 : Int32) (u6 : Value) : bm_ev X 204 38 [.ref 45, .int x1, .int x2, .int x3, .int x4, .int x5, u6] [] σ = bm_bV (bm_ev X 70 0 [.ref 45] [] σ) (fun t1 => bm_ev X 204 42 [.ref 45, .int x1, .int x2, .int x3, .int x4, .int x5, .int (nI 0)] [] t1) := bm_blk (cd := bm_c204) rfl [23, 38, 42, 64, 78] 400 38 _ _ _
set_option maxRecDepth 20000 in
theorem bb_204_42 (X : bm_X) (σ : bm_M) (x1 : Int32) (x2 : Int32) (x3 : Int32) (x4 : Int32) (x5 : Int32) (x6 : Int32) : bm_ev X 204 42 [.ref 45, .int x1, .int x2, .int x3, .int x4, .int x5, .int x6] [] σ = bm_gd (bm_in (nI 2) 95) (bif decide (x6 < (σ 46 (nI 2).toNatClampNeg)) then bif decide (((bm_shr x5 x6) &&& (nI 1)) = (nI 1)) then bm_ev X 204 64 [.ref 45, .int x1, .int x2, .int x3, .int x4, .int x5, .int x6] [.int (nI 1), .int (nI 6), .int x6, .ref 45] σ else bm_bI (bm_ev X 34 0 [.ref 45, .int x6, .int (nI 6)] [] σ) (fun v4 t3 => bm_ev X 204 64 [.ref 45, .int x1, .int x2, .int x3, .int x4, .int x5, .int x6] [.int v4, .int (nI 6), .int x6, .ref 45] t3) else bm_bI (bm_ev X 191 0 [.ref 45, .int ((nI 17) + x1), .int x3, .null] [] σ) (fun v2 t1 => bif decide (x2 < v2) then bm_ev X 204 78 [.ref 45, .int x1, .int x2, .int x3, .int x4, .int x5, .int x6] [.int x4] t1 else bm_ev X 204 78 [.ref 45, .int x1, .int x2, .int x3, .int x4, .int x5, .int x6] [.int x5] t1)) := bm_blk (cd := bm_c204) rfl [23, 38, 42, 64, 78] 400 42 _ _ _
set_option maxRecDepth 20000 in
theorem bb_204_64 (X : bm_X) (σ : bm_M) (x1 : Int32) (x2 : Int32) (x3 : Int32) (x4 : Int32) (x5 : Int32) (x6 : Int32) (y0 : Int32) (y1 : Int32) (y2 : Int32) : bm_ev X 204 64 [.ref 45, .int x1, .int x2, .int x3, .int x4, .int x5, .int x6] [.int y0, .int y1, .int y2, .ref 45] σ = bm_bV (bm_ev X 35 0 [.ref 45, .int y2, .int y1, .int y0] [] σ) (fun t1 => bm_ev X 204 42 [.ref 45, .int x1, .int x2, .int x3, .int x4, .int x5, .int (x6 + nI 1)] [] t1) := bm_blk (cd := bm_c204) rfl [23, 38, 42, 64, 78] 400 64 _ _ _
set_option maxRecDepth 20000 in
theorem bb_204_78 (X : bm_X) (σ : bm_M) (x1 : Int32) (x2 : Int32) (x3 : Int32) (x5 : Int32) (y0 : Int32) (u4 : Value) (u6 : Value) : bm_ev X 204 78 [.ref 45, .int x1, .int x2, .int x3, u4, .int x5, u6] [.int y0] σ = bm_ev X 204 23 [.ref 45, .int x1, .int x2, .int x3, .int y0, .int (x5 + nI 1), u6] [] σ := bm_blk (cd := bm_c204) rfl [23, 38, 42, 64, 78] 400 78 _ _ _
set_option maxRecDepth 20000 in
theorem bb_205_0 (X : bm_X) (σ : bm_M) (p0 : Int32) (p1 : Int32) : bm_ev X 205 0 [.ref 45, .int p0, .int p1, .null, .null, .null] [] σ = bm_bI (bm_ev X 137 0 [.ref 45, .int p0] [] σ) (fun v2 t1 => bif decide (v2 < 0) then bm_bI (bm_ev X 73 0 [.int p1] [] t1) (fun v4 t3 => bif decide (v4 = 0) then bm_bI (bm_ev X 31 0 [.ref 45, .int (nI 0)] [] t3) (fun v6 t5 => some (.int v6, t5)) else bm_ev X 205 21 [.ref 45, .int p0, .int p1, .int v2, .int (nI 0), .int (nI 0)] [] t3) else bm_bI (bm_ev X 31 0 [.ref 45, .int v2] [] t1) (fun v8 t7 => some (.int v8, t7))) := bm_blk (cd := bm_c205) rfl [21, 53] 400 0 _ _ _
set_option maxRecDepth 20000 in
theorem bb_205_21 (X : bm_X) (σ : bm_M) (x1 : Int32) (x2 : Int32) (x4 : Int32) (x5 : Int32) (u3 : Value) : bm_ev X 205 21 [.ref 45, .int x1, .int x2, u3, .int x4, .int x5] [] σ = bm_gd (bm_in (nI 2) 95) (bif decide (x5 < (σ 46 (nI 2).toNatClampNeg)) then bm_bV (bm_ev X 70 0 [.ref 45] [] σ) (fun t1 => bm_bI (bm_ev X 34 0 [.ref 45, .int x5, .int (nI 6)] [] t1) (fun v3 t2 => bm_bV (bm_ev X 35 0 [.ref 45, .int x5, .int (nI 6), .int ((nI 1) - v3)] [] t2) (fun t4 => bm_bI (bm_ev X 194 0 [.ref 45, .int x1, .int ((nI 17) + x2), .int (nI 6), .null, .null, .null] [] t4) (fun v6 t5 => bif decide (v6 = 0) then bm_ev X 205 53 [.ref 45, .int x1, .int x2, u3, .int x4, .int x5] [.int (nI 0), .int x4] t5 else bm_ev X 205 53 [.ref 45, .int x1, .int x2, u3, .int x4, .int x5] [.int (bm_shl (nI 1) x5), .int x4] t5)))) else some (.int x4, σ)) := bm_blk (cd := bm_c205) rfl [21, 53] 400 21 _ _ _
set_option maxRecDepth 20000 in
theorem bb_205_53 (X : bm_X) (σ : bm_M) (x1 : Int32) (x2 : Int32) (x5 : Int32) (y0 : Int32) (y1 : Int32) (u3 : Value) (u4 : Value) : bm_ev X 205 53 [.ref 45, .int x1, .int x2, u3, u4, .int x5] [.int y0, .int y1] σ = bm_ev X 205 21 [.ref 45, .int x1, .int x2, u3, .int (y1 ||| y0), .int (x5 + nI 1)] [] σ := bm_blk (cd := bm_c205) rfl [21, 53] 400 53 _ _ _
set_option maxRecDepth 20000 in
theorem bb_206_0 (X : bm_X) (σ : bm_M) (p0 : Int32) (p1 : Int32) : bm_ev X 206 0 [.ref 45, .int p0, .int p1, .null, .null, .null] [] σ = bm_bI (bm_ev X 137 0 [.ref 45, .int p0] [] σ) (fun v2 t1 => bif decide (v2 < 0) then bm_bI (bm_ev X 72 0 [.ref 45, .int p1] [] t1) (fun v4 t3 => bif decide (v4 = 0) then bm_bI (bm_ev X 31 0 [.ref 45, .int (nI 0)] [] t3) (fun v6 t5 => some (.int v6, t5)) else bm_ev X 206 22 [.ref 45, .int p0, .int p1, .int v2, .int (nI 0), .int (nI 0)] [] t3) else bm_bI (bm_ev X 31 0 [.ref 45, .int v2] [] t1) (fun v8 t7 => some (.int v8, t7))) := bm_blk (cd := bm_c206) rfl [22, 50] 400 0 _ _ _
set_option maxRecDepth 20000 in
theorem bb_206_22 (X : bm_X) (σ : bm_M) (x1 : Int32) (x2 : Int32) (x4 : Int32) (x5 : Int32) (u3 : Value) : bm_ev X 206 22 [.ref 45, .int x1, .int x2, u3, .int x4, .int x5] [] σ = bif decide ((nI 6) < x5) then some (.int x4, σ) else bm_bV (bm_ev X 70 0 [.ref 45] [] σ) (fun t1 => bm_bV (bm_ev X 35 0 [.ref 45, .int x2, .int (nI 0), .int x5] [] t1) (fun t2 => bm_bI (bm_ev X 194 0 [.ref 45, .int x1, .int (((nI 29) + ((nI 7) * x2)) + (nI 5)), .int (nI 1), .null, .null, .null] [] t2) (fun v4 t3 => bif decide (v4 = 0) then bm_ev X 206 50 [.ref 45, .int x1, .int x2, u3, .int x4, .int x5] [.int (nI 0), .int x4] t3 else bm_ev X 206 50 [.ref 45, .int x1, .int x2, u3, .int x4, .int x5] [.int (bm_shl (nI 1) x5), .int x4] t3))) := bm_blk (cd := bm_c206) rfl [22, 50] 400 22 _ _ _
set_option maxRecDepth 20000 in
theorem bb_206_50 (X : bm_X) (σ : bm_M) (x1 : Int32) (x2 : Int32) (x5 : Int32) (y0 : Int32) (y1 : Int32) (u3 : Value) (u4 : Value) : bm_ev X 206 50 [.ref 45, .int x1, .int x2, u3, u4, .int x5] [.int y0, .int y1] σ = bm_ev X 206 22 [.ref 45, .int x1, .int x2, u3, .int (y1 ||| y0), .int (x5 + nI 1)] [] σ := bm_blk (cd := bm_c206) rfl [22, 50] 400 50 _ _ _
set_option maxRecDepth 20000 in
theorem bb_207_0 (X : bm_X) (σ : bm_M) : bm_ev X 207 0 [.ref 45, .null, .null, .null] [] σ = bm_bI (bm_ev X 182 0 [.ref 45, .null, .null] [] σ) (fun v2 t1 => bif decide (v2 < 0) then bm_bI (bm_ev X 181 0 [.ref 45, .ref 71, .null] [] t1) (fun v4 t3 => bif decide (v4 = 0) then bm_bI (bm_ev X 181 0 [.ref 45, .ref 72, .null] [] t3) (fun v6 t5 => bif decide (v6 = 0) then bm_bI (bm_ev X 161 0 [.ref 45, .ref 73, .null, .null] [] t5) (fun v8 t7 => bm_bV (bm_ev X 148 0 [.ref 45, .int v8] [] t7) (fun t9 => bm_bI (bm_ev X 162 0 [.ref 45, .int (nI 0), .int (nI 99), .null, .null] [] t9) (fun v11 t10 => bm_gd (bm_in (nI 4) 95) (some (.null, (bm_up t10 46 (nI 4).toNatClampNeg v11)))))) else bm_bI (bm_ev X 162 0 [.ref 45, .int (nI 0), .int (nI 20), .null, .null] [] t5) (fun v13 t12 => bm_gd (bm_in (nI 3) 95) (some (.null, (bm_up t12 46 (nI 3).toNatClampNeg v13))))) else bm_bI (bm_ev X 162 0 [.ref 45, .int (nI 0), .int (nI 11), .null, .null] [] t3) (fun v15 t14 => bm_bI (bm_ev X 162 0 [.ref 45, .int (nI 0), .int (nI 99), .null, .null] [] t14) (fun v17 t16 => bif decide ((t16 45 12) = 0) then bm_gd (bm_in ((nI 5) + v15) 95) (some (.null, (bm_up t16 46 ((nI 5) + v15).toNatClampNeg v17))) else some (.null, t16)))) else bm_bV (bm_ev X 195 0 [.ref 45, .int v2, .null] [] t1) (fun t18 => some (.null, t18))) := bm_blk (cd := bm_c207) rfl [] 400 0 _ _ _
set_option maxRecDepth 20000 in
theorem bb_209_0 (X : bm_X) (σ : bm_M) : bm_ev X 209 0 [.ref 45, .null] [] σ = bm_bV (bm_ev X 70 0 [.ref 45] [] σ) (fun t1 => bm_gd (bm_bo (nI 0)) (bm_bV (bm_ev X 133 0 [.ref 45, .null, .null] [] (bm_up (bm_up t1 45 12 (nI 0)) 45 11 (nI 0))) (fun t2 => bm_bV (bm_ev X 207 0 [.ref 45, .null, .null, .null] [] t2) (fun t3 => bm_ev X 209 14 [.ref 45, .int (nI 1)] [] t3)))) := bm_blk (cd := bm_c209) rfl [14, 31] 400 0 _ _ _
set_option maxRecDepth 20000 in
theorem bb_209_14 (X : bm_X) (σ : bm_M) (x1 : Int32) : bm_ev X 209 14 [.ref 45, .int x1] [] σ = bif decide ((σ 45 12) = 0) then bif decide ((σ 45 10) < (σ 45 9)) then bm_bI (bm_ev X 161 0 [.ref 45, .ref 74, .null, .null] [] σ) (fun v2 t1 => bm_bV (bm_ev X 148 0 [.ref 45, .int v2] [] t1) (fun t3 => bm_bV (bm_ev X 207 0 [.ref 45, .null, .null, .null] [] t3) (fun t4 => bm_ev X 209 14 [.ref 45, .int (x1 + nI 1)] [] t4))) else bm_ev X 209 31 [.ref 45, .int x1] [] σ else bm_ev X 209 31 [.ref 45, .int x1] [] σ := bm_blk (cd := bm_c209) rfl [14, 31] 400 14 _ _ _
set_option maxRecDepth 20000 in
theorem bb_209_31 (X : bm_X) (σ : bm_M) (x1 : Int32) : bm_ev X 209 31 [.ref 45, .int x1] [] σ = bif decide (((bm_up σ 45 9 (nI 0)) 45 12) = 0) then some (.int x1, (bm_up σ 45 9 (nI 0))) else bm_bV (bm_ev X 71 0 [.ref 45] [] (bm_up σ 45 9 (nI 0))) (fun t1 => some (.int ((-nI 1) - (t1 45 10)), t1)) := bm_blk (cd := bm_c209) rfl [14, 31] 400 31 _ _ _
end
section
set_option maxRecDepth 20000 in
theorem bb_211_8 (X : bm_X) (σ : bm_M) (u3 : Value) : bm_ev X 211 8 [.ref 55, .ref 0, .ref 45, u3] [] σ = bm_ev X 211 10 [.ref 55, .ref 0, .ref 45, .int (nI 0)] [] σ := bm_blk (cd := bm_c211) rfl [10, 22, 49, 76, 103, 120, 137, 164, 191, 228, 245, 262, 289, 326, 353, 380, 387, 414, 451, 478, 515, 532, 559, 576, 613, 640, 667, 684, 712, 729, 756, 763, 770, 797, 824, 861, 898, 955, 972, 989, 996, 1003, 1010, 1027, 1044] 400 8 _ _ _
set_option maxRecDepth 20000 in
theorem bb_211_10 (X : bm_X) (σ : bm_M) (x3 : Int32) : bm_ev X 211 10 [.ref 55, .ref 0, .ref 45, .int x3] [] σ = bif decide (((nI (bm_rl X 55)) - (nI 6)) < x3) then bm_gd (bm_bo (nI 1)) (some (.int (nI 1), σ)) else bm_gd (bm_in x3 (bm_rl X 55)) (bif decide (((bm_rv X 55 x3.toNatClampNeg) &&& (nI 63)) = nI 0) then bm_ev X 211 22 [.ref 55, .ref 0, .ref 45, .int x3] [] σ else bif decide (((bm_rv X 55 x3.toNatClampNeg) &&& (nI 63)) = nI 1) then bm_ev X 211 49 [.ref 55, .ref 0, .ref 45, .int x3] [] σ else bif decide (((bm_rv X 55 x3.toNatClampNeg) &&& (nI 63)) = nI 2) then bm_ev X 211 76 [.ref 55, .ref 0, .ref 45, .int x3] [] σ else bif decide (((bm_rv X 55 x3.toNatClampNeg) &&& (nI 63)) = nI 3) then bm_ev X 211 103 [.ref 55, .ref 0, .ref 45, .int x3] [] σ else bif decide (((bm_rv X 55 x3.toNatClampNeg) &&& (nI 63)) = nI 4) then bm_ev X 211 120 [.ref 55, .ref 0, .ref 45, .int x3] [] σ else bif decide (((bm_rv X 55 x3.toNatClampNeg) &&& (nI 63)) = nI 5) then bm_ev X 211 137 [.ref 55, .ref 0, .ref 45, .int x3] [] σ else bif decide (((bm_rv X 55 x3.toNatClampNeg) &&& (nI 63)) = nI 6) then bm_ev X 211 164 [.ref 55, .ref 0, .ref 45, .int x3] [] σ else bif decide (((bm_rv X 55 x3.toNatClampNeg) &&& (nI 63)) = nI 7) then bm_ev X 211 191 [.ref 55, .ref 0, .ref 45, .int x3] [] σ else bif decide (((bm_rv X 55 x3.toNatClampNeg) &&& (nI 63)) = nI 8) then bm_ev X 211 228 [.ref 55, .ref 0, .ref 45, .int x3] [] σ else bif decide (((bm_rv X 55 x3.toNatClampNeg) &&& (nI 63)) = nI 9) then bm_ev X 211 245 [.ref 55, .ref 0, .ref 45, .int x3] [] σ else bif decide (((bm_rv X 55 x3.toNatClampNeg) &&& (nI 63)) = nI 10) then bm_ev X 211 262 [.ref 55, .ref 0, .ref 45, .int x3] [] σ else bif decide (((bm_rv X 55 x3.toNatClampNeg) &&& (nI 63)) = nI 11) then bm_ev X 211 289 [.ref 55, .ref 0, .ref 45, .int x3] [] σ else bif decide (((bm_rv X 55 x3.toNatClampNeg) &&& (nI 63)) = nI 12) then bm_ev X 211 326 [.ref 55, .ref 0, .ref 45, .int x3] [] σ else bif decide (((bm_rv X 55 x3.toNatClampNeg) &&& (nI 63)) = nI 13) then bm_ev X 211 353 [.ref 55, .ref 0, .ref 45, .int x3] [] σ else bif decide (((bm_rv X 55 x3.toNatClampNeg) &&& (nI 63)) = nI 14) then bm_ev X 211 380 [.ref 55, .ref 0, .ref 45, .int x3] [] σ else bif decide (((bm_rv X 55 x3.toNatClampNeg) &&& (nI 63)) = nI 15) then bm_ev X 211 387 [.ref 55, .ref 0, .ref 45, .int x3] [] σ else bif decide (((bm_rv X 55 x3.toNatClampNeg) &&& (nI 63)) = nI 16) then bm_ev X 211 414 [.ref 55, .ref 0, .ref 45, .int x3] [] σ else bif decide (((bm_rv X 55 x3.toNatClampNeg) &&& (nI 63)) = nI 17) then bm_ev X 211 451 [.ref 55, .ref 0, .ref 45, .int x3] [] σ else bif decide (((bm_rv X 55 x3.toNatClampNeg) &&& (nI 63)) = nI 18) then bm_ev X 211 478 [.ref 55, .ref 0, .ref 45, .int x3] [] σ else bif decide (((bm_rv X 55 x3.toNatClampNeg) &&& (nI 63)) = nI 19) then bm_ev X 211 515 [.ref 55, .ref 0, .ref 45, .int x3] [] σ else bif decide (((bm_rv X 55 x3.toNatClampNeg) &&& (nI 63)) = nI 20) then bm_ev X 211 532 [.ref 55, .ref 0, .ref 45, .int x3] [] σ else bif decide (((bm_rv X 55 x3.toNatClampNeg) &&& (nI 63)) = nI 21) then bm_ev X 211 559 [.ref 55, .ref 0, .ref 45, .int x3] [] σ else bif decide (((bm_rv X 55 x3.toNatClampNeg) &&& (nI 63)) = nI 22) then bm_ev X 211 576 [.ref 55, .ref 0, .ref 45, .int x3] [] σ else bif decide (((bm_rv X 55 x3.toNatClampNeg) &&& (nI 63)) = nI 23) then bm_ev X 211 613 [.ref 55, .ref 0, .ref 45, .int x3] [] σ else bif decide (((bm_rv X 55 x3.toNatClampNeg) &&& (nI 63)) = nI 24) then bm_ev X 211 640 [.ref 55, .ref 0, .ref 45, .int x3] [] σ else bif decide (((bm_rv X 55 x3.toNatClampNeg) &&& (nI 63)) = nI 25) then bm_ev X 211 667 [.ref 55, .ref 0, .ref 45, .int x3] [] σ else bif decide (((bm_rv X 55 x3.toNatClampNeg) &&& (nI 63)) = nI 26) then bm_ev X 211 684 [.ref 55, .ref 0, .ref 45, .int x3] [] σ else bif decide (((bm_rv X 55 x3.toNatClampNeg) &&& (nI 63)) = nI 27) then bm_ev X 211 712 [.ref 55, .ref 0, .ref 45, .int x3] [] σ else bif decide (((bm_rv X 55 x3.toNatClampNeg) &&& (nI 63)) = nI 28) then bm_ev X 211 729 [.ref 55, .ref 0, .ref 45, .int x3] [] σ else bif decide (((bm_rv X 55 x3.toNatClampNeg) &&& (nI 63)) = nI 29) then bm_ev X 211 756 [.ref 55, .ref 0, .ref 45, .int x3] [] σ else bif decide (((bm_rv X 55 x3.toNatClampNeg) &&& (nI 63)) = nI 30) then bm_ev X 211 763 [.ref 55, .ref 0, .ref 45, .int x3] [] σ else bif decide (((bm_rv X 55 x3.toNatClampNeg) &&& (nI 63)) = nI 31) then bm_ev X 211 770 [.ref 55, .ref 0, .ref 45, .int x3] [] σ else bif decide (((bm_rv X 55 x3.toNatClampNeg) &&& (nI 63)) = nI 32) then bm_ev X 211 797 [.ref 55, .ref 0, .ref 45, .int x3] [] σ else bif decide (((bm_rv X 55 x3.toNatClampNeg) &&& (nI 63)) = nI 33) then bm_ev X 211 824 [.ref 55, .ref 0, .ref 45, .int x3] [] σ else bif decide (((bm_rv X 55 x3.toNatClampNeg) &&& (nI 63)) = nI 34) then bm_ev X 211 861 [.ref 55, .ref 0, .ref 45, .int x3] [] σ else bif decide (((bm_rv X 55 x3.toNatClampNeg) &&& (nI 63)) = nI 35) then bm_ev X 211 898 [.ref 55, .ref 0, .ref 45, .int x3] [] σ else bif decide (((bm_rv X 55 x3.toNatClampNeg) &&& (nI 63)) = nI 36) then bm_ev X 211 955 [.ref 55, .ref 0, .ref 45, .int x3] [] σ else bif decide (((bm_rv X 55 x3.toNatClampNeg) &&& (nI 63)) = nI 37) then bm_ev X 211 972 [.ref 55, .ref 0, .ref 45, .int x3] [] σ else bif decide (((bm_rv X 55 x3.toNatClampNeg) &&& (nI 63)) = nI 38) then bm_ev X 211 989 [.ref 55, .ref 0, .ref 45, .int x3] [] σ else bif decide (((bm_rv X 55 x3.toNatClampNeg) &&& (nI 63)) = nI 39) then bm_ev X 211 996 [.ref 55, .ref 0, .ref 45, .int x3] [] σ else bif decide (((bm_rv X 55 x3.toNatClampNeg) &&& (nI 63)) = nI 40) then bm_ev X 211 1003 [.ref 55, .ref 0, .ref 45, .int x3] [] σ else bif decide (((bm_rv X 55 x3.toNatClampNeg) &&& (nI 63)) = nI 41) then bm_ev X 211 1010 [.ref 55, .ref 0, .ref 45, .int x3] [] σ else bif decide (((bm_rv X 55 x3.toNatClampNeg) &&& (nI 63)) = nI 42) then bm_ev X 211 1027 [.ref 55, .ref 0, .ref 45, .int x3] [] σ else bm_ev X 211 1044 [.ref 55, .ref 0, .ref 45, .int x3] [] σ) := bm_blk (cd := bm_c211) rfl [10, 22, 49, 76, 103, 120, 137, 164, 191, 228, 245, 262, 289, 326, 353, 380, 387, 414, 451, 478, 515, 532, 559, 576, 613, 640, 667, 684, 712, 729, 756, 763, 770, 797, 824, 861, 898, 955, 972, 989, 996, 1003, 1010, 1027, 1044] 400 10 _ _ _
set_option maxRecDepth 20000 in
theorem bb_211_22 (X : bm_X) (σ : bm_M) (x3 : Int32) : bm_ev X 211 22 [.ref 55, .ref 0, .ref 45, .int x3] [] σ = bm_gd (bm_in (x3 + (nI 1)) (bm_rl X 55)) (bm_gd (bm_in (x3 + (nI 2)) (bm_rl X 55)) (bm_bI (bm_ev X 106 0 [.ref 0, .int (bm_rv X 55 (x3 + (nI 1)).toNatClampNeg), .int (bm_rv X 55 (x3 + (nI 2)).toNatClampNeg), .null] [] σ) (fun v2 t1 => bm_gd (bm_in (x3 + (nI 1)) (bm_rl X 55)) (bm_gd (bm_in (x3 + (nI 2)) (bm_rl X 55)) (bm_bI (bm_ev X 123 0 [.ref 45, .int (bm_rv X 55 (x3 + (nI 1)).toNatClampNeg), .int (bm_rv X 55 (x3 + (nI 2)).toNatClampNeg)] [] t1) (fun v4 t3 => bif decide (v2 = v4) then bm_ev X 211 1044 [.ref 55, .ref 0, .ref 45, .int x3] [] t3 else bm_gd (bm_bo (nI 0)) (some (.int (nI 0), t3)))))))) := bm_blk (cd := bm_c211) rfl [10, 22, 49, 76, 103, 120, 137, 164, 191, 228, 245, 262, 289, 326, 353, 380, 387, 414, 451, 478, 515, 532, 559, 576, 613, 640, 667, 684, 712, 729, 756, 763, 770, 797, 824, 861, 898, 955, 972, 989, 996, 1003, 1010, 1027, 1044] 400 22 _ _ _
set_option maxRecDepth 20000 in
theorem bb_211_49 (X : bm_X) (σ : bm_M) (x3 : Int32) : bm_ev X 211 49 [.ref 55, .ref 0, .ref 45, .int x3] [] σ = bm_gd (bm_in (x3 + (nI 1)) (bm_rl X 55)) (bm_gd (bm_in (x3 + (nI 2)) (bm_rl X 55)) (bm_bI (bm_ev X 107 0 [.ref 0, .int (bm_rv X 55 (x3 + (nI 1)).toNatClampNeg), .int (bm_rv X 55 (x3 + (nI 2)).toNatClampNeg)] [] σ) (fun v2 t1 => bm_gd (bm_in (x3 + (nI 1)) (bm_rl X 55)) (bm_gd (bm_in (x3 + (nI 2)) (bm_rl X 55)) (bm_bI (bm_ev X 124 0 [.ref 45, .int (bm_rv X 55 (x3 + (nI 1)).toNatClampNeg), .int (bm_rv X 55 (x3 + (nI 2)).toNatClampNeg)] [] t1) (fun v4 t3 => bif decide (v2 = v4) then bm_ev X 211 1044 [.ref 55, .ref 0, .ref 45, .int x3] [] t3 else bm_gd (bm_bo (nI 0)) (some (.int (nI 0), t3)))))))) := bm_blk (cd := bm_c211) rfl [10, 22, 49, 76, 103, 120, 137, 164, 191, 228, 245, 262, 289, 326, 353, 380, 387, 414, 451, 478, 515, 532, 559, 576, 613, 640, 667, 684, 712, 729, 756, 763, 770, 797, 824, 861, 898, 955, 972, 989, 996, 1003, 1010, 1027, 1044] 400 49 _ _ _
set_option maxRecDepth 20000 in
theorem bb_211_76 (X : bm_X) (σ : bm_M) (x3 : Int32) : bm_ev X 211 76 [.ref 55, .ref 0, .ref 45, .int x3] [] σ = bm_gd (bm_in (x3 + (nI 1)) (bm_rl X 55)) (bm_gd (bm_in (x3 + (nI 2)) (bm_rl X 55)) (bm_bI (bm_ev X 57 0 [.ref 0, .int (bm_rv X 55 (x3 + (nI 1)).toNatClampNeg), .int (bm_rv X 55 (x3 + (nI 2)).toNatClampNeg), .null] [] σ) (fun v2 t1 => bm_gd (bm_in (x3 + (nI 1)) (bm_rl X 55)) (bm_gd (bm_in (x3 + (nI 2)) (bm_rl X 55)) (bm_bI (bm_ev X 83 0 [.ref 45, .int (bm_rv X 55 (x3 + (nI 1)).toNatClampNeg), .int (bm_rv X 55 (x3 + (nI 2)).toNatClampNeg)] [] t1) (fun v4 t3 => bif decide (v2 = v4) then bm_ev X 211 1044 [.ref 55, .ref 0, .ref 45, .int x3] [] t3 else bm_gd (bm_bo (nI 0)) (some (.int (nI 0), t3)))))))) := bm_blk (cd := bm_c211) rfl [10, 22, 49, 76, 103, 120, 137, 164, 191, 228, 245, 262, 289, 326, 353, 380, 387, 414, 451, 478, 515, 532, 559, 576, 613, 640, 667, 684, 712, 729, 756, 763, 770, 797, 824, 861, 898, 955, 972, 989, 996, 1003, 1010, 1027, 1044] 400 76 _ _ _
set_option maxRecDepth 20000 in
theorem bb_211_103 (X : bm_X) (σ : bm_M) (x3 : Int32) : bm_ev X 211 103 [.ref 55, .ref 0, .ref 45, .int x3] [] σ = bm_gd (bm_in (x3 + (nI 1)) (bm_rl X 55)) (bm_bI (bm_ev X 108 0 [.ref 0, .int (bm_rv X 55 (x3 + (nI 1)).toNatClampNeg)] [] σ) (fun v2 t1 => bm_gd (bm_in (x3 + (nI 1)) (bm_rl X 55)) (bm_bI (bm_ev X 125 0 [.ref 45, .int (bm_rv X 55 (x3 + (nI 1)).toNatClampNeg)] [] t1) (fun v4 t3 => bif decide (v2 = v4) then bm_ev X 211 1044 [.ref 55, .ref 0, .ref 45, .int x3] [] t3 else bm_gd (bm_bo (nI 0)) (some (.int (nI 0), t3)))))) := bm_blk (cd := bm_c211) rfl [10, 22, 49, 76, 103, 120, 137, 164, 191, 228, 245, 262, 289, 326, 353, 380, 387, 414, 451, 478, 515, 532, 559, 576, 613, 640, 667, 684, 712, 729, 756, 763, 770, 797, 824, 861, 898, 955, 972, 989, 996, 1003, 1010, 1027, 1044] 400 103 _ _ _
set_option maxRecDepth 20000 in
theorem bb_211_120 (X : bm_X) (σ : bm_M) (x3 : Int32) : bm_ev X 211 120 [.ref 55, .ref 0, .ref 45, .int x3] [] σ = bm_gd (bm_in (x3 + (nI 1)) (bm_rl X 55)) (bm_bI (bm_ev X 109 0 [.ref 0, .int (bm_rv X 55 (x3 + (nI 1)).toNatClampNeg), .null] [] σ) (fun v2 t1 => bm_gd (bm_in (x3 + (nI 1)) (bm_rl X 55)) (bm_bI (bm_ev X 126 0 [.ref 45, .int (bm_rv X 55 (x3 + (nI 1)).toNatClampNeg)] [] t1) (fun v4 t3 => bif decide (v2 = v4) then bm_ev X 211 1044 [.ref 55, .ref 0, .ref 45, .int x3] [] t3 else bm_gd (bm_bo (nI 0)) (some (.int (nI 0), t3)))))) := bm_blk (cd := bm_c211) rfl [10, 22, 49, 76, 103, 120, 137, 164, 191, 228, 245, 262, 289, 326, 353, 380, 387, 414, 451, 478, 515, 532, 559, 576, 613, 640, 667, 684, 712, 729, 756, 763, 770, 797, 824, 861, 898, 955, 972, 989, 996, 1003, 1010, 1027, 1044] 400 120 _ _ _
set_option maxRecDepth 20000 in
theorem bb_211_137 (X : bm_X) (σ : bm_M) (x3 : Int32) : bm_ev X 211 137 [.ref 55, .ref 0, .ref 45, .int x3] [] σ = bm_gd (bm_in (x3 + (nI 1)) (bm_rl X 55)) (bm_gd (bm_in (x3 + (nI 2)) (bm_rl X 55)) (bm_bI (bm_ev X 110 0 [.ref 0, .int (bm_rv X 55 (x3 + (nI 1)).toNatClampNeg), .int (bm_rv X 55 (x3 + (nI 2)).toNatClampNeg)] [] σ) (fun v2 t1 => bm_gd (bm_in (x3 + (nI 1)) (bm_rl X 55)) (bm_gd (bm_in (x3 + (nI 2)) (bm_rl X 55)) (bm_bI (bm_ev X 127 0 [.ref 45, .int (bm_rv X 55 (x3 + (nI 1)).toNatClampNeg), .int (bm_rv X 55 (x3 + (nI 2)).toNatClampNeg)] [] t1) (fun v4 t3 => bif decide (v2 = v4) then bm_ev X 211 1044 [.ref 55, .ref 0, .ref 45, .int x3] [] t3 else bm_gd (bm_bo (nI 0)) (some (.int (nI 0), t3)))))))) := bm_blk (cd := bm_c211) rfl [10, 22, 49, 76, 103, 120, 137, 164, 191, 228, 245, 262, 289, 326, 353, 380, 387, 414, 451, 478, 515, 532, 559, 576, 613, 640, 667, 684, 712, 729, 756, 763, 770, 797, 824, 861, 898, 955, 972, 989, 996, 1003, 1010, 1027, 1044] 400 137 _ _ _
set_option maxRecDepth 20000 in
theorem bb_211_164 (X : bm_X) (σ : bm_M) (x3 : Int32) : bm_ev X 211 164 [.ref 55, .ref 0, .ref 45, .int x3] [] σ = bm_gd (bm_in (x3 + (nI 1)) (bm_rl X 55)) (bm_gd (bm_in (x3 + (nI 2)) (bm_rl X 55)) (bm_bI (bm_ev X 111 0 [.ref 0, .int (bm_rv X 55 (x3 + (nI 1)).toNatClampNeg), .int (bm_rv X 55 (x3 + (nI 2)).toNatClampNeg)] [] σ) (fun v2 t1 => bm_gd (bm_in (x3 + (nI 1)) (bm_rl X 55)) (bm_gd (bm_in (x3 + (nI 2)) (bm_rl X 55)) (bm_bI (bm_ev X 145 0 [.ref 45, .int (bm_rv X 55 (x3 + (nI 1)).toNatClampNeg), .int (bm_rv X 55 (x3 + (nI 2)).toNatClampNeg)] [] t1) (fun v4 t3 => bif decide (v2 = v4) then bm_ev X 211 1044 [.ref 55, .ref 0, .ref 45, .int x3] [] t3 else bm_gd (bm_bo (nI 0)) (some (.int (nI 0), t3)))))))) := bm_blk (cd := bm_c211) rfl [10, 22, 49, 76, 103, 120, 137, 164, 191, 228, 245, 262, 289, 326, 353, 380, 387, 414, 451, 478, 515, 532, 559, 576, 613, 640, 667, 684, 712, 729, 756, 763, 770, 797, 824, 861, 898, 955, 972, 989, 996, 1003, 1010, 1027, 1044] 400 164 _ _ _
set_option maxRecDepth 20000 in
theorem bb_211_191 (X : bm_X) (σ : bm_M) (x3 : Int32) : bm_ev X 211 191 [.ref 55, .ref 0, .ref 45, .int x3] [] σ = bm_gd (bm_in (x3 + (nI 1)) (bm_rl X 55)) (bm_gd (bm_in (x3 + (nI 2)) (bm_rl X 55)) (bm_gd (bm_in (x3 + (nI 3)) (bm_rl X 55)) (bm_bI (bm_ev X 58 0 [.ref 0, .int (bm_rv X 55 (x3 + (nI 1)).toNatClampNeg), .int (bm_rv X 55 (x3 + (nI 2)).toNatClampNeg), .int (bm_rv X 55 (x3 + (nI 3)).toNatClampNeg), .null, .null] [] σ) (fun v2 t1 => bm_gd (bm_in (x3 + (nI 1)) (bm_rl X 55)) (bm_gd (bm_in (x3 + (nI 2)) (bm_rl X 55)) (bm_gd (bm_in (x3 + (nI 3)) (bm_rl X 55)) (bm_bI (bm_ev X 146 0 [.ref 45, .int (bm_rv X 55 (x3 + (nI 1)).toNatClampNeg), .int (bm_rv X 55 (x3 + (nI 2)).toNatClampNeg), .int (bm_rv X 55 (x3 + (nI 3)).toNatClampNeg)] [] t1) (fun v4 t3 => bif decide (v2 = v4) then bm_ev X 211 1044 [.ref 55, .ref 0, .ref 45, .int x3] [] t3 else bm_gd (bm_bo (nI 0)) (some (.int (nI 0), t3)))))))))) := bm_blk (cd := bm_c211) rfl [10, 22, 49, 76, 103, 120, 137, 164, 191, 228, 245, 262, 289, 326, 353, 380, 387, 414, 451, 478, 515, 532, 559, 576, 613, 640, 667, 684, 712, 729, 756, 763, 770, 797, 824, 861, 898, 955, 972, 989, 996, 1003, 1010, 1027, 1044] 400 191 _ _ _
set_option maxRecDepth 20000 in
theorem bb_211_228 (X : bm_X) (σ : bm_M) (x3 : Int32) : bm_ev X 211 228 [.ref 55, .ref 0, .ref 45, .int x3] [] σ = bm_gd (bm_in (x3 + (nI 1)) (bm_rl X 55)) (bm_bI (bm_ev X 165 0 [.ref 0, .int (bm_rv X 55 (x3 + (nI 1)).toNatClampNeg)] [] σ) (fun v2 t1 => bm_gd (bm_in (x3 + (nI 1)) (bm_rl X 55)) (bm_bI (bm_ev X 190 0 [.ref 45, .int (bm_rv X 55 (x3 + (nI 1)).toNatClampNeg)] [] t1) (fun v4 t3 => bif decide (v2 = v4) then bm_ev X 211 1044 [.ref 55, .ref 0, .ref 45, .int x3] [] t3 else bm_gd (bm_bo (nI 0)) (some (.int (nI 0), t3)))))) := bm_blk (cd := bm_c211) rfl [10, 22, 49, 76, 103, 120, 137, 164, 191, 228, 245, 262, 289, 326, 353, 380, 387, 414, 451, 478, 515, 532, 559, 576, 613, 640, 667, 684, 712, 729, 756, 763, 770, 797, 824, 861, 898, 955, 972, 989, 996, 1003, 1010, 1027, 1044] 400 228 _ _ _
set_option maxRecDepth 20000 in
theorem bb_211_245 (X : bm_X) (σ : bm_M) (x3 : Int32) : bm_ev X 211 245 [.ref 55, .ref 0, .ref 45, .int x3] [] σ = bm_gd (bm_in (x3 + (nI 1)) (bm_rl X 55)) (bm_bI (bm_ev X 59 0 [.ref 0, .int (bm_rv X 55 (x3 + (nI 1)).toNatClampNeg)] [] σ) (fun v2 t1 => bm_gd (bm_in (x3 + (nI 1)) (bm_rl X 55)) (bm_bI (bm_ev X 130 0 [.ref 45, .int (bm_rv X 55 (x3 + (nI 1)).toNatClampNeg)] [] t1) (fun v4 t3 => bif decide (v2 = v4) then bm_ev X 211 1044 [.ref 55, .ref 0, .ref 45, .int x3] [] t3 else bm_gd (bm_bo (nI 0)) (some (.int (nI 0), t3)))))) := bm_blk (cd := bm_c211) rfl [10, 22, 49, 76, 103, 120, 137, 164, 191, 228, 245, 262, 289, 326, 353, 380, 387, 414, 451, 478, 515, 532, 559, 576, 613, 640, 667, 684, 712, 729, 756, 763, 770, 797, 824, 861, 898, 955, 972, 989, 996, 1003, 1010, 1027, 1044] 400 245 _ _ _
set_option maxRecDepth 20000 in
theorem bb_211_262 (X : bm_X) (σ : bm_M) (x3 : Int32) : bm_ev X 211 262 [.ref 55, .ref 0, .ref 45, .int x3] [] σ = bm_gd (bm_in (x3 + (nI 1)) (bm_rl X 55)) (bm_gd (bm_in (x3 + (nI 2)) (bm_rl X 55)) (bm_bI (bm_ev X 166 0 [.ref 0, .int (bm_rv X 55 (x3 + (nI 1)).toNatClampNeg), .int (bm_rv X 55 (x3 + (nI 2)).toNatClampNeg)] [] σ) (fun v2 t1 => bm_gd (bm_in (x3 + (nI 1)) (bm_rl X 55)) (bm_gd (bm_in (x3 + (nI 2)) (bm_rl X 55)) (bm_bI (bm_ev X 197 0 [.ref 45, .int (bm_rv X 55 (x3 + (nI 1)).toNatClampNeg), .int (bm_rv X 55 (x3 + (nI 2)).toNatClampNeg)] [] t1) (fun v4 t3 => bif decide (v2 = v4) then bm_ev X 211 1044 [.ref 55, .ref 0, .ref 45, .int x3] [] t3 else bm_gd (bm_bo (nI 0)) (some (.int (nI 0), t3)))))))) := bm_blk (cd := bm_c211) rfl [10, 22, 49, 76, 103, 120, 137, 164, 191, 228, 245, 262, 289, 326, 353, 380, 387, 414, 451, 478, 515, 532, 559, 576, 613, 640, 667, 684, 712, 729, 756, 763, 770, 797, 824, 861, 898, 955, 972, 989, 996, 1003, 1010, 1027, 1044] 400 262 _ _ _
set_option maxRecDepth 20000 in
theorem bb_211_289 (X : bm_X) (σ : bm_M) (x3 : Int32) : bm_ev X 211 289 [.ref 55, .ref 0, .ref 45, .int x3] [] σ = bm_gd (bm_in (x3 + (nI 1)) (bm_rl X 55)) (bm_gd (bm_in (x3 + (nI 2)) (bm_rl X 55)) (bm_gd (bm_in (x3 + (nI 3)) (bm_rl X 55)) (bm_bI (bm_ev X 167 0 [.ref 0, .int (bm_rv X 55 (x3 + (nI 1)).toNatClampNeg), .int (bm_rv X 55 (x3 + (nI 2)).toNatClampNeg), .int (bm_rv X 55 (x3 + (nI 3)).toNatClampNeg)] [] σ) (fun v2 t1 => bm_gd (bm_in (x3 + (nI 1)) (bm_rl X 55)) (bm_gd (bm_in (x3 + (nI 2)) (bm_rl X 55)) (bm_gd (bm_in (x3 + (nI 3)) (bm_rl X 55)) (bm_bI (bm_ev X 198 0 [.ref 45, .int (bm_rv X 55 (x3 + (nI 1)).toNatClampNeg), .int (bm_rv X 55 (x3 + (nI 2)).toNatClampNeg), .int (bm_rv X 55 (x3 + (nI 3)).toNatClampNeg)] [] t1) (fun v4 t3 => bif decide (v2 = v4) then bm_ev X 211 1044 [.ref 55, .ref 0, .ref 45, .int x3] [] t3 else bm_gd (bm_bo (nI 0)) (some (.int (nI 0), t3)))))))))) := bm_blk (cd := bm_c211) rfl [10, 22, 49, 76, 103, 120, 137, 164, 191, 228, 245, 262, 289, 326, 353, 380, 387, 414, 451, 478, 515, 532, 559, 576, 613, 640, 667, 684, 712, 729, 756, 763, 770, 797, 824, 861, 898, 955, 972, 989, 996, 1003, 1010, 1027, 1044] 400 289 _ _ _
set_option maxRecDepth 20000 in
theorem bb_211_326 (X : bm_X) (σ : bm_M) (x3 : Int32) : bm_ev X 211 326 [.ref 55, .ref 0, .ref 45, .int x3] [] σ = bm_gd (bm_in (x3 + (nI 1)) (bm_rl X 55)) (bm_gd (bm_in (x3 + (nI 2)) (bm_rl X 55)) (bm_bI (bm_ev X 155 0 [.ref 0, .int (bm_rv X 55 (x3 + (nI 1)).toNatClampNeg), .int (bm_rv X 55 (x3 + (nI 2)).toNatClampNeg), .null] [] σ) (fun v2 t1 => bm_gd (bm_in (x3 + (nI 1)) (bm_rl X 55)) (bm_gd (bm_in (x3 + (nI 2)) (bm_rl X 55)) (bm_bI (bm_ev X 176 0 [.ref 45, .int (bm_rv X 55 (x3 + (nI 1)).toNatClampNeg), .int (bm_rv X 55 (x3 + (nI 2)).toNatClampNeg), .null] [] t1) (fun v4 t3 => bif decide (v2 = v4) then bm_ev X 211 1044 [.ref 55, .ref 0, .ref 45, .int x3] [] t3 else bm_gd (bm_bo (nI 0)) (some (.int (nI 0), t3)))))))) := bm_blk (cd := bm_c211) rfl [10, 22, 49, 76, 103, 120, 137, 164, 191, 228, 245, 262, 289, 326, 353, 380, 387, 414, 451, 478, 515, 532, 559, 576, 613, 640, 667, 684, 712, 729, 756, 763, 770, 797, 824, 861, 898, 955, 972, 989, 996, 1003, 1010, 1027, 1044] 400 326 _ _ _
set_option maxRecDepth 20000 in
theorem bb_211_353 (X : bm_X) (σ : bm_M) (x3 : Int32) : bm_ev X 211 353 [.ref 55, .ref 0, .ref 45, .int x3] [] σ = bm_gd (bm_in (x3 + (nI 1)) (bm_rl X 55)) (bm_gd (bm_in (x3 + (nI 2)) (bm_rl X 55)) (bm_bI (bm_ev X 156 0 [.ref 0, .int (bm_rv X 55 (x3 + (nI 1)).toNatClampNeg), .int (bm_rv X 55 (x3 + (nI 2)).toNatClampNeg), .null] [] σ) (fun v2 t1 => bm_gd (bm_in (x3 + (nI 1)) (bm_rl X 55)) (bm_gd (bm_in (x3 + (nI 2)) (bm_rl X 55)) (bm_bI (bm_ev X 177 0 [.ref 45, .int (bm_rv X 55 (x3 + (nI 1)).toNatClampNeg), .int (bm_rv X 55 (x3 + (nI 2)).toNatClampNeg), .null] [] t1) (fun v4 t3 => bif decide (v2 = v4) then bm_ev X 211 1044 [.ref 55, .ref 0, .ref 45, .int x3] [] t3 else bm_gd (bm_bo (nI 0)) (some (.int (nI 0), t3)))))))) := bm_blk (cd := bm_c211) rfl [10, 22, 49, 76, 103, 120, 137, 164, 191, 228, 245, 262, 289, 326, 353, 380, 387, 414, 451, 478, 515, 532, 559, 576, 613, 640, 667, 684, 712, 729, 756, 763, 770, 797, 824, 861, 898, 955, 972, 989, 996, 1003, 1010, 1027, 1044] 400 353 _ _ _
set_option maxRecDepth 20000 in
theorem bb_211_380 (X : bm_X) (σ : bm_M) (x3 : Int32) : bm_ev X 211 380 [.ref 55, .ref 0, .ref 45, .int x3] [] σ = bm_bI (bm_ev X 157 0 [.ref 0, .null] [] σ) (fun v2 t1 => bm_bI (bm_ev X 178 0 [.ref 45, .null] [] t1) (fun v4 t3 => bif decide (v2 = v4) then bm_ev X 211 1044 [.ref 55, .ref 0, .ref 45, .int x3] [] t3 else bm_gd (bm_bo (nI 0)) (some (.int (nI 0), t3)))) := bm_blk (cd := bm_c211) rfl [10, 22, 49, 76, 103, 120, 137, 164, 191, 228, 245, 262, 289, 326, 353, 380, 387, 414, 451, 478, 515, 532, 559, 576, 613, 640, 667, 684, 712, 729, 756, 763, 770, 797, 824, 861, 898, 955, 972, 989, 996, 1003, 1010, 1027, 1044] 400 380 _ _ _
set_option maxRecDepth 20000 in
theorem bb_211_387 (X : bm_X) (σ : bm_M) (x3 : Int32) : bm_ev X 211 387 [.ref 55, .ref 0, .ref 45, .int x3] [] σ = bm_gd (bm_in (x3 + (nI 1)) (bm_rl X 55)) (bm_gd (bm_in (x3 + (nI 2)) (bm_rl X 55)) (bm_bI (bm_ev X 184 0 [.ref 0, .int (bm_rv X 55 (x3 + (nI 1)).toNatClampNeg), .int (bm_rv X 55 (x3 + (nI 2)).toNatClampNeg)] [] σ) (fun v2 t1 => bm_gd (bm_in (x3 + (nI 1)) (bm_rl X 55)) (bm_gd (bm_in (x3 + (nI 2)) (bm_rl X 55)) (bm_bI (bm_ev X 199 0 [.ref 45, .int (bm_rv X 55 (x3 + (nI 1)).toNatClampNeg), .int (bm_rv X 55 (x3 + (nI 2)).toNatClampNeg), .null] [] t1) (fun v4 t3 => bif decide (v2 = v4) then bm_ev X 211 1044 [.ref 55, .ref 0, .ref 45, .int x3] [] t3 else bm_gd (bm_bo (nI 0)) (some (.int (nI 0), t3)))))))) := bm_blk (cd := bm_c211) rfl [10, 22, 49, 76, 103, 120, 137, 164, 191, 228, 245, 262, 289, 326, 353, 380, 387, 414, 451, 478, 515, 532, 559, 576, 613, 640, 667, 684, 712, 729, 756, 763, 770, 797, 824, 861, 898, 955, 972, 989, 996, 1003, 1010, 1027, 1044] 400 387 _ _ _
set_option maxRecDepth 20000 in
theorem bb_211_414 (X : bm_X) (σ : bm_M) (x3 : Int32) : bm_ev X 211 414 [.ref 55, .ref 0, .ref 45, .int x3] [] σ = bm_gd (bm_in (x3 + (nI 1)) (bm_rl X 55)) (bm_gd (bm_in (x3 + (nI 2)) (bm_rl X 55)) (bm_gd (bm_in (x3 + (nI 3)) (bm_rl X 55)) (bm_bI (bm_ev X 168 0 [.ref 0, .int (bm_rv X 55 (x3 + (nI 1)).toNatClampNeg), .int (bm_rv X 55 (x3 + (nI 2)).toNatClampNeg), .int (bm_rv X 55 (x3 + (nI 3)).toNatClampNeg), .null, .null, .null] [] σ) (fun v2 t1 => bm_gd (bm_in (x3 + (nI 1)) (bm_rl X 55)) (bm_gd (bm_in (x3 + (nI 2)) (bm_rl X 55)) (bm_gd (bm_in (x3 + (nI 3)) (bm_rl X 55)) (bm_bI (bm_ev X 200 0 [.ref 45, .int (bm_rv X 55 (x3 + (nI 1)).toNatClampNeg), .int (bm_rv X 55 (x3 + (nI 2)).toNatClampNeg), .int (bm_rv X 55 (x3 + (nI 3)).toNatClampNeg), .null] [] t1) (fun v4 t3 => bif decide (v2 = v4) then bm_ev X 211 1044 [.ref 55, .ref 0, .ref 45, .int x3] [] t3 else bm_gd (bm_bo (nI 0)) (some (.int (nI 0), t3)))))))))) := bm_blk (cd := bm_c211) rfl [10, 22, 49, 76, 103, 120, 137, 164, 191, 228, 245, 262, 289, 326, 353, 380, 387, 414, 451, 478, 515, 532, 559, 576, 613, 640, 667, 684, 712, 729, 756, 763, 770, 797, 824, 861, 898, 955, 972, 989, 996, 1003, 1010, 1027, 1044] 400 414 _ _ _
set_option maxRecDepth 20000 in
theorem bb_211_451 (X : bm_X) (σ : bm_M) (x3 : Int32) : bm_ev X 211 451 [.ref 55, .ref 0, .ref 45, .int x3] [] σ = bm_gd (bm_in (x3 + (nI 1)) (bm_rl X 55)) (bm_gd (bm_in (x3 + (nI 2)) (bm_rl X 55)) (bm_bI (bm_ev X 185 0 [.ref 0, .int (bm_rv X 55 (x3 + (nI 1)).toNatClampNeg), .int (bm_rv X 55 (x3 + (nI 2)).toNatClampNeg)] [] σ) (fun v2 t1 => bm_gd (bm_in (x3 + (nI 1)) (bm_rl X 55)) (bm_gd (bm_in (x3 + (nI 2)) (bm_rl X 55)) (bm_bI (bm_ev X 201 0 [.ref 45, .int (bm_rv X 55 (x3 + (nI 1)).toNatClampNeg), .int (bm_rv X 55 (x3 + (nI 2)).toNatClampNeg), .null] [] t1) (fun v4 t3 => bif decide (v2 = v4) then bm_ev X 211 1044 [.ref 55, .ref 0, .ref 45, .int x3] [] t3 else bm_gd (bm_bo (nI 0)) (some (.int (nI 0), t3)))))))) := bm_blk (cd := bm_c211) rfl [10, 22, 49, 76, 103, 120, 137, 164, 191, 228, 245, 262, 289, 326, 353, 380, 387, 414, 451, 478, 515, 532, 559, 576, 613, 640, 667, 684, 712, 729, 756, 763, 770, 797, 824, 861, 898, 955, 972, 989, 996, 1003, 1010, 1027, 1044] 400 451 _ _ _
set_option maxRecDepth 20000 in
theorem bb_211_478 (X : bm_X) (σ : bm_M) (x3 : Int32) : bm_ev X 211 478 [.ref 55, .ref 0, .ref 45, .int x3] [] σ = bm_gd (bm_in (x3 + (nI 1)) (bm_rl X 55)) (bm_gd (bm_in (x3 + (nI 2)) (bm_rl X 55)) (bm_gd (bm_in (x3 + (nI 3)) (bm_rl X 55)) (bm_bI (bm_ev X 169 0 [.ref 0, .int (bm_rv X 55 (x3 + (nI 1)).toNatClampNeg), .int (bm_rv X 55 (x3 + (nI 2)).toNatClampNeg), .int (bm_rv X 55 (x3 + (nI 3)).toNatClampNeg), .null] [] σ) (fun v2 t1 => bm_gd (bm_in (x3 + (nI 1)) (bm_rl X 55)) (bm_gd (bm_in (x3 + (nI 2)) (bm_rl X 55)) (bm_gd (bm_in (x3 + (nI 3)) (bm_rl X 55)) (bm_bI (bm_ev X 202 0 [.ref 45, .int (bm_rv X 55 (x3 + (nI 1)).toNatClampNeg), .int (bm_rv X 55 (x3 + (nI 2)).toNatClampNeg), .int (bm_rv X 55 (x3 + (nI 3)).toNatClampNeg), .null, .null] [] t1) (fun v4 t3 => bif decide (v2 = v4) then bm_ev X 211 1044 [.ref 55, .ref 0, .ref 45, .int x3] [] t3 else bm_gd (bm_bo (nI 0)) (some (.int (nI 0), t3)))))))))) := bm_blk (cd := bm_c211) rfl [10, 22, 49, 76, 103, 120, 137, 164, 191, 228, 245, 262, 289, 326, 353, 380, 387, 414, 451, 478, 515, 532, 559, 576, 613, 640, 667, 684, 712, 729, 756, 763, 770, 797, 824, 861, 898, 955, 972, 989, 996, 1003, 1010, 1027, 1044] 400 478 _ _ _
set_option maxRecDepth 20000 in
theorem bb_211_515 (X : bm_X) (σ : bm_M) (x3 : Int32) : bm_ev X 211 515 [.ref 55, .ref 0, .ref 45, .int x3] [] σ = bm_gd (bm_in (x3 + (nI 1)) (bm_rl X 55)) (bm_bI (bm_ev X 170 0 [.ref 0, .int (bm_rv X 55 (x3 + (nI 1)).toNatClampNeg), .null] [] σ) (fun v2 t1 => bm_gd (bm_in (x3 + (nI 1)) (bm_rl X 55)) (bm_bI (bm_ev X 193 0 [.ref 45, .int (bm_rv X 55 (x3 + (nI 1)).toNatClampNeg), .null, .null] [] t1) (fun v4 t3 => bif decide (v2 = v4) then bm_ev X 211 1044 [.ref 55, .ref 0, .ref 45, .int x3] [] t3 else bm_gd (bm_bo (nI 0)) (some (.int (nI 0), t3)))))) := bm_blk (cd := bm_c211) rfl [10, 22, 49, 76, 103, 120, 137, 164, 191, 228, 245, 262, 289, 326, 353, 380, 387, 414, 451, 478, 515, 532, 559, 576, 613, 640, 667, 684, 712, 729, 756, 763, 770, 797, 824, 861, 898, 955, 972, 989, 996, 1003, 1010, 1027, 1044] 400 515 _ _ _
set_option maxRecDepth 20000 in
theorem bb_211_532 (X : bm_X) (σ : bm_M) (x3 : Int32) : bm_ev X 211 532 [.ref 55, .ref 0, .ref 45, .int x3] [] σ = bm_gd (bm_in (x3 + (nI 1)) (bm_rl X 55)) (bm_gd (bm_in (x3 + (nI 2)) (bm_rl X 55)) (bm_bI (bm_ev X 186 0 [.ref 0, .int (bm_rv X 55 (x3 + (nI 1)).toNatClampNeg), .int (bm_rv X 55 (x3 + (nI 2)).toNatClampNeg), .null] [] σ) (fun v2 t1 => bm_gd (bm_in (x3 + (nI 1)) (bm_rl X 55)) (bm_gd (bm_in (x3 + (nI 2)) (bm_rl X 55)) (bm_bI (bm_ev X 203 0 [.ref 45, .int (bm_rv X 55 (x3 + (nI 1)).toNatClampNeg), .int (bm_rv X 55 (x3 + (nI 2)).toNatClampNeg), .null, .null] [] t1) (fun v4 t3 => bif decide (v2 = v4) then bm_ev X 211 1044 [.ref 55, .ref 0, .ref 45, .int x3] [] t3 else bm_gd (bm_bo (nI 0)) (some (.int (nI 0), t3)))))))) := bm_blk (cd := bm_c211) rfl [10, 22, 49, 76, 103, 120, 137, 164, 191, 228, 245, 262, 289, 326, 353, 380, 387, 414, 451, 478, 515, 532, 559, 576, 613, 640, 667, 684, 712, 729, 756, 763, 770, 797, 824, 861, 898, 955, 972, 989, 996, 1003, 1010, 1027, 1044] 400 532 _ _ _
set_option maxRecDepth 20000 in
theorem bb_211_559 (X : bm_X) (σ : bm_M) (x3 : Int32) : bm_ev X 211 559 [.ref 55, .ref 0, .ref 45, .int x3] [] σ = bm_gd (bm_in (x3 + (nI 1)) (bm_rl X 55)) (bm_bI (bm_ev X 112 0 [.ref 0, .int (bm_rv X 55 (x3 + (nI 1)).toNatClampNeg), .null, .null] [] σ) (fun v2 t1 => bm_gd (bm_in (x3 + (nI 1)) (bm_rl X 55)) (bm_bI (bm_ev X 131 0 [.ref 45, .int (bm_rv X 55 (x3 + (nI 1)).toNatClampNeg), .null, .null, .null, .null] [] t1) (fun v4 t3 => bif decide (v2 = v4) then bm_ev X 211 1044 [.ref 55, .ref 0, .ref 45, .int x3] [] t3 else bm_gd (bm_bo (nI 0)) (some (.int (nI 0), t3)))))) := bm_blk (cd := bm_c211) rfl [10, 22, 49, 76, 103, 120, 137, 164, 191, 228, 245, 262, 289, 326, 353, 380, 387, 414, 451, 478, 515, 532, 559, 576, 613, 640, 667, 684, 712, 729, 756, 763, 770, 797, 824, 861, 898, 955, 972, 989, 996, 1003, 1010, 1027, 1044] 400 559 _ _ _
set_option maxRecDepth 20000 in
theorem bb_211_576 (X : bm_X) (σ : bm_M) (x3 : Int32) : bm_ev X 211 576 [.ref 55, .ref 0, .ref 45, .int x3] [] σ = bm_gd (bm_in (x3 + (nI 1)) (bm_rl X 55)) (bm_gd (bm_in (x3 + (nI 2)) (bm_rl X 55)) (bm_gd (bm_in (x3 + (nI 3)) (bm_rl X 55)) (bm_bI (bm_ev X 187 0 [.ref 0, .int (bm_rv X 55 (x3 + (nI 1)).toNatClampNeg), .int (bm_rv X 55 (x3 + (nI 2)).toNatClampNeg), .int (bm_rv X 55 (x3 + (nI 3)).toNatClampNeg), .null, .null] [] σ) (fun v2 t1 => bm_gd (bm_in (x3 + (nI 1)) (bm_rl X 55)) (bm_gd (bm_in (x3 + (nI 2)) (bm_rl X 55)) (bm_gd (bm_in (x3 + (nI 3)) (bm_rl X 55)) (bm_bI (bm_ev X 204 0 [.ref 45, .int (bm_rv X 55 (x3 + (nI 1)).toNatClampNeg), .int (bm_rv X 55 (x3 + (nI 2)).toNatClampNeg), .int (bm_rv X 55 (x3 + (nI 3)).toNatClampNeg), .null, .null, .null] [] t1) (fun v4 t3 => bif decide (v2 = v4) then bm_ev X 211 1044 [.ref 55, .ref 0, .ref 45, .int x3] [] t3 else bm_gd (bm_bo (nI 0)) (some (.int (nI 0), t3)))))))))) := bm_blk (cd := bm_c211) rfl [10, 22, 49, 76, 103, 120, 137, 164, 191, 228, 245, 262, 289, 326, 353, 380, 387, 414, 451, 478, 515, 532, 559, 576, 613, 640, 667, 684, 712, 729, 756, 763, 770, 797, 824, 861, 898, 955, 972, 989, 996, 1003, 1010, 1027, 1044] 400 576 _ _ _
set_option maxRecDepth 20000 in
theorem bb_211_613 (X : bm_X) (σ : bm_M) (x3 : Int32) : bm_ev X 211 613 [.ref 55, .ref 0, .ref 45, .int x3] [] σ = bm_gd (bm_in (x3 + (nI 1)) (bm_rl X 55)) (bm_gd (bm_in (x3 + (nI 2)) (bm_rl X 55)) (bm_bI (bm_ev X 188 0 [.ref 0, .int (bm_rv X 55 (x3 + (nI 1)).toNatClampNeg), .int (bm_rv X 55 (x3 + (nI 2)).toNatClampNeg), .null, .null] [] σ) (fun v2 t1 => bm_gd (bm_in (x3 + (nI 1)) (bm_rl X 55)) (bm_gd (bm_in (x3 + (nI 2)) (bm_rl X 55)) (bm_bI (bm_ev X 205 0 [.ref 45, .int (bm_rv X 55 (x3 + (nI 1)).toNatClampNeg), .int (bm_rv X 55 (x3 + (nI 2)).toNatClampNeg), .null, .null, .null] [] t1) (fun v4 t3 => bif decide (v2 = v4) then bm_ev X 211 1044 [.ref 55, .ref 0, .ref 45, .int x3] [] t3 else bm_gd (bm_bo (nI 0)) (some (.int (nI 0), t3)))))))) := bm_blk (cd := bm_c211) rfl [10, 22, 49, 76, 103, 120, 137, 164, 191, 228, 245, 262, 289, 326, 353, 380, 387, 414, 451, 478, 515, 532, 559, 576, 613, 640, 667, 684, 712, 729, 756, 763, 770, 797, 824, 861, 898, 955, 972, 989, 996, 1003, 1010, 1027, 1044] 400 613 _ _ _
set_option maxRecDepth 20000 in
theorem bb_211_640 (X : bm_X) (σ : bm_M) (x3 : Int32) : bm_ev X 211 640 [.ref 55, .ref 0, .ref 45, .int x3] [] σ = bm_gd (bm_in (x3 + (nI 1)) (bm_rl X 55)) (bm_gd (bm_in (x3 + (nI 2)) (bm_rl X 55)) (bm_bI (bm_ev X 189 0 [.ref 0, .int (bm_rv X 55 (x3 + (nI 1)).toNatClampNeg), .int (bm_rv X 55 (x3 + (nI 2)).toNatClampNeg), .null, .null] [] σ) (fun v2 t1 => bm_gd (bm_in (x3 + (nI 1)) (bm_rl X 55)) (bm_gd (bm_in (x3 + (nI 2)) (bm_rl X 55)) (bm_bI (bm_ev X 206 0 [.ref 45, .int (bm_rv X 55 (x3 + (nI 1)).toNatClampNeg), .int (bm_rv X 55 (x3 + (nI 2)).toNatClampNeg), .null, .null, .null] [] t1) (fun v4 t3 => bif decide (v2 = v4) then bm_ev X 211 1044 [.ref 55, .ref 0, .ref 45, .int x3] [] t3 else bm_gd (bm_bo (nI 0)) (some (.int (nI 0), t3)))))))) := bm_blk (cd := bm_c211) rfl [10, 22, 49, 76, 103, 120, 137, 164, 191, 228, 245, 262, 289, 326, 353, 380, 387, 414, 451, 478, 515, 532, 559, 576, 613, 640, 667, 684, 712, 729, 756, 763, 770, 797, 824, 861, 898, 955, 972, 989, 996, 1003, 1010, 1027, 1044] 400 640 _ _ _
set_option maxRecDepth 20000 in
theorem bb_211_667 (X : bm_X) (σ : bm_M) (x3 : Int32) : bm_ev X 211 667 [.ref 55, .ref 0, .ref 45, .int x3] [] σ = bm_gd (bm_in (x3 + (nI 1)) (bm_rl X 55)) (bm_bI (bm_ev X 158 0 [.ref 0, .int (bm_rv X 55 (x3 + (nI 1)).toNatClampNeg), .null, .null] [] σ) (fun v2 t1 => bm_gd (bm_in (x3 + (nI 1)) (bm_rl X 55)) (bm_bI (bm_ev X 180 0 [.ref 45, .int (bm_rv X 55 (x3 + (nI 1)).toNatClampNeg), .null, .null] [] t1) (fun v4 t3 => bif decide (v2 = v4) then bm_ev X 211 1044 [.ref 55, .ref 0, .ref 45, .int x3] [] t3 else bm_gd (bm_bo (nI 0)) (some (.int (nI 0), t3)))))) := bm_blk (cd := bm_c211) rfl [10, 22, 49, 76, 103, 120, 137, 164, 191, 228, 245, 262, 289, 326, 353, 380, 387, 414, 451, 478, 515, 532, 559, 576, 613, 640, 667, 684, 712, 729, 756, 763, 770, 797, 824, 861, 898, 955, 972, 989, 996, 1003, 1010, 1027, 1044] 400 667 _ _ _
set_option maxRecDepth 20000 in
theorem bb_211_684 (X : bm_X) (σ : bm_M) (x3 : Int32) : bm_ev X 211 684 [.ref 55, .ref 0, .ref 45, .int x3] [] σ = bm_gd (bm_in (x3 + (nI 1)) (bm_rl X 55)) (bm_gd (bm_in (x3 + (nI 2)) (bm_rl X 55)) (bm_bL (bm_ev X 60 0 [.ref 0, .int (bm_rv X 55 (x3 + (nI 1)).toNatClampNeg), .int (bm_rv X 55 (x3 + (nI 2)).toNatClampNeg), .null, .null, .null] [] σ) (fun v2 t1 => bm_gd (bm_in (x3 + (nI 1)) (bm_rl X 55)) (bm_gd (bm_in (x3 + (nI 2)) (bm_rl X 55)) (bm_bL (bm_ev X 132 0 [.ref 45, .int (bm_rv X 55 (x3 + (nI 1)).toNatClampNeg), .int (bm_rv X 55 (x3 + (nI 2)).toNatClampNeg), .null, .null, .null, .null, .null, .null, .null, .null, .null, .null] [] t1) (fun v4 t3 => bif decide ((lg_cmp v2 v4) = 0) then bm_ev X 211 1044 [.ref 55, .ref 0, .ref 45, .int x3] [] t3 else bm_gd (bm_bo (nI 0)) (some (.int (nI 0), t3)))))))) := bm_blk (cd := bm_c211) rfl [10, 22, 49, 76, 103, 120, 137, 164, 191, 228, 245, 262, 289, 326, 353, 380, 387, 414, 451, 478, 515, 532, 559, 576, 613, 640, 667, 684, 712, 729, 756, 763, 770, 797, 824, 861, 898, 955, 972, 989, 996, 1003, 1010, 1027, 1044] 400 684 _ _ _
set_option maxRecDepth 20000 in
theorem bb_211_712 (X : bm_X) (σ : bm_M) (x3 : Int32) : bm_ev X 211 712 [.ref 55, .ref 0, .ref 45, .int x3] [] σ = bm_gd (bm_in (x3 + (nI 1)) (bm_rl X 55)) (bm_bI (bm_ev X 20 0 [.ref 0, .int (bm_rv X 55 (x3 + (nI 1)).toNatClampNeg), .null] [] σ) (fun v2 t1 => bm_gd (bm_in (x3 + (nI 1)) (bm_rl X 55)) (bm_bI (bm_ev X 93 0 [.ref 45, .int (bm_rv X 55 (x3 + (nI 1)).toNatClampNeg)] [] t1) (fun v4 t3 => bif decide (v2 = v4) then bm_ev X 211 1044 [.ref 55, .ref 0, .ref 45, .int x3] [] t3 else bm_gd (bm_bo (nI 0)) (some (.int (nI 0), t3)))))) := bm_blk (cd := bm_c211) rfl [10, 22, 49, 76, 103, 120, 137, 164, 191, 228, 245, 262, 289, 326, 353, 380, 387, 414, 451, 478, 515, 532, 559, 576, 613, 640, 667, 684, 712, 729, 756, 763, 770, 797, 824, 861, 898, 955, 972, 989, 996, 1003, 1010, 1027, 1044] 400 712 _ _ _
set_option maxRecDepth 20000 in
theorem bb_211_729 (X : bm_X) (σ : bm_M) (x3 : Int32) : bm_ev X 211 729 [.ref 55, .ref 0, .ref 45, .int x3] [] σ = bm_gd (bm_in (x3 + (nI 1)) (bm_rl X 55)) (bm_gd (bm_in (x3 + (nI 2)) (bm_rl X 55)) (bm_bI (bm_ev X 61 0 [.ref 0, .int (bm_rv X 55 (x3 + (nI 1)).toNatClampNeg), .int (bm_rv X 55 (x3 + (nI 2)).toNatClampNeg), .null] [] σ) (fun v2 t1 => bm_gd (bm_in (x3 + (nI 1)) (bm_rl X 55)) (bm_gd (bm_in (x3 + (nI 2)) (bm_rl X 55)) (bm_bI (bm_ev X 94 0 [.ref 45, .int (bm_rv X 55 (x3 + (nI 1)).toNatClampNeg), .int (bm_rv X 55 (x3 + (nI 2)).toNatClampNeg), .null] [] t1) (fun v4 t3 => bif decide (v2 = v4) then bm_ev X 211 1044 [.ref 55, .ref 0, .ref 45, .int x3] [] t3 else bm_gd (bm_bo (nI 0)) (some (.int (nI 0), t3)))))))) := bm_blk (cd := bm_c211) rfl [10, 22, 49, 76, 103, 120, 137, 164, 191, 228, 245, 262, 289, 326, 353, 380, 387, 414, 451, 478, 515, 532, 559, 576, 613, 640, 667, 684, 712, 729, 756, 763, 770, 797, 824, 861, 898, 955, 972, 989, 996, 1003, 1010, 1027, 1044] 400 729 _ _ _
set_option maxRecDepth 20000 in
theorem bb_211_756 (X : bm_X) (σ : bm_M) (x3 : Int32) : bm_ev X 211 756 [.ref 55, .ref 0, .ref 45, .int x3] [] σ = bm_bI (bm_ev X 21 0 [.ref 0, .null] [] σ) (fun v2 t1 => bm_bI (bm_ev X 45 0 [.ref 45, .null] [] t1) (fun v4 t3 => bif decide (v2 = v4) then bm_ev X 211 1044 [.ref 55, .ref 0, .ref 45, .int x3] [] t3 else bm_gd (bm_bo (nI 0)) (some (.int (nI 0), t3)))) := bm_blk (cd := bm_c211) rfl [10, 22, 49, 76, 103, 120, 137, 164, 191, 228, 245, 262, 289, 326, 353, 380, 387, 414, 451, 478, 515, 532, 559, 576, 613, 640, 667, 684, 712, 729, 756, 763, 770, 797, 824, 861, 898, 955, 972, 989, 996, 1003, 1010, 1027, 1044] 400 756 _ _ _
set_option maxRecDepth 20000 in
theorem bb_211_763 (X : bm_X) (σ : bm_M) (x3 : Int32) : bm_ev X 211 763 [.ref 55, .ref 0, .ref 45, .int x3] [] σ = bm_bI (bm_ev X 210 0 [.ref 0, .null] [] σ) (fun v2 t1 => bm_bI (bm_ev X 209 0 [.ref 45, .null] [] t1) (fun v4 t3 => bif decide (v2 = v4) then bm_ev X 211 1044 [.ref 55, .ref 0, .ref 45, .int x3] [] t3 else bm_gd (bm_bo (nI 0)) (some (.int (nI 0), t3)))) := bm_blk (cd := bm_c211) rfl [10, 22, 49, 76, 103, 120, 137, 164, 191, 228, 245, 262, 289, 326, 353, 380, 387, 414, 451, 478, 515, 532, 559, 576, 613, 640, 667, 684, 712, 729, 756, 763, 770, 797, 824, 861, 898, 955, 972, 989, 996, 1003, 1010, 1027, 1044] 400 763 _ _ _
set_option maxRecDepth 20000 in
theorem bb_211_770 (X : bm_X) (σ : bm_M) (x3 : Int32) : bm_ev X 211 770 [.ref 55, .ref 0, .ref 45, .int x3] [] σ = bm_gd (bm_in (x3 + (nI 1)) (bm_rl X 55)) (bm_gd (bm_in (x3 + (nI 2)) (bm_rl X 55)) (bm_bI (bm_ev X 62 0 [.ref 0, .int (bm_rv X 55 (x3 + (nI 1)).toNatClampNeg), .int (bm_rv X 55 (x3 + (nI 2)).toNatClampNeg)] [] σ) (fun v2 t1 => bm_gd (bm_in (x3 + (nI 1)) (bm_rl X 55)) (bm_gd (bm_in (x3 + (nI 2)) (bm_rl X 55)) (bm_bI (bm_ev X 134 0 [.ref 45, .int (bm_rv X 55 (x3 + (nI 1)).toNatClampNeg), .int (bm_rv X 55 (x3 + (nI 2)).toNatClampNeg)] [] t1) (fun v4 t3 => bif decide (v2 = v4) then bm_ev X 211 1044 [.ref 55, .ref 0, .ref 45, .int x3] [] t3 else bm_gd (bm_bo (nI 0)) (some (.int (nI 0), t3)))))))) := bm_blk (cd := bm_c211) rfl [10, 22, 49, 76, 103, 120, 137, 164, 191, 228, 245, 262, 289, 326, 353, 380, 387, 414, 451, 478, 515, 532, 559, 576, 613, 640, 667, 684, 712, 729, 756, 763, 770, 797, 824, 861, 898, 955, 972, 989, 996, 1003, 1010, 1027, 1044] 400 770 _ _ _
set_option maxRecDepth 20000 in
theorem bb_211_797 (X : bm_X) (σ : bm_M) (x3 : Int32) : bm_ev X 211 797 [.ref 55, .ref 0, .ref 45, .int x3] [] σ = bm_gd (bm_in (x3 + (nI 1)) (bm_rl X 55)) (bm_gd (bm_in (x3 + (nI 2)) (bm_rl X 55)) (bm_bI (bm_ev X 113 0 [.ref 0, .int (bm_rv X 55 (x3 + (nI 1)).toNatClampNeg), .int (bm_rv X 55 (x3 + (nI 2)).toNatClampNeg), .null] [] σ) (fun v2 t1 => bm_gd (bm_in (x3 + (nI 1)) (bm_rl X 55)) (bm_gd (bm_in (x3 + (nI 2)) (bm_rl X 55)) (bm_bI (bm_ev X 135 0 [.ref 45, .int (bm_rv X 55 (x3 + (nI 1)).toNatClampNeg), .int (bm_rv X 55 (x3 + (nI 2)).toNatClampNeg), .null] [] t1) (fun v4 t3 => bif decide (v2 = v4) then bm_ev X 211 1044 [.ref 55, .ref 0, .ref 45, .int x3] [] t3 else bm_gd (bm_bo (nI 0)) (some (.int (nI 0), t3)))))))) := bm_blk (cd := bm_c211) rfl [10, 22, 49, 76, 103, 120, 137, 164, 191, 228, 245, 262, 289, 326, 353, 380, 387, 414, 451, 478, 515, 532, 559, 576, 613, 640, 667, 684, 712, 729, 756, 763, 770, 797, 824, 861, 898, 955, 972, 989, 996, 1003, 1010, 1027, 1044] 400 797 _ _ _
set_option maxRecDepth 20000 in
theorem bb_211_824 (X : bm_X) (σ : bm_M) (x3 : Int32) : bm_ev X 211 824 [.ref 55, .ref 0, .ref 45, .int x3] [] σ = bm_gd (bm_in (x3 + (nI 1)) (bm_rl X 55)) (bm_gd (bm_in (x3 + (nI 2)) (bm_rl X 55)) (bm_gd (bm_in (x3 + (nI 3)) (bm_rl X 55)) (bm_bI (bm_ev X 114 0 [.ref 0, .int (bm_rv X 55 (x3 + (nI 1)).toNatClampNeg), .int (bm_rv X 55 (x3 + (nI 2)).toNatClampNeg), .int (bm_rv X 55 (x3 + (nI 3)).toNatClampNeg), .null] [] σ) (fun v2 t1 => bm_gd (bm_in (x3 + (nI 1)) (bm_rl X 55)) (bm_gd (bm_in (x3 + (nI 2)) (bm_rl X 55)) (bm_gd (bm_in (x3 + (nI 3)) (bm_rl X 55)) (bm_bI (bm_ev X 136 0 [.ref 45, .int (bm_rv X 55 (x3 + (nI 1)).toNatClampNeg), .int (bm_rv X 55 (x3 + (nI 2)).toNatClampNeg), .int (bm_rv X 55 (x3 + (nI 3)).toNatClampNeg), .null, .null] [] t1) (fun v4 t3 => bif decide (v2 = v4) then bm_ev X 211 1044 [.ref 55, .ref 0, .ref 45, .int x3] [] t3 else bm_gd (bm_bo (nI 0)) (some (.int (nI 0), t3)))))))))) := bm_blk (cd := bm_c211) rfl [10, 22, 49, 76, 103, 120, 137, 164, 191, 228, 245, 262, 289, 326, 353, 380, 387, 414, 451, 478, 515, 532, 559, 576, 613, 640, 667, 684, 712, 729, 756, 763, 770, 797, 824, 861, 898, 955, 972, 989, 996, 1003, 1010, 1027, 1044] 400 824 _ _ _
set_option maxRecDepth 20000 in
theorem bb_211_861 (X : bm_X) (σ : bm_M) (x3 : Int32) : bm_ev X 211 861 [.ref 55, .ref 0, .ref 45, .int x3] [] σ = bm_gd (bm_in (x3 + (nI 1)) (bm_rl X 55)) (bm_gd (bm_in (x3 + (nI 2)) (bm_rl X 55)) (bm_gd (bm_in (x3 + (nI 3)) (bm_rl X 55)) (bm_bI (bm_ev X 115 0 [.ref 0, .int (bm_rv X 55 (x3 + (nI 1)).toNatClampNeg), .int (bm_rv X 55 (x3 + (nI 2)).toNatClampNeg), .int (bm_rv X 55 (x3 + (nI 3)).toNatClampNeg)] [] σ) (fun v2 t1 => bm_gd (bm_in (x3 + (nI 1)) (bm_rl X 55)) (bm_gd (bm_in (x3 + (nI 2)) (bm_rl X 55)) (bm_gd (bm_in (x3 + (nI 3)) (bm_rl X 55)) (bm_bI (bm_ev X 149 0 [.ref 45, .int (bm_rv X 55 (x3 + (nI 1)).toNatClampNeg), .int (bm_rv X 55 (x3 + (nI 2)).toNatClampNeg), .int (bm_rv X 55 (x3 + (nI 3)).toNatClampNeg), .null] [] t1) (fun v4 t3 => bif decide (v2 = v4) then bm_ev X 211 1044 [.ref 55, .ref 0, .ref 45, .int x3] [] t3 else bm_gd (bm_bo (nI 0)) (some (.int (nI 0), t3)))))))))) := bm_blk (cd := bm_c211) rfl [10, 22, 49, 76, 103, 120, 137, 164, 191, 228, 245, 262, 289, 326, 353, 380, 387, 414, 451, 478, 515, 532, 559, 576, 613, 640, 667, 684, 712, 729, 756, 763, 770, 797, 824, 861, 898, 955, 972, 989, 996, 1003, 1010, 1027, 1044] 400 861 _ _ _
set_option maxRecDepth 20000 in
theorem bb_211_898 (X : bm_X) (σ : bm_M) (x3 : Int32) : bm_ev X 211 898 [.ref 55, .ref 0, .ref 45, .int x3] [] σ = bm_gd (bm_in (x3 + (nI 1)) (bm_rl X 55)) (bm_gd (bm_in (x3 + (nI 2)) (bm_rl X 55)) (bm_gd (bm_in (x3 + (nI 3)) (bm_rl X 55)) (bm_gd (bm_in (x3 + (nI 4)) (bm_rl X 55)) (bm_gd (bm_in (x3 + (nI 5)) (bm_rl X 55)) (bm_bI (bm_ev X 116 0 [.ref 0, .int (bm_rv X 55 (x3 + (nI 1)).toNatClampNeg), .int (bm_rv X 55 (x3 + (nI 2)).toNatClampNeg), .int (bm_rv X 55 (x3 + (nI 3)).toNatClampNeg), .int (bm_rv X 55 (x3 + (nI 4)).toNatClampNeg), .int (bm_rv X 55 (x3 + (nI 5)).toNatClampNeg)] [] σ) (fun v2 t1 => bm_gd (bm_in (x3 + (nI 1)) (bm_rl X 55)) (bm_gd (bm_in (x3 + (nI 2)) (bm_rl X 55)) (bm_gd (bm_in (x3 + (nI 3)) (bm_rl X 55)) (bm_gd (bm_in (x3 + (nI 4)) (bm_rl X 55)) (bm_gd (bm_in (x3 + (nI 5)) (bm_rl X 55)) (bm_bI (bm_ev X 138 0 [.ref 45, .int (bm_rv X 55 (x3 + (nI 1)).toNatClampNeg), .int (bm_rv X 55 (x3 + (nI 2)).toNatClampNeg), .int (bm_rv X 55 (x3 + (nI 3)).toNatClampNeg), .int (bm_rv X 55 (x3 + (nI 4)).toNatClampNeg), .int (bm_rv X 55 (x3 + (nI 5)).toNatClampNeg), .null, .null] [] t1) (fun v4 t3 => bif decide (v2 = v4) then bm_ev X 211 1044 [.ref 55, .ref 0, .ref 45, .int x3] [] t3 else bm_gd (bm_bo (nI 0)) (some (.int (nI 0), t3)))))))))))))) := bm_blk (cd := bm_c211) rfl [10, 22, 49, 76, 103, 120, 137, 164, 191, 228, 245, 262, 289, 326, 353, 380, 387, 414, 451, 478, 515, 532, 559, 576, 613, 640, 667, 684, 712, 729, 756, 763, 770, 797, 824, 861, 898, 955, 972, 989, 996, 1003, 1010, 1027, 1044] 400 898 _ _ _
set_option maxRecDepth 20000 in
theorem bb_211_955 (X : bm_X) (σ : bm_M) (x3 : Int32) : bm_ev X 211 955 [.ref 55, .ref 0, .ref 45, .int x3] [] σ = bm_gd (bm_in (x3 + (nI 1)) (bm_rl X 55)) (bm_bI (bm_ev X 117 0 [.ref 0, .int (bm_rv X 55 (x3 + (nI 1)).toNatClampNeg), .null, .null] [] σ) (fun v2 t1 => bm_gd (bm_in (x3 + (nI 1)) (bm_rl X 55)) (bm_bI (bm_ev X 150 0 [.ref 45, .int (bm_rv X 55 (x3 + (nI 1)).toNatClampNeg), .null, .null] [] t1) (fun v4 t3 => bif decide (v2 = v4) then bm_ev X 211 1044 [.ref 55, .ref 0, .ref 45, .int x3] [] t3 else bm_gd (bm_bo (nI 0)) (some (.int (nI 0), t3)))))) := bm_blk (cd := bm_c211) rfl [10, 22, 49, 76, 103, 120, 137, 164, 191, 228, 245, 262, 289, 326, 353, 380, 387, 414, 451, 478, 515, 532, 559, 576, 613, 640, 667, 684, 712, 729, 756, 763, 770, 797, 824, 861, 898, 955, 972, 989, 996, 1003, 1010, 1027, 1044] 400 955 _ _ _
set_option maxRecDepth 20000 in
theorem bb_211_972 (X : bm_X) (σ : bm_M) (x3 : Int32) : bm_ev X 211 972 [.ref 55, .ref 0, .ref 45, .int x3] [] σ = bm_gd (bm_in (x3 + (nI 1)) (bm_rl X 55)) (bm_bI (bm_ev X 118 0 [.ref 0, .int (bm_rv X 55 (x3 + (nI 1)).toNatClampNeg), .null] [] σ) (fun v2 t1 => bm_gd (bm_in (x3 + (nI 1)) (bm_rl X 55)) (bm_bI (bm_ev X 151 0 [.ref 45, .int (bm_rv X 55 (x3 + (nI 1)).toNatClampNeg), .null, .null] [] t1) (fun v4 t3 => bif decide (v2 = v4) then bm_ev X 211 1044 [.ref 55, .ref 0, .ref 45, .int x3] [] t3 else bm_gd (bm_bo (nI 0)) (some (.int (nI 0), t3)))))) := bm_blk (cd := bm_c211) rfl [10, 22, 49, 76, 103, 120, 137, 164, 191, 228, 245, 262, 289, 326, 353, 380, 387, 414, 451, 478, 515, 532, 559, 576, 613, 640, 667, 684, 712, 729, 756, 763, 770, 797, 824, 861, 898, 955, 972, 989, 996, 1003, 1010, 1027, 1044] 400 972 _ _ _
set_option maxRecDepth 20000 in
theorem bb_211_989 (X : bm_X) (σ : bm_M) (x3 : Int32) : bm_ev X 211 989 [.ref 55, .ref 0, .ref 45, .int x3] [] σ = bm_bI (bm_ev X 119 0 [.ref 0] [] σ) (fun v2 t1 => bm_bI (bm_ev X 98 0 [.ref 45] [] t1) (fun v4 t3 => bif decide (v2 = v4) then bm_ev X 211 1044 [.ref 55, .ref 0, .ref 45, .int x3] [] t3 else bm_gd (bm_bo (nI 0)) (some (.int (nI 0), t3)))) := bm_blk (cd := bm_c211) rfl [10, 22, 49, 76, 103, 120, 137, 164, 191, 228, 245, 262, 289, 326, 353, 380, 387, 414, 451, 478, 515, 532, 559, 576, 613, 640, 667, 684, 712, 729, 756, 763, 770, 797, 824, 861, 898, 955, 972, 989, 996, 1003, 1010, 1027, 1044] 400 989 _ _ _
set_option maxRecDepth 20000 in
theorem bb_211_996 (X : bm_X) (σ : bm_M) (x3 : Int32) : bm_ev X 211 996 [.ref 55, .ref 0, .ref 45, .int x3] [] σ = bm_bI (bm_ev X 120 0 [.ref 0] [] σ) (fun v2 t1 => bm_bI (bm_ev X 99 0 [.ref 45] [] t1) (fun v4 t3 => bif decide (v2 = v4) then bm_ev X 211 1044 [.ref 55, .ref 0, .ref 45, .int x3] [] t3 else bm_gd (bm_bo (nI 0)) (some (.int (nI 0), t3)))) := bm_blk (cd := bm_c211) rfl [10, 22, 49, 76, 103, 120, 137, 164, 191, 228, 245, 262, 289, 326, 353, 380, 387, 414, 451, 478, 515, 532, 559, 576, 613, 640, 667, 684, 712, 729, 756, 763, 770, 797, 824, 861, 898, 955, 972, 989, 996, 1003, 1010, 1027, 1044] 400 996 _ _ _
set_option maxRecDepth 20000 in
theorem bb_211_1003 (X : bm_X) (σ : bm_M) (x3 : Int32) : bm_ev X 211 1003 [.ref 55, .ref 0, .ref 45, .int x3] [] σ = bm_bI (bm_ev X 22 0 [.ref 0, .null] [] σ) (fun v2 t1 => bm_bI (bm_ev X 46 0 [.ref 45, .null] [] t1) (fun v4 t3 => bif decide (v2 = v4) then bm_ev X 211 1044 [.ref 55, .ref 0, .ref 45, .int x3] [] t3 else bm_gd (bm_bo (nI 0)) (some (.int (nI 0), t3)))) := bm_blk (cd := bm_c211) rfl [10, 22, 49, 76, 103, 120, 137, 164, 191, 228, 245, 262, 289, 326, 353, 380, 387, 414, 451, 478, 515, 532, 559, 576, 613, 640, 667, 684, 712, 729, 756, 763, 770, 797, 824, 861, 898, 955, 972, 989, 996, 1003, 1010, 1027, 1044] 400 1003 _ _ _
set_option maxRecDepth 20000 in
theorem bb_211_1010 (X : bm_X) (σ : bm_M) (x3 : Int32) : bm_ev X 211 1010 [.ref 55, .ref 0, .ref 45, .int x3] [] σ = bm_gd (bm_in (x3 + (nI 1)) (bm_rl X 55)) (bm_bI (bm_ev X 63 0 [.ref 0, .int (bm_rv X 55 (x3 + (nI 1)).toNatClampNeg)] [] σ) (fun v2 t1 => bm_gd (bm_in (x3 + (nI 1)) (bm_rl X 55)) (bm_bI (bm_ev X 139 0 [.ref 45, .int (bm_rv X 55 (x3 + (nI 1)).toNatClampNeg)] [] t1) (fun v4 t3 => bif decide (v2 = v4) then bm_ev X 211 1044 [.ref 55, .ref 0, .ref 45, .int x3] [] t3 else bm_gd (bm_bo (nI 0)) (some (.int (nI 0), t3)))))) := bm_blk (cd := bm_c211) rfl [10, 22, 49, 76, 103, 120, 137, 164, 191, 228, 245, 262, 289, 326, 353, 380, 387, 414, 451, 478, 515, 532, 559, 576, 613, 640, 667, 684, 712, 729, 756, 763, 770, 797, 824, 861, 898, 955, 972, 989, 996, 1003, 1010, 1027, 1044] 400 1010 _ _ _
set_option maxRecDepth 20000 in
theorem bb_211_1027 (X : bm_X) (σ : bm_M) (x3 : Int32) : bm_ev X 211 1027 [.ref 55, .ref 0, .ref 45, .int x3] [] σ = bm_gd (bm_in (x3 + (nI 1)) (bm_rl X 55)) (bm_bI (bm_ev X 64 0 [.ref 0, .int (bm_rv X 55 (x3 + (nI 1)).toNatClampNeg), .null, .null] [] σ) (fun v2 t1 => bm_gd (bm_in (x3 + (nI 1)) (bm_rl X 55)) (bm_bI (bm_ev X 100 0 [.ref 45, .int (bm_rv X 55 (x3 + (nI 1)).toNatClampNeg), .null, .null] [] t1) (fun v4 t3 => bif decide (v2 = v4) then bm_ev X 211 1044 [.ref 55, .ref 0, .ref 45, .int x3] [] t3 else bm_gd (bm_bo (nI 0)) (some (.int (nI 0), t3)))))) := bm_blk (cd := bm_c211) rfl [10, 22, 49, 76, 103, 120, 137, 164, 191, 228, 245, 262, 289, 326, 353, 380, 387, 414, 451, 478, 515, 532, 559, 576, 613, 640, 667, 684, 712, 729, 756, 763, 770, 797, 824, 861, 898, 955, 972, 989, 996, 1003, 1010, 1027, 1044] 400 1027 _ _ _
set_option maxRecDepth 20000 in
theorem bb_211_1044 (X : bm_X) (σ : bm_M) (x3 : Int32) : bm_ev X 211 1044 [.ref 55, .ref 0, .ref 45, .int x3] [] σ = bm_ev X 211 10 [.ref 55, .ref 0, .ref 45, .int (x3 + nI 6)] [] σ := bm_blk (cd := bm_c211) rfl [10, 22, 49, 76, 103, 120, 137, 164, 191, 228, 245, 262, 289, 326, 353, 380, 387, 414, 451, 478, 515, 532, 559, 576, 613, 640, 667, 684, 712, 729, 756, 763, 770, 797, 824, 861, 898, 955, 972, 989, 996, 1003, 1010, 1027, 1044] 400 1044 _ _ _
end
section
def RX0 : String := "BellMilk$Herd"
def TX0 : u_T := fun k => match k with
  | 0 => ("BellMilk$Herd", "grass", "[I", true)
  | 1 => ("BellMilk$Herd", "pails", "[I", true)
  | 2 => ("BellMilk$Herd", "spots", "[I", true)
  | 3 => ("BellMilk$Herd", "grows", "I", false)
  | 4 => ("BellMilk$Herd", "thunder", "I", false)
  | 5 => ("BellMilk$Herd", "hour", "I", false)
  | 6 => ("BellMilk$Herd", "z", "I", false)
  | 7 => ("BellMilk$Herd", "cows", "I", false)
  | 8 => ("BellMilk$Herd", "kind", "[I", true)
  | 9 => ("BellMilk$Herd", "place", "[I", true)
  | 10 => ("BellMilk$Herd", "tone", "[I", true)
  | 11 => ("BellMilk$Herd", "swings", "[I", true)
  | 12 => ("BellMilk$Herd", "wear", "[I", true)
  | 13 => ("BellMilk$Herd", "rung", "[I", true)
  | _ => ("BellMilk$Herd", "muffled", "[I", true)
def tyX0 : Nat → FieldType := fun k => match k with
  | 0 => .array .int
  | 1 => .array .int
  | 2 => .array .int
  | 3 => .int
  | 4 => .int
  | 5 => .int
  | 6 => .int
  | 7 => .int
  | 8 => .array .int
  | 9 => .array .int
  | 10 => .array .int
  | 11 => .array .int
  | 12 => .array .int
  | 13 => .array .int
  | _ => .array .int
theorem nmX0 : ∀ a, a < 15 → ∀ b, b < 15 → a ≠ b → (TX0 a).2.1 ≠ (TX0 b).2.1 := by decide +kernel
theorem tyX0_ok : ∀ k, k < 15 → parseFieldDescriptor (TX0 k).2.2.1 = some (tyX0 k) := by decide +kernel
def RX1 : String := "BellMilk$Tape"
def TX1 : u_T := fun k => match k with
  | 0 => ("BellMilk$Tape", "bytes", "[I", true)
  | 1 => ("BellMilk$Tape", "length", "I", false)
  | 2 => ("BellMilk$Tape", "token", "I", false)
  | 3 => ("BellMilk$Tape", "begin", "I", false)
  | 4 => ("BellMilk$Tape", "end", "I", false)
  | 5 => ("BellMilk$Tape", "value", "I", false)
  | _ => ("BellMilk$Tape", "items", "I", false)
def tyX1 : Nat → FieldType := fun k => match k with
  | 0 => .array .int
  | 1 => .int
  | 2 => .int
  | 3 => .int
  | 4 => .int
  | 5 => .int
  | _ => .int
theorem nmX1 : ∀ a, a < 7 → ∀ b, b < 7 → a ≠ b → (TX1 a).2.1 ≠ (TX1 b).2.1 := by decide +kernel
theorem tyX1_ok : ∀ k, k < 7 → parseFieldDescriptor (TX1 k).2.2.1 = some (tyX1 k) := by decide +kernel
def RX2 : String := "BellMilk"
def TX2 : u_T := fun k => match k with
  | 0 => ("BellMilk", "herd", "LBellMilk$Herd;", true)
  | 1 => ("BellMilk", "trial", "LBellMilk$Herd;", true)
  | 2 => ("BellMilk", "kept", "LBellMilk$Herd;", true)
  | 3 => ("BellMilk", "isKept", "Z", false)
  | 4 => ("BellMilk", "tape", "LBellMilk$Tape;", true)
  | 5 => ("BellMilk", "sheetNumbers", "[[I", true)
  | 6 => ("BellMilk", "sheetSize", "[I", true)
  | 7 => ("BellMilk", "sheetBits", "[I", true)
  | 8 => ("BellMilk", "told", "[I", true)
  | _ => ("BellMilk", "saved", "[I", true)
def tyX2 : Nat → FieldType := fun k => match k with
  | 0 => .object "BellMilk$Herd"
  | 1 => .object "BellMilk$Herd"
  | 2 => .object "BellMilk$Herd"
  | 3 => .boolean
  | 4 => .object "BellMilk$Tape"
  | 5 => .array (.array .int)
  | 6 => .array .int
  | 7 => .array .int
  | 8 => .array .int
  | _ => .array .int
theorem nmX2 : ∀ a, a < 10 → ∀ b, b < 10 → a ≠ b → (TX2 a).2.1 ≠ (TX2 b).2.1 := by decide +kernel
theorem tyX2_ok : ∀ k, k < 10 → parseFieldDescriptor (TX2 k).2.2.1 = some (tyX2 k) := by decide +kernel
def RX3 : String := "BellMilkModel"
def TX3 : u_T := fun k => match k with
  | 0 => ("BellMilkModel", "s", "[I", true)
  | 1 => ("BellMilkModel", "kept", "[I", true)
  | 2 => ("BellMilkModel", "aside", "[I", true)
  | 3 => ("BellMilkModel", "isKept", "Z", false)
  | 4 => ("BellMilkModel", "found", "[I", true)
  | 5 => ("BellMilkModel", "hasGone", "Z", false)
  | 6 => ("BellMilkModel", "best", "I", false)
  | 7 => ("BellMilkModel", "most", "I", false)
  | 8 => ("BellMilkModel", "tape", "[I", true)
  | 9 => ("BellMilkModel", "taped", "I", false)
  | 10 => ("BellMilkModel", "from", "I", false)
  | 11 => ("BellMilkModel", "to", "I", false)
  | 12 => ("BellMilkModel", "isWrong", "Z", false)
  | 13 => ("BellMilkModel", "bitsOf", "[I", true)
  | 14 => ("BellMilkModel", "sizeOf", "[I", true)
  | 15 => ("BellMilkModel", "number", "[I", true)
  | _ => ("BellMilkModel", "moved", "[I", true)
def tyX3 : Nat → FieldType := fun k => match k with
  | 0 => .array .int
  | 1 => .array .int
  | 2 => .array .int
  | 3 => .boolean
  | 4 => .array .int
  | 5 => .boolean
  | 6 => .int
  | 7 => .int
  | 8 => .array .int
  | 9 => .int
  | 10 => .int
  | 11 => .int
  | 12 => .boolean
  | 13 => .array .int
  | 14 => .array .int
  | 15 => .array .int
  | _ => .array .int
theorem nmX3 : ∀ a, a < 17 → ∀ b, b < 17 → a ≠ b → (TX3 a).2.1 ≠ (TX3 b).2.1 := by decide +kernel
theorem tyX3_ok : ∀ k, k < 17 → parseFieldDescriptor (TX3 k).2.2.1 = some (tyX3 k) := by decide +kernel
def bm_cn (k : Nat) : String := match k with
  | 0 => "BellMilk$Herd"
  | 1 => "BellMilk$Tape"
  | 2 => "BellMilk"
  | 3 => "BellMilkModel"
  | 4 => "BellMilkLaw"
  | 5 => "java/lang/Integer"
  | 6 => "java/lang/String"
  | 7 => "java/lang/StringLatin1"
  | _ => "jdk/internal/util/Preconditions"
def bm_RR (k : Nat) : String := match k with
  | 0 => RX0
  | 1 => RX1
  | 2 => RX2
  | _ => RX3
def bm_TT (k : Nat) : u_T := match k with
  | 0 => TX0
  | 1 => TX1
  | 2 => TX2
  | _ => TX3
def bm_NN (k : Nat) : Nat := match k with
  | 0 => 15
  | 1 => 7
  | 2 => 10
  | _ => 17
def bm_ty (k : Nat) : Nat → FieldType := match k with
  | 0 => tyX0
  | 1 => tyX1
  | 2 => tyX2
  | _ => tyX3
abbrev bm_cl : List vw_C := [(RX0, TX0, 15), (RX1, TX1, 7), (RX2, TX2, 10), (RX3, TX3, 17)]
/-- the fields of a class: 0 for a number, else how far off the place is that it names -/
def bm_fs (k : Nat) : List Nat := match k with
  | 0 => [1, 2, 3, 0, 0, 0, 0, 0, 4, 5, 6, 7, 8, 9, 10]
  | 1 => [1, 0, 0, 0, 0, 0, 0]
  | 2 => [1, 12, 23, 0, 34, 36, 41, 42, 43, 44]
  | _ => [1, 2, 3, 0, 4, 0, 0, 0, 5, 0, 0, 0, 0, 6, 7, 8, 9]
def bm_ys : List MethodName := [⟨"BellMilk$Herd", "addCow", "(II)I"⟩, ⟨"BellMilk$Herd", "trait", "(I)[I"⟩, ⟨"BellMilk$Herd", "othersWith", "(I)I"⟩, ⟨"BellMilk$Herd", "eats", "(I)I"⟩, ⟨"BellMilk$Herd", "beside", "(I)I"⟩, ⟨"BellMilk$Herd", "thirdTone", "(II)I"⟩, ⟨"BellMilk$Herd", "wander", "(I)V"⟩, ⟨"BellMilk$Herd", "draw", "()I"⟩, ⟨"BellMilk$Herd", "milk", "()I"⟩, ⟨"BellMilk$Herd", "rungOfAll", "()I"⟩, ⟨"BellMilk$Herd", "grassOfAll", "()I"⟩, ⟨"BellMilk$Herd", "cowsOn", "(I)I"⟩, ⟨"BellMilk$Herd", "muffledCows", "()I"⟩, ⟨"BellMilk$Herd", "pasturesWithCows", "()I"⟩, ⟨"BellMilk$Herd", "pailsWithMilk", "()I"⟩, ⟨"BellMilk$Herd", "hasBarePasture", "()Z"⟩, ⟨"BellMilk$Herd", "spotsHolding", "()I"⟩, ⟨"BellMilk$Tape", "append", "(I)V"⟩, ⟨"BellMilk$Tape", "isLetter", "(I)Z"⟩, ⟨"BellMilk$Tape", "isDigit", "(I)Z"⟩, ⟨"BellMilk", "seed", "(I)I"⟩, ⟨"BellMilk", "wipe", "()I"⟩, ⟨"BellMilk", "tear", "()I"⟩, ⟨"BellMilk", "tell", "(I)I"⟩, ⟨"BellMilk", "isUpTo", "(II)Z"⟩, ⟨"BellMilk", "isCow", "(I)Z"⟩, ⟨"BellMilk", "isUnder", "(II)Z"⟩, ⟨"BellMilk", "hasNumbers", "(III)Z"⟩, ⟨"BellMilk", "lowestBits", "(II)I"⟩, ⟨"BellMilk", "power", "(II)J"⟩, ⟨"BellMilk", "savedBy", "(I)I"⟩, ⟨"BellMilkModel", "finds", "(I)I"⟩, ⟨"BellMilkModel", "in", "(JJJ)Z"⟩, ⟨"BellMilkModel", "become", "([I[I)V"⟩, ⟨"BellMilkModel", "its", "(II)I"⟩, ⟨"BellMilkModel", "sets", "(III)V"⟩, ⟨"BellMilkModel", "becomes", "(II)I"⟩, ⟨"BellMilkModel", "ones", "(I)I"⟩, ⟨"BellMilkModel", "aboveOf", "(I)I"⟩, ⟨"BellMilkModel", "pails", "()I"⟩, ⟨"BellMilkModel", "green", "()I"⟩, ⟨"BellMilkModel", "filled", "()I"⟩, ⟨"BellMilkModel", "isBare", "()Z"⟩, ⟨"BellMilkModel", "begins", "()V"⟩, ⟨"BellMilkModel", "draw", "()I"⟩, ⟨"BellMilkModel", "wipe", "()I"⟩, ⟨"BellMilkModel", "tear", "()I"⟩, ⟨"BellMilkModel", "held", "()I"⟩, ⟨"java/lang/Integer", "bitCount", "(I)I"⟩, ⟨"java/lang/String", "coder", "()B"⟩, ⟨"java/lang/String", "isLatin1", "()Z"⟩, ⟨"jdk/internal/util/Preconditions", "checkIndex", "(IILjava/util/function/BiFunction;)I"⟩, ⟨"BellMilk$Herd", "become", "(LBellMilk$Herd;)V"⟩, ⟨"BellMilk$Herd", "rings", "(I)I"⟩, ⟨"BellMilk$Herd", "gives", "(I)I"⟩, ⟨"BellMilk$Herd", "fill", "(II)V"⟩, ⟨"BellMilk$Tape", "next", "()V"⟩, ⟨"BellMilk", "weather", "(II)I"⟩, ⟨"BellMilk", "change", "(III)I"⟩, ⟨"BellMilk", "now", "(I)I"⟩, ⟨"BellMilk", "odds", "(II)J"⟩, ⟨"BellMilk", "feed", "(II)I"⟩, ⟨"BellMilk", "hold", "(II)I"⟩, ⟨"BellMilk", "count", "(I)I"⟩, ⟨"BellMilk", "status", "(I)I"⟩, ⟨"BellMilk", "isPasture", "(I)Z"⟩, ⟨"BellMilk", "isTone", "(I)Z"⟩, ⟨"BellMilk", "isKind", "(I)Z"⟩, ⟨"BellMilk", "isSheet", "(I)Z"⟩, ⟨"BellMilk", "fewestSaving", "(I)I"⟩, ⟨"BellMilkModel", "lends", "()V"⟩, ⟨"BellMilkModel", "laysBack", "()V"⟩, ⟨"BellMilkModel", "isCow", "(I)Z"⟩, ⟨"BellMilkModel", "isTwelve", "(I)Z"⟩, ⟨"BellMilkModel", "isGreen", "(I)Z"⟩, ⟨"BellMilkModel", "isUnder", "(II)Z"⟩, ⟨"BellMilkModel", "isKind", "(I)Z"⟩, ⟨"BellMilkModel", "others", "(I)I"⟩, ⟨"BellMilkModel", "eats", "(I)I"⟩, ⟨"BellMilkModel", "gives", "(I)I"⟩, ⟨"BellMilkModel", "besideOf", "(I)I"⟩, ⟨"BellMilkModel", "adds", "(II)I"⟩, ⟨"BellMilkModel", "cowsOn", "(I)I"⟩, ⟨"BellMilkModel", "weather", "(II)I"⟩, ⟨"BellMilkModel", "goesOn", "(I)V"⟩, ⟨"BellMilkModel", "fills", "(II)V"⟩, ⟨"BellMilkModel", "rungs", "()I"⟩, ⟨"BellMilkModel", "muffledSet", "()I"⟩, ⟨"BellMilkModel", "grazed", "()I"⟩, ⟨"BellMilkModel", "isAhead", "(I)Z"⟩, ⟨"BellMilkModel", "isSoon", "(I)Z"⟩, ⟨"BellMilkModel", "orNone", "(II)I"⟩, ⟨"BellMilkModel", "tries", "(II)V"⟩, ⟨"BellMilkModel", "seed", "(I)I"⟩, ⟨"BellMilkModel", "feed", "(II)I"⟩, ⟨"BellMilkModel", "isByte", "(III)Z"⟩, ⟨"BellMilkModel", "isSpot", "(I)Z"⟩, ⟨"BellMilkModel", "isSheet", "(I)Z"⟩, ⟨"BellMilkModel", "image", "()I"⟩, ⟨"BellMilkModel", "undo", "()I"⟩, ⟨"BellMilkModel", "status", "(I)I"⟩, ⟨"java/lang/String", "checkIndex", "(II)V"⟩, ⟨"java/lang/String", "length", "()I"⟩, ⟨"BellMilk$Herd", "ringAndEat", "(I)Z"⟩, ⟨"BellMilk$Herd", "milkAll", "()V"⟩, ⟨"BellMilk$Tape", "nextIsNumber", "(I)Z"⟩, ⟨"BellMilk", "grass", "(II)I"⟩, ⟨"BellMilk", "pasture", "(II)I"⟩, ⟨"BellMilk", "pail", "(I)I"⟩, ⟨"BellMilk", "pour", "(I)I"⟩, ⟨"BellMilk", "cow", "(II)I"⟩, ⟨"BellMilk", "of", "(II)I"⟩, ⟨"BellMilk", "pair", "(I)I"⟩, ⟨"BellMilk", "as", "(II)I"⟩, ⟨"BellMilk", "sheet", "(III)I"⟩, ⟨"BellMilk", "write", "(III)I"⟩, ⟨"BellMilk", "copy", "(IIIII)I"⟩, ⟨"BellMilk", "load", "(I)I"⟩, ⟨"BellMilk", "judge", "(I)I"⟩, ⟨"BellMilk", "image", "()I"⟩, ⟨"BellMilk", "undo", "()I"⟩, ⟨"BellMilk", "beginTrial", "()V"⟩, ⟨"BellMilkModel", "rings", "(I)I"⟩, ⟨"BellMilkModel", "grass", "(II)I"⟩, ⟨"BellMilkModel", "pasture", "(II)I"⟩, ⟨"BellMilkModel", "pail", "(I)I"⟩, ⟨"BellMilkModel", "pour", "(I)I"⟩, ⟨"BellMilkModel", "cow", "(II)I"⟩, ⟨"BellMilkModel", "mayBe", "(II)Z"⟩, ⟨"BellMilkModel", "isMilked", "(I)V"⟩, ⟨"BellMilkModel", "now", "(I)I"⟩, ⟨"BellMilkModel", "pair", "(I)I"⟩, ⟨"BellMilkModel", "odds", "(II)J"⟩, ⟨"BellMilkModel", "next", "()V"⟩, ⟨"BellMilkModel", "hold", "(II)I"⟩, ⟨"BellMilkModel", "as", "(II)I"⟩, ⟨"BellMilkModel", "sheet", "(III)I"⟩, ⟨"BellMilkModel", "lacks", "(I)I"⟩, ⟨"BellMilkModel", "copy", "(IIIII)I"⟩, ⟨"BellMilkModel", "count", "(I)I"⟩, ⟨"java/lang/StringLatin1", "charAt", "([BI)C"⟩, ⟨"BellMilk$Herd", "passHour", "()Z"⟩, ⟨"BellMilk$Tape", "readGrass", "(LBellMilk$Herd;)Z"⟩, ⟨"BellMilk$Tape", "readGrows", "(LBellMilk$Herd;)Z"⟩, ⟨"BellMilk$Tape", "readThunder", "(LBellMilk$Herd;)Z"⟩, ⟨"BellMilkModel", "of", "(II)I"⟩, ⟨"BellMilkModel", "change", "(III)I"⟩, ⟨"BellMilkModel", "spends", "(I)V"⟩, ⟨"BellMilkModel", "must", "(Z)V"⟩, ⟨"BellMilkModel", "write", "(III)I"⟩, ⟨"BellMilkModel", "load", "(I)I"⟩, ⟨"BellMilkModel", "judge", "(I)I"⟩, ⟨"java/lang/String", "charAt", "(I)C"⟩, ⟨"BellMilk$Herd", "passHours", "(I)V"⟩, ⟨"BellMilk$Tape", "isWord", "(Ljava/lang/String;)Z"⟩, ⟨"BellMilk", "when", "(II)I"⟩, ⟨"BellMilk", "meet", "(II)I"⟩, ⟨"BellMilk", "bare", "()I"⟩, ⟨"BellMilk", "storms", "(I)I"⟩, ⟨"BellMilk", "allStay", "(II)Z"⟩, ⟨"BellMilkModel", "anHour", "()V"⟩, ⟨"BellMilkModel", "isWord", "(Ljava/lang/String;)Z"⟩, ⟨"BellMilkModel", "numberRead", "(II)I"⟩, ⟨"BellMilk$Tape", "readTrait", "(Ljava/lang/String;[III)Z"⟩, ⟨"BellMilk$Tape", "kindOfWord", "()I"⟩, ⟨"BellMilk", "go", "(I)I"⟩, ⟨"BellMilk", "ahead", "(II)I"⟩, ⟨"BellMilk", "where", "(III)I"⟩, ⟨"BellMilk", "toneFor", "(III)I"⟩, ⟨"BellMilk", "swingsFor", "(III)I"⟩, ⟨"BellMilk", "growsFor", "(I)I"⟩, ⟨"BellMilk", "traitForMostMilk", "(III)I"⟩, ⟨"BellMilk", "milkUnder", "(II)I"⟩, ⟨"BellMilk", "gainedWithout", "(III)I"⟩, ⟨"BellMilk", "trialGoesAsTold", "(I[III)Z"⟩, ⟨"BellMilkModel", "hours", "(I)V"⟩, ⟨"BellMilkModel", "when", "(II)I"⟩, ⟨"BellMilkModel", "meet", "(II)I"⟩, ⟨"BellMilkModel", "bare", "()I"⟩, ⟨"BellMilkModel", "allStay", "(I)Z"⟩, ⟨"BellMilkModel", "storms", "(I)I"⟩, ⟨"BellMilkModel", "takes", "(Ljava/lang/String;)Z"⟩, ⟨"BellMilkModel", "kindHere", "()I"⟩, ⟨"BellMilk$Tape", "readCow", "(LBellMilk$Herd;I)Z"⟩, ⟨"BellMilk", "graze", "(II)I"⟩, ⟨"BellMilk", "kindFor", "(II)I"⟩, ⟨"BellMilk", "thunderFor", "(II)I"⟩, ⟨"BellMilk", "muffle", "(III)I"⟩, ⟨"BellMilk", "fits", "(II)I"⟩, ⟨"BellMilk", "kinds", "(II)I"⟩, ⟨"BellMilkModel", "go", "(I)I"⟩, ⟨"BellMilkModel", "seenIn", "(II)I"⟩, ⟨"BellMilkModel", "pailsIn", "(I)I"⟩, ⟨"BellMilkModel", "growsFor", "(I)I"⟩, ⟨"BellMilkModel", "isSo", "(III)Z"⟩, ⟨"BellMilkModel", "cowTold", "(I)V"⟩, ⟨"BellMilk$Tape", "readItem", "(LBellMilk$Herd;)Z"⟩, ⟨"BellMilkModel", "ahead", "(II)I"⟩, ⟨"BellMilkModel", "where", "(III)I"⟩, ⟨"BellMilkModel", "graze", "(II)I"⟩, ⟨"BellMilkModel", "toneFor", "(III)I"⟩, ⟨"BellMilkModel", "kindFor", "(II)I"⟩, ⟨"BellMilkModel", "swingsFor", "(III)I"⟩, ⟨"BellMilkModel", "thunderFor", "(II)I"⟩, ⟨"BellMilkModel", "muffle", "(III)I"⟩, ⟨"BellMilkModel", "fits", "(II)I"⟩, ⟨"BellMilkModel", "kinds", "(II)I"⟩, ⟨"BellMilkModel", "item", "()V"⟩, ⟨"BellMilk$Tape", "readInto", "(LBellMilk$Herd;)Z"⟩, ⟨"BellMilkModel", "text", "()I"⟩, ⟨"BellMilk", "text", "()I"⟩, ⟨"BellMilkLaw", "law", "([I)Z"⟩]
def bm_nthY : List MethodName → Nat → MethodName
  | [], _ => ⟨"", "", ""⟩
  | a :: _, 0 => a
  | _ :: l, n + 1 => bm_nthY l n
def bm_y (M : Nat) : MethodName := bm_nthY bm_ys M
def bm_ccs : List ByteArray := [prog_2_method_3_code, prog_2_method_4_code, prog_2_method_6_code, prog_2_method_7_code, prog_2_method_9_code, prog_2_method_10_code, prog_2_method_14_code, prog_2_method_17_code, prog_2_method_18_code, prog_2_method_19_code, prog_2_method_20_code, prog_2_method_21_code, prog_2_method_22_code, prog_2_method_23_code, prog_2_method_24_code, prog_2_method_25_code, prog_2_method_26_code, prog_3_method_2_code, prog_3_method_5_code, prog_3_method_6_code, prog_1_method_29_code, prog_1_method_31_code, prog_1_method_42_code, prog_1_method_45_code, prog_1_method_46_code, prog_1_method_51_code, prog_1_method_52_code, prog_1_method_53_code, prog_1_method_54_code, prog_1_method_55_code, prog_1_method_62_code, prog_5_method_2_code, prog_5_method_3_code, prog_5_method_4_code, prog_5_method_10_code, prog_5_method_11_code, prog_5_method_12_code, prog_5_method_13_code, prog_5_method_14_code, prog_5_method_39_code, prog_5_method_43_code, prog_5_method_45_code, prog_5_method_56_code, prog_5_method_58_code, prog_5_method_72_code, prog_5_method_77_code, prog_5_method_100_code, prog_5_method_101_code, prog_6_method_49_code, prog_8_method_152_code, prog_8_method_154_code, prog_12_method_11_code, prog_2_method_2_code, prog_2_method_5_code, prog_2_method_8_code, prog_2_method_16_code, prog_3_method_4_code, prog_1_method_4_code, prog_1_method_9_code, prog_1_method_11_code, prog_1_method_28_code, prog_1_method_30_code, prog_1_method_33_code, prog_1_method_43_code, prog_1_method_44_code, prog_1_method_47_code, prog_1_method_48_code, prog_1_method_49_code, prog_1_method_50_code, prog_1_method_61_code, prog_5_method_5_code, prog_5_method_6_code, prog_5_method_7_code, prog_5_method_8_code, prog_5_method_9_code, prog_5_method_15_code, prog_5_method_16_code, prog_5_method_17_code, prog_5_method_19_code, prog_5_method_20_code, prog_5_method_21_code, prog_5_method_22_code, prog_5_method_24_code, prog_5_method_26_code, prog_5_method_33_code, prog_5_method_35_code, prog_5_method_41_code, prog_5_method_42_code, prog_5_method_44_code, prog_5_method_47_code, prog_5_method_48_code, prog_5_method_53_code, prog_5_method_59_code, prog_5_method_75_code, prog_5_method_76_code, prog_5_method_78_code, prog_5_method_88_code, prog_5_method_91_code, prog_5_method_98_code, prog_5_method_99_code, prog_5_method_103_code, prog_8_method_155_code, prog_8_method_54_code, prog_2_method_13_code, prog_2_method_15_code, prog_3_method_13_code, prog_1_method_2_code, prog_1_method_3_code, prog_1_method_5_code, prog_1_method_6_code, prog_1_method_7_code, prog_1_method_8_code, prog_1_method_23_code, prog_1_method_34_code, prog_1_method_35_code, prog_1_method_36_code, prog_1_method_37_code, prog_1_method_38_code, prog_1_method_39_code, prog_1_method_40_code, prog_1_method_41_code, prog_1_method_56_code, prog_5_method_18_code, prog_5_method_23_code, prog_5_method_25_code, prog_5_method_27_code, prog_5_method_28_code, prog_5_method_29_code, prog_5_method_31_code, prog_5_method_36_code, prog_5_method_46_code, prog_5_method_67_code, prog_5_method_74_code, prog_5_method_79_code, prog_5_method_89_code, prog_5_method_90_code, prog_5_method_92_code, prog_5_method_93_code, prog_5_method_95_code, prog_5_method_102_code, prog_9_method_2_code, prog_2_method_12_code, prog_3_method_10_code, prog_3_method_11_code, prog_3_method_12_code, prog_5_method_30_code, prog_5_method_32_code, prog_5_method_34_code, prog_5_method_81_code, prog_5_method_94_code, prog_5_method_96_code, prog_5_method_97_code, prog_8_method_56_code, prog_2_method_11_code, prog_3_method_15_code, prog_1_method_14_code, prog_1_method_15_code, prog_1_method_16_code, prog_1_method_27_code, prog_1_method_58_code, prog_5_method_37_code, prog_5_method_80_code, prog_5_method_83_code, prog_3_method_9_code, prog_3_method_14_code, prog_1_method_10_code, prog_1_method_12_code, prog_1_method_13_code, prog_1_method_18_code, prog_1_method_20_code, prog_1_method_21_code, prog_1_method_57_code, prog_1_method_59_code, prog_1_method_60_code, prog_1_method_63_code, prog_5_method_38_code, prog_5_method_54_code, prog_5_method_55_code, prog_5_method_57_code, prog_5_method_64_code, prog_5_method_73_code, prog_5_method_82_code, prog_5_method_84_code, prog_3_method_8_code, prog_1_method_17_code, prog_1_method_19_code, prog_1_method_22_code, prog_1_method_24_code, prog_1_method_25_code, prog_1_method_26_code, prog_5_method_40_code, prog_5_method_49_code, prog_5_method_50_code, prog_5_method_65_code, prog_5_method_69_code, prog_5_method_85_code, prog_3_method_7_code, prog_5_method_51_code, prog_5_method_52_code, prog_5_method_60_code, prog_5_method_61_code, prog_5_method_62_code, prog_5_method_63_code, prog_5_method_66_code, prog_5_method_68_code, prog_5_method_70_code, prog_5_method_71_code, prog_5_method_86_code, prog_3_method_3_code, prog_5_method_87_code, prog_1_method_32_code, code]
def bm_nthB : List ByteArray → Nat → ByteArray
  | [], _ => code
  | a :: _, 0 => a
  | _ :: l, n + 1 => bm_nthB l n
def bm_cc (M : Nat) : ByteArray := bm_nthB bm_ccs M
def bm_nLs : List Nat := [4, 2, 4, 2, 3, 3, 2, 1, 3, 3, 3, 4, 3, 3, 3, 2, 3, 2, 1, 1, 3, 2, 2, 2, 2, 2, 4, 4, 2, 5, 4, 2, 6, 3, 3, 4, 4, 3, 1, 3, 3, 3, 3, 1, 1, 2, 2, 3, 1, 1, 1, 3, 2, 3, 4, 3, 1, 4, 6, 2, 6, 4, 3, 2, 4, 1, 1, 1, 1, 6, 1, 1, 2, 1, 1, 3, 1, 4, 2, 5, 4, 4, 4, 3, 2, 3, 3, 3, 3, 1, 1, 3, 3, 2, 4, 4, 1, 1, 1, 1, 4, 2, 1, 4, 6, 2, 4, 3, 2, 3, 3, 3, 4, 4, 5, 4, 6, 4, 3, 1, 1, 1, 4, 3, 3, 2, 2, 3, 2, 6, 2, 6, 13, 3, 3, 4, 6, 2, 8, 2, 2, 3, 3, 2, 2, 3, 4, 5, 2, 5, 4, 4, 2, 3, 3, 4, 4, 2, 4, 4, 2, 4, 5, 5, 1, 2, 3, 4, 7, 5, 3, 8, 3, 4, 7, 3, 4, 4, 2, 4, 4, 3, 3, 4, 3, 3, 4, 6, 5, 5, 2, 4, 3, 4, 7, 3, 3, 3, 4, 4, 5, 4, 6, 5, 7, 6, 6, 4, 3, 2, 2, 4]
def bm_nL (M : Nat) : Nat := bm_nth bm_nLs M
def bm_rts : List (Option FieldType) := [(some .int), (some (.array .int)), (some .int), (some .int), (some .int), (some .int), none, (some .int), (some .int), (some .int), (some .int), (some .int), (some .int), (some .int), (some .int), (some .boolean), (some .int), none, (some .boolean), (some .boolean), (some .int), (some .int), (some .int), (some .int), (some .boolean), (some .boolean), (some .boolean), (some .boolean), (some .int), (some .long), (some .int), (some .int), (some .boolean), none, (some .int), none, (some .int), (some .int), (some .int), (some .int), (some .int), (some .int), (some .boolean), none, (some .int), (some .int), (some .int), (some .int), (some .int), (some .byte), (some .boolean), (some .int), none, (some .int), (some .int), none, none, (some .int), (some .int), (some .int), (some .long), (some .int), (some .int), (some .int), (some .int), (some .boolean), (some .boolean), (some .boolean), (some .boolean), (some .int), none, none, (some .boolean), (some .boolean), (some .boolean), (some .boolean), (some .boolean), (some .int), (some .int), (some .int), (some .int), (some .int), (some .int), (some .int), none, none, (some .int), (some .int), (some .int), (some .boolean), (some .boolean), (some .int), none, (some .int), (some .int), (some .boolean), (some .boolean), (some .boolean), (some .int), (some .int), (some .int), none, (some .int), (some .boolean), none, (some .boolean), (some .int), (some .int), (some .int), (some .int), (some .int), (some .int), (some .int), (some .int), (some .int), (some .int), (some .int), (some .int), (some .int), (some .int), (some .int), none, (some .int), (some .int), (some .int), (some .int), (some .int), (some .int), (some .boolean), none, (some .int), (some .int), (some .long), none, (some .int), (some .int), (some .int), (some .int), (some .int), (some .int), (some .char), (some .boolean), (some .boolean), (some .boolean), (some .boolean), (some .int), (some .int), none, none, (some .int), (some .int), (some .int), (some .char), none, (some .boolean), (some .int), (some .int), (some .int), (some .int), (some .boolean), none, (some .boolean), (some .int), (some .boolean), (some .int), (some .int), (some .int), (some .int), (some .int), (some .int), (some .int), (some .int), (some .int), (some .int), (some .boolean), none, (some .int), (some .int), (some .int), (some .boolean), (some .int), (some .boolean), (some .int), (some .boolean), (some .int), (some .int), (some .int), (some .int), (some .int), (some .int), (some .int), (some .int), (some .int), (some .int), (some .boolean), none, (some .boolean), (some .int), (some .int), (some .int), (some .int), (some .int), (some .int), (some .int), (some .int), (some .int), (some .int), none, (some .boolean), (some .int), (some .int), (some .boolean)]
def bm_nthF : List (Option FieldType) → Nat → Option FieldType
  | [], _ => none
  | a :: _, 0 => a
  | _ :: l, n + 1 => bm_nthF l n
def bm_rt (M : Nat) : Option FieldType := bm_nthF bm_rts M
def bm_dps : List Nat := [0, 0, 0, 0, 0, 0, 0, 0, 0, 0, 0, 0, 0, 0, 0, 0, 0, 0, 0, 0, 0, 0, 0, 0, 0, 0, 0, 0, 0, 0, 0, 0, 0, 0, 0, 0, 0, 0, 0, 0, 0, 0, 0, 0, 0, 0, 0, 0, 0, 0, 0, 0, 1, 1, 1, 1, 1, 1, 1, 1, 1, 1, 1, 1, 1, 1, 1, 1, 1, 1, 1, 1, 1, 1, 1, 1, 1, 1, 1, 1, 1, 1, 1, 1, 1, 1, 1, 1, 1, 1, 1, 1, 1, 1, 1, 1, 1, 1, 1, 1, 1, 1, 1, 2, 2, 2, 2, 2, 2, 2, 2, 2, 2, 2, 2, 2, 2, 2, 2, 2, 2, 2, 2, 2, 2, 2, 2, 2, 2, 2, 2, 2, 2, 2, 2, 2, 2, 2, 2, 2, 2, 3, 3, 3, 3, 3, 3, 3, 3, 3, 3, 3, 3, 4, 4, 4, 4, 4, 4, 4, 4, 4, 4, 5, 5, 5, 5, 5, 5, 5, 5, 5, 5, 5, 5, 5, 5, 5, 5, 5, 5, 5, 5, 6, 6, 6, 6, 6, 6, 6, 6, 6, 6, 6, 6, 6, 7, 7, 7, 7, 7, 7, 7, 7, 7, 7, 7, 7, 8, 8, 9, 10]
def bm_dp (M : Nat) : Nat := bm_nth bm_dps M
def bm_sts : List Nat := [0, 0, 0, 0, 0, 0, 0, 0, 0, 0, 0, 0, 0, 0, 0, 0, 0, 0, 1, 1, 0, 0, 0, 0, 1, 0, 1, 0, 1, 1, 0, 0, 1, 1, 0, 0, 0, 1, 1, 0, 0, 0, 0, 0, 0, 0, 0, 0, 1, 0, 0, 1, 0, 0, 0, 0, 0, 0, 0, 0, 0, 0, 0, 0, 0, 1, 1, 1, 1, 0, 0, 0, 0, 1, 1, 1, 1, 0, 0, 0, 0, 0, 0, 0, 0, 0, 0, 0, 0, 1, 1, 0, 0, 0, 0, 0, 1, 1, 0, 0, 0, 1, 0, 0, 0, 0, 0, 0, 0, 0, 0, 0, 0, 0, 0, 0, 0, 0, 0, 0, 0, 0, 0, 0, 0, 0, 0, 0, 1, 0, 0, 0, 0, 0, 0, 0, 0, 0, 0, 0, 1, 0, 0, 0, 0, 0, 0, 0, 0, 0, 0, 0, 0, 0, 0, 0, 0, 0, 0, 0, 0, 0, 0, 0, 0, 0, 0, 0, 0, 0, 0, 0, 0, 0, 0, 0, 0, 0, 0, 0, 0, 0, 0, 0, 0, 0, 0, 0, 0, 0, 0, 0, 0, 0, 0, 0, 0, 0, 0, 0, 0, 0, 0, 0, 0, 0, 0, 0, 0, 0, 0, 1]
def bm_sta (M : Nat) : Bool := Nat.beq (bm_nth bm_sts M) 1
def bm_cls : List Nat := [0, 0, 0, 0, 0, 0, 0, 0, 0, 0, 0, 0, 0, 0, 0, 0, 0, 1, 1, 1, 2, 2, 2, 2, 2, 2, 2, 2, 2, 2, 2, 3, 3, 3, 3, 3, 3, 3, 3, 3, 3, 3, 3, 3, 3, 3, 3, 3, 5, 6, 6, 8, 0, 0, 0, 0, 1, 2, 2, 2, 2, 2, 2, 2, 2, 2, 2, 2, 2, 2, 3, 3, 3, 3, 3, 3, 3, 3, 3, 3, 3, 3, 3, 3, 3, 3, 3, 3, 3, 3, 3, 3, 3, 3, 3, 3, 3, 3, 3, 3, 3, 6, 6, 0, 0, 1, 2, 2, 2, 2, 2, 2, 2, 2, 2, 2, 2, 2, 2, 2, 2, 2, 3, 3, 3, 3, 3, 3, 3, 3, 3, 3, 3, 3, 3, 3, 3, 3, 3, 3, 7, 0, 1, 1, 1, 3, 3, 3, 3, 3, 3, 3, 6, 0, 1, 2, 2, 2, 2, 2, 3, 3, 3, 1, 1, 2, 2, 2, 2, 2, 2, 2, 2, 2, 2, 3, 3, 3, 3, 3, 3, 3, 3, 1, 2, 2, 2, 2, 2, 2, 3, 3, 3, 3, 3, 3, 1, 3, 3, 3, 3, 3, 3, 3, 3, 3, 3, 3, 1, 3, 2, 4]
def bm_cl0 (M : Nat) : Nat := bm_nth bm_cls M
def bm_ars : List Nat := [2, 1, 1, 1, 1, 2, 1, 0, 0, 0, 0, 1, 0, 0, 0, 0, 0, 1, 1, 1, 1, 0, 0, 1, 2, 1, 2, 3, 2, 2, 1, 1, 3, 2, 2, 3, 2, 1, 1, 0, 0, 0, 0, 0, 0, 0, 0, 0, 1, 0, 0, 3, 1, 1, 1, 2, 0, 2, 3, 1, 2, 2, 2, 1, 1, 1, 1, 1, 1, 1, 0, 0, 1, 1, 1, 2, 1, 1, 1, 1, 1, 2, 1, 2, 1, 2, 0, 0, 0, 1, 1, 2, 2, 1, 2, 3, 1, 1, 0, 0, 1, 2, 0, 1, 0, 1, 2, 2, 1, 1, 2, 2, 1, 2, 3, 3, 5, 1, 1, 0, 0, 0, 1, 2, 2, 1, 1, 2, 2, 1, 1, 1, 2, 0, 2, 2, 3, 1, 5, 1, 2, 0, 1, 1, 1, 2, 3, 1, 1, 3, 1, 1, 1, 1, 1, 2, 2, 0, 1, 2, 0, 1, 2, 4, 0, 1, 2, 3, 3, 3, 1, 3, 2, 3, 4, 1, 2, 2, 0, 1, 1, 1, 0, 2, 2, 2, 2, 3, 2, 2, 1, 2, 1, 1, 3, 1, 1, 2, 3, 2, 3, 2, 3, 2, 3, 2, 2, 0, 1, 0, 0, 1]
def bm_ar (M : Nat) : Nat := bm_nth bm_ars M
def bm_nthN : List (List Nat) → Nat → List Nat
  | [], _ => []
  | a :: _, 0 => a
  | _ :: l, n + 1 => bm_nthN l n
def bm_lgs : List (List Nat) := [[], [], [], [], [], [], [], [], [], [], [], [], [], [], [], [], [], [], [], [], [], [], [], [], [], [], [], [], [], [2], [], [], [0, 2, 4], [], [], [], [], [], [], [], [], [], [], [], [], [], [], [], [], [], [], [], [], [], [], [], [], [], [], [], [], [], [], [], [], [], [], [], [], [], [], [], [], [], [], [], [], [], [], [], [], [], [], [], [], [], [], [], [], [], [], [], [], [], [], [], [], [], [], [], [], [], [], [], [], [], [], [], [], [], [], [], [], [], [], [], [], [], [], [], [], [], [], [], [], [], [], [], [], [], [], [], [3, 5, 7, 9, 11], [], [], [], [], [], [], [], [], [], [], [], [], [], [], [], [], [], [], [], [], [], [], [], [], [], [], [], [], [], [], [], [], [], [], [], [], [], [], [], [], [], [], [], [], [], [], [], [], [], [], [], [], [], [], [], [], [], [], [], [], [], [], [], [], [], [], [], [], [], [], [], [], [], [], [], [], [], [], []]
def bm_lg (M : Nat) : List Nat := bm_nthN bm_lgs M
def bm_rc0 : List (Nat × Instr × Nat) := [(0, .aload_n 0, 1), (1, .getfield 34, 3), (4, .istore_n 3, 1), (5, .aload_n 0, 1), (6, .getfield 37, 3), (9, .iload_n 3, 1), (10, .iload_n 1, 1), (11, .iastore, 1), (12, .aload_n 0, 1), (13, .getfield 40, 3), (16, .iload_n 3, 1), (17, .iload_n 2, 1), (18, .iastore, 1), (19, .aload_n 0, 1), (20, .getfield 43, 3), (23, .iload_n 3, 1), (24, .iconst 0, 1), (25, .iastore, 1), (26, .aload_n 0, 1), (27, .getfield 46, 3), (30, .iload_n 3, 1), (31, .iconst 3, 1), (32, .iastore, 1), (33, .aload_n 0, 1), (34, .getfield 49, 3), (37, .iload_n 3, 1), (38, .iconst 0, 1), (39, .iastore, 1), (40, .aload_n 0, 1), (41, .getfield 52, 3), (44, .iload_n 3, 1), (45, .iconst 0, 1), (46, .iastore, 1), (47, .aload_n 0, 1), (48, .getfield 55, 3), (51, .iload_n 3, 1), (52, .iconst 0, 1), (53, .iastore, 1), (54, .aload_n 0, 1), (55, .dup, 1), (56, .getfield 34, 3), (59, .iconst 1, 1), (60, .iadd, 1), (61, .putfield 34, 3), (64, .iload_n 3, 1), (65, .ireturn, 1)]
def bm_rc1 : List (Nat × Instr × Nat) := [(0, .iload_n 1, 1), (1, .tableswitch (69) (0) (5) #[39, 44, 49, 54, 59, 64], 39), (40, .aload_n 0, 1), (41, .getfield 37, 3), (44, .areturn, 1), (45, .aload_n 0, 1), (46, .getfield 40, 3), (49, .areturn, 1), (50, .aload_n 0, 1), (51, .getfield 43, 3), (54, .areturn, 1), (55, .aload_n 0, 1), (56, .getfield 46, 3), (59, .areturn, 1), (60, .aload_n 0, 1), (61, .getfield 49, 3), (64, .areturn, 1), (65, .aload_n 0, 1), (66, .getfield 52, 3), (69, .areturn, 1), (70, .aload_n 0, 1), (71, .getfield 55, 3), (74, .areturn, 1)]
def bm_rc2 : List (Nat × Instr × Nat) := [(0, .iconst (-1), 1), (1, .istore_n 2, 1), (2, .iconst 0, 1), (3, .istore_n 3, 1), (4, .iload_n 3, 1), (5, .aload_n 0, 1), (6, .getfield 34, 3), (9, .if_icmp .ge (27), 3), (12, .aload_n 0, 1), (13, .getfield 40, 3), (16, .iload_n 3, 1), (17, .iaload, 1), (18, .aload_n 0, 1), (19, .getfield 40, 3), (22, .iload_n 1, 1), (23, .iaload, 1), (24, .if_icmp .ne (6), 3), (27, .iinc 2 (1), 3), (30, .iinc 3 (1), 3), (33, .goto (-29), 3), (36, .iload_n 2, 1), (37, .ireturn, 1)]
def bm_rc3 : List (Nat × Instr × Nat) := [(0, .getstatic 74, 3), (3, .aload_n 0, 1), (4, .getfield 37, 3), (7, .iload_n 1, 1), (8, .iaload, 1), (9, .iaload, 1), (10, .ireturn, 1)]
def bm_rc4 : List (Nat × Instr × Nat) := [(0, .iconst 0, 1), (1, .istore_n 2, 1), (2, .iload_n 2, 1), (3, .aload_n 0, 1), (4, .getfield 34, 3), (7, .if_icmp .ge (41), 3), (10, .aload_n 0, 1), (11, .getfield 40, 3), (14, .iload_n 2, 1), (15, .iaload, 1), (16, .aload_n 0, 1), (17, .getfield 40, 3), (20, .iload_n 1, 1), (21, .iaload, 1), (22, .if_icmp .ne (20), 3), (25, .aload_n 0, 1), (26, .getfield 43, 3), (29, .iload_n 2, 1), (30, .iaload, 1), (31, .aload_n 0, 1), (32, .getfield 43, 3), (35, .iload_n 1, 1), (36, .iaload, 1), (37, .if_icmp .eq (5), 3), (40, .iload_n 2, 1), (41, .ireturn, 1), (42, .iinc 2 (1), 3), (45, .goto (-43), 3), (48, .iconst (-1), 1), (49, .ireturn, 1)]
def bm_rc5 : List (Nat × Instr × Nat) := [(0, .aload_n 0, 1), (1, .getfield 43, 3), (4, .iload_n 1, 1), (5, .iaload, 1), (6, .aload_n 0, 1), (7, .getfield 43, 3), (10, .iload_n 2, 1), (11, .iaload, 1), (12, .iadd, 1), (13, .bipush (12), 2), (15, .irem, 1), (16, .ireturn, 1)]
def bm_rc6 : List (Nat × Instr × Nat) := [(0, .aload_n 0, 1), (1, .getfield 40, 3), (4, .iload_n 1, 1), (5, .aload_n 0, 1), (6, .getfield 40, 3), (9, .iload_n 1, 1), (10, .iaload, 1), (11, .iconst 1, 1), (12, .iadd, 1), (13, .bipush (12), 2), (15, .irem, 1), (16, .iastore, 1), (17, .return_, 1)]
def bm_rc7 : List (Nat × Instr × Nat) := [(0, .aload_n 0, 1), (1, .aload_n 0, 1), (2, .getfield 31, 3), (5, .ldc 115, 2), (7, .imul, 1), (8, .sipush (12345), 3), (11, .iadd, 1), (12, .putfield 31, 3), (15, .aload_n 0, 1), (16, .getfield 31, 3), (19, .bipush (8), 2), (21, .iushr, 1), (22, .ireturn, 1)]
def bm_rc8 : List (Nat × Instr × Nat) := [(0, .iconst 0, 1), (1, .istore_n 1, 1), (2, .iconst 0, 1), (3, .istore_n 2, 1), (4, .iload_n 2, 1), (5, .bipush (12), 2), (7, .if_icmp .ge (18), 3), (10, .iload_n 1, 1), (11, .aload_n 0, 1), (12, .getfield 15, 3), (15, .iload_n 2, 1), (16, .iaload, 1), (17, .iadd, 1), (18, .istore_n 1, 1), (19, .iinc 2 (1), 3), (22, .goto (-18), 3), (25, .iload_n 1, 1), (26, .ireturn, 1)]
def bm_rc9 : List (Nat × Instr × Nat) := [(0, .iconst 0, 1), (1, .istore_n 1, 1), (2, .iconst 0, 1), (3, .istore_n 2, 1), (4, .iload_n 2, 1), (5, .aload_n 0, 1), (6, .getfield 34, 3), (9, .if_icmp .ge (18), 3), (12, .iload_n 1, 1), (13, .aload_n 0, 1), (14, .getfield 52, 3), (17, .iload_n 2, 1), (18, .iaload, 1), (19, .iadd, 1), (20, .istore_n 1, 1), (21, .iinc 2 (1), 3), (24, .goto (-20), 3), (27, .iload_n 1, 1), (28, .ireturn, 1)]
def bm_rc10 : List (Nat × Instr × Nat) := [(0, .iconst 0, 1), (1, .istore_n 1, 1), (2, .iconst 0, 1), (3, .istore_n 2, 1), (4, .iload_n 2, 1), (5, .bipush (12), 2), (7, .if_icmp .ge (18), 3), (10, .iload_n 1, 1), (11, .aload_n 0, 1), (12, .getfield 9, 3), (15, .iload_n 2, 1), (16, .iaload, 1), (17, .iadd, 1), (18, .istore_n 1, 1), (19, .iinc 2 (1), 3), (22, .goto (-18), 3), (25, .iload_n 1, 1), (26, .ireturn, 1)]
def bm_rc11 : List (Nat × Instr × Nat) := [(0, .iconst 0, 1), (1, .istore_n 2, 1), (2, .iconst 0, 1), (3, .istore_n 3, 1), (4, .iload_n 3, 1), (5, .aload_n 0, 1), (6, .getfield 34, 3), (9, .if_icmp .ge (25), 3), (12, .aload_n 0, 1), (13, .getfield 40, 3), (16, .iload_n 3, 1), (17, .iaload, 1), (18, .iload_n 1, 1), (19, .if_icmp .ne (9), 3), (22, .iload_n 2, 1), (23, .iconst 1, 1), (24, .iload_n 3, 1), (25, .ishl, 1), (26, .ior, 1), (27, .istore_n 2, 1), (28, .iinc 3 (1), 3), (31, .goto (-27), 3), (34, .iload_n 2, 1), (35, .ireturn, 1)]
def bm_rc12 : List (Nat × Instr × Nat) := [(0, .iconst 0, 1), (1, .istore_n 1, 1), (2, .iconst 0, 1), (3, .istore_n 2, 1), (4, .iload_n 2, 1), (5, .aload_n 0, 1), (6, .getfield 34, 3), (9, .if_icmp .ge (20), 3), (12, .iload_n 1, 1), (13, .aload_n 0, 1), (14, .getfield 55, 3), (17, .iload_n 2, 1), (18, .iaload, 1), (19, .iload_n 2, 1), (20, .ishl, 1), (21, .ior, 1), (22, .istore_n 1, 1), (23, .iinc 2 (1), 3), (26, .goto (-22), 3), (29, .iload_n 1, 1), (30, .ireturn, 1)]
def bm_rc13 : List (Nat × Instr × Nat) := [(0, .iconst 0, 1), (1, .istore_n 1, 1), (2, .iconst 0, 1), (3, .istore_n 2, 1), (4, .iload_n 2, 1), (5, .aload_n 0, 1), (6, .getfield 34, 3), (9, .if_icmp .ge (20), 3), (12, .iload_n 1, 1), (13, .iconst 1, 1), (14, .aload_n 0, 1), (15, .getfield 40, 3), (18, .iload_n 2, 1), (19, .iaload, 1), (20, .ishl, 1), (21, .ior, 1), (22, .istore_n 1, 1), (23, .iinc 2 (1), 3), (26, .goto (-22), 3), (29, .iload_n 1, 1), (30, .ireturn, 1)]
def bm_rc14 : List (Nat × Instr × Nat) := [(0, .iconst 0, 1), (1, .istore_n 1, 1), (2, .iconst 0, 1), (3, .istore_n 2, 1), (4, .iload_n 2, 1), (5, .bipush (12), 2), (7, .if_icmp .ge (24), 3), (10, .aload_n 0, 1), (11, .getfield 15, 3), (14, .iload_n 2, 1), (15, .iaload, 1), (16, .ifCond .le (9), 3), (19, .iload_n 1, 1), (20, .iconst 1, 1), (21, .iload_n 2, 1), (22, .ishl, 1), (23, .ior, 1), (24, .istore_n 1, 1), (25, .iinc 2 (1), 3), (28, .goto (-24), 3), (31, .iload_n 1, 1), (32, .ireturn, 1)]
def bm_rc15 : List (Nat × Instr × Nat) := [(0, .iconst 0, 1), (1, .istore_n 1, 1), (2, .iload_n 1, 1), (3, .bipush (12), 2), (5, .if_icmp .ge (20), 3), (8, .aload_n 0, 1), (9, .getfield 9, 3), (12, .iload_n 1, 1), (13, .iaload, 1), (14, .ifCond .ne (5), 3), (17, .iconst 1, 1), (18, .ireturn, 1), (19, .iinc 1 (1), 3), (22, .goto (-20), 3), (25, .iconst 0, 1), (26, .ireturn, 1)]
def bm_rc16 : List (Nat × Instr × Nat) := [(0, .iconst 0, 1), (1, .istore_n 1, 1), (2, .iconst 0, 1), (3, .istore_n 2, 1), (4, .iload_n 2, 1), (5, .bipush (10), 2), (7, .if_icmp .ge (22), 3), (10, .aload_n 0, 1), (11, .getfield 18, 3), (14, .iload_n 2, 1), (15, .iaload, 1), (16, .iconst (-1), 1), (17, .if_icmp .eq (6), 3), (20, .iinc 1 (1), 3), (23, .iinc 2 (1), 3), (26, .goto (-22), 3), (29, .iload_n 1, 1), (30, .ireturn, 1)]
def bm_rc17 : List (Nat × Instr × Nat) := [(0, .aload_n 0, 1), (1, .getfield 15, 3), (4, .bipush (120), 2), (6, .if_icmp .ge (23), 3), (9, .aload_n 0, 1), (10, .getfield 9, 3), (13, .aload_n 0, 1), (14, .getfield 15, 3), (17, .iload_n 1, 1), (18, .iastore, 1), (19, .aload_n 0, 1), (20, .dup, 1), (21, .getfield 15, 3), (24, .iconst 1, 1), (25, .iadd, 1), (26, .putfield 15, 3), (29, .return_, 1)]
def bm_rc18 : List (Nat × Instr × Nat) := [(0, .iload_n 0, 1), (1, .bipush (97), 2), (3, .if_icmp .lt (13), 3), (6, .iload_n 0, 1), (7, .bipush (122), 2), (9, .if_icmp .gt (7), 3), (12, .iconst 1, 1), (13, .goto (4), 3), (16, .iconst 0, 1), (17, .ireturn, 1)]
def bm_rc19 : List (Nat × Instr × Nat) := [(0, .iload_n 0, 1), (1, .bipush (48), 2), (3, .if_icmp .lt (13), 3), (6, .iload_n 0, 1), (7, .bipush (57), 2), (9, .if_icmp .gt (7), 3), (12, .iconst 1, 1), (13, .goto (4), 3), (16, .iconst 0, 1), (17, .ireturn, 1)]
def bm_rc20 : List (Nat × Instr × Nat) := [(0, .aload_n 0, 1), (1, .getfield 10, 3), (4, .getfield 206, 3), (7, .istore_n 2, 1), (8, .aload_n 0, 1), (9, .getfield 10, 3), (12, .iload_n 1, 1), (13, .putfield 206, 3), (16, .iload_n 2, 1), (17, .ireturn, 1)]
def bm_rc21 : List (Nat × Instr × Nat) := [(0, .aload_n 0, 1), (1, .getfield 25, 3), (4, .getfield 209, 3), (7, .istore_n 1, 1), (8, .aload_n 0, 1), (9, .getfield 25, 3), (12, .iconst 0, 1), (13, .putfield 209, 3), (16, .iload_n 1, 1), (17, .ireturn, 1)]
def bm_rc22 : List (Nat × Instr × Nat) := [(0, .aload_n 0, 1), (1, .getfield 248, 3), (4, .ifCond .eq (7), 3), (7, .iconst 1, 1), (8, .goto (4), 3), (11, .iconst 0, 1), (12, .istore_n 1, 1), (13, .aload_n 0, 1), (14, .iconst 0, 1), (15, .putfield 248, 3), (18, .iload_n 1, 1), (19, .ireturn, 1)]
def bm_rc23 : List (Nat × Instr × Nat) := [(0, .aload_n 0, 1), (1, .getfield 41, 3), (4, .iload_n 1, 1), (5, .dup2, 1), (6, .iaload, 1), (7, .iconst 1, 1), (8, .iadd, 1), (9, .iastore, 1), (10, .ldc 255, 2), (12, .iload_n 1, 1), (13, .isub, 1), (14, .ireturn, 1)]
def bm_rc24 : List (Nat × Instr × Nat) := [(0, .iload_n 0, 1), (1, .ifCond .lt (12), 3), (4, .iload_n 0, 1), (5, .iload_n 1, 1), (6, .if_icmp .gt (7), 3), (9, .iconst 1, 1), (10, .goto (4), 3), (13, .iconst 0, 1), (14, .ireturn, 1)]
def bm_rc25 : List (Nat × Instr × Nat) := [(0, .iload_n 1, 1), (1, .ifCond .lt (18), 3), (4, .iload_n 1, 1), (5, .aload_n 0, 1), (6, .getfield 10, 3), (9, .getfield 81, 3), (12, .if_icmp .ge (7), 3), (15, .iconst 1, 1), (16, .goto (4), 3), (19, .iconst 0, 1), (20, .ireturn, 1)]
def bm_rc26 : List (Nat × Instr × Nat) := [(0, .iload_n 0, 1), (1, .istore_n 2, 1), (2, .iconst 0, 1), (3, .istore_n 3, 1), (4, .iload_n 3, 1), (5, .bipush (7), 2), (7, .if_icmp .ge (27), 3), (10, .iload_n 2, 1), (11, .iconst (-1), 1), (12, .if_icmp .eq (22), 3), (15, .iload_n 2, 1), (16, .iload_n 1, 1), (17, .if_icmp .ne (5), 3), (20, .iconst 1, 1), (21, .ireturn, 1), (22, .getstatic 256, 3), (25, .iload_n 2, 1), (26, .iaload, 1), (27, .istore_n 2, 1), (28, .iinc 3 (1), 3), (31, .goto (-27), 3), (34, .iconst 0, 1), (35, .ireturn, 1)]
def bm_rc27 : List (Nat × Instr × Nat) := [(0, .iload_n 2, 1), (1, .ifCond .lt (23), 3), (4, .iload_n 3, 1), (5, .ifCond .lt (19), 3), (8, .iload_n 3, 1), (9, .aload_n 0, 1), (10, .getfield 34, 3), (13, .iload_n 1, 1), (14, .iaload, 1), (15, .iload_n 2, 1), (16, .isub, 1), (17, .if_icmp .gt (7), 3), (20, .iconst 1, 1), (21, .goto (4), 3), (24, .iconst 0, 1), (25, .ireturn, 1)]
def bm_rc28 : List (Nat × Instr × Nat) := [(0, .iload_n 1, 1), (1, .lookupswitch (33) #[(8, 27), (16, 30)], 27), (28, .iload_n 0, 1), (29, .i2b, 1), (30, .ireturn, 1), (31, .iload_n 0, 1), (32, .i2s, 1), (33, .ireturn, 1), (34, .iload_n 0, 1), (35, .ireturn, 1)]
def bm_rc29 : List (Nat × Instr × Nat) := [(0, .lconst 1, 1), (1, .lstore_n 2, 1), (2, .iconst 0, 1), (3, .istore 4, 2), (5, .iload 4, 2), (7, .iload_n 1, 1), (8, .if_icmp .ge (14), 3), (11, .lload_n 2, 1), (12, .iload_n 0, 1), (13, .i2l, 1), (14, .lmul, 1), (15, .lstore_n 2, 1), (16, .iinc 4 (1), 3), (19, .goto (-14), 3), (22, .lload_n 2, 1), (23, .lreturn, 1)]
def bm_rc30 : List (Nat × Instr × Nat) := [(0, .iconst 0, 1), (1, .istore_n 2, 1), (2, .iconst 0, 1), (3, .istore_n 3, 1), (4, .iload_n 3, 1), (5, .bipush (8), 2), (7, .if_icmp .ge (27), 3), (10, .iload_n 1, 1), (11, .iload_n 3, 1), (12, .ishr, 1), (13, .iconst 1, 1), (14, .iand, 1), (15, .iconst 1, 1), (16, .if_icmp .ne (12), 3), (19, .iload_n 2, 1), (20, .aload_n 0, 1), (21, .getfield 44, 3), (24, .iload_n 3, 1), (25, .iaload, 1), (26, .iadd, 1), (27, .istore_n 2, 1), (28, .iinc 3 (1), 3), (31, .goto (-27), 3), (34, .iload_n 2, 1), (35, .ireturn, 1)]
def bm_rc31 : List (Nat × Instr × Nat) := [(0, .aload_n 0, 1), (1, .getfield 19, 3), (4, .iload_n 1, 1), (5, .dup2, 1), (6, .iaload, 1), (7, .iconst 1, 1), (8, .iadd, 1), (9, .iastore, 1), (10, .ldc 37, 2), (12, .iload_n 1, 1), (13, .isub, 1), (14, .ireturn, 1)]
def bm_rc32 : List (Nat × Instr × Nat) := [(0, .lload_n 0, 1), (1, .lload_n 2, 1), (2, .lcmp, 1), (3, .ifCond .lt (14), 3), (6, .lload_n 0, 1), (7, .lload 4, 2), (9, .lcmp, 1), (10, .ifCond .gt (7), 3), (13, .iconst 1, 1), (14, .goto (4), 3), (17, .iconst 0, 1), (18, .ireturn, 1)]
def bm_rc33 : List (Nat × Instr × Nat) := [(0, .iconst 0, 1), (1, .istore_n 2, 1), (2, .iload_n 2, 1), (3, .bipush (95), 2), (5, .if_icmp .ge (15), 3), (8, .aload_n 1, 1), (9, .iload_n 2, 1), (10, .aload_n 0, 1), (11, .iload_n 2, 1), (12, .iaload, 1), (13, .iastore, 1), (14, .iinc 2 (1), 3), (17, .goto (-15), 3), (20, .return_, 1)]
def bm_rc34 : List (Nat × Instr × Nat) := [(0, .aload_n 0, 1), (1, .getfield 9, 3), (4, .bipush (29), 2), (6, .bipush (7), 2), (8, .iload_n 1, 1), (9, .imul, 1), (10, .iadd, 1), (11, .iload_n 2, 1), (12, .iadd, 1), (13, .iaload, 1), (14, .ireturn, 1)]
def bm_rc35 : List (Nat × Instr × Nat) := [(0, .aload_n 0, 1), (1, .getfield 9, 3), (4, .bipush (29), 2), (6, .bipush (7), 2), (8, .iload_n 1, 1), (9, .imul, 1), (10, .iadd, 1), (11, .iload_n 2, 1), (12, .iadd, 1), (13, .iload_n 3, 1), (14, .iastore, 1), (15, .return_, 1)]
def bm_rc36 : List (Nat × Instr × Nat) := [(0, .aload_n 0, 1), (1, .getfield 9, 3), (4, .iload_n 1, 1), (5, .iaload, 1), (6, .istore_n 3, 1), (7, .aload_n 0, 1), (8, .getfield 9, 3), (11, .iload_n 1, 1), (12, .iload_n 2, 1), (13, .iastore, 1), (14, .iload_n 3, 1), (15, .ireturn, 1)]
def bm_rc37 : List (Nat × Instr × Nat) := [(0, .iconst 0, 1), (1, .istore_n 1, 1), (2, .iconst 0, 1), (3, .istore_n 2, 1), (4, .iload_n 2, 1), (5, .bipush (12), 2), (7, .if_icmp .ge (17), 3), (10, .iload_n 1, 1), (11, .iload_n 0, 1), (12, .iload_n 2, 1), (13, .ishr, 1), (14, .iconst 1, 1), (15, .iand, 1), (16, .iadd, 1), (17, .istore_n 1, 1), (18, .iinc 2 (1), 3), (21, .goto (-17), 3), (24, .iload_n 1, 1), (25, .ireturn, 1)]
def bm_rc38 : List (Nat × Instr × Nat) := [(0, .iload_n 0, 1), (1, .iconst 3, 1), (2, .if_icmp .ne (7), 3), (5, .iconst 2, 1), (6, .goto (23), 3), (9, .iload_n 0, 1), (10, .iconst 4, 1), (11, .if_icmp .ne (7), 3), (14, .iconst 3, 1), (15, .goto (14), 3), (18, .iload_n 0, 1), (19, .bipush (6), 2), (21, .if_icmp .ne (7), 3), (24, .iconst 1, 1), (25, .goto (4), 3), (28, .iconst 0, 1), (29, .ireturn, 1)]
def bm_rc39 : List (Nat × Instr × Nat) := [(0, .iconst 0, 1), (1, .istore_n 1, 1), (2, .iconst 0, 1), (3, .istore_n 2, 1), (4, .iload_n 2, 1), (5, .bipush (12), 2), (7, .if_icmp .ge (21), 3), (10, .iload_n 1, 1), (11, .aload_n 0, 1), (12, .getfield 9, 3), (15, .bipush (17), 2), (17, .iload_n 2, 1), (18, .iadd, 1), (19, .iaload, 1), (20, .iadd, 1), (21, .istore_n 1, 1), (22, .iinc 2 (1), 3), (25, .goto (-21), 3), (28, .iload_n 1, 1), (29, .ireturn, 1)]
def bm_rc40 : List (Nat × Instr × Nat) := [(0, .iconst 0, 1), (1, .istore_n 1, 1), (2, .iconst 0, 1), (3, .istore_n 2, 1), (4, .iload_n 2, 1), (5, .bipush (12), 2), (7, .if_icmp .ge (20), 3), (10, .iload_n 1, 1), (11, .aload_n 0, 1), (12, .getfield 9, 3), (15, .iconst 5, 1), (16, .iload_n 2, 1), (17, .iadd, 1), (18, .iaload, 1), (19, .iadd, 1), (20, .istore_n 1, 1), (21, .iinc 2 (1), 3), (24, .goto (-20), 3), (27, .iload_n 1, 1), (28, .ireturn, 1)]
def bm_rc41 : List (Nat × Instr × Nat) := [(0, .iconst 0, 1), (1, .istore_n 1, 1), (2, .iconst 0, 1), (3, .istore_n 2, 1), (4, .iload_n 2, 1), (5, .bipush (12), 2), (7, .if_icmp .ge (31), 3), (10, .iload_n 1, 1), (11, .aload_n 0, 1), (12, .getfield 9, 3), (15, .bipush (17), 2), (17, .iload_n 2, 1), (18, .iadd, 1), (19, .iaload, 1), (20, .ifCond .le (9), 3), (23, .iconst 1, 1), (24, .iload_n 2, 1), (25, .ishl, 1), (26, .goto (4), 3), (29, .iconst 0, 1), (30, .ior, 1), (31, .istore_n 1, 1), (32, .iinc 2 (1), 3), (35, .goto (-31), 3), (38, .iload_n 1, 1), (39, .ireturn, 1)]
def bm_rc42 : List (Nat × Instr × Nat) := [(0, .iconst 0, 1), (1, .istore_n 1, 1), (2, .iconst 0, 1), (3, .istore_n 2, 1), (4, .iload_n 2, 1), (5, .bipush (12), 2), (7, .if_icmp .ge (30), 3), (10, .iload_n 1, 1), (11, .ifCond .ne (14), 3), (14, .aload_n 0, 1), (15, .getfield 9, 3), (18, .iconst 5, 1), (19, .iload_n 2, 1), (20, .iadd, 1), (21, .iaload, 1), (22, .ifCond .ne (7), 3), (25, .iconst 1, 1), (26, .goto (4), 3), (29, .iconst 0, 1), (30, .istore_n 1, 1), (31, .iinc 2 (1), 3), (34, .goto (-30), 3), (37, .iload_n 1, 1), (38, .ireturn, 1)]
def bm_rc43 : List (Nat × Instr × Nat) := [(0, .aload_n 0, 1), (1, .iconst (-1), 1), (2, .putfield 197, 3), (5, .aload_n 0, 1), (6, .iconst (-1), 1), (7, .putfield 201, 3), (10, .return_, 1)]
def bm_rc44 : List (Nat × Instr × Nat) := [(0, .aload_n 0, 1), (1, .getfield 9, 3), (4, .iconst 1, 1), (5, .aload_n 0, 1), (6, .getfield 9, 3), (9, .iconst 1, 1), (10, .iaload, 1), (11, .ldc 231, 2), (13, .imul, 1), (14, .sipush (12345), 3), (17, .iadd, 1), (18, .iastore, 1), (19, .aload_n 0, 1), (20, .getfield 9, 3), (23, .iconst 1, 1), (24, .iaload, 1), (25, .bipush (8), 2), (27, .iushr, 1), (28, .ireturn, 1)]
def bm_rc45 : List (Nat × Instr × Nat) := [(0, .aload_n 0, 1), (1, .getfield 239, 3), (4, .istore_n 1, 1), (5, .aload_n 0, 1), (6, .iconst 0, 1), (7, .putfield 239, 3), (10, .iload_n 1, 1), (11, .ireturn, 1)]
def bm_rc46 : List (Nat × Instr × Nat) := [(0, .aload_n 0, 1), (1, .getfield 330, 3), (4, .ifCond .eq (7), 3), (7, .iconst 1, 1), (8, .goto (4), 3), (11, .iconst 0, 1), (12, .istore_n 1, 1), (13, .aload_n 0, 1), (14, .iconst 0, 1), (15, .putfield 330, 3), (18, .iload_n 1, 1), (19, .ireturn, 1)]
def bm_rc47 : List (Nat × Instr × Nat) := [(0, .iconst 0, 1), (1, .istore_n 1, 1), (2, .iconst 0, 1), (3, .istore_n 2, 1), (4, .iload_n 2, 1), (5, .bipush (10), 2), (7, .if_icmp .ge (29), 3), (10, .iload_n 1, 1), (11, .aload_n 0, 1), (12, .getfield 9, 3), (15, .bipush (85), 2), (17, .iload_n 2, 1), (18, .iadd, 1), (19, .iaload, 1), (20, .ifCond .ge (7), 3), (23, .iconst 0, 1), (24, .goto (4), 3), (27, .iconst 1, 1), (28, .iadd, 1), (29, .istore_n 1, 1), (30, .iinc 2 (1), 3), (33, .goto (-29), 3), (36, .iload_n 1, 1), (37, .ireturn, 1)]
def bm_rc48 : List (Nat × Instr × Nat) := [(0, .iload_n 0, 1), (1, .iload_n 0, 1), (2, .iconst 1, 1), (3, .iushr, 1), (4, .ldc_w 265, 3), (7, .iand, 1), (8, .isub, 1), (9, .istore_n 0, 1), (10, .iload_n 0, 1), (11, .ldc_w 266, 3), (14, .iand, 1), (15, .iload_n 0, 1), (16, .iconst 2, 1), (17, .iushr, 1), (18, .ldc_w 266, 3), (21, .iand, 1), (22, .iadd, 1), (23, .istore_n 0, 1), (24, .iload_n 0, 1), (25, .iload_n 0, 1), (26, .iconst 4, 1), (27, .iushr, 1), (28, .iadd, 1), (29, .ldc_w 267, 3), (32, .iand, 1), (33, .istore_n 0, 1), (34, .iload_n 0, 1), (35, .iload_n 0, 1), (36, .bipush (8), 2), (38, .iushr, 1), (39, .iadd, 1), (40, .istore_n 0, 1), (41, .iload_n 0, 1), (42, .iload_n 0, 1), (43, .bipush (16), 2), (45, .iushr, 1), (46, .iadd, 1), (47, .istore_n 0, 1), (48, .iload_n 0, 1), (49, .bipush (63), 2), (51, .iand, 1), (52, .ireturn, 1)]
def bm_rc49 : List (Nat × Instr × Nat) := [(0, .getstatic 38, 3), (3, .ifCond .eq (10), 3), (6, .aload_n 0, 1), (7, .getfield 15, 3), (10, .goto (4), 3), (13, .iconst 1, 1), (14, .ireturn, 1)]
def bm_rc50 : List (Nat × Instr × Nat) := [(0, .getstatic 38, 3), (3, .ifCond .eq (14), 3), (6, .aload_n 0, 1), (7, .getfield 15, 3), (10, .ifCond .ne (7), 3), (13, .iconst 1, 1), (14, .goto (4), 3), (17, .iconst 0, 1), (18, .ireturn, 1)]
def bm_rc51 : List (Nat × Instr × Nat) := [(0, .iload_n 0, 1), (1, .ifCond .lt (8), 3), (4, .iload_n 0, 1), (5, .iload_n 1, 1), (6, .if_icmp .lt (10), 3), (9, .aload_n 2, 1), (10, .iload_n 0, 1), (11, .iload_n 1, 1), (12, .invokestatic 95, 3), (15, .athrow, 1), (16, .iload_n 0, 1), (17, .ireturn, 1)]
def bm_rc52 : List (Nat × Instr × Nat) := [(0, .aload_n 1, 1), (1, .getfield 9, 3), (4, .iconst 0, 1), (5, .aload_n 0, 1), (6, .getfield 9, 3), (9, .iconst 0, 1), (10, .bipush (12), 2), (12, .invokestatic 58, 3), (15, .aload_n 1, 1), (16, .getfield 15, 3), (19, .iconst 0, 1), (20, .aload_n 0, 1), (21, .getfield 15, 3), (24, .iconst 0, 1), (25, .bipush (12), 2), (27, .invokestatic 58, 3), (30, .aload_n 1, 1), (31, .getfield 18, 3), (34, .iconst 0, 1), (35, .aload_n 0, 1), (36, .getfield 18, 3), (39, .iconst 0, 1), (40, .bipush (10), 2), (42, .invokestatic 58, 3), (45, .aload_n 0, 1), (46, .aload_n 1, 1), (47, .getfield 21, 3), (50, .putfield 21, 3), (53, .aload_n 0, 1), (54, .aload_n 1, 1), (55, .getfield 25, 3), (58, .putfield 25, 3), (61, .aload_n 0, 1), (62, .aload_n 1, 1), (63, .getfield 28, 3), (66, .putfield 28, 3), (69, .aload_n 0, 1), (70, .aload_n 1, 1), (71, .getfield 31, 3), (74, .putfield 31, 3), (77, .aload_n 0, 1), (78, .aload_n 1, 1), (79, .getfield 34, 3), (82, .putfield 34, 3), (85, .aload_n 1, 1), (86, .getfield 37, 3), (89, .iconst 0, 1), (90, .aload_n 0, 1), (91, .getfield 37, 3), (94, .iconst 0, 1), (95, .bipush (8), 2), (97, .invokestatic 58, 3), (100, .aload_n 1, 1), (101, .getfield 40, 3), (104, .iconst 0, 1), (105, .aload_n 0, 1), (106, .getfield 40, 3), (109, .iconst 0, 1), (110, .bipush (8), 2), (112, .invokestatic 58, 3), (115, .aload_n 1, 1), (116, .getfield 43, 3), (119, .iconst 0, 1), (120, .aload_n 0, 1), (121, .getfield 43, 3), (124, .iconst 0, 1), (125, .bipush (8), 2), (127, .invokestatic 58, 3), (130, .aload_n 1, 1), (131, .getfield 46, 3), (134, .iconst 0, 1), (135, .aload_n 0, 1), (136, .getfield 46, 3), (139, .iconst 0, 1), (140, .bipush (8), 2), (142, .invokestatic 58, 3), (145, .aload_n 1, 1), (146, .getfield 49, 3), (149, .iconst 0, 1), (150, .aload_n 0, 1), (151, .getfield 49, 3), (154, .iconst 0, 1), (155, .bipush (8), 2), (157, .invokestatic 58, 3), (160, .aload_n 1, 1), (161, .getfield 52, 3), (164, .iconst 0, 1), (165, .aload_n 0, 1), (166, .getfield 52, 3), (169, .iconst 0, 1), (170, .bipush (8), 2), (172, .invokestatic 58, 3), (175, .aload_n 1, 1), (176, .getfield 55, 3), (179, .iconst 0, 1), (180, .aload_n 0, 1), (181, .getfield 55, 3), (184, .iconst 0, 1), (185, .bipush (8), 2), (187, .invokestatic 58, 3), (190, .return_, 1)]
def bm_rc53 : List (Nat × Instr × Nat) := [(0, .aload_n 0, 1), (1, .getfield 46, 3), (4, .iload_n 1, 1), (5, .iaload, 1), (6, .aload_n 0, 1), (7, .getfield 9, 3), (10, .aload_n 0, 1), (11, .getfield 40, 3), (14, .iload_n 1, 1), (15, .iaload, 1), (16, .iaload, 1), (17, .bipush (10), 2), (19, .idiv, 1), (20, .iadd, 1), (21, .istore_n 2, 1), (22, .aload_n 0, 1), (23, .getfield 37, 3), (26, .iload_n 1, 1), (27, .iaload, 1), (28, .tableswitch (106) (1) (6) #[40, 50, 54, 68, 90, 44], 40), (68, .iload_n 2, 1), (69, .iconst 2, 1), (70, .idiv, 1), (71, .ireturn, 1), (72, .iload_n 2, 1), (73, .iconst 2, 1), (74, .idiv, 1), (75, .iconst 1, 1), (76, .iadd, 1), (77, .ireturn, 1), (78, .iload_n 2, 1), (79, .iconst 2, 1), (80, .iadd, 1), (81, .ireturn, 1), (82, .iconst 0, 1), (83, .iload_n 2, 1), (84, .iconst 2, 1), (85, .iadd, 1), (86, .aload_n 0, 1), (87, .iload_n 1, 1), (88, .invokevirtual 64, 3), (91, .isub, 1), (92, .invokestatic 68, 3), (95, .ireturn, 1), (96, .iconst 0, 1), (97, .iload_n 2, 1), (98, .iconst 2, 1), (99, .iadd, 1), (100, .aload_n 0, 1), (101, .iload_n 1, 1), (102, .invokevirtual 64, 3), (105, .isub, 1), (106, .invokestatic 68, 3), (109, .aload_n 0, 1), (110, .getfield 25, 3), (113, .bipush (10), 2), (115, .idiv, 1), (116, .iadd, 1), (117, .ireturn, 1), (118, .iconst 0, 1), (119, .iload_n 2, 1), (120, .aload_n 0, 1), (121, .getfield 49, 3), (124, .iload_n 1, 1), (125, .iaload, 1), (126, .bipush (100), 2), (128, .idiv, 1), (129, .isub, 1), (130, .invokestatic 68, 3), (133, .ireturn, 1), (134, .iload_n 2, 1), (135, .ireturn, 1)]
def bm_rc54 : List (Nat × Instr × Nat) := [(0, .aload_n 0, 1), (1, .getfield 52, 3), (4, .iload_n 1, 1), (5, .iaload, 1), (6, .iconst 4, 1), (7, .idiv, 1), (8, .istore_n 2, 1), (9, .aload_n 0, 1), (10, .getfield 52, 3), (13, .iload_n 1, 1), (14, .iaload, 1), (15, .bipush (8), 2), (17, .idiv, 1), (18, .istore_n 3, 1), (19, .aload_n 0, 1), (20, .getfield 37, 3), (23, .iload_n 1, 1), (24, .iaload, 1), (25, .tableswitch (69) (1) (6) #[39, 43, 47, 57, 39, 39], 39), (64, .iload_n 2, 1), (65, .iconst 2, 1), (66, .idiv, 1), (67, .ireturn, 1), (68, .iload_n 2, 1), (69, .iload_n 3, 1), (70, .iadd, 1), (71, .ireturn, 1), (72, .iconst 0, 1), (73, .iload_n 2, 1), (74, .iload_n 3, 1), (75, .iadd, 1), (76, .iconst 3, 1), (77, .isub, 1), (78, .invokestatic 68, 3), (81, .ireturn, 1), (82, .iconst 0, 1), (83, .iload_n 2, 1), (84, .iload_n 3, 1), (85, .iadd, 1), (86, .iconst 3, 1), (87, .isub, 1), (88, .invokestatic 68, 3), (91, .iconst 5, 1), (92, .iadd, 1), (93, .ireturn, 1), (94, .iload_n 2, 1), (95, .ireturn, 1)]
def bm_rc55 : List (Nat × Instr × Nat) := [(0, .aload_n 0, 1), (1, .getfield 15, 3), (4, .iload_n 1, 1), (5, .ldc 88, 2), (7, .aload_n 0, 1), (8, .getfield 15, 3), (11, .iload_n 1, 1), (12, .iaload, 1), (13, .iload_n 2, 1), (14, .iadd, 1), (15, .invokestatic 85, 3), (18, .iastore, 1), (19, .return_, 1)]
def bm_rc56 : List (Nat × Instr × Nat) := [(0, .aload_n 0, 1), (1, .aload_n 0, 1), (2, .getfield 25, 3), (5, .putfield 22, 3), (8, .aload_n 0, 1), (9, .getfield 22, 3), (12, .aload_n 0, 1), (13, .getfield 15, 3), (16, .if_icmp .ge (30), 3), (19, .aload_n 0, 1), (20, .getfield 9, 3), (23, .aload_n 0, 1), (24, .getfield 22, 3), (27, .iaload, 1), (28, .bipush (32), 2), (30, .if_icmp .ne (16), 3), (33, .aload_n 0, 1), (34, .dup, 1), (35, .getfield 22, 3), (38, .iconst 1, 1), (39, .iadd, 1), (40, .putfield 22, 3), (43, .goto (-35), 3), (46, .aload_n 0, 1), (47, .aload_n 0, 1), (48, .getfield 22, 3), (51, .putfield 25, 3), (54, .aload_n 0, 1), (55, .iconst 0, 1), (56, .putfield 28, 3), (59, .aload_n 0, 1), (60, .getfield 22, 3), (63, .aload_n 0, 1), (64, .getfield 15, 3), (67, .if_icmp .lt (11), 3), (70, .aload_n 0, 1), (71, .iconst 0, 1), (72, .putfield 19, 3), (75, .goto (184), 3), (78, .aload_n 0, 1), (79, .getfield 9, 3), (82, .aload_n 0, 1), (83, .getfield 22, 3), (86, .iaload, 1), (87, .invokestatic 41, 3), (90, .ifCond .eq (47), 3), (93, .aload_n 0, 1), (94, .iconst 1, 1), (95, .putfield 19, 3), (98, .aload_n 0, 1), (99, .getfield 25, 3), (102, .aload_n 0, 1), (103, .getfield 15, 3), (106, .if_icmp .ge (153), 3), (109, .aload_n 0, 1), (110, .getfield 9, 3), (113, .aload_n 0, 1), (114, .getfield 25, 3), (117, .iaload, 1), (118, .invokestatic 41, 3), (121, .ifCond .eq (138), 3), (124, .aload_n 0, 1), (125, .dup, 1), (126, .getfield 25, 3), (129, .iconst 1, 1), (130, .iadd, 1), (131, .putfield 25, 3), (134, .goto (-36), 3), (137, .aload_n 0, 1), (138, .getfield 9, 3), (141, .aload_n 0, 1), (142, .getfield 22, 3), (145, .iaload, 1), (146, .invokestatic 45, 3), (149, .ifCond .eq (77), 3), (152, .aload_n 0, 1), (153, .iconst 2, 1), (154, .putfield 19, 3), (157, .aload_n 0, 1), (158, .getfield 25, 3), (161, .aload_n 0, 1), (162, .getfield 15, 3), (165, .if_icmp .ge (94), 3), (168, .aload_n 0, 1), (169, .getfield 9, 3), (172, .aload_n 0, 1), (173, .getfield 25, 3), (176, .iaload, 1), (177, .invokestatic 45, 3), (180, .ifCond .eq (79), 3), (183, .aload_n 0, 1), (184, .sipush (1000), 3), (187, .aload_n 0, 1), (188, .getfield 28, 3), (191, .bipush (10), 2), (193, .imul, 1), (194, .aload_n 0, 1), (195, .getfield 9, 3), (198, .aload_n 0, 1), (199, .getfield 25, 3), (202, .iaload, 1), (203, .iadd, 1), (204, .bipush (48), 2), (206, .isub, 1), (207, .invokestatic 48, 3), (210, .putfield 28, 3), (213, .aload_n 0, 1), (214, .dup, 1), (215, .getfield 25, 3), (218, .iconst 1, 1), (219, .iadd, 1), (220, .putfield 25, 3), (223, .goto (-66), 3), (226, .aload_n 0, 1), (227, .aload_n 0, 1), (228, .getfield 9, 3), (231, .aload_n 0, 1), (232, .getfield 22, 3), (235, .iaload, 1), (236, .bipush (59), 2), (238, .if_icmp .ne (7), 3), (241, .iconst 3, 1), (242, .goto (4), 3), (245, .iconst 4, 1), (246, .putfield 19, 3), (249, .aload_n 0, 1), (250, .dup, 1), (251, .getfield 25, 3), (254, .iconst 1, 1), (255, .iadd, 1), (256, .putfield 25, 3), (259, .return_, 1)]
def bm_rc57 : List (Nat × Instr × Nat) := [(0, .iload_n 1, 1), (1, .iconst 1, 1), (2, .invokestatic 51, 3), (5, .ifCond .eq (21), 3), (8, .iload_n 2, 1), (9, .iload_n 1, 1), (10, .ifCond .ne (8), 3), (13, .bipush (20), 2), (15, .goto (5), 3), (18, .bipush (99), 2), (20, .invokestatic 51, 3), (23, .ifCond .ne (9), 3), (26, .aload_n 0, 1), (27, .iconst 0, 1), (28, .invokevirtual 55, 3), (31, .ireturn, 1), (32, .iload_n 1, 1), (33, .ifCond .ne (22), 3), (36, .aload_n 0, 1), (37, .getfield 10, 3), (40, .getfield 65, 3), (43, .istore_n 3, 1), (44, .aload_n 0, 1), (45, .getfield 10, 3), (48, .iload_n 2, 1), (49, .putfield 65, 3), (52, .goto (19), 3), (55, .aload_n 0, 1), (56, .getfield 10, 3), (59, .getfield 69, 3), (62, .istore_n 3, 1), (63, .aload_n 0, 1), (64, .getfield 10, 3), (67, .iload_n 2, 1), (68, .putfield 69, 3), (71, .iload_n 3, 1), (72, .ireturn, 1)]
def bm_rc58 : List (Nat × Instr × Nat) := [(0, .aload_n 0, 1), (1, .iload_n 1, 1), (2, .invokevirtual 88, 3), (5, .ifCond .eq (27), 3), (8, .iload_n 2, 1), (9, .ifCond .lt (23), 3), (12, .iload_n 2, 1), (13, .getstatic 107, 3), (16, .arraylength, 1), (17, .if_icmp .ge (15), 3), (20, .iload_n 3, 1), (21, .getstatic 107, 3), (24, .iload_n 2, 1), (25, .iaload, 1), (26, .invokestatic 51, 3), (29, .ifCond .ne (9), 3), (32, .aload_n 0, 1), (33, .iconst 0, 1), (34, .invokevirtual 55, 3), (37, .ireturn, 1), (38, .aload_n 0, 1), (39, .getfield 10, 3), (42, .iload_n 2, 1), (43, .invokevirtual 103, 3), (46, .astore 4, 2), (48, .aload 4, 2), (50, .iload_n 1, 1), (51, .iaload, 1), (52, .istore 5, 2), (54, .aload 4, 2), (56, .iload_n 1, 1), (57, .iload_n 3, 1), (58, .iastore, 1), (59, .iload 5, 2), (61, .ireturn, 1)]
def bm_rc59 : List (Nat × Instr × Nat) := [(0, .iload_n 1, 1), (1, .tableswitch (99) (0) (6) #[43, 51, 59, 67, 75, 83, 91], 43), (44, .aload_n 0, 1), (45, .getfield 10, 3), (48, .getfield 110, 3), (51, .ireturn, 1), (52, .aload_n 0, 1), (53, .getfield 10, 3), (56, .invokevirtual 118, 3), (59, .ireturn, 1), (60, .aload_n 0, 1), (61, .getfield 10, 3), (64, .invokevirtual 122, 3), (67, .ireturn, 1), (68, .aload_n 0, 1), (69, .getfield 10, 3), (72, .invokevirtual 125, 3), (75, .ireturn, 1), (76, .aload_n 0, 1), (77, .getfield 10, 3), (80, .invokevirtual 128, 3), (83, .ireturn, 1), (84, .aload_n 0, 1), (85, .getfield 10, 3), (88, .invokevirtual 131, 3), (91, .ireturn, 1), (92, .aload_n 0, 1), (93, .getfield 10, 3), (96, .invokevirtual 134, 3), (99, .ireturn, 1), (100, .aload_n 0, 1), (101, .iconst 0, 1), (102, .invokevirtual 55, 3), (105, .ireturn, 1)]
def bm_rc60 : List (Nat × Instr × Nat) := [(0, .iload_n 1, 1), (1, .bipush (18), 2), (3, .invokestatic 51, 3), (6, .ifCond .eq (11), 3), (9, .iload_n 2, 1), (10, .iconst 1, 1), (11, .invokestatic 51, 3), (14, .ifCond .ne (10), 3), (17, .aload_n 0, 1), (18, .iconst 0, 1), (19, .invokevirtual 55, 3), (22, .i2l, 1), (23, .lreturn, 1), (24, .aload_n 0, 1), (25, .getfield 10, 3), (28, .getfield 81, 3), (31, .aload_n 0, 1), (32, .getfield 10, 3), (35, .invokevirtual 125, 3), (38, .invokestatic 197, 3), (41, .isub, 1), (42, .istore_n 3, 1), (43, .bipush (8), 2), (45, .istore 4, 2), (47, .iconst 0, 1), (48, .istore 5, 2), (50, .iload 5, 2), (52, .iconst 3, 1), (53, .if_icmp .ge (25), 3), (56, .iload_n 3, 1), (57, .iconst 2, 1), (58, .irem, 1), (59, .ifCond .ne (19), 3), (62, .iload_n 3, 1), (63, .iconst 2, 1), (64, .idiv, 1), (65, .istore_n 3, 1), (66, .iload 4, 2), (68, .iconst 2, 1), (69, .idiv, 1), (70, .istore 4, 2), (72, .iinc 5 (1), 3), (75, .goto (-25), 3), (78, .iload_n 2, 1), (79, .ifCond .ne (7), 3), (82, .iload_n 3, 1), (83, .goto (5), 3), (86, .iload 4, 2), (88, .iload_n 1, 1), (89, .invokestatic 202, 3), (92, .lreturn, 1)]
def bm_rc61 : List (Nat × Instr × Nat) := [(0, .iload_n 2, 1), (1, .iconst 1, 1), (2, .if_icmp .lt (8), 3), (5, .iload_n 2, 1), (6, .iconst 4, 1), (7, .if_icmp .le (9), 3), (10, .aload_n 0, 1), (11, .iconst 0, 1), (12, .invokevirtual 55, 3), (15, .ireturn, 1), (16, .aload_n 0, 1), (17, .getfield 25, 3), (20, .getfield 209, 3), (23, .iload_n 2, 1), (24, .iadd, 1), (25, .bipush (120), 2), (27, .if_icmp .le (9), 3), (30, .aload_n 0, 1), (31, .iconst 1, 1), (32, .invokevirtual 55, 3), (35, .ireturn, 1), (36, .iload_n 2, 1), (37, .iconst 1, 1), (38, .isub, 1), (39, .istore_n 3, 1), (40, .iload_n 3, 1), (41, .ifCond .lt (26), 3), (44, .aload_n 0, 1), (45, .getfield 25, 3), (48, .iload_n 1, 1), (49, .bipush (8), 2), (51, .iload_n 3, 1), (52, .imul, 1), (53, .iushr, 1), (54, .sipush (255), 3), (57, .iand, 1), (58, .invokevirtual 212, 3), (61, .iinc 3 (-1), 3), (64, .goto (-24), 3), (67, .aload_n 0, 1), (68, .getfield 25, 3), (71, .getfield 209, 3), (74, .ireturn, 1)]
def bm_rc62 : List (Nat × Instr × Nat) := [(0, .iload_n 1, 1), (1, .bipush (9), 2), (3, .invokestatic 51, 3), (6, .ifCond .eq (16), 3), (9, .iload_n 2, 1), (10, .iconst (-1), 1), (11, .if_icmp .eq (17), 3), (14, .aload_n 0, 1), (15, .iload_n 2, 1), (16, .invokevirtual 88, 3), (19, .ifCond .ne (9), 3), (22, .aload_n 0, 1), (23, .iconst 0, 1), (24, .invokevirtual 55, 3), (27, .ireturn, 1), (28, .aload_n 0, 1), (29, .getfield 10, 3), (32, .getfield 229, 3), (35, .iload_n 1, 1), (36, .iload_n 2, 1), (37, .iastore, 1), (38, .iconst 1, 1), (39, .ireturn, 1)]
def bm_rc63 : List (Nat × Instr × Nat) := [(0, .iload_n 1, 1), (1, .tableswitch (114) (0) (7) #[47, 55, 63, 74, 82, 90, 98, 106], 47), (48, .aload_n 0, 1), (49, .getfield 10, 3), (52, .getfield 110, 3), (55, .ireturn, 1), (56, .aload_n 0, 1), (57, .getfield 10, 3), (60, .getfield 81, 3), (63, .ireturn, 1), (64, .aload_n 0, 1), (65, .getfield 10, 3), (68, .invokevirtual 125, 3), (71, .invokestatic 197, 3), (74, .ireturn, 1), (75, .aload_n 0, 1), (76, .getfield 10, 3), (79, .invokevirtual 122, 3), (82, .ireturn, 1), (83, .aload_n 0, 1), (84, .getfield 10, 3), (87, .invokevirtual 118, 3), (90, .ireturn, 1), (91, .aload_n 0, 1), (92, .getfield 25, 3), (95, .getfield 209, 3), (98, .ireturn, 1), (99, .aload_n 0, 1), (100, .getfield 10, 3), (103, .getfield 206, 3), (106, .ireturn, 1), (107, .aload_n 0, 1), (108, .getfield 10, 3), (111, .invokevirtual 252, 3), (114, .ireturn, 1), (115, .aload_n 0, 1), (116, .iconst 0, 1), (117, .invokevirtual 55, 3), (120, .ireturn, 1)]
def bm_rc64 : List (Nat × Instr × Nat) := [(0, .iload_n 1, 1), (1, .iconst (-1), 1), (2, .if_icmp .lt (9), 3), (5, .iload_n 1, 1), (6, .bipush (7), 2), (8, .if_icmp .lt (9), 3), (11, .aload_n 0, 1), (12, .iconst 0, 1), (13, .invokevirtual 55, 3), (16, .ireturn, 1), (17, .iload_n 1, 1), (18, .ifCond .lt (10), 3), (21, .aload_n 0, 1), (22, .getfield 41, 3), (25, .iload_n 1, 1), (26, .iaload, 1), (27, .ireturn, 1), (28, .iconst 0, 1), (29, .istore_n 2, 1), (30, .iconst 0, 1), (31, .istore_n 3, 1), (32, .iload_n 3, 1), (33, .bipush (7), 2), (35, .if_icmp .ge (18), 3), (38, .iload_n 2, 1), (39, .aload_n 0, 1), (40, .getfield 41, 3), (43, .iload_n 3, 1), (44, .iaload, 1), (45, .iadd, 1), (46, .istore_n 2, 1), (47, .iinc 3 (1), 3), (50, .goto (-18), 3), (53, .iload_n 2, 1), (54, .ireturn, 1)]
def bm_rc65 : List (Nat × Instr × Nat) := [(0, .iload_n 0, 1), (1, .bipush (11), 2), (3, .invokestatic 51, 3), (6, .ireturn, 1)]
def bm_rc66 : List (Nat × Instr × Nat) := [(0, .iload_n 0, 1), (1, .bipush (11), 2), (3, .invokestatic 51, 3), (6, .ireturn, 1)]
def bm_rc67 : List (Nat × Instr × Nat) := [(0, .iload_n 0, 1), (1, .bipush (6), 2), (3, .invokestatic 51, 3), (6, .ireturn, 1)]
def bm_rc68 : List (Nat × Instr × Nat) := [(0, .iload_n 0, 1), (1, .iconst 3, 1), (2, .invokestatic 51, 3), (5, .ireturn, 1)]
def bm_rc69 : List (Nat × Instr × Nat) := [(0, .iconst (-1), 1), (1, .istore_n 2, 1), (2, .bipush (9), 2), (4, .istore_n 3, 1), (5, .iconst 0, 1), (6, .istore 4, 2), (8, .iload 4, 2), (10, .iconst 1, 1), (11, .aload_n 0, 1), (12, .getfield 10, 3), (15, .getfield 81, 3), (18, .ishl, 1), (19, .if_icmp .ge (38), 3), (22, .iload 4, 2), (24, .invokestatic 197, 3), (27, .istore 5, 2), (29, .iload 5, 2), (31, .iload_n 3, 1), (32, .if_icmp .ge (19), 3), (35, .aload_n 0, 1), (36, .iload 4, 2), (38, .invokevirtual 259, 3), (41, .iload_n 1, 1), (42, .if_icmp .lt (9), 3), (45, .iload 5, 2), (47, .istore_n 3, 1), (48, .iload 4, 2), (50, .istore_n 2, 1), (51, .iinc 4 (1), 3), (54, .goto (-46), 3), (57, .iload_n 2, 1), (58, .ireturn, 1)]
def bm_rc70 : List (Nat × Instr × Nat) := [(0, .aload_n 0, 1), (1, .getfield 9, 3), (4, .aload_n 0, 1), (5, .getfield 16, 3), (8, .invokestatic 38, 3), (11, .return_, 1)]
def bm_rc71 : List (Nat × Instr × Nat) := [(0, .aload_n 0, 1), (1, .getfield 16, 3), (4, .aload_n 0, 1), (5, .getfield 9, 3), (8, .invokestatic 38, 3), (11, .return_, 1)]
def bm_rc72 : List (Nat × Instr × Nat) := [(0, .iload_n 1, 1), (1, .i2l, 1), (2, .lconst 0, 1), (3, .aload_n 0, 1), (4, .getfield 9, 3), (7, .iconst 2, 1), (8, .iaload, 1), (9, .iconst 1, 1), (10, .isub, 1), (11, .i2l, 1), (12, .invokestatic 42, 3), (15, .ireturn, 1)]
def bm_rc73 : List (Nat × Instr × Nat) := [(0, .iload_n 0, 1), (1, .i2l, 1), (2, .lconst 0, 1), (3, .ldc2_w 46, 3), (6, .invokestatic 42, 3), (9, .ireturn, 1)]
def bm_rc74 : List (Nat × Instr × Nat) := [(0, .iload_n 0, 1), (1, .i2l, 1), (2, .lconst 0, 1), (3, .ldc2_w 48, 3), (6, .invokestatic 42, 3), (9, .ireturn, 1)]
def bm_rc75 : List (Nat × Instr × Nat) := [(0, .iload_n 0, 1), (1, .istore_n 2, 1), (2, .iload_n 2, 1), (3, .ifCond .eq (16), 3), (6, .iload_n 2, 1), (7, .iload_n 1, 1), (8, .if_icmp .eq (11), 3), (11, .iload_n 2, 1), (12, .invokestatic 50, 3), (15, .istore_n 2, 1), (16, .goto (-14), 3), (19, .iload_n 2, 1), (20, .iload_n 1, 1), (21, .if_icmp .ne (7), 3), (24, .iconst 1, 1), (25, .goto (4), 3), (28, .iconst 0, 1), (29, .ireturn, 1)]
def bm_rc76 : List (Nat × Instr × Nat) := [(0, .iload_n 0, 1), (1, .i2l, 1), (2, .lconst 0, 1), (3, .ldc2_w 54, 3), (6, .invokestatic 42, 3), (9, .ireturn, 1)]
def bm_rc77 : List (Nat × Instr × Nat) := [(0, .iconst 0, 1), (1, .istore_n 2, 1), (2, .iconst 0, 1), (3, .istore_n 3, 1), (4, .iload_n 3, 1), (5, .aload_n 0, 1), (6, .getfield 9, 3), (9, .iconst 2, 1), (10, .iaload, 1), (11, .if_icmp .ge (37), 3), (14, .iload_n 2, 1), (15, .iload_n 3, 1), (16, .iload_n 1, 1), (17, .if_icmp .eq (22), 3), (20, .aload_n 0, 1), (21, .iload_n 3, 1), (22, .iconst 1, 1), (23, .invokevirtual 56, 3), (26, .aload_n 0, 1), (27, .iload_n 1, 1), (28, .iconst 1, 1), (29, .invokevirtual 56, 3), (32, .if_icmp .ne (7), 3), (35, .iconst 1, 1), (36, .goto (4), 3), (39, .iconst 0, 1), (40, .iadd, 1), (41, .istore_n 2, 1), (42, .iinc 3 (1), 3), (45, .goto (-41), 3), (48, .iload_n 2, 1), (49, .ireturn, 1)]
def bm_rc78 : List (Nat × Instr × Nat) := [(0, .aload_n 0, 1), (1, .iload_n 1, 1), (2, .iconst 0, 1), (3, .invokevirtual 56, 3), (6, .tableswitch (44) (1) (6) #[38, 44, 40, 42, 44, 38], 38), (44, .iconst 2, 1), (45, .ireturn, 1), (46, .iconst 3, 1), (47, .ireturn, 1), (48, .iconst 0, 1), (49, .ireturn, 1), (50, .iconst 5, 1), (51, .ireturn, 1)]
def bm_rc79 : List (Nat × Instr × Nat) := [(0, .aload_n 0, 1), (1, .iload_n 1, 1), (2, .iconst 5, 1), (3, .invokevirtual 56, 3), (6, .istore_n 2, 1), (7, .iload_n 2, 1), (8, .iconst 4, 1), (9, .idiv, 1), (10, .istore_n 3, 1), (11, .iconst 0, 1), (12, .iload_n 3, 1), (13, .iload_n 2, 1), (14, .bipush (8), 2), (16, .idiv, 1), (17, .iadd, 1), (18, .iconst 3, 1), (19, .isub, 1), (20, .invokestatic 63, 3), (23, .istore 4, 2), (25, .aload_n 0, 1), (26, .iload_n 1, 1), (27, .iconst 0, 1), (28, .invokevirtual 56, 3), (31, .tableswitch (56) (1) (6) #[37, 41, 48, 51, 37, 37], 37), (68, .iload_n 3, 1), (69, .iconst 2, 1), (70, .idiv, 1), (71, .ireturn, 1), (72, .iload_n 3, 1), (73, .iload_n 2, 1), (74, .bipush (8), 2), (76, .idiv, 1), (77, .iadd, 1), (78, .ireturn, 1), (79, .iload 4, 2), (81, .ireturn, 1), (82, .iload 4, 2), (84, .iconst 5, 1), (85, .iadd, 1), (86, .ireturn, 1), (87, .iload_n 3, 1), (88, .ireturn, 1)]
def bm_rc80 : List (Nat × Instr × Nat) := [(0, .iconst (-1), 1), (1, .istore_n 2, 1), (2, .aload_n 0, 1), (3, .getfield 9, 3), (6, .iconst 2, 1), (7, .iaload, 1), (8, .iconst 1, 1), (9, .isub, 1), (10, .istore_n 3, 1), (11, .iload_n 3, 1), (12, .ifCond .lt (45), 3), (15, .aload_n 0, 1), (16, .iload_n 3, 1), (17, .iconst 1, 1), (18, .invokevirtual 56, 3), (21, .aload_n 0, 1), (22, .iload_n 1, 1), (23, .iconst 1, 1), (24, .invokevirtual 56, 3), (27, .if_icmp .ne (22), 3), (30, .aload_n 0, 1), (31, .iload_n 3, 1), (32, .iconst 2, 1), (33, .invokevirtual 56, 3), (36, .aload_n 0, 1), (37, .iload_n 1, 1), (38, .iconst 2, 1), (39, .invokevirtual 56, 3), (42, .if_icmp .eq (7), 3), (45, .iload_n 3, 1), (46, .goto (4), 3), (49, .iload_n 2, 1), (50, .istore_n 2, 1), (51, .iinc 3 (-1), 3), (54, .goto (-43), 3), (57, .iload_n 2, 1), (58, .ireturn, 1)]
def bm_rc81 : List (Nat × Instr × Nat) := [(0, .aload_n 0, 1), (1, .getfield 9, 3), (4, .iconst 2, 1), (5, .iaload, 1), (6, .istore_n 3, 1), (7, .aload_n 0, 1), (8, .getfield 9, 3), (11, .iconst 2, 1), (12, .dup2, 1), (13, .iaload, 1), (14, .iconst 1, 1), (15, .iadd, 1), (16, .iastore, 1), (17, .aload_n 0, 1), (18, .iload_n 3, 1), (19, .iconst 0, 1), (20, .iload_n 1, 1), (21, .invokevirtual 68, 3), (24, .aload_n 0, 1), (25, .iload_n 3, 1), (26, .iconst 1, 1), (27, .iload_n 2, 1), (28, .invokevirtual 68, 3), (31, .aload_n 0, 1), (32, .iload_n 3, 1), (33, .iconst 2, 1), (34, .iconst 0, 1), (35, .invokevirtual 68, 3), (38, .aload_n 0, 1), (39, .iload_n 3, 1), (40, .iconst 3, 1), (41, .iconst 3, 1), (42, .invokevirtual 68, 3), (45, .aload_n 0, 1), (46, .iload_n 3, 1), (47, .iconst 4, 1), (48, .iconst 0, 1), (49, .invokevirtual 68, 3), (52, .aload_n 0, 1), (53, .iload_n 3, 1), (54, .iconst 5, 1), (55, .iconst 0, 1), (56, .invokevirtual 68, 3), (59, .aload_n 0, 1), (60, .iload_n 3, 1), (61, .bipush (6), 2), (63, .iconst 0, 1), (64, .invokevirtual 68, 3), (67, .iload_n 3, 1), (68, .ireturn, 1)]
def bm_rc82 : List (Nat × Instr × Nat) := [(0, .iconst 0, 1), (1, .istore_n 2, 1), (2, .iconst 0, 1), (3, .istore_n 3, 1), (4, .iload_n 3, 1), (5, .aload_n 0, 1), (6, .getfield 9, 3), (9, .iconst 2, 1), (10, .iaload, 1), (11, .if_icmp .ge (29), 3), (14, .iload_n 2, 1), (15, .aload_n 0, 1), (16, .iload_n 3, 1), (17, .iconst 1, 1), (18, .invokevirtual 56, 3), (21, .iload_n 1, 1), (22, .if_icmp .ne (9), 3), (25, .iconst 1, 1), (26, .iload_n 3, 1), (27, .ishl, 1), (28, .goto (4), 3), (31, .iconst 0, 1), (32, .ior, 1), (33, .istore_n 2, 1), (34, .iinc 3 (1), 3), (37, .goto (-33), 3), (40, .iload_n 2, 1), (41, .ireturn, 1)]
def bm_rc83 : List (Nat × Instr × Nat) := [(0, .iload_n 1, 1), (1, .i2l, 1), (2, .lconst 0, 1), (3, .lconst 1, 1), (4, .invokestatic 42, 3), (7, .ifCond .eq (25), 3), (10, .iload_n 2, 1), (11, .i2l, 1), (12, .lconst 0, 1), (13, .iload_n 1, 1), (14, .ifCond .ne (9), 3), (17, .ldc2_w 88, 3), (20, .goto (6), 3), (23, .ldc2_w 48, 3), (26, .invokestatic 42, 3), (29, .ifCond .ne (9), 3), (32, .aload_n 0, 1), (33, .iconst 0, 1), (34, .invokevirtual 82, 3), (37, .ireturn, 1), (38, .aload_n 0, 1), (39, .iload_n 1, 1), (40, .ifCond .ne (7), 3), (43, .iconst 3, 1), (44, .goto (4), 3), (47, .iconst 4, 1), (48, .iload_n 2, 1), (49, .invokevirtual 79, 3), (52, .ireturn, 1)]
def bm_rc84 : List (Nat × Instr × Nat) := [(0, .aload_n 0, 1), (1, .iload_n 1, 1), (2, .iconst 1, 1), (3, .aload_n 0, 1), (4, .iload_n 1, 1), (5, .iconst 1, 1), (6, .invokevirtual 56, 3), (9, .iconst 1, 1), (10, .iadd, 1), (11, .bipush (12), 2), (13, .irem, 1), (14, .invokevirtual 68, 3), (17, .return_, 1)]
def bm_rc85 : List (Nat × Instr × Nat) := [(0, .aload_n 0, 1), (1, .getfield 9, 3), (4, .bipush (17), 2), (6, .iload_n 1, 1), (7, .iadd, 1), (8, .ldc 134, 2), (10, .aload_n 0, 1), (11, .getfield 9, 3), (14, .bipush (17), 2), (16, .iload_n 1, 1), (17, .iadd, 1), (18, .iaload, 1), (19, .iload_n 2, 1), (20, .iadd, 1), (21, .invokestatic 123, 3), (24, .iastore, 1), (25, .return_, 1)]
def bm_rc86 : List (Nat × Instr × Nat) := [(0, .iconst 0, 1), (1, .istore_n 1, 1), (2, .iconst 0, 1), (3, .istore_n 2, 1), (4, .iload_n 2, 1), (5, .aload_n 0, 1), (6, .getfield 9, 3), (9, .iconst 2, 1), (10, .iaload, 1), (11, .if_icmp .ge (18), 3), (14, .iload_n 1, 1), (15, .aload_n 0, 1), (16, .iload_n 2, 1), (17, .iconst 5, 1), (18, .invokevirtual 56, 3), (21, .iadd, 1), (22, .istore_n 1, 1), (23, .iinc 2 (1), 3), (26, .goto (-22), 3), (29, .iload_n 1, 1), (30, .ireturn, 1)]
def bm_rc87 : List (Nat × Instr × Nat) := [(0, .iconst 0, 1), (1, .istore_n 1, 1), (2, .iconst 0, 1), (3, .istore_n 2, 1), (4, .iload_n 2, 1), (5, .aload_n 0, 1), (6, .getfield 9, 3), (9, .iconst 2, 1), (10, .iaload, 1), (11, .if_icmp .ge (21), 3), (14, .iload_n 1, 1), (15, .aload_n 0, 1), (16, .iload_n 2, 1), (17, .bipush (6), 2), (19, .invokevirtual 56, 3), (22, .iload_n 2, 1), (23, .ishl, 1), (24, .ior, 1), (25, .istore_n 1, 1), (26, .iinc 2 (1), 3), (29, .goto (-25), 3), (32, .iload_n 1, 1), (33, .ireturn, 1)]
def bm_rc88 : List (Nat × Instr × Nat) := [(0, .iconst 0, 1), (1, .istore_n 1, 1), (2, .iconst 0, 1), (3, .istore_n 2, 1), (4, .iload_n 2, 1), (5, .aload_n 0, 1), (6, .getfield 9, 3), (9, .iconst 2, 1), (10, .iaload, 1), (11, .if_icmp .ge (20), 3), (14, .iload_n 1, 1), (15, .iconst 1, 1), (16, .aload_n 0, 1), (17, .iload_n 2, 1), (18, .iconst 1, 1), (19, .invokevirtual 56, 3), (22, .ishl, 1), (23, .ior, 1), (24, .istore_n 1, 1), (25, .iinc 2 (1), 3), (28, .goto (-24), 3), (31, .iload_n 1, 1), (32, .ireturn, 1)]
def bm_rc89 : List (Nat × Instr × Nat) := [(0, .iload_n 0, 1), (1, .i2l, 1), (2, .lconst 0, 1), (3, .ldc2_w 172, 3), (6, .invokestatic 42, 3), (9, .ireturn, 1)]
def bm_rc90 : List (Nat × Instr × Nat) := [(0, .iload_n 0, 1), (1, .i2l, 1), (2, .lconst 0, 1), (3, .ldc2_w 174, 3), (6, .invokestatic 42, 3), (9, .ireturn, 1)]
def bm_rc91 : List (Nat × Instr × Nat) := [(0, .iload_n 1, 1), (1, .iload_n 2, 1), (2, .if_icmp .gt (7), 3), (5, .iload_n 1, 1), (6, .goto (8), 3), (9, .aload_n 0, 1), (10, .iconst 3, 1), (11, .invokevirtual 82, 3), (14, .ireturn, 1)]
def bm_rc92 : List (Nat × Instr × Nat) := [(0, .aload_n 0, 1), (1, .iload_n 2, 1), (2, .aload_n 0, 1), (3, .getfield 201, 3), (6, .if_icmp .le (7), 3), (9, .iload_n 1, 1), (10, .goto (7), 3), (13, .aload_n 0, 1), (14, .getfield 197, 3), (17, .putfield 197, 3), (20, .aload_n 0, 1), (21, .aload_n 0, 1), (22, .getfield 201, 3), (25, .iload_n 2, 1), (26, .invokestatic 63, 3), (29, .putfield 201, 3), (32, .return_, 1)]
def bm_rc93 : List (Nat × Instr × Nat) := [(0, .aload_n 0, 1), (1, .iconst 1, 1), (2, .iload_n 1, 1), (3, .invokevirtual 79, 3), (6, .ireturn, 1)]
def bm_rc94 : List (Nat × Instr × Nat) := [(0, .iload_n 2, 1), (1, .i2l, 1), (2, .lconst 1, 1), (3, .ldc2_w 237, 3), (6, .invokestatic 42, 3), (9, .ifCond .ne (9), 3), (12, .aload_n 0, 1), (13, .iconst 0, 1), (14, .invokevirtual 82, 3), (17, .ireturn, 1), (18, .aload_n 0, 1), (19, .getfield 239, 3), (22, .iload_n 2, 1), (23, .iadd, 1), (24, .bipush (120), 2), (26, .if_icmp .le (9), 3), (29, .aload_n 0, 1), (30, .iconst 1, 1), (31, .invokevirtual 82, 3), (34, .ireturn, 1), (35, .iload_n 2, 1), (36, .iconst 1, 1), (37, .isub, 1), (38, .istore_n 3, 1), (39, .iload_n 3, 1), (40, .ifCond .lt (38), 3), (43, .aload_n 0, 1), (44, .getfield 22, 3), (47, .aload_n 0, 1), (48, .getfield 239, 3), (51, .iload_n 1, 1), (52, .bipush (8), 2), (54, .iload_n 3, 1), (55, .imul, 1), (56, .ishr, 1), (57, .sipush (255), 3), (60, .iand, 1), (61, .iastore, 1), (62, .aload_n 0, 1), (63, .dup, 1), (64, .getfield 239, 3), (67, .iconst 1, 1), (68, .iadd, 1), (69, .putfield 239, 3), (72, .iinc 3 (-1), 3), (75, .goto (-36), 3), (78, .aload_n 0, 1), (79, .getfield 239, 3), (82, .ireturn, 1)]
def bm_rc95 : List (Nat × Instr × Nat) := [(0, .iload_n 1, 1), (1, .aload_n 0, 1), (2, .getfield 239, 3), (5, .if_icmp .ge (24), 3), (8, .aload_n 0, 1), (9, .getfield 22, 3), (12, .iload_n 1, 1), (13, .iaload, 1), (14, .i2l, 1), (15, .iload_n 2, 1), (16, .i2l, 1), (17, .iload_n 3, 1), (18, .i2l, 1), (19, .invokestatic 42, 3), (22, .ifCond .eq (7), 3), (25, .iconst 1, 1), (26, .goto (4), 3), (29, .iconst 0, 1), (30, .ireturn, 1)]
def bm_rc96 : List (Nat × Instr × Nat) := [(0, .iload_n 0, 1), (1, .i2l, 1), (2, .lconst 0, 1), (3, .ldc2_w 113, 3), (6, .invokestatic 42, 3), (9, .ireturn, 1)]
def bm_rc97 : List (Nat × Instr × Nat) := [(0, .iload_n 0, 1), (1, .i2l, 1), (2, .lconst 0, 1), (3, .ldc2_w 325, 3), (6, .invokestatic 42, 3), (9, .ireturn, 1)]
def bm_rc98 : List (Nat × Instr × Nat) := [(0, .aload_n 0, 1), (1, .getfield 9, 3), (4, .aload_n 0, 1), (5, .getfield 13, 3), (8, .invokestatic 38, 3), (11, .aload_n 0, 1), (12, .iconst 1, 1), (13, .putfield 330, 3), (16, .iconst 1, 1), (17, .ireturn, 1)]
def bm_rc99 : List (Nat × Instr × Nat) := [(0, .aload_n 0, 1), (1, .getfield 330, 3), (4, .ifCond .ne (9), 3), (7, .aload_n 0, 1), (8, .iconst 3, 1), (9, .invokevirtual 82, 3), (12, .ireturn, 1), (13, .aload_n 0, 1), (14, .getfield 13, 3), (17, .aload_n 0, 1), (18, .getfield 9, 3), (21, .invokestatic 38, 3), (24, .aload_n 0, 1), (25, .getfield 9, 3), (28, .iconst 0, 1), (29, .iaload, 1), (30, .ireturn, 1)]
def bm_rc100 : List (Nat × Instr × Nat) := [(0, .iload_n 1, 1), (1, .i2l, 1), (2, .ldc2_w 336, 3), (5, .ldc2_w 54, 3), (8, .invokestatic 42, 3), (11, .ifCond .ne (9), 3), (14, .aload_n 0, 1), (15, .iconst 0, 1), (16, .invokevirtual 82, 3), (19, .ireturn, 1), (20, .iconst 0, 1), (21, .istore_n 2, 1), (22, .iconst 0, 1), (23, .istore_n 3, 1), (24, .iload_n 3, 1), (25, .bipush (7), 2), (27, .if_icmp .ge (31), 3), (30, .iload_n 2, 1), (31, .iload_n 1, 1), (32, .ifCond .lt (8), 3), (35, .iload_n 1, 1), (36, .iload_n 3, 1), (37, .if_icmp .ne (12), 3), (40, .aload_n 0, 1), (41, .getfield 19, 3), (44, .iload_n 3, 1), (45, .iaload, 1), (46, .goto (4), 3), (49, .iconst 0, 1), (50, .iadd, 1), (51, .istore_n 2, 1), (52, .iinc 3 (1), 3), (55, .goto (-31), 3), (58, .iload_n 2, 1), (59, .ireturn, 1)]
def bm_rc101 : List (Nat × Instr × Nat) := [(0, .iload_n 0, 1), (1, .iload_n 1, 1), (2, .getstatic 1053, 3), (5, .invokestatic 1059, 3), (8, .pop, 1), (9, .return_, 1)]
def bm_rc102 : List (Nat × Instr × Nat) := [(0, .aload_n 0, 1), (1, .getfield 9, 3), (4, .arraylength, 1), (5, .aload_n 0, 1), (6, .invokevirtual 335, 3), (9, .ishr, 1), (10, .ireturn, 1)]
def bm_rc103 : List (Nat × Instr × Nat) := [(0, .aload_n 0, 1), (1, .getfield 55, 3), (4, .iload_n 1, 1), (5, .iaload, 1), (6, .ifCond .ne (27), 3), (9, .aload_n 0, 1), (10, .getfield 52, 3), (13, .iload_n 1, 1), (14, .sipush (9999), 3), (17, .aload_n 0, 1), (18, .getfield 52, 3), (21, .iload_n 1, 1), (22, .iaload, 1), (23, .aload_n 0, 1), (24, .iload_n 1, 1), (25, .invokevirtual 92, 3), (28, .iadd, 1), (29, .invokestatic 85, 3), (32, .iastore, 1), (33, .aload_n 0, 1), (34, .getfield 40, 3), (37, .iload_n 1, 1), (38, .iaload, 1), (39, .istore_n 2, 1), (40, .aload_n 0, 1), (41, .getfield 9, 3), (44, .iload_n 2, 1), (45, .iaload, 1), (46, .aload_n 0, 1), (47, .iload_n 1, 1), (48, .invokevirtual 95, 3), (51, .isub, 1), (52, .istore_n 3, 1), (53, .aload_n 0, 1), (54, .getfield 9, 3), (57, .iload_n 2, 1), (58, .iconst 0, 1), (59, .iload_n 3, 1), (60, .invokestatic 68, 3), (63, .iastore, 1), (64, .iload_n 3, 1), (65, .ifCond .ge (8), 3), (68, .aload_n 0, 1), (69, .iload_n 1, 1), (70, .invokevirtual 98, 3), (73, .aload_n 0, 1), (74, .getfield 49, 3), (77, .iload_n 1, 1), (78, .sipush (999), 3), (81, .aload_n 0, 1), (82, .getfield 49, 3), (85, .iload_n 1, 1), (86, .iaload, 1), (87, .iconst 1, 1), (88, .iadd, 1), (89, .invokestatic 85, 3), (92, .iastore, 1), (93, .iload_n 3, 1), (94, .ifCond .ge (7), 3), (97, .iconst 1, 1), (98, .goto (4), 3), (101, .iconst 0, 1), (102, .ireturn, 1)]
def bm_rc104 : List (Nat × Instr × Nat) := [(0, .iconst 0, 1), (1, .istore_n 1, 1), (2, .iload_n 1, 1), (3, .aload_n 0, 1), (4, .getfield 34, 3), (7, .if_icmp .ge (81), 3), (10, .aload_n 0, 1), (11, .iload_n 1, 1), (12, .invokevirtual 102, 3), (15, .istore_n 2, 1), (16, .iload_n 2, 1), (17, .iload_n 2, 1), (18, .aload_n 0, 1), (19, .getfield 25, 3), (22, .imul, 1), (23, .bipush (100), 2), (25, .idiv, 1), (26, .isub, 1), (27, .istore_n 3, 1), (28, .aload_n 0, 1), (29, .iload_n 1, 1), (30, .invokevirtual 105, 3), (33, .istore 4, 2), (35, .iload 4, 2), (37, .iconst (-1), 1), (38, .if_icmp .eq (26), 3), (41, .iload_n 3, 1), (42, .iconst 3, 1), (43, .idiv, 1), (44, .istore 5, 2), (46, .aload_n 0, 1), (47, .aload_n 0, 1), (48, .iload_n 1, 1), (49, .iload 4, 2), (51, .invokevirtual 108, 3), (54, .iload 5, 2), (56, .invokevirtual 111, 3), (59, .iload_n 3, 1), (60, .iload 5, 2), (62, .isub, 1), (63, .istore_n 3, 1), (64, .aload_n 0, 1), (65, .aload_n 0, 1), (66, .getfield 43, 3), (69, .iload_n 1, 1), (70, .iaload, 1), (71, .iload_n 3, 1), (72, .invokevirtual 111, 3), (75, .aload_n 0, 1), (76, .getfield 52, 3), (79, .iload_n 1, 1), (80, .iconst 0, 1), (81, .iastore, 1), (82, .iinc 1 (1), 3), (85, .goto (-83), 3), (88, .return_, 1)]
def bm_rc105 : List (Nat × Instr × Nat) := [(0, .aload_n 0, 1), (1, .invokevirtual 34, 3), (4, .aload_n 0, 1), (5, .getfield 19, 3), (8, .iconst 2, 1), (9, .if_icmp .ne (15), 3), (12, .aload_n 0, 1), (13, .getfield 28, 3), (16, .iload_n 1, 1), (17, .if_icmp .gt (7), 3), (20, .iconst 1, 1), (21, .goto (4), 3), (24, .iconst 0, 1), (25, .ireturn, 1)]
def bm_rc106 : List (Nat × Instr × Nat) := [(0, .iload_n 1, 1), (1, .invokestatic 47, 3), (4, .ifCond .eq (12), 3), (7, .iload_n 2, 1), (8, .bipush (99), 2), (10, .invokestatic 51, 3), (13, .ifCond .ne (9), 3), (16, .aload_n 0, 1), (17, .iconst 0, 1), (18, .invokevirtual 55, 3), (21, .ireturn, 1), (22, .aload_n 0, 1), (23, .getfield 10, 3), (26, .getfield 59, 3), (29, .iload_n 1, 1), (30, .iaload, 1), (31, .istore_n 3, 1), (32, .aload_n 0, 1), (33, .getfield 10, 3), (36, .getfield 59, 3), (39, .iload_n 1, 1), (40, .iload_n 2, 1), (41, .iastore, 1), (42, .iload_n 3, 1), (43, .ireturn, 1)]
def bm_rc107 : List (Nat × Instr × Nat) := [(0, .iload_n 1, 1), (1, .invokestatic 47, 3), (4, .ifCond .eq (11), 3), (7, .iload_n 2, 1), (8, .iconst 1, 1), (9, .invokestatic 51, 3), (12, .ifCond .ne (9), 3), (15, .aload_n 0, 1), (16, .iconst 0, 1), (17, .invokevirtual 55, 3), (20, .ireturn, 1), (21, .iload_n 2, 1), (22, .ifCond .ne (15), 3), (25, .aload_n 0, 1), (26, .getfield 10, 3), (29, .getfield 59, 3), (32, .iload_n 1, 1), (33, .iaload, 1), (34, .goto (11), 3), (37, .aload_n 0, 1), (38, .getfield 10, 3), (41, .iload_n 1, 1), (42, .invokevirtual 62, 3), (45, .ireturn, 1)]
def bm_rc108 : List (Nat × Instr × Nat) := [(0, .iload_n 1, 1), (1, .invokestatic 72, 3), (4, .ifCond .ne (9), 3), (7, .aload_n 0, 1), (8, .iconst 0, 1), (9, .invokevirtual 55, 3), (12, .ireturn, 1), (13, .aload_n 0, 1), (14, .getfield 10, 3), (17, .getfield 75, 3), (20, .iload_n 1, 1), (21, .iaload, 1), (22, .ireturn, 1)]
def bm_rc109 : List (Nat × Instr × Nat) := [(0, .iload_n 1, 1), (1, .invokestatic 72, 3), (4, .ifCond .ne (9), 3), (7, .aload_n 0, 1), (8, .iconst 0, 1), (9, .invokevirtual 55, 3), (12, .ireturn, 1), (13, .aload_n 0, 1), (14, .getfield 10, 3), (17, .getfield 75, 3), (20, .iload_n 1, 1), (21, .iaload, 1), (22, .istore_n 2, 1), (23, .aload_n 0, 1), (24, .getfield 10, 3), (27, .getfield 75, 3), (30, .iload_n 1, 1), (31, .iconst 0, 1), (32, .iastore, 1), (33, .iload_n 2, 1), (34, .ireturn, 1)]
def bm_rc110 : List (Nat × Instr × Nat) := [(0, .iload_n 1, 1), (1, .invokestatic 78, 3), (4, .ifCond .eq (10), 3), (7, .iload_n 2, 1), (8, .invokestatic 47, 3), (11, .ifCond .ne (9), 3), (14, .aload_n 0, 1), (15, .iconst 0, 1), (16, .invokevirtual 55, 3), (19, .ireturn, 1), (20, .aload_n 0, 1), (21, .getfield 10, 3), (24, .getfield 81, 3), (27, .bipush (8), 2), (29, .if_icmp .lt (9), 3), (32, .aload_n 0, 1), (33, .iconst 1, 1), (34, .invokevirtual 55, 3), (37, .ireturn, 1), (38, .aload_n 0, 1), (39, .getfield 10, 3), (42, .iload_n 1, 1), (43, .iload_n 2, 1), (44, .invokevirtual 84, 3), (47, .ireturn, 1)]
def bm_rc111 : List (Nat × Instr × Nat) := [(0, .aload_n 0, 1), (1, .iload_n 1, 1), (2, .invokevirtual 88, 3), (5, .ifCond .eq (12), 3), (8, .iload_n 2, 1), (9, .bipush (10), 2), (11, .invokestatic 51, 3), (14, .ifCond .ne (9), 3), (17, .aload_n 0, 1), (18, .iconst 0, 1), (19, .invokevirtual 55, 3), (22, .ireturn, 1), (23, .iload_n 2, 1), (24, .tableswitch (68) (7) (10) #[32, 41, 50, 59], 32), (56, .aload_n 0, 1), (57, .getfield 10, 3), (60, .iload_n 1, 1), (61, .invokevirtual 91, 3), (64, .ireturn, 1), (65, .aload_n 0, 1), (66, .getfield 10, 3), (69, .iload_n 1, 1), (70, .invokevirtual 94, 3), (73, .ireturn, 1), (74, .aload_n 0, 1), (75, .getfield 10, 3), (78, .iload_n 1, 1), (79, .invokevirtual 97, 3), (82, .ireturn, 1), (83, .aload_n 0, 1), (84, .getfield 10, 3), (87, .iload_n 1, 1), (88, .invokevirtual 100, 3), (91, .ireturn, 1), (92, .aload_n 0, 1), (93, .getfield 10, 3), (96, .iload_n 2, 1), (97, .invokevirtual 103, 3), (100, .iload_n 1, 1), (101, .iaload, 1), (102, .ireturn, 1)]
def bm_rc112 : List (Nat × Instr × Nat) := [(0, .iload_n 1, 1), (1, .invokestatic 72, 3), (4, .ifCond .ne (9), 3), (7, .aload_n 0, 1), (8, .iconst 0, 1), (9, .invokevirtual 55, 3), (12, .ireturn, 1), (13, .iconst 0, 1), (14, .istore_n 2, 1), (15, .iload_n 2, 1), (16, .aload_n 0, 1), (17, .getfield 10, 3), (20, .getfield 81, 3), (23, .if_icmp .ge (71), 3), (26, .iload_n 2, 1), (27, .iconst 1, 1), (28, .iadd, 1), (29, .istore_n 3, 1), (30, .iload_n 3, 1), (31, .aload_n 0, 1), (32, .getfield 10, 3), (35, .getfield 81, 3), (38, .if_icmp .ge (50), 3), (41, .aload_n 0, 1), (42, .getfield 10, 3), (45, .getfield 154, 3), (48, .iload_n 2, 1), (49, .iaload, 1), (50, .aload_n 0, 1), (51, .getfield 10, 3), (54, .getfield 154, 3), (57, .iload_n 3, 1), (58, .iaload, 1), (59, .if_icmp .eq (23), 3), (62, .aload_n 0, 1), (63, .getfield 10, 3), (66, .iload_n 2, 1), (67, .iload_n 3, 1), (68, .invokevirtual 166, 3), (71, .iload_n 1, 1), (72, .if_icmp .ne (10), 3), (75, .bipush (8), 2), (77, .iload_n 2, 1), (78, .imul, 1), (79, .iload_n 3, 1), (80, .iadd, 1), (81, .ireturn, 1), (82, .iinc 3 (1), 3), (85, .goto (-55), 3), (88, .iinc 2 (1), 3), (91, .goto (-76), 3), (94, .aload_n 0, 1), (95, .iconst 3, 1), (96, .invokevirtual 55, 3), (99, .ireturn, 1)]
def bm_rc113 : List (Nat × Instr × Nat) := [(0, .iload_n 1, 1), (1, .bipush (9), 2), (3, .invokestatic 51, 3), (6, .ifCond .eq (10), 3), (9, .iload_n 2, 1), (10, .invokestatic 78, 3), (13, .ifCond .ne (9), 3), (16, .aload_n 0, 1), (17, .iconst 0, 1), (18, .invokevirtual 55, 3), (21, .ireturn, 1), (22, .aload_n 0, 1), (23, .getfield 10, 3), (26, .getfield 229, 3), (29, .iload_n 1, 1), (30, .iaload, 1), (31, .istore_n 3, 1), (32, .iload_n 3, 1), (33, .iconst (-1), 1), (34, .if_icmp .ne (9), 3), (37, .aload_n 0, 1), (38, .iconst 5, 1), (39, .invokevirtual 55, 3), (42, .ireturn, 1), (43, .aload_n 0, 1), (44, .getfield 10, 3), (47, .getfield 185, 3), (50, .iload_n 3, 1), (51, .iaload, 1), (52, .iload_n 2, 1), (53, .invokestatic 232, 3), (56, .ifCond .ne (9), 3), (59, .aload_n 0, 1), (60, .iconst 2, 1), (61, .invokevirtual 55, 3), (64, .ireturn, 1), (65, .iload_n 3, 1), (66, .ireturn, 1)]
def bm_rc114 : List (Nat × Instr × Nat) := [(0, .iload_n 1, 1), (1, .invokestatic 175, 3), (4, .ifCond .eq (25), 3), (7, .iload_n 2, 1), (8, .ifCond .eq (27), 3), (11, .iload_n 2, 1), (12, .bipush (8), 2), (14, .if_icmp .eq (21), 3), (17, .iload_n 2, 1), (18, .bipush (16), 2), (20, .if_icmp .eq (15), 3), (23, .iload_n 2, 1), (24, .bipush (32), 2), (26, .if_icmp .eq (9), 3), (29, .aload_n 0, 1), (30, .iconst 0, 1), (31, .invokevirtual 55, 3), (34, .ireturn, 1), (35, .iload_n 3, 1), (36, .ifCond .ge (10), 3), (39, .aload_n 0, 1), (40, .bipush (6), 2), (42, .invokevirtual 55, 3), (45, .ireturn, 1), (46, .iload_n 3, 1), (47, .bipush (40), 2), (49, .if_icmp .le (9), 3), (52, .aload_n 0, 1), (53, .iconst 0, 1), (54, .invokevirtual 55, 3), (57, .ireturn, 1), (58, .aload_n 0, 1), (59, .getfield 38, 3), (62, .iload_n 1, 1), (63, .iload_n 2, 1), (64, .iastore, 1), (65, .aload_n 0, 1), (66, .getfield 34, 3), (69, .iload_n 1, 1), (70, .iload_n 2, 1), (71, .ifCond .ne (7), 3), (74, .iconst 0, 1), (75, .goto (4), 3), (78, .iload_n 3, 1), (79, .iastore, 1), (80, .iconst 0, 1), (81, .istore 4, 2), (83, .iload 4, 2), (85, .bipush (40), 2), (87, .if_icmp .ge (19), 3), (90, .aload_n 0, 1), (91, .getfield 31, 3), (94, .iload_n 1, 1), (95, .aaload, 1), (96, .iload 4, 2), (98, .iconst 0, 1), (99, .iastore, 1), (100, .iinc 4 (1), 3), (103, .goto (-20), 3), (106, .aload_n 0, 1), (107, .getfield 34, 3), (110, .iload_n 1, 1), (111, .iaload, 1), (112, .ireturn, 1)]
def bm_rc115 : List (Nat × Instr × Nat) := [(0, .iload_n 1, 1), (1, .invokestatic 175, 3), (4, .ifCond .ne (9), 3), (7, .aload_n 0, 1), (8, .iconst 0, 1), (9, .invokevirtual 55, 3), (12, .ireturn, 1), (13, .aload_n 0, 1), (14, .getfield 38, 3), (17, .iload_n 1, 1), (18, .iaload, 1), (19, .ifCond .ne (9), 3), (22, .aload_n 0, 1), (23, .iconst 5, 1), (24, .invokevirtual 55, 3), (27, .ireturn, 1), (28, .iload_n 2, 1), (29, .ifCond .lt (13), 3), (32, .iload_n 2, 1), (33, .aload_n 0, 1), (34, .getfield 34, 3), (37, .iload_n 1, 1), (38, .iaload, 1), (39, .if_icmp .lt (9), 3), (42, .aload_n 0, 1), (43, .iconst 0, 1), (44, .invokevirtual 55, 3), (47, .ireturn, 1), (48, .aload_n 0, 1), (49, .getfield 31, 3), (52, .iload_n 1, 1), (53, .aaload, 1), (54, .iload_n 2, 1), (55, .iload_n 3, 1), (56, .aload_n 0, 1), (57, .getfield 38, 3), (60, .iload_n 1, 1), (61, .iaload, 1), (62, .invokestatic 235, 3), (65, .iastore, 1), (66, .iconst 1, 1), (67, .ireturn, 1)]
def bm_rc116 : List (Nat × Instr × Nat) := [(0, .iload_n 1, 1), (1, .invokestatic 175, 3), (4, .ifCond .eq (10), 3), (7, .iload_n 3, 1), (8, .invokestatic 175, 3), (11, .ifCond .ne (9), 3), (14, .aload_n 0, 1), (15, .iconst 0, 1), (16, .invokevirtual 55, 3), (19, .ireturn, 1), (20, .aload_n 0, 1), (21, .getfield 38, 3), (24, .iload_n 1, 1), (25, .iaload, 1), (26, .ifCond .eq (12), 3), (29, .aload_n 0, 1), (30, .getfield 38, 3), (33, .iload_n 3, 1), (34, .iaload, 1), (35, .ifCond .ne (9), 3), (38, .aload_n 0, 1), (39, .iconst 5, 1), (40, .invokevirtual 55, 3), (43, .ireturn, 1), (44, .aload_n 0, 1), (45, .getfield 38, 3), (48, .iload_n 1, 1), (49, .iaload, 1), (50, .aload_n 0, 1), (51, .getfield 38, 3), (54, .iload_n 3, 1), (55, .iaload, 1), (56, .if_icmp .eq (9), 3), (59, .aload_n 0, 1), (60, .iconst 2, 1), (61, .invokevirtual 55, 3), (64, .ireturn, 1), (65, .aload_n 0, 1), (66, .iload_n 1, 1), (67, .iload_n 2, 1), (68, .iload 5, 2), (70, .invokevirtual 238, 3), (73, .ifCond .eq (15), 3), (76, .aload_n 0, 1), (77, .iload_n 3, 1), (78, .iload 4, 2), (80, .iload 5, 2), (82, .invokevirtual 238, 3), (85, .ifCond .ne (9), 3), (88, .aload_n 0, 1), (89, .iconst 0, 1), (90, .invokevirtual 55, 3), (93, .ireturn, 1), (94, .aload_n 0, 1), (95, .getfield 31, 3), (98, .iload_n 1, 1), (99, .aaload, 1), (100, .iload_n 2, 1), (101, .aload_n 0, 1), (102, .getfield 31, 3), (105, .iload_n 3, 1), (106, .aaload, 1), (107, .iload 4, 2), (109, .iload 5, 2), (111, .invokestatic 242, 3), (114, .iload 5, 2), (116, .ireturn, 1)]
def bm_rc117 : List (Nat × Instr × Nat) := [(0, .iload_n 1, 1), (1, .invokestatic 175, 3), (4, .ifCond .ne (9), 3), (7, .aload_n 0, 1), (8, .iconst 0, 1), (9, .invokevirtual 55, 3), (12, .ireturn, 1), (13, .aload_n 0, 1), (14, .getfield 38, 3), (17, .iload_n 1, 1), (18, .iaload, 1), (19, .ifCond .ne (9), 3), (22, .aload_n 0, 1), (23, .iconst 5, 1), (24, .invokevirtual 55, 3), (27, .ireturn, 1), (28, .iconst 0, 1), (29, .istore_n 2, 1), (30, .iconst 0, 1), (31, .istore_n 3, 1), (32, .iload_n 3, 1), (33, .aload_n 0, 1), (34, .getfield 34, 3), (37, .iload_n 1, 1), (38, .iaload, 1), (39, .if_icmp .ge (54), 3), (42, .iload_n 3, 1), (43, .bipush (12), 2), (45, .if_icmp .ge (48), 3), (48, .aload_n 0, 1), (49, .getfield 31, 3), (52, .iload_n 1, 1), (53, .aaload, 1), (54, .iload_n 3, 1), (55, .iaload, 1), (56, .bipush (99), 2), (58, .invokestatic 51, 3), (61, .ifCond .ne (6), 3), (64, .goto (29), 3), (67, .aload_n 0, 1), (68, .getfield 10, 3), (71, .getfield 59, 3), (74, .iload_n 3, 1), (75, .aload_n 0, 1), (76, .getfield 31, 3), (79, .iload_n 1, 1), (80, .aaload, 1), (81, .iload_n 3, 1), (82, .iaload, 1), (83, .iastore, 1), (84, .iinc 2 (1), 3), (87, .iinc 3 (1), 3), (90, .goto (-58), 3), (93, .iload_n 2, 1), (94, .ireturn, 1)]
def bm_rc118 : List (Nat × Instr × Nat) := [(0, .iload_n 1, 1), (1, .invokestatic 175, 3), (4, .ifCond .ne (9), 3), (7, .aload_n 0, 1), (8, .iconst 0, 1), (9, .invokevirtual 55, 3), (12, .ireturn, 1), (13, .aload_n 0, 1), (14, .getfield 38, 3), (17, .iload_n 1, 1), (18, .iaload, 1), (19, .ifCond .ne (9), 3), (22, .aload_n 0, 1), (23, .iconst 5, 1), (24, .invokevirtual 55, 3), (27, .ireturn, 1), (28, .iconst 0, 1), (29, .istore_n 2, 1), (30, .iload_n 2, 1), (31, .aload_n 0, 1), (32, .getfield 34, 3), (35, .iload_n 1, 1), (36, .iaload, 1), (37, .if_icmp .ge (39), 3), (40, .iload_n 2, 1), (41, .bipush (12), 2), (43, .if_icmp .ge (23), 3), (46, .aload_n 0, 1), (47, .getfield 31, 3), (50, .iload_n 1, 1), (51, .aaload, 1), (52, .iload_n 2, 1), (53, .iaload, 1), (54, .aload_n 0, 1), (55, .getfield 10, 3), (58, .getfield 75, 3), (61, .iload_n 2, 1), (62, .iaload, 1), (63, .if_icmp .eq (7), 3), (66, .iconst 1, 1), (67, .iload_n 2, 1), (68, .iadd, 1), (69, .ireturn, 1), (70, .iinc 2 (1), 3), (73, .goto (-43), 3), (76, .iconst 0, 1), (77, .ireturn, 1)]
def bm_rc119 : List (Nat × Instr × Nat) := [(0, .aload_n 0, 1), (1, .getfield 19, 3), (4, .aload_n 0, 1), (5, .getfield 10, 3), (8, .invokevirtual 222, 3), (11, .aload_n 0, 1), (12, .iconst 1, 1), (13, .putfield 248, 3), (16, .iconst 1, 1), (17, .ireturn, 1)]
def bm_rc120 : List (Nat × Instr × Nat) := [(0, .aload_n 0, 1), (1, .getfield 248, 3), (4, .ifCond .ne (9), 3), (7, .aload_n 0, 1), (8, .iconst 3, 1), (9, .invokevirtual 55, 3), (12, .ireturn, 1), (13, .aload_n 0, 1), (14, .getfield 10, 3), (17, .aload_n 0, 1), (18, .getfield 19, 3), (21, .invokevirtual 222, 3), (24, .aload_n 0, 1), (25, .getfield 10, 3), (28, .getfield 110, 3), (31, .ireturn, 1)]
def bm_rc121 : List (Nat × Instr × Nat) := [(0, .aload_n 0, 1), (1, .getfield 16, 3), (4, .aload_n 0, 1), (5, .getfield 10, 3), (8, .invokevirtual 222, 3), (11, .return_, 1)]
def bm_rc122 : List (Nat × Instr × Nat) := [(0, .aload_n 0, 1), (1, .iload_n 1, 1), (2, .iconst 3, 1), (3, .invokevirtual 56, 3), (6, .aload_n 0, 1), (7, .getfield 9, 3), (10, .iconst 5, 1), (11, .aload_n 0, 1), (12, .iload_n 1, 1), (13, .iconst 1, 1), (14, .invokevirtual 56, 3), (17, .iadd, 1), (18, .iaload, 1), (19, .bipush (10), 2), (21, .idiv, 1), (22, .iadd, 1), (23, .istore_n 2, 1), (24, .iconst 0, 1), (25, .iload_n 2, 1), (26, .iconst 2, 1), (27, .iadd, 1), (28, .aload_n 0, 1), (29, .iload_n 1, 1), (30, .invokevirtual 60, 3), (33, .isub, 1), (34, .invokestatic 63, 3), (37, .istore_n 3, 1), (38, .aload_n 0, 1), (39, .iload_n 1, 1), (40, .iconst 0, 1), (41, .invokevirtual 56, 3), (44, .tableswitch (84) (1) (6) #[40, 50, 54, 56, 68, 44], 40), (84, .iload_n 2, 1), (85, .iconst 2, 1), (86, .idiv, 1), (87, .ireturn, 1), (88, .iload_n 2, 1), (89, .iconst 2, 1), (90, .idiv, 1), (91, .iconst 1, 1), (92, .iadd, 1), (93, .ireturn, 1), (94, .iload_n 2, 1), (95, .iconst 2, 1), (96, .iadd, 1), (97, .ireturn, 1), (98, .iload_n 3, 1), (99, .ireturn, 1), (100, .iload_n 3, 1), (101, .aload_n 0, 1), (102, .getfield 9, 3), (105, .iconst 4, 1), (106, .iaload, 1), (107, .bipush (10), 2), (109, .idiv, 1), (110, .iadd, 1), (111, .ireturn, 1), (112, .iconst 0, 1), (113, .iload_n 2, 1), (114, .aload_n 0, 1), (115, .iload_n 1, 1), (116, .iconst 4, 1), (117, .invokevirtual 56, 3), (120, .bipush (100), 2), (122, .idiv, 1), (123, .isub, 1), (124, .invokestatic 63, 3), (127, .ireturn, 1), (128, .iload_n 2, 1), (129, .ireturn, 1)]
def bm_rc123 : List (Nat × Instr × Nat) := [(0, .iload_n 1, 1), (1, .invokestatic 72, 3), (4, .ifCond .eq (21), 3), (7, .iload_n 2, 1), (8, .invokestatic 76, 3), (11, .ifCond .eq (14), 3), (14, .aload_n 0, 1), (15, .iconst 5, 1), (16, .iload_n 1, 1), (17, .iadd, 1), (18, .iload_n 2, 1), (19, .invokevirtual 79, 3), (22, .goto (8), 3), (25, .aload_n 0, 1), (26, .iconst 0, 1), (27, .invokevirtual 82, 3), (30, .ireturn, 1)]
def bm_rc124 : List (Nat × Instr × Nat) := [(0, .iload_n 1, 1), (1, .invokestatic 72, 3), (4, .ifCond .eq (13), 3), (7, .iload_n 2, 1), (8, .i2l, 1), (9, .lconst 0, 1), (10, .lconst 1, 1), (11, .invokestatic 42, 3), (14, .ifCond .ne (9), 3), (17, .aload_n 0, 1), (18, .iconst 0, 1), (19, .invokevirtual 82, 3), (22, .ireturn, 1), (23, .iload_n 2, 1), (24, .ifCond .ne (14), 3), (27, .aload_n 0, 1), (28, .getfield 9, 3), (31, .iconst 5, 1), (32, .iload_n 1, 1), (33, .iadd, 1), (34, .iaload, 1), (35, .goto (8), 3), (38, .aload_n 0, 1), (39, .iload_n 1, 1), (40, .invokevirtual 85, 3), (43, .ireturn, 1)]
def bm_rc125 : List (Nat × Instr × Nat) := [(0, .iload_n 1, 1), (1, .invokestatic 72, 3), (4, .ifCond .eq (15), 3), (7, .aload_n 0, 1), (8, .getfield 9, 3), (11, .bipush (17), 2), (13, .iload_n 1, 1), (14, .iadd, 1), (15, .iaload, 1), (16, .goto (8), 3), (19, .aload_n 0, 1), (20, .iconst 0, 1), (21, .invokevirtual 82, 3), (24, .ireturn, 1)]
def bm_rc126 : List (Nat × Instr × Nat) := [(0, .iload_n 1, 1), (1, .invokestatic 72, 3), (4, .ifCond .eq (15), 3), (7, .aload_n 0, 1), (8, .bipush (17), 2), (10, .iload_n 1, 1), (11, .iadd, 1), (12, .iconst 0, 1), (13, .invokevirtual 79, 3), (16, .goto (8), 3), (19, .aload_n 0, 1), (20, .iconst 0, 1), (21, .invokevirtual 82, 3), (24, .ireturn, 1)]
def bm_rc127 : List (Nat × Instr × Nat) := [(0, .iload_n 1, 1), (1, .invokestatic 90, 3), (4, .ifCond .eq (10), 3), (7, .iload_n 2, 1), (8, .invokestatic 72, 3), (11, .ifCond .ne (9), 3), (14, .aload_n 0, 1), (15, .iconst 0, 1), (16, .invokevirtual 82, 3), (19, .ireturn, 1), (20, .aload_n 0, 1), (21, .getfield 9, 3), (24, .iconst 2, 1), (25, .iaload, 1), (26, .bipush (8), 2), (28, .if_icmp .ne (11), 3), (31, .aload_n 0, 1), (32, .iconst 1, 1), (33, .invokevirtual 82, 3), (36, .goto (9), 3), (39, .aload_n 0, 1), (40, .iload_n 1, 1), (41, .iload_n 2, 1), (42, .invokevirtual 93, 3), (45, .ireturn, 1)]
def bm_rc128 : List (Nat × Instr × Nat) := [(0, .iload_n 0, 1), (1, .tableswitch (79) (0) (5) #[39, 44, 44, 49, 59, 69], 39), (40, .iload_n 1, 1), (41, .invokestatic 90, 3), (44, .ireturn, 1), (45, .iload_n 1, 1), (46, .invokestatic 72, 3), (49, .ireturn, 1), (50, .iload_n 1, 1), (51, .i2l, 1), (52, .lconst 0, 1), (53, .ldc2_w 113, 3), (56, .invokestatic 42, 3), (59, .ireturn, 1), (60, .iload_n 1, 1), (61, .i2l, 1), (62, .lconst 0, 1), (63, .ldc2_w 115, 3), (66, .invokestatic 42, 3), (69, .ireturn, 1), (70, .iload_n 1, 1), (71, .i2l, 1), (72, .lconst 0, 1), (73, .ldc2_w 117, 3), (76, .invokestatic 42, 3), (79, .ireturn, 1), (80, .iload_n 0, 1), (81, .bipush (6), 2), (83, .if_icmp .ne (17), 3), (86, .iload_n 1, 1), (87, .i2l, 1), (88, .lconst 0, 1), (89, .lconst 1, 1), (90, .invokestatic 42, 3), (93, .ifCond .eq (7), 3), (96, .iconst 1, 1), (97, .goto (4), 3), (100, .iconst 0, 1), (101, .ireturn, 1)]
def bm_rc129 : List (Nat × Instr × Nat) := [(0, .aload_n 0, 1), (1, .iload_n 1, 1), (2, .invokevirtual 107, 3), (5, .istore_n 2, 1), (6, .iload_n 2, 1), (7, .iload_n 2, 1), (8, .aload_n 0, 1), (9, .getfield 9, 3), (12, .iconst 4, 1), (13, .iaload, 1), (14, .imul, 1), (15, .bipush (100), 2), (17, .idiv, 1), (18, .isub, 1), (19, .istore_n 3, 1), (20, .aload_n 0, 1), (21, .iload_n 1, 1), (22, .invokevirtual 110, 3), (25, .istore 4, 2), (27, .iload 4, 2), (29, .ifCond .ge (7), 3), (32, .iconst 0, 1), (33, .goto (6), 3), (36, .iload_n 3, 1), (37, .iconst 3, 1), (38, .idiv, 1), (39, .istore 5, 2), (41, .iload 4, 2), (43, .ifCond .lt (26), 3), (46, .aload_n 0, 1), (47, .aload_n 0, 1), (48, .iload_n 1, 1), (49, .iconst 2, 1), (50, .invokevirtual 56, 3), (53, .aload_n 0, 1), (54, .iload 4, 2), (56, .iconst 2, 1), (57, .invokevirtual 56, 3), (60, .iadd, 1), (61, .bipush (12), 2), (63, .irem, 1), (64, .iload 5, 2), (66, .invokevirtual 135, 3), (69, .aload_n 0, 1), (70, .aload_n 0, 1), (71, .iload_n 1, 1), (72, .iconst 2, 1), (73, .invokevirtual 56, 3), (76, .iload_n 3, 1), (77, .iload 5, 2), (79, .isub, 1), (80, .invokevirtual 135, 3), (83, .aload_n 0, 1), (84, .iload_n 1, 1), (85, .iconst 5, 1), (86, .iconst 0, 1), (87, .invokevirtual 68, 3), (90, .return_, 1)]
def bm_rc130 : List (Nat × Instr × Nat) := [(0, .iload_n 1, 1), (1, .tableswitch (80) (0) (6) #[43, 50, 55, 60, 65, 70, 75], 43), (44, .aload_n 0, 1), (45, .getfield 9, 3), (48, .iconst 0, 1), (49, .iaload, 1), (50, .ireturn, 1), (51, .aload_n 0, 1), (52, .invokevirtual 153, 3), (55, .ireturn, 1), (56, .aload_n 0, 1), (57, .invokevirtual 157, 3), (60, .ireturn, 1), (61, .aload_n 0, 1), (62, .invokevirtual 160, 3), (65, .ireturn, 1), (66, .aload_n 0, 1), (67, .invokevirtual 163, 3), (70, .ireturn, 1), (71, .aload_n 0, 1), (72, .invokevirtual 166, 3), (75, .ireturn, 1), (76, .aload_n 0, 1), (77, .invokevirtual 169, 3), (80, .ireturn, 1), (81, .aload_n 0, 1), (82, .iconst 0, 1), (83, .invokevirtual 82, 3), (86, .ireturn, 1)]
def bm_rc131 : List (Nat × Instr × Nat) := [(0, .iload_n 1, 1), (1, .invokestatic 72, 3), (4, .ifCond .ne (9), 3), (7, .aload_n 0, 1), (8, .iconst 0, 1), (9, .invokevirtual 82, 3), (12, .ireturn, 1), (13, .iconst 0, 1), (14, .istore_n 2, 1), (15, .iload_n 2, 1), (16, .aload_n 0, 1), (17, .getfield 9, 3), (20, .iconst 2, 1), (21, .iaload, 1), (22, .if_icmp .ge (71), 3), (25, .iload_n 2, 1), (26, .iconst 1, 1), (27, .iadd, 1), (28, .istore_n 3, 1), (29, .iload_n 3, 1), (30, .aload_n 0, 1), (31, .getfield 9, 3), (34, .iconst 2, 1), (35, .iaload, 1), (36, .if_icmp .ge (51), 3), (39, .aload_n 0, 1), (40, .iload_n 2, 1), (41, .iconst 2, 1), (42, .invokevirtual 56, 3), (45, .istore 4, 2), (47, .aload_n 0, 1), (48, .iload_n 3, 1), (49, .iconst 2, 1), (50, .invokevirtual 56, 3), (53, .istore 5, 2), (55, .iload 4, 2), (57, .iload 5, 2), (59, .if_icmp .eq (22), 3), (62, .iload 4, 2), (64, .iload 5, 2), (66, .iadd, 1), (67, .bipush (12), 2), (69, .irem, 1), (70, .iload_n 1, 1), (71, .if_icmp .ne (10), 3), (74, .bipush (8), 2), (76, .iload_n 2, 1), (77, .imul, 1), (78, .iload_n 3, 1), (79, .iadd, 1), (80, .ireturn, 1), (81, .iinc 3 (1), 3), (84, .goto (-55), 3), (87, .iinc 2 (1), 3), (90, .goto (-75), 3), (93, .aload_n 0, 1), (94, .iconst 3, 1), (95, .invokevirtual 82, 3), (98, .ireturn, 1)]
def bm_rc132 : List (Nat × Instr × Nat) := [(0, .iload_n 1, 1), (1, .i2l, 1), (2, .lconst 0, 1), (3, .ldc2_w 219, 3), (6, .invokestatic 42, 3), (9, .ifCond .eq (13), 3), (12, .iload_n 2, 1), (13, .i2l, 1), (14, .lconst 0, 1), (15, .lconst 1, 1), (16, .invokestatic 42, 3), (19, .ifCond .ne (10), 3), (22, .aload_n 0, 1), (23, .iconst 0, 1), (24, .invokevirtual 82, 3), (27, .i2l, 1), (28, .lreturn, 1), (29, .lconst 1, 1), (30, .lstore_n 3, 1), (31, .lconst 1, 1), (32, .lstore 5, 2), (34, .iconst 0, 1), (35, .istore 7, 2), (37, .iload 7, 2), (39, .iload_n 1, 1), (40, .if_icmp .ge (35), 3), (43, .lload_n 3, 1), (44, .aload_n 0, 1), (45, .getfield 9, 3), (48, .iconst 2, 1), (49, .iaload, 1), (50, .aload_n 0, 1), (51, .invokevirtual 160, 3), (54, .invokestatic 221, 3), (57, .isub, 1), (58, .i2l, 1), (59, .lmul, 1), (60, .lstore_n 3, 1), (61, .lload 5, 2), (63, .ldc2_w 235, 3), (66, .lmul, 1), (67, .lstore 5, 2), (69, .iinc 7 (1), 3), (72, .goto (-35), 3), (75, .lload_n 3, 1), (76, .lstore 7, 2), (78, .lload 5, 2), (80, .lstore 9, 2), (82, .lload 9, 2), (84, .lconst 0, 1), (85, .lcmp, 1), (86, .ifCond .eq (21), 3), (89, .lload 7, 2), (91, .lload 9, 2), (93, .lrem, 1), (94, .lstore 11, 2), (96, .lload 9, 2), (98, .lstore 7, 2), (100, .lload 11, 2), (102, .lstore 9, 2), (104, .goto (-22), 3), (107, .iload_n 2, 1), (108, .ifCond .ne (7), 3), (111, .lload_n 3, 1), (112, .goto (5), 3), (115, .lload 5, 2), (117, .lload 7, 2), (119, .ldiv, 1), (120, .lreturn, 1)]
def bm_rc133 : List (Nat × Instr × Nat) := [(0, .aload_n 0, 1), (1, .aload_n 0, 1), (2, .getfield 242, 3), (5, .putfield 245, 3), (8, .aload_n 0, 1), (9, .aload_n 0, 1), (10, .getfield 245, 3), (13, .bipush (32), 2), (15, .bipush (32), 2), (17, .invokevirtual 248, 3), (20, .ifCond .eq (16), 3), (23, .aload_n 0, 1), (24, .dup, 1), (25, .getfield 245, 3), (28, .iconst 1, 1), (29, .iadd, 1), (30, .putfield 245, 3), (33, .goto (-25), 3), (36, .aload_n 0, 1), (37, .aload_n 0, 1), (38, .getfield 245, 3), (41, .putfield 242, 3), (44, .aload_n 0, 1), (45, .aload_n 0, 1), (46, .getfield 245, 3), (49, .bipush (97), 2), (51, .bipush (122), 2), (53, .invokevirtual 248, 3), (56, .istore_n 1, 1), (57, .aload_n 0, 1), (58, .aload_n 0, 1), (59, .getfield 245, 3), (62, .bipush (48), 2), (64, .bipush (57), 2), (66, .invokevirtual 248, 3), (69, .istore_n 2, 1), (70, .iload_n 1, 1), (71, .ifCond .eq (18), 3), (74, .aload_n 0, 1), (75, .aload_n 0, 1), (76, .getfield 242, 3), (79, .bipush (97), 2), (81, .bipush (122), 2), (83, .invokevirtual 248, 3), (86, .ifCond .ne (22), 3), (89, .iload_n 2, 1), (90, .ifCond .eq (31), 3), (93, .aload_n 0, 1), (94, .aload_n 0, 1), (95, .getfield 242, 3), (98, .bipush (48), 2), (100, .bipush (57), 2), (102, .invokevirtual 248, 3), (105, .ifCond .eq (16), 3), (108, .aload_n 0, 1), (109, .dup, 1), (110, .getfield 242, 3), (113, .iconst 1, 1), (114, .iadd, 1), (115, .putfield 242, 3), (118, .goto (-48), 3), (121, .aload_n 0, 1), (122, .dup, 1), (123, .getfield 242, 3), (126, .iload_n 1, 1), (127, .ifCond .ne (22), 3), (130, .iload_n 2, 1), (131, .ifCond .ne (18), 3), (134, .aload_n 0, 1), (135, .getfield 245, 3), (138, .aload_n 0, 1), (139, .getfield 239, 3), (142, .if_icmp .ge (7), 3), (145, .iconst 1, 1), (146, .goto (4), 3), (149, .iconst 0, 1), (150, .iadd, 1), (151, .putfield 242, 3), (154, .return_, 1)]
def bm_rc134 : List (Nat × Instr × Nat) := [(0, .iload_n 1, 1), (1, .invokestatic 319, 3), (4, .ifCond .eq (16), 3), (7, .iload_n 2, 1), (8, .iconst (-1), 1), (9, .if_icmp .eq (17), 3), (12, .aload_n 0, 1), (13, .iload_n 2, 1), (14, .invokevirtual 96, 3), (17, .ifCond .ne (9), 3), (20, .aload_n 0, 1), (21, .iconst 0, 1), (22, .invokevirtual 82, 3), (25, .ireturn, 1), (26, .aload_n 0, 1), (27, .getfield 9, 3), (30, .bipush (85), 2), (32, .iload_n 1, 1), (33, .iadd, 1), (34, .iload_n 2, 1), (35, .iastore, 1), (36, .iconst 1, 1), (37, .ireturn, 1)]
def bm_rc135 : List (Nat × Instr × Nat) := [(0, .iload_n 1, 1), (1, .invokestatic 319, 3), (4, .ifCond .eq (10), 3), (7, .iload_n 2, 1), (8, .invokestatic 90, 3), (11, .ifCond .ne (9), 3), (14, .aload_n 0, 1), (15, .iconst 0, 1), (16, .invokevirtual 82, 3), (19, .ireturn, 1), (20, .aload_n 0, 1), (21, .getfield 9, 3), (24, .bipush (85), 2), (26, .iload_n 1, 1), (27, .iadd, 1), (28, .iaload, 1), (29, .istore_n 3, 1), (30, .iload_n 3, 1), (31, .ifCond .ge (9), 3), (34, .aload_n 0, 1), (35, .iconst 5, 1), (36, .invokevirtual 82, 3), (39, .ireturn, 1), (40, .aload_n 0, 1), (41, .iload_n 3, 1), (42, .iconst 0, 1), (43, .invokevirtual 56, 3), (46, .iload_n 2, 1), (47, .invokestatic 322, 3), (50, .ifCond .eq (7), 3), (53, .iload_n 3, 1), (54, .goto (8), 3), (57, .aload_n 0, 1), (58, .iconst 2, 1), (59, .invokevirtual 82, 3), (62, .ireturn, 1)]
def bm_rc136 : List (Nat × Instr × Nat) := [(0, .iload_n 2, 1), (1, .ifCond .eq (21), 3), (4, .iload_n 2, 1), (5, .bipush (8), 2), (7, .if_icmp .eq (15), 3), (10, .iload_n 2, 1), (11, .bipush (16), 2), (13, .if_icmp .eq (9), 3), (16, .iload_n 2, 1), (17, .bipush (32), 2), (19, .if_icmp .ne (7), 3), (22, .iconst 1, 1), (23, .goto (4), 3), (26, .iconst 0, 1), (27, .istore 4, 2), (29, .iload_n 1, 1), (30, .invokestatic 327, 3), (33, .ifCond .eq (8), 3), (36, .iload 4, 2), (38, .ifCond .ne (9), 3), (41, .aload_n 0, 1), (42, .iconst 0, 1), (43, .invokevirtual 82, 3), (46, .ireturn, 1), (47, .iload_n 3, 1), (48, .ifCond .ge (10), 3), (51, .aload_n 0, 1), (52, .bipush (6), 2), (54, .invokevirtual 82, 3), (57, .ireturn, 1), (58, .iload_n 3, 1), (59, .bipush (40), 2), (61, .if_icmp .le (9), 3), (64, .aload_n 0, 1), (65, .iconst 0, 1), (66, .invokevirtual 82, 3), (69, .ireturn, 1), (70, .aload_n 0, 1), (71, .getfield 25, 3), (74, .iload_n 1, 1), (75, .iload_n 2, 1), (76, .iastore, 1), (77, .aload_n 0, 1), (78, .getfield 28, 3), (81, .iload_n 1, 1), (82, .iload_n 2, 1), (83, .ifCond .ne (7), 3), (86, .iconst 0, 1), (87, .goto (4), 3), (90, .iload_n 3, 1), (91, .iastore, 1), (92, .iconst 0, 1), (93, .istore 5, 2), (95, .iload 5, 2), (97, .bipush (40), 2), (99, .if_icmp .ge (22), 3), (102, .aload_n 0, 1), (103, .getfield 31, 3), (106, .bipush (40), 2), (108, .iload_n 1, 1), (109, .imul, 1), (110, .iload 5, 2), (112, .iadd, 1), (113, .iconst 0, 1), (114, .iastore, 1), (115, .iinc 5 (1), 3), (118, .goto (-23), 3), (121, .aload_n 0, 1), (122, .getfield 28, 3), (125, .iload_n 1, 1), (126, .iaload, 1), (127, .ireturn, 1)]
def bm_rc137 : List (Nat × Instr × Nat) := [(0, .iload_n 1, 1), (1, .invokestatic 327, 3), (4, .ifCond .ne (7), 3), (7, .iconst 0, 1), (8, .goto (17), 3), (11, .aload_n 0, 1), (12, .getfield 25, 3), (15, .iload_n 1, 1), (16, .iaload, 1), (17, .ifCond .ne (7), 3), (20, .iconst 5, 1), (21, .goto (4), 3), (24, .iconst (-1), 1), (25, .ireturn, 1)]
def bm_rc138 : List (Nat × Instr × Nat) := [(0, .iload_n 1, 1), (1, .invokestatic 327, 3), (4, .ifCond .eq (10), 3), (7, .iload_n 3, 1), (8, .invokestatic 327, 3), (11, .ifCond .ne (9), 3), (14, .aload_n 0, 1), (15, .iconst 0, 1), (16, .invokevirtual 82, 3), (19, .ireturn, 1), (20, .aload_n 0, 1), (21, .getfield 25, 3), (24, .iload_n 1, 1), (25, .iaload, 1), (26, .ifCond .eq (12), 3), (29, .aload_n 0, 1), (30, .getfield 25, 3), (33, .iload_n 3, 1), (34, .iaload, 1), (35, .ifCond .ne (9), 3), (38, .aload_n 0, 1), (39, .iconst 5, 1), (40, .invokevirtual 82, 3), (43, .ireturn, 1), (44, .aload_n 0, 1), (45, .getfield 25, 3), (48, .iload_n 1, 1), (49, .iaload, 1), (50, .aload_n 0, 1), (51, .getfield 25, 3), (54, .iload_n 3, 1), (55, .iaload, 1), (56, .if_icmp .eq (9), 3), (59, .aload_n 0, 1), (60, .iconst 2, 1), (61, .invokevirtual 82, 3), (64, .ireturn, 1), (65, .iload 5, 2), (67, .ifCond .lt (51), 3), (70, .iload_n 2, 1), (71, .ifCond .lt (47), 3), (74, .iload 4, 2), (76, .ifCond .lt (42), 3), (79, .iload_n 2, 1), (80, .i2l, 1), (81, .iload 5, 2), (83, .i2l, 1), (84, .ladd, 1), (85, .aload_n 0, 1), (86, .getfield 28, 3), (89, .iload_n 1, 1), (90, .iaload, 1), (91, .i2l, 1), (92, .lcmp, 1), (93, .ifCond .gt (25), 3), (96, .iload 4, 2), (98, .i2l, 1), (99, .iload 5, 2), (101, .i2l, 1), (102, .ladd, 1), (103, .aload_n 0, 1), (104, .getfield 28, 3), (107, .iload_n 3, 1), (108, .iaload, 1), (109, .i2l, 1), (110, .lcmp, 1), (111, .ifCond .gt (7), 3), (114, .iconst 1, 1), (115, .goto (4), 3), (118, .iconst 0, 1), (119, .istore 6, 2), (121, .iload 6, 2), (123, .ifCond .ne (9), 3), (126, .aload_n 0, 1), (127, .iconst 0, 1), (128, .invokevirtual 82, 3), (131, .ireturn, 1), (132, .iconst 0, 1), (133, .istore 7, 2), (135, .iload 7, 2), (137, .iload 5, 2), (139, .if_icmp .ge (30), 3), (142, .aload_n 0, 1), (143, .getfield 34, 3), (146, .iload 7, 2), (148, .aload_n 0, 1), (149, .getfield 31, 3), (152, .bipush (40), 2), (154, .iload_n 1, 1), (155, .imul, 1), (156, .iload_n 2, 1), (157, .iadd, 1), (158, .iload 7, 2), (160, .iadd, 1), (161, .iaload, 1), (162, .iastore, 1), (163, .iinc 7 (1), 3), (166, .goto (-31), 3), (169, .iconst 0, 1), (170, .istore 7, 2), (172, .iload 7, 2), (174, .iload 5, 2), (176, .if_icmp .ge (31), 3), (179, .aload_n 0, 1), (180, .getfield 31, 3), (183, .bipush (40), 2), (185, .iload_n 3, 1), (186, .imul, 1), (187, .iload 4, 2), (189, .iadd, 1), (190, .iload 7, 2), (192, .iadd, 1), (193, .aload_n 0, 1), (194, .getfield 34, 3), (197, .iload 7, 2), (199, .iaload, 1), (200, .iastore, 1), (201, .iinc 7 (1), 3), (204, .goto (-32), 3), (207, .iload 5, 2), (209, .ireturn, 1)]
def bm_rc139 : List (Nat × Instr × Nat) := [(0, .iload_n 1, 1), (1, .tableswitch (96) (0) (7) #[47, 54, 61, 69, 74, 79, 84, 91], 47), (48, .aload_n 0, 1), (49, .getfield 9, 3), (52, .iconst 0, 1), (53, .iaload, 1), (54, .ireturn, 1), (55, .aload_n 0, 1), (56, .getfield 9, 3), (59, .iconst 2, 1), (60, .iaload, 1), (61, .ireturn, 1), (62, .aload_n 0, 1), (63, .invokevirtual 160, 3), (66, .invokestatic 221, 3), (69, .ireturn, 1), (70, .aload_n 0, 1), (71, .invokevirtual 157, 3), (74, .ireturn, 1), (75, .aload_n 0, 1), (76, .invokevirtual 153, 3), (79, .ireturn, 1), (80, .aload_n 0, 1), (81, .getfield 239, 3), (84, .ireturn, 1), (85, .aload_n 0, 1), (86, .getfield 9, 3), (89, .iconst 1, 1), (90, .iaload, 1), (91, .ireturn, 1), (92, .aload_n 0, 1), (93, .invokevirtual 333, 3), (96, .ireturn, 1), (97, .aload_n 0, 1), (98, .iconst 0, 1), (99, .invokevirtual 82, 3), (102, .ireturn, 1)]
def bm_rc140 : List (Nat × Instr × Nat) := [(0, .iload_n 1, 1), (1, .aload_n 0, 1), (2, .arraylength, 1), (3, .invokestatic 9, 3), (6, .aload_n 0, 1), (7, .iload_n 1, 1), (8, .baload, 1), (9, .sipush (255), 3), (12, .iand, 1), (13, .i2c, 1), (14, .ireturn, 1)]
def bm_rc141 : List (Nat × Instr × Nat) := [(0, .iconst 0, 1), (1, .istore_n 1, 1), (2, .iconst 0, 1), (3, .istore_n 2, 1), (4, .iload_n 2, 1), (5, .aload_n 0, 1), (6, .getfield 34, 3), (9, .if_icmp .ge (19), 3), (12, .aload_n 0, 1), (13, .iload_n 2, 1), (14, .invokevirtual 81, 3), (17, .ifCond .eq (5), 3), (20, .iconst 1, 1), (21, .istore_n 1, 1), (22, .iinc 2 (1), 3), (25, .goto (-21), 3), (28, .iconst 0, 1), (29, .istore_n 2, 1), (30, .iload_n 2, 1), (31, .bipush (12), 2), (33, .if_icmp .ge (31), 3), (36, .aload_n 0, 1), (37, .getfield 9, 3), (40, .iload_n 2, 1), (41, .bipush (99), 2), (43, .aload_n 0, 1), (44, .getfield 9, 3), (47, .iload_n 2, 1), (48, .iaload, 1), (49, .aload_n 0, 1), (50, .getfield 21, 3), (53, .iadd, 1), (54, .invokestatic 85, 3), (57, .iastore, 1), (58, .iinc 2 (1), 3), (61, .goto (-31), 3), (64, .aload_n 0, 1), (65, .ldc 88, 2), (67, .aload_n 0, 1), (68, .getfield 28, 3), (71, .iconst 1, 1), (72, .iadd, 1), (73, .invokestatic 85, 3), (76, .putfield 28, 3), (79, .aload_n 0, 1), (80, .getfield 28, 3), (83, .bipush (6), 2), (85, .irem, 1), (86, .ifCond .ne (7), 3), (89, .aload_n 0, 1), (90, .invokevirtual 89, 3), (93, .iload_n 1, 1), (94, .ireturn, 1)]
def bm_rc142 : List (Nat × Instr × Nat) := [(0, .aload_n 0, 1), (1, .bipush (11), 2), (3, .invokevirtual 110, 3), (6, .ifCond .ne (5), 3), (9, .iconst 0, 1), (10, .ireturn, 1), (11, .aload_n 0, 1), (12, .getfield 28, 3), (15, .istore_n 2, 1), (16, .aload_n 0, 1), (17, .bipush (99), 2), (19, .invokevirtual 110, 3), (22, .ifCond .ne (5), 3), (25, .iconst 0, 1), (26, .ireturn, 1), (27, .aload_n 1, 1), (28, .getfield 113, 3), (31, .iload_n 2, 1), (32, .aload_n 0, 1), (33, .getfield 28, 3), (36, .iastore, 1), (37, .aload_n 0, 1), (38, .invokevirtual 34, 3), (41, .iconst 1, 1), (42, .ireturn, 1)]
def bm_rc143 : List (Nat × Instr × Nat) := [(0, .aload_n 0, 1), (1, .bipush (20), 2), (3, .invokevirtual 110, 3), (6, .ifCond .ne (5), 3), (9, .iconst 0, 1), (10, .ireturn, 1), (11, .aload_n 1, 1), (12, .aload_n 0, 1), (13, .getfield 28, 3), (16, .putfield 115, 3), (19, .aload_n 0, 1), (20, .invokevirtual 34, 3), (23, .iconst 1, 1), (24, .ireturn, 1)]
def bm_rc144 : List (Nat × Instr × Nat) := [(0, .aload_n 0, 1), (1, .bipush (99), 2), (3, .invokevirtual 110, 3), (6, .ifCond .ne (5), 3), (9, .iconst 0, 1), (10, .ireturn, 1), (11, .aload_n 1, 1), (12, .aload_n 0, 1), (13, .getfield 28, 3), (16, .putfield 117, 3), (19, .aload_n 0, 1), (20, .invokevirtual 34, 3), (23, .iconst 1, 1), (24, .ireturn, 1)]
def bm_rc145 : List (Nat × Instr × Nat) := [(0, .aload_n 0, 1), (1, .iload_n 1, 1), (2, .invokevirtual 96, 3), (5, .ifCond .eq (15), 3), (8, .iload_n 2, 1), (9, .i2l, 1), (10, .lconst 0, 1), (11, .ldc2_w 99, 3), (14, .invokestatic 42, 3), (17, .ifCond .ne (9), 3), (20, .aload_n 0, 1), (21, .iconst 0, 1), (22, .invokevirtual 82, 3), (25, .ireturn, 1), (26, .iload_n 2, 1), (27, .tableswitch (53) (7) (10) #[29, 35, 41, 47], 29), (56, .aload_n 0, 1), (57, .iload_n 1, 1), (58, .invokevirtual 101, 3), (61, .ireturn, 1), (62, .aload_n 0, 1), (63, .iload_n 1, 1), (64, .invokevirtual 104, 3), (67, .ireturn, 1), (68, .aload_n 0, 1), (69, .iload_n 1, 1), (70, .invokevirtual 107, 3), (73, .ireturn, 1), (74, .aload_n 0, 1), (75, .iload_n 1, 1), (76, .invokevirtual 110, 3), (79, .ireturn, 1), (80, .aload_n 0, 1), (81, .iload_n 1, 1), (82, .iload_n 2, 1), (83, .invokevirtual 56, 3), (86, .ireturn, 1)]
def bm_rc146 : List (Nat × Instr × Nat) := [(0, .aload_n 0, 1), (1, .iload_n 1, 1), (2, .invokevirtual 96, 3), (5, .ifCond .eq (28), 3), (8, .iload_n 2, 1), (9, .iload_n 3, 1), (10, .invokestatic 119, 3), (13, .ifCond .eq (20), 3), (16, .aload_n 0, 1), (17, .bipush (29), 2), (19, .bipush (7), 2), (21, .iload_n 1, 1), (22, .imul, 1), (23, .iadd, 1), (24, .iload_n 2, 1), (25, .iadd, 1), (26, .iload_n 3, 1), (27, .invokevirtual 79, 3), (30, .goto (8), 3), (33, .aload_n 0, 1), (34, .iconst 0, 1), (35, .invokevirtual 82, 3), (38, .ireturn, 1)]
def bm_rc147 : List (Nat × Instr × Nat) := [(0, .aload_n 0, 1), (1, .iload_n 1, 1), (2, .bipush (6), 2), (4, .invokevirtual 56, 3), (7, .ifCond .ne (27), 3), (10, .aload_n 0, 1), (11, .iload_n 1, 1), (12, .iconst 5, 1), (13, .sipush (9999), 3), (16, .aload_n 0, 1), (17, .iload_n 1, 1), (18, .iconst 5, 1), (19, .invokevirtual 56, 3), (22, .aload_n 0, 1), (23, .iload_n 1, 1), (24, .invokevirtual 101, 3), (27, .iadd, 1), (28, .invokestatic 123, 3), (31, .invokevirtual 68, 3), (34, .iconst 5, 1), (35, .aload_n 0, 1), (36, .iload_n 1, 1), (37, .iconst 1, 1), (38, .invokevirtual 56, 3), (41, .iadd, 1), (42, .istore_n 2, 1), (43, .aload_n 0, 1), (44, .iload_n 1, 1), (45, .invokevirtual 104, 3), (48, .istore_n 3, 1), (49, .aload_n 0, 1), (50, .getfield 9, 3), (53, .iload_n 2, 1), (54, .iaload, 1), (55, .iload_n 3, 1), (56, .if_icmp .ge (7), 3), (59, .iconst 1, 1), (60, .goto (4), 3), (63, .iconst 0, 1), (64, .istore 4, 2), (66, .aload_n 0, 1), (67, .getfield 9, 3), (70, .iload_n 2, 1), (71, .iconst 0, 1), (72, .aload_n 0, 1), (73, .getfield 9, 3), (76, .iload_n 2, 1), (77, .iaload, 1), (78, .iload_n 3, 1), (79, .isub, 1), (80, .invokestatic 63, 3), (83, .iastore, 1), (84, .iload 4, 2), (86, .ifCond .eq (13), 3), (89, .aload_n 0, 1), (90, .iload_n 1, 1), (91, .invokevirtual 126, 3), (94, .aload_n 0, 1), (95, .iconst 1, 1), (96, .putfield 130, 3), (99, .aload_n 0, 1), (100, .iload_n 1, 1), (101, .iconst 4, 1), (102, .sipush (999), 3), (105, .aload_n 0, 1), (106, .iload_n 1, 1), (107, .iconst 4, 1), (108, .invokevirtual 56, 3), (111, .iconst 1, 1), (112, .iadd, 1), (113, .invokestatic 123, 3), (116, .invokevirtual 68, 3), (119, .return_, 1)]
def bm_rc148 : List (Nat × Instr × Nat) := [(0, .aload_n 0, 1), (1, .aload_n 0, 1), (2, .getfield 251, 3), (5, .ifCond .ne (7), 3), (8, .iload_n 1, 1), (9, .ifCond .ne (7), 3), (12, .iconst 1, 1), (13, .goto (4), 3), (16, .iconst 0, 1), (17, .putfield 251, 3), (20, .aload_n 0, 1), (21, .getfield 251, 3), (24, .ifCond .ne (7), 3), (27, .aload_n 0, 1), (28, .invokevirtual 263, 3), (31, .return_, 1)]
def bm_rc149 : List (Nat × Instr × Nat) := [(0, .aload_n 0, 1), (1, .iload_n 1, 1), (2, .invokevirtual 224, 3), (5, .istore 4, 2), (7, .iload 4, 2), (9, .ifCond .lt (10), 3), (12, .aload_n 0, 1), (13, .iload 4, 2), (15, .invokevirtual 82, 3), (18, .ireturn, 1), (19, .iload_n 2, 1), (20, .i2l, 1), (21, .lconst 0, 1), (22, .aload_n 0, 1), (23, .getfield 28, 3), (26, .iload_n 1, 1), (27, .iaload, 1), (28, .iconst 1, 1), (29, .isub, 1), (30, .i2l, 1), (31, .invokestatic 42, 3), (34, .ifCond .ne (9), 3), (37, .aload_n 0, 1), (38, .iconst 0, 1), (39, .invokevirtual 82, 3), (42, .ireturn, 1), (43, .aload_n 0, 1), (44, .getfield 31, 3), (47, .bipush (40), 2), (49, .iload_n 1, 1), (50, .imul, 1), (51, .iload_n 2, 1), (52, .iadd, 1), (53, .aload_n 0, 1), (54, .getfield 25, 3), (57, .iload_n 1, 1), (58, .iaload, 1), (59, .bipush (8), 2), (61, .if_icmp .ne (8), 3), (64, .iload_n 3, 1), (65, .i2b, 1), (66, .goto (20), 3), (69, .aload_n 0, 1), (70, .getfield 25, 3), (73, .iload_n 1, 1), (74, .iaload, 1), (75, .bipush (16), 2), (77, .if_icmp .ne (8), 3), (80, .iload_n 3, 1), (81, .i2s, 1), (82, .goto (4), 3), (85, .iload_n 3, 1), (86, .iastore, 1), (87, .iconst 1, 1), (88, .ireturn, 1)]
def bm_rc150 : List (Nat × Instr × Nat) := [(0, .aload_n 0, 1), (1, .iload_n 1, 1), (2, .invokevirtual 224, 3), (5, .istore_n 2, 1), (6, .iload_n 2, 1), (7, .ifCond .lt (9), 3), (10, .aload_n 0, 1), (11, .iload_n 2, 1), (12, .invokevirtual 82, 3), (15, .ireturn, 1), (16, .iconst 0, 1), (17, .istore_n 3, 1), (18, .iload_n 3, 1), (19, .aload_n 0, 1), (20, .getfield 28, 3), (23, .iload_n 1, 1), (24, .iaload, 1), (25, .if_icmp .ge (51), 3), (28, .iload_n 3, 1), (29, .bipush (12), 2), (31, .if_icmp .ge (45), 3), (34, .aload_n 0, 1), (35, .getfield 31, 3), (38, .bipush (40), 2), (40, .iload_n 1, 1), (41, .imul, 1), (42, .iload_n 3, 1), (43, .iadd, 1), (44, .iaload, 1), (45, .invokestatic 76, 3), (48, .ifCond .eq (28), 3), (51, .aload_n 0, 1), (52, .getfield 9, 3), (55, .iconst 5, 1), (56, .iload_n 3, 1), (57, .iadd, 1), (58, .aload_n 0, 1), (59, .getfield 31, 3), (62, .bipush (40), 2), (64, .iload_n 1, 1), (65, .imul, 1), (66, .iload_n 3, 1), (67, .iadd, 1), (68, .iaload, 1), (69, .iastore, 1), (70, .iinc 3 (1), 3), (73, .goto (-55), 3), (76, .iload_n 3, 1), (77, .ireturn, 1)]
def bm_rc151 : List (Nat × Instr × Nat) := [(0, .aload_n 0, 1), (1, .iload_n 1, 1), (2, .invokevirtual 224, 3), (5, .istore_n 2, 1), (6, .iload_n 2, 1), (7, .ifCond .lt (9), 3), (10, .aload_n 0, 1), (11, .iload_n 2, 1), (12, .invokevirtual 82, 3), (15, .ireturn, 1), (16, .iconst 0, 1), (17, .istore_n 3, 1), (18, .iload_n 3, 1), (19, .aload_n 0, 1), (20, .getfield 28, 3), (23, .iload_n 1, 1), (24, .iaload, 1), (25, .if_icmp .ge (38), 3), (28, .iload_n 3, 1), (29, .bipush (12), 2), (31, .if_icmp .ge (32), 3), (34, .aload_n 0, 1), (35, .getfield 9, 3), (38, .bipush (17), 2), (40, .iload_n 3, 1), (41, .iadd, 1), (42, .iaload, 1), (43, .aload_n 0, 1), (44, .getfield 31, 3), (47, .bipush (40), 2), (49, .iload_n 1, 1), (50, .imul, 1), (51, .iload_n 3, 1), (52, .iadd, 1), (53, .iaload, 1), (54, .if_icmp .ne (9), 3), (57, .iinc 3 (1), 3), (60, .goto (-42), 3), (63, .iload_n 3, 1), (64, .aload_n 0, 1), (65, .getfield 28, 3), (68, .iload_n 1, 1), (69, .iaload, 1), (70, .if_icmp .ne (7), 3), (73, .iconst 0, 1), (74, .goto (6), 3), (77, .iload_n 3, 1), (78, .iconst 1, 1), (79, .iadd, 1), (80, .ireturn, 1)]
def bm_rc152 : List (Nat × Instr × Nat) := [(0, .aload_n 0, 1), (1, .invokevirtual 492, 3), (4, .ifCond .eq (12), 3), (7, .aload_n 0, 1), (8, .getfield 9, 3), (11, .iload_n 1, 1), (12, .invokestatic 495, 3), (15, .ireturn, 1), (16, .aload_n 0, 1), (17, .getfield 9, 3), (20, .iload_n 1, 1), (21, .invokestatic 498, 3), (24, .ireturn, 1)]
def bm_rc153 : List (Nat × Instr × Nat) := [(0, .iconst 0, 1), (1, .istore_n 2, 1), (2, .iload_n 2, 1), (3, .iload_n 1, 1), (4, .if_icmp .ge (14), 3), (7, .aload_n 0, 1), (8, .invokevirtual 77, 3), (11, .pop, 1), (12, .iinc 2 (1), 3), (15, .goto (-13), 3), (18, .return_, 1)]
def bm_rc154 : List (Nat × Instr × Nat) := [(0, .aload_n 0, 1), (1, .getfield 19, 3), (4, .iconst 1, 1), (5, .if_icmp .ne (19), 3), (8, .aload_n 0, 1), (9, .getfield 25, 3), (12, .aload_n 0, 1), (13, .getfield 22, 3), (16, .isub, 1), (17, .aload_n 1, 1), (18, .invokevirtual 133, 3), (21, .if_icmp .eq (5), 3), (24, .iconst 0, 1), (25, .ireturn, 1), (26, .iconst 0, 1), (27, .istore_n 2, 1), (28, .iload_n 2, 1), (29, .aload_n 1, 1), (30, .invokevirtual 133, 3), (33, .if_icmp .ge (30), 3), (36, .aload_n 0, 1), (37, .getfield 9, 3), (40, .aload_n 0, 1), (41, .getfield 22, 3), (44, .iload_n 2, 1), (45, .iadd, 1), (46, .iaload, 1), (47, .aload_n 1, 1), (48, .iload_n 2, 1), (49, .invokevirtual 137, 3), (52, .if_icmp .eq (5), 3), (55, .iconst 0, 1), (56, .ireturn, 1), (57, .iinc 2 (1), 3), (60, .goto (-32), 3), (63, .iconst 1, 1), (64, .ireturn, 1)]
def bm_rc155 : List (Nat × Instr × Nat) := [(0, .iload_n 1, 1), (1, .invokestatic 72, 3), (4, .ifCond .eq (12), 3), (7, .iload_n 2, 1), (8, .ldc 113, 2), (10, .invokestatic 51, 3), (13, .ifCond .ne (9), 3), (16, .aload_n 0, 1), (17, .iconst 0, 1), (18, .invokevirtual 55, 3), (21, .ireturn, 1), (22, .aload_n 0, 1), (23, .invokevirtual 137, 3), (26, .iconst 0, 1), (27, .istore_n 3, 1), (28, .iload_n 3, 1), (29, .sipush (200), 3), (32, .if_icmp .gt (32), 3), (35, .aload_n 0, 1), (36, .getfield 16, 3), (39, .getfield 75, 3), (42, .iload_n 1, 1), (43, .iaload, 1), (44, .iload_n 2, 1), (45, .if_icmp .lt (5), 3), (48, .iload_n 3, 1), (49, .ireturn, 1), (50, .aload_n 0, 1), (51, .getfield 16, 3), (54, .invokevirtual 140, 3), (57, .pop, 1), (58, .iinc 3 (1), 3), (61, .goto (-33), 3), (64, .aload_n 0, 1), (65, .iconst 3, 1), (66, .invokevirtual 55, 3), (69, .ireturn, 1)]
def bm_rc156 : List (Nat × Instr × Nat) := [(0, .aload_n 0, 1), (1, .iload_n 1, 1), (2, .invokevirtual 88, 3), (5, .ifCond .eq (16), 3), (8, .aload_n 0, 1), (9, .iload_n 2, 1), (10, .invokevirtual 88, 3), (13, .ifCond .eq (8), 3), (16, .iload_n 1, 1), (17, .iload_n 2, 1), (18, .if_icmp .ne (9), 3), (21, .aload_n 0, 1), (22, .iconst 0, 1), (23, .invokevirtual 55, 3), (26, .ireturn, 1), (27, .aload_n 0, 1), (28, .invokevirtual 137, 3), (31, .iconst 0, 1), (32, .istore_n 3, 1), (33, .iload_n 3, 1), (34, .sipush (200), 3), (37, .if_icmp .gt (40), 3), (40, .aload_n 0, 1), (41, .getfield 16, 3), (44, .getfield 144, 3), (47, .iload_n 1, 1), (48, .iaload, 1), (49, .aload_n 0, 1), (50, .getfield 16, 3), (53, .getfield 144, 3), (56, .iload_n 2, 1), (57, .iaload, 1), (58, .if_icmp .ne (5), 3), (61, .iload_n 3, 1), (62, .ireturn, 1), (63, .aload_n 0, 1), (64, .getfield 16, 3), (67, .invokevirtual 140, 3), (70, .pop, 1), (71, .iinc 3 (1), 3), (74, .goto (-41), 3), (77, .aload_n 0, 1), (78, .iconst 3, 1), (79, .invokevirtual 55, 3), (82, .ireturn, 1)]
def bm_rc157 : List (Nat × Instr × Nat) := [(0, .aload_n 0, 1), (1, .invokevirtual 137, 3), (4, .iconst 0, 1), (5, .istore_n 1, 1), (6, .iload_n 1, 1), (7, .bipush (100), 2), (9, .if_icmp .gt (29), 3), (12, .aload_n 0, 1), (13, .getfield 16, 3), (16, .invokevirtual 147, 3), (19, .ifCond .eq (5), 3), (22, .iload_n 1, 1), (23, .ireturn, 1), (24, .aload_n 0, 1), (25, .getfield 16, 3), (28, .invokevirtual 140, 3), (31, .pop, 1), (32, .iinc 1 (1), 3), (35, .goto (-29), 3), (38, .aload_n 0, 1), (39, .iconst 3, 1), (40, .invokevirtual 55, 3), (43, .ireturn, 1)]
def bm_rc158 : List (Nat × Instr × Nat) := [(0, .iload_n 1, 1), (1, .iconst 1, 1), (2, .if_icmp .lt (9), 3), (5, .iload_n 1, 1), (6, .bipush (20), 2), (8, .if_icmp .le (9), 3), (11, .aload_n 0, 1), (12, .iconst 0, 1), (13, .invokevirtual 55, 3), (16, .ireturn, 1), (17, .aload_n 0, 1), (18, .getfield 10, 3), (21, .getfield 110, 3), (24, .iload_n 1, 1), (25, .iadd, 1), (26, .ldc 113, 2), (28, .if_icmp .le (9), 3), (31, .aload_n 0, 1), (32, .iconst 4, 1), (33, .invokevirtual 55, 3), (36, .ireturn, 1), (37, .iconst 0, 1), (38, .istore_n 2, 1), (39, .iload_n 2, 1), (40, .iload_n 1, 1), (41, .if_icmp .ge (64), 3), (44, .aload_n 0, 1), (45, .getfield 10, 3), (48, .aload_n 0, 1), (49, .getfield 10, 3), (52, .invokevirtual 191, 3), (55, .bipush (100), 2), (57, .irem, 1), (58, .putfield 69, 3), (61, .aload_n 0, 1), (62, .getfield 10, 3), (65, .invokevirtual 191, 3), (68, .bipush (8), 2), (70, .irem, 1), (71, .istore_n 3, 1), (72, .iload_n 3, 1), (73, .aload_n 0, 1), (74, .getfield 10, 3), (77, .getfield 81, 3), (80, .if_icmp .ge (11), 3), (83, .aload_n 0, 1), (84, .getfield 10, 3), (87, .iload_n 3, 1), (88, .invokevirtual 194, 3), (91, .aload_n 0, 1), (92, .getfield 10, 3), (95, .invokevirtual 140, 3), (98, .pop, 1), (99, .iinc 2 (1), 3), (102, .goto (-63), 3), (105, .aload_n 0, 1), (106, .getfield 10, 3), (109, .invokevirtual 118, 3), (112, .ireturn, 1)]
def bm_rc159 : List (Nat × Instr × Nat) := [(0, .aload_n 0, 1), (1, .invokevirtual 137, 3), (4, .aload_n 0, 1), (5, .getfield 16, 3), (8, .iload_n 1, 1), (9, .putfield 65, 3), (12, .iconst 0, 1), (13, .istore_n 3, 1), (14, .iload_n 3, 1), (15, .iload_n 2, 1), (16, .if_icmp .ge (21), 3), (19, .aload_n 0, 1), (20, .getfield 16, 3), (23, .invokevirtual 140, 3), (26, .ifCond .eq (5), 3), (29, .iconst 0, 1), (30, .ireturn, 1), (31, .iinc 3 (1), 3), (34, .goto (-20), 3), (37, .iconst 1, 1), (38, .ireturn, 1)]
def bm_rc160 : List (Nat × Instr × Nat) := [(0, .aload_n 0, 1), (1, .iconst 0, 1), (2, .putfield 130, 3), (5, .iconst 0, 1), (6, .istore_n 1, 1), (7, .iload_n 1, 1), (8, .aload_n 0, 1), (9, .getfield 9, 3), (12, .iconst 2, 1), (13, .iaload, 1), (14, .if_icmp .ge (14), 3), (17, .aload_n 0, 1), (18, .iload_n 1, 1), (19, .invokevirtual 139, 3), (22, .iinc 1 (1), 3), (25, .goto (-18), 3), (28, .iconst 0, 1), (29, .istore_n 1, 1), (30, .iload_n 1, 1), (31, .bipush (12), 2), (33, .if_icmp .ge (37), 3), (36, .aload_n 0, 1), (37, .getfield 9, 3), (40, .iconst 5, 1), (41, .iload_n 1, 1), (42, .iadd, 1), (43, .bipush (99), 2), (45, .aload_n 0, 1), (46, .getfield 9, 3), (49, .iconst 5, 1), (50, .iload_n 1, 1), (51, .iadd, 1), (52, .iaload, 1), (53, .aload_n 0, 1), (54, .getfield 9, 3), (57, .iconst 3, 1), (58, .iaload, 1), (59, .iadd, 1), (60, .invokestatic 123, 3), (63, .iastore, 1), (64, .iinc 1 (1), 3), (67, .goto (-37), 3), (70, .aload_n 0, 1), (71, .getfield 9, 3), (74, .iconst 0, 1), (75, .dup2, 1), (76, .iaload, 1), (77, .iconst 1, 1), (78, .iadd, 1), (79, .iastore, 1), (80, .iconst 0, 1), (81, .istore_n 1, 1), (82, .iload_n 1, 1), (83, .aload_n 0, 1), (84, .getfield 9, 3), (87, .iconst 2, 1), (88, .iaload, 1), (89, .if_icmp .ge (26), 3), (92, .aload_n 0, 1), (93, .getfield 9, 3), (96, .iconst 0, 1), (97, .iaload, 1), (98, .bipush (6), 2), (100, .irem, 1), (101, .ifCond .ne (14), 3), (104, .aload_n 0, 1), (105, .iload_n 1, 1), (106, .invokevirtual 142, 3), (109, .iinc 1 (1), 3), (112, .goto (-30), 3), (115, .return_, 1)]
def bm_rc161 : List (Nat × Instr × Nat) := [(0, .aload_n 0, 1), (1, .getfield 251, 3), (4, .ifCond .ne (23), 3), (7, .aload_n 0, 1), (8, .getfield 242, 3), (11, .aload_n 0, 1), (12, .getfield 245, 3), (15, .isub, 1), (16, .aload_n 1, 1), (17, .invokevirtual 254, 3), (20, .if_icmp .ne (7), 3), (23, .iconst 1, 1), (24, .goto (4), 3), (27, .iconst 0, 1), (28, .istore_n 2, 1), (29, .iconst 0, 1), (30, .istore_n 3, 1), (31, .iload_n 2, 1), (32, .ifCond .eq (42), 3), (35, .iload_n 3, 1), (36, .aload_n 1, 1), (37, .invokevirtual 254, 3), (40, .if_icmp .ge (34), 3), (43, .aload_n 0, 1), (44, .getfield 22, 3), (47, .aload_n 0, 1), (48, .getfield 245, 3), (51, .iload_n 3, 1), (52, .iadd, 1), (53, .iaload, 1), (54, .aload_n 1, 1), (55, .iload_n 3, 1), (56, .invokevirtual 259, 3), (59, .if_icmp .ne (7), 3), (62, .iconst 1, 1), (63, .goto (4), 3), (66, .iconst 0, 1), (67, .istore_n 2, 1), (68, .iinc 3 (1), 3), (71, .goto (-40), 3), (74, .iload_n 2, 1), (75, .ireturn, 1)]
def bm_rc162 : List (Nat × Instr × Nat) := [(0, .aload_n 0, 1), (1, .aload_n 0, 1), (2, .getfield 245, 3), (5, .bipush (48), 2), (7, .bipush (57), 2), (9, .invokevirtual 248, 3), (12, .ifCond .eq (7), 3), (15, .iconst 0, 1), (16, .goto (4), 3), (19, .iconst (-1), 1), (20, .istore_n 3, 1), (21, .aload_n 0, 1), (22, .getfield 245, 3), (25, .istore 4, 2), (27, .iload 4, 2), (29, .aload_n 0, 1), (30, .getfield 242, 3), (33, .if_icmp .ge (40), 3), (36, .iload_n 3, 1), (37, .ifCond .lt (36), 3), (40, .iload_n 3, 1), (41, .sipush (999), 3), (44, .if_icmp .le (7), 3), (47, .iload_n 3, 1), (48, .goto (18), 3), (51, .bipush (10), 2), (53, .iload_n 3, 1), (54, .imul, 1), (55, .aload_n 0, 1), (56, .getfield 22, 3), (59, .iload 4, 2), (61, .iaload, 1), (62, .iadd, 1), (63, .bipush (48), 2), (65, .isub, 1), (66, .istore_n 3, 1), (67, .iinc 4 (1), 3), (70, .goto (-43), 3), (73, .aload_n 0, 1), (74, .iload_n 3, 1), (75, .i2l, 1), (76, .iload_n 1, 1), (77, .i2l, 1), (78, .iload_n 2, 1), (79, .i2l, 1), (80, .invokestatic 42, 3), (83, .invokevirtual 270, 3), (86, .iload_n 3, 1), (87, .ireturn, 1)]
def bm_rc163 : List (Nat × Instr × Nat) := [(0, .aload_n 0, 1), (1, .aload_n 1, 1), (2, .invokevirtual 64, 3), (5, .ifCond .ne (5), 3), (8, .iconst 1, 1), (9, .ireturn, 1), (10, .aload_n 0, 1), (11, .iload 4, 2), (13, .invokevirtual 110, 3), (16, .ifCond .ne (5), 3), (19, .iconst 0, 1), (20, .ireturn, 1), (21, .aload_n 2, 1), (22, .iload_n 3, 1), (23, .aload_n 0, 1), (24, .getfield 28, 3), (27, .iastore, 1), (28, .aload_n 0, 1), (29, .invokevirtual 34, 3), (32, .iconst 1, 1), (33, .ireturn, 1)]
def bm_rc164 : List (Nat × Instr × Nat) := [(0, .aload_n 0, 1), (1, .ldc 119, 2), (3, .invokevirtual 64, 3), (6, .ifCond .eq (5), 3), (9, .iconst 0, 1), (10, .ireturn, 1), (11, .aload_n 0, 1), (12, .ldc 121, 2), (14, .invokevirtual 64, 3), (17, .ifCond .eq (5), 3), (20, .iconst 1, 1), (21, .ireturn, 1), (22, .aload_n 0, 1), (23, .ldc 123, 2), (25, .invokevirtual 64, 3), (28, .ifCond .eq (5), 3), (31, .iconst 2, 1), (32, .ireturn, 1), (33, .aload_n 0, 1), (34, .ldc 125, 2), (36, .invokevirtual 64, 3), (39, .ifCond .eq (5), 3), (42, .iconst 3, 1), (43, .ireturn, 1), (44, .aload_n 0, 1), (45, .ldc 127, 2), (47, .invokevirtual 64, 3), (50, .ifCond .eq (5), 3), (53, .iconst 4, 1), (54, .ireturn, 1), (55, .aload_n 0, 1), (56, .ldc 129, 2), (58, .invokevirtual 64, 3), (61, .ifCond .eq (5), 3), (64, .iconst 5, 1), (65, .ireturn, 1), (66, .aload_n 0, 1), (67, .ldc 131, 2), (69, .invokevirtual 64, 3), (72, .ifCond .eq (8), 3), (75, .bipush (6), 2), (77, .goto (4), 3), (80, .iconst (-1), 1), (81, .ireturn, 1)]
def bm_rc165 : List (Nat × Instr × Nat) := [(0, .iload_n 1, 1), (1, .iconst 1, 1), (2, .if_icmp .lt (9), 3), (5, .iload_n 1, 1), (6, .bipush (60), 2), (8, .if_icmp .le (9), 3), (11, .aload_n 0, 1), (12, .iconst 0, 1), (13, .invokevirtual 55, 3), (16, .ireturn, 1), (17, .aload_n 0, 1), (18, .getfield 10, 3), (21, .getfield 110, 3), (24, .iload_n 1, 1), (25, .iadd, 1), (26, .ldc 113, 2), (28, .if_icmp .le (9), 3), (31, .aload_n 0, 1), (32, .iconst 4, 1), (33, .invokevirtual 55, 3), (36, .ireturn, 1), (37, .aload_n 0, 1), (38, .getfield 10, 3), (41, .iload_n 1, 1), (42, .invokevirtual 114, 3), (45, .aload_n 0, 1), (46, .getfield 10, 3), (49, .invokevirtual 118, 3), (52, .ireturn, 1)]
def bm_rc166 : List (Nat × Instr × Nat) := [(0, .iload_n 1, 1), (1, .invokestatic 72, 3), (4, .ifCond .eq (12), 3), (7, .iload_n 2, 1), (8, .bipush (100), 2), (10, .invokestatic 51, 3), (13, .ifCond .ne (9), 3), (16, .aload_n 0, 1), (17, .iconst 0, 1), (18, .invokevirtual 55, 3), (21, .ireturn, 1), (22, .aload_n 0, 1), (23, .invokevirtual 137, 3), (26, .aload_n 0, 1), (27, .getfield 16, 3), (30, .iload_n 2, 1), (31, .invokevirtual 114, 3), (34, .aload_n 0, 1), (35, .getfield 16, 3), (38, .getfield 75, 3), (41, .iload_n 1, 1), (42, .iaload, 1), (43, .ireturn, 1)]
def bm_rc167 : List (Nat × Instr × Nat) := [(0, .aload_n 0, 1), (1, .iload_n 1, 1), (2, .invokevirtual 88, 3), (5, .ifCond .eq (22), 3), (8, .iload_n 2, 1), (9, .iconst 1, 1), (10, .if_icmp .eq (8), 3), (13, .iload_n 2, 1), (14, .iconst 5, 1), (15, .if_icmp .ne (12), 3), (18, .iload_n 3, 1), (19, .bipush (100), 2), (21, .invokestatic 51, 3), (24, .ifCond .ne (9), 3), (27, .aload_n 0, 1), (28, .iconst 0, 1), (29, .invokevirtual 55, 3), (32, .ireturn, 1), (33, .aload_n 0, 1), (34, .invokevirtual 137, 3), (37, .aload_n 0, 1), (38, .getfield 16, 3), (41, .iload_n 3, 1), (42, .invokevirtual 114, 3), (45, .aload_n 0, 1), (46, .getfield 16, 3), (49, .iload_n 2, 1), (50, .invokevirtual 103, 3), (53, .iload_n 1, 1), (54, .iaload, 1), (55, .ireturn, 1)]
def bm_rc168 : List (Nat × Instr × Nat) := [(0, .aload_n 0, 1), (1, .iload_n 1, 1), (2, .invokevirtual 88, 3), (5, .ifCond .eq (19), 3), (8, .iload_n 2, 1), (9, .invokestatic 72, 3), (12, .ifCond .eq (12), 3), (15, .iload_n 3, 1), (16, .bipush (40), 2), (18, .invokestatic 51, 3), (21, .ifCond .ne (9), 3), (24, .aload_n 0, 1), (25, .iconst 0, 1), (26, .invokevirtual 55, 3), (29, .ireturn, 1), (30, .iconst 0, 1), (31, .istore 4, 2), (33, .iconst (-1), 1), (34, .istore 5, 2), (36, .iconst 0, 1), (37, .istore 6, 2), (39, .iload 6, 2), (41, .bipush (12), 2), (43, .if_icmp .ge (61), 3), (46, .aload_n 0, 1), (47, .invokevirtual 137, 3), (50, .aload_n 0, 1), (51, .getfield 16, 3), (54, .getfield 154, 3), (57, .iload_n 1, 1), (58, .iload 6, 2), (60, .iastore, 1), (61, .aload_n 0, 1), (62, .getfield 16, 3), (65, .iload_n 3, 1), (66, .invokevirtual 114, 3), (69, .aload_n 0, 1), (70, .getfield 16, 3), (73, .getfield 75, 3), (76, .iload_n 2, 1), (77, .iaload, 1), (78, .iload 5, 2), (80, .if_icmp .le (18), 3), (83, .aload_n 0, 1), (84, .getfield 16, 3), (87, .getfield 75, 3), (90, .iload_n 2, 1), (91, .iaload, 1), (92, .istore 5, 2), (94, .iload 6, 2), (96, .istore 4, 2), (98, .iinc 6 (1), 3), (101, .goto (-62), 3), (104, .iload 4, 2), (106, .ireturn, 1)]
def bm_rc169 : List (Nat × Instr × Nat) := [(0, .aload_n 0, 1), (1, .iload_n 1, 1), (2, .invokevirtual 88, 3), (5, .ifCond .eq (22), 3), (8, .iload_n 2, 1), (9, .sipush (9999), 3), (12, .invokestatic 51, 3), (15, .ifCond .eq (12), 3), (18, .iload_n 3, 1), (19, .bipush (40), 2), (21, .invokestatic 51, 3), (24, .ifCond .ne (9), 3), (27, .aload_n 0, 1), (28, .iconst 0, 1), (29, .invokevirtual 55, 3), (32, .ireturn, 1), (33, .iconst 0, 1), (34, .istore 4, 2), (36, .iload 4, 2), (38, .bipush (9), 2), (40, .if_icmp .gt (56), 3), (43, .aload_n 0, 1), (44, .invokevirtual 137, 3), (47, .aload_n 0, 1), (48, .getfield 16, 3), (51, .getfield 157, 3), (54, .iload_n 1, 1), (55, .iload 4, 2), (57, .iastore, 1), (58, .aload_n 0, 1), (59, .getfield 16, 3), (62, .iload_n 3, 1), (63, .invokevirtual 114, 3), (66, .aload_n 0, 1), (67, .getfield 16, 3), (70, .getfield 75, 3), (73, .aload_n 0, 1), (74, .getfield 16, 3), (77, .getfield 154, 3), (80, .iload_n 1, 1), (81, .iaload, 1), (82, .iaload, 1), (83, .iload_n 2, 1), (84, .if_icmp .lt (6), 3), (87, .iload 4, 2), (89, .ireturn, 1), (90, .iinc 4 (1), 3), (93, .goto (-57), 3), (96, .aload_n 0, 1), (97, .iconst 3, 1), (98, .invokevirtual 55, 3), (101, .ireturn, 1)]
def bm_rc170 : List (Nat × Instr × Nat) := [(0, .iload_n 1, 1), (1, .bipush (40), 2), (3, .invokestatic 51, 3), (6, .ifCond .ne (9), 3), (9, .aload_n 0, 1), (10, .iconst 0, 1), (11, .invokevirtual 55, 3), (14, .ireturn, 1), (15, .iconst 0, 1), (16, .istore_n 2, 1), (17, .iload_n 2, 1), (18, .bipush (20), 2), (20, .if_icmp .gt (20), 3), (23, .aload_n 0, 1), (24, .iload_n 2, 1), (25, .iload_n 1, 1), (26, .invokevirtual 160, 3), (29, .ifCond .eq (5), 3), (32, .iload_n 2, 1), (33, .ireturn, 1), (34, .iinc 2 (1), 3), (37, .goto (-20), 3), (40, .aload_n 0, 1), (41, .iconst 3, 1), (42, .invokevirtual 55, 3), (45, .ireturn, 1)]
def bm_rc171 : List (Nat × Instr × Nat) := [(0, .iconst 0, 1), (1, .istore 4, 2), (3, .iconst (-1), 1), (4, .istore 5, 2), (6, .iconst 0, 1), (7, .istore 6, 2), (9, .iload 6, 2), (11, .getstatic 107, 3), (14, .iload_n 2, 1), (15, .iaload, 1), (16, .if_icmp .gt (57), 3), (19, .aload_n 0, 1), (20, .invokevirtual 137, 3), (23, .aload_n 0, 1), (24, .getfield 16, 3), (27, .iload_n 2, 1), (28, .invokevirtual 103, 3), (31, .iload_n 1, 1), (32, .iload 6, 2), (34, .iastore, 1), (35, .aload_n 0, 1), (36, .getfield 16, 3), (39, .iload_n 3, 1), (40, .invokevirtual 114, 3), (43, .aload_n 0, 1), (44, .getfield 16, 3), (47, .invokevirtual 118, 3), (50, .istore 7, 2), (52, .iload 7, 2), (54, .iload 5, 2), (56, .if_icmp .le (11), 3), (59, .iload 7, 2), (61, .istore 5, 2), (63, .iload 6, 2), (65, .istore 4, 2), (67, .iinc 6 (1), 3), (70, .goto (-61), 3), (73, .iload 4, 2), (75, .ireturn, 1)]
def bm_rc172 : List (Nat × Instr × Nat) := [(0, .aload_n 0, 1), (1, .invokevirtual 137, 3), (4, .aload_n 0, 1), (5, .getfield 16, 3), (8, .iload_n 1, 1), (9, .putfield 69, 3), (12, .aload_n 0, 1), (13, .getfield 16, 3), (16, .iload_n 2, 1), (17, .invokevirtual 114, 3), (20, .aload_n 0, 1), (21, .getfield 16, 3), (24, .invokevirtual 118, 3), (27, .ireturn, 1)]
def bm_rc173 : List (Nat × Instr × Nat) := [(0, .aload_n 0, 1), (1, .invokevirtual 137, 3), (4, .aload_n 0, 1), (5, .getfield 16, 3), (8, .getfield 75, 3), (11, .iload_n 2, 1), (12, .iconst 0, 1), (13, .iastore, 1), (14, .iload_n 1, 1), (15, .iconst (-1), 1), (16, .if_icmp .eq (13), 3), (19, .aload_n 0, 1), (20, .getfield 16, 3), (23, .getfield 178, 3), (26, .iload_n 1, 1), (27, .iconst 1, 1), (28, .iastore, 1), (29, .aload_n 0, 1), (30, .getfield 16, 3), (33, .iload_n 3, 1), (34, .invokevirtual 114, 3), (37, .aload_n 0, 1), (38, .getfield 16, 3), (41, .getfield 75, 3), (44, .iload_n 2, 1), (45, .iaload, 1), (46, .ireturn, 1)]
def bm_rc174 : List (Nat × Instr × Nat) := [(0, .iconst 0, 1), (1, .istore 5, 2), (3, .iload 5, 2), (5, .aload_n 0, 1), (6, .getfield 34, 3), (9, .iload_n 1, 1), (10, .iaload, 1), (11, .if_icmp .ge (50), 3), (14, .iload 5, 2), (16, .ifCond .le (12), 3), (19, .aload_n 0, 1), (20, .getfield 16, 3), (23, .iload 4, 2), (25, .invokevirtual 114, 3), (28, .aload_n 0, 1), (29, .getfield 31, 3), (32, .iload_n 1, 1), (33, .aaload, 1), (34, .iload 5, 2), (36, .iaload, 1), (37, .istore 6, 2), (39, .iload 6, 2), (41, .iconst (-1), 1), (42, .if_icmp .eq (13), 3), (45, .aload_n 2, 1), (46, .iload_n 3, 1), (47, .iaload, 1), (48, .iload 6, 2), (50, .if_icmp .eq (5), 3), (53, .iconst 0, 1), (54, .ireturn, 1), (55, .iinc 5 (1), 3), (58, .goto (-55), 3), (61, .iconst 1, 1), (62, .ireturn, 1)]
def bm_rc175 : List (Nat × Instr × Nat) := [(0, .iconst 0, 1), (1, .istore_n 2, 1), (2, .iload_n 2, 1), (3, .iload_n 1, 1), (4, .if_icmp .ge (13), 3), (7, .aload_n 0, 1), (8, .invokevirtual 145, 3), (11, .iinc 2 (1), 3), (14, .goto (-12), 3), (17, .return_, 1)]
def bm_rc176 : List (Nat × Instr × Nat) := [(0, .iload_n 1, 1), (1, .invokestatic 72, 3), (4, .ifCond .eq (15), 3), (7, .iload_n 2, 1), (8, .i2l, 1), (9, .lconst 0, 1), (10, .ldc2_w 188, 3), (13, .invokestatic 42, 3), (16, .ifCond .ne (9), 3), (19, .aload_n 0, 1), (20, .iconst 0, 1), (21, .invokevirtual 82, 3), (24, .ireturn, 1), (25, .aload_n 0, 1), (26, .invokevirtual 182, 3), (29, .iconst 0, 1), (30, .istore_n 3, 1), (31, .iload_n 3, 1), (32, .sipush (200), 3), (35, .if_icmp .gt (26), 3), (38, .aload_n 0, 1), (39, .getfield 9, 3), (42, .bipush (17), 2), (44, .iload_n 1, 1), (45, .iadd, 1), (46, .iaload, 1), (47, .iload_n 2, 1), (48, .if_icmp .ge (13), 3), (51, .aload_n 0, 1), (52, .invokevirtual 145, 3), (55, .iinc 3 (1), 3), (58, .goto (-27), 3), (61, .aload_n 0, 1), (62, .invokevirtual 176, 3), (65, .aload_n 0, 1), (66, .iload_n 3, 1), (67, .sipush (200), 3), (70, .invokevirtual 190, 3), (73, .ireturn, 1)]
def bm_rc177 : List (Nat × Instr × Nat) := [(0, .aload_n 0, 1), (1, .iload_n 1, 1), (2, .invokevirtual 96, 3), (5, .ifCond .eq (16), 3), (8, .aload_n 0, 1), (9, .iload_n 2, 1), (10, .invokevirtual 96, 3), (13, .ifCond .eq (8), 3), (16, .iload_n 1, 1), (17, .iload_n 2, 1), (18, .if_icmp .ne (9), 3), (21, .aload_n 0, 1), (22, .iconst 0, 1), (23, .invokevirtual 82, 3), (26, .ireturn, 1), (27, .aload_n 0, 1), (28, .invokevirtual 182, 3), (31, .iconst 0, 1), (32, .istore_n 3, 1), (33, .iload_n 3, 1), (34, .sipush (200), 3), (37, .if_icmp .gt (28), 3), (40, .aload_n 0, 1), (41, .iload_n 1, 1), (42, .iconst 1, 1), (43, .invokevirtual 56, 3), (46, .aload_n 0, 1), (47, .iload_n 2, 1), (48, .iconst 1, 1), (49, .invokevirtual 56, 3), (52, .if_icmp .eq (13), 3), (55, .aload_n 0, 1), (56, .invokevirtual 145, 3), (59, .iinc 3 (1), 3), (62, .goto (-29), 3), (65, .aload_n 0, 1), (66, .invokevirtual 176, 3), (69, .aload_n 0, 1), (70, .iload_n 3, 1), (71, .sipush (200), 3), (74, .invokevirtual 190, 3), (77, .ireturn, 1)]
def bm_rc178 : List (Nat × Instr × Nat) := [(0, .aload_n 0, 1), (1, .invokevirtual 182, 3), (4, .iconst 0, 1), (5, .istore_n 1, 1), (6, .iload_n 1, 1), (7, .bipush (100), 2), (9, .if_icmp .gt (20), 3), (12, .aload_n 0, 1), (13, .invokevirtual 193, 3), (16, .ifCond .ne (13), 3), (19, .aload_n 0, 1), (20, .invokevirtual 145, 3), (23, .iinc 1 (1), 3), (26, .goto (-20), 3), (29, .aload_n 0, 1), (30, .invokevirtual 176, 3), (33, .aload_n 0, 1), (34, .iload_n 1, 1), (35, .bipush (100), 2), (37, .invokevirtual 190, 3), (40, .ireturn, 1)]
def bm_rc179 : List (Nat × Instr × Nat) := [(0, .iconst 1, 1), (1, .istore_n 2, 1), (2, .iconst 0, 1), (3, .istore_n 3, 1), (4, .iload_n 3, 1), (5, .iload_n 1, 1), (6, .if_icmp .ge (30), 3), (9, .iload_n 2, 1), (10, .ifCond .eq (26), 3), (13, .aload_n 0, 1), (14, .invokevirtual 145, 3), (17, .aload_n 0, 1), (18, .getfield 130, 3), (21, .ifCond .ne (7), 3), (24, .iconst 1, 1), (25, .goto (4), 3), (28, .iconst 0, 1), (29, .istore_n 2, 1), (30, .iinc 3 (1), 3), (33, .goto (-29), 3), (36, .aload_n 0, 1), (37, .invokevirtual 176, 3), (40, .iload_n 2, 1), (41, .ireturn, 1)]
def bm_rc180 : List (Nat × Instr × Nat) := [(0, .iload_n 1, 1), (1, .i2l, 1), (2, .lconst 1, 1), (3, .ldc2_w 88, 3), (6, .invokestatic 42, 3), (9, .ifCond .ne (9), 3), (12, .aload_n 0, 1), (13, .iconst 0, 1), (14, .invokevirtual 82, 3), (17, .ireturn, 1), (18, .aload_n 0, 1), (19, .getfield 9, 3), (22, .iconst 0, 1), (23, .iaload, 1), (24, .iload_n 1, 1), (25, .iadd, 1), (26, .ldc 134, 2), (28, .if_icmp .le (9), 3), (31, .aload_n 0, 1), (32, .iconst 4, 1), (33, .invokevirtual 82, 3), (36, .ireturn, 1), (37, .iconst 0, 1), (38, .istore_n 2, 1), (39, .iload_n 2, 1), (40, .iload_n 1, 1), (41, .if_icmp .ge (47), 3), (44, .aload_n 0, 1), (45, .getfield 9, 3), (48, .iconst 4, 1), (49, .aload_n 0, 1), (50, .invokevirtual 232, 3), (53, .bipush (100), 2), (55, .irem, 1), (56, .iastore, 1), (57, .aload_n 0, 1), (58, .invokevirtual 232, 3), (61, .bipush (8), 2), (63, .irem, 1), (64, .istore_n 3, 1), (65, .aload_n 0, 1), (66, .iload_n 3, 1), (67, .invokevirtual 96, 3), (70, .ifCond .eq (8), 3), (73, .aload_n 0, 1), (74, .iload_n 3, 1), (75, .invokevirtual 126, 3), (78, .aload_n 0, 1), (79, .invokevirtual 145, 3), (82, .iinc 2 (1), 3), (85, .goto (-46), 3), (88, .aload_n 0, 1), (89, .invokevirtual 153, 3), (92, .ireturn, 1)]
def bm_rc181 : List (Nat × Instr × Nat) := [(0, .aload_n 0, 1), (1, .aload_n 1, 1), (2, .invokevirtual 266, 3), (5, .istore_n 2, 1), (6, .iload_n 2, 1), (7, .ifCond .eq (7), 3), (10, .aload_n 0, 1), (11, .invokevirtual 263, 3), (14, .iload_n 2, 1), (15, .ireturn, 1)]
def bm_rc182 : List (Nat × Instr × Nat) := [(0, .aload_n 0, 1), (1, .ldc_w 274, 3), (4, .invokevirtual 266, 3), (7, .ifCond .eq (7), 3), (10, .iconst 0, 1), (11, .goto (32), 3), (14, .aload_n 0, 1), (15, .ldc_w 276, 3), (18, .invokevirtual 266, 3), (21, .ifCond .eq (7), 3), (24, .iconst 1, 1), (25, .goto (18), 3), (28, .aload_n 0, 1), (29, .ldc_w 278, 3), (32, .invokevirtual 266, 3), (35, .ifCond .eq (7), 3), (38, .iconst 2, 1), (39, .goto (4), 3), (42, .iconst (-1), 1), (43, .istore_n 1, 1), (44, .aload_n 0, 1), (45, .ldc_w 280, 3), (48, .invokevirtual 266, 3), (51, .ifCond .eq (7), 3), (54, .iconst 3, 1), (55, .goto (32), 3), (58, .aload_n 0, 1), (59, .ldc_w 282, 3), (62, .invokevirtual 266, 3), (65, .ifCond .eq (7), 3), (68, .iconst 4, 1), (69, .goto (18), 3), (72, .aload_n 0, 1), (73, .ldc_w 284, 3), (76, .invokevirtual 266, 3), (79, .ifCond .eq (7), 3), (82, .iconst 5, 1), (83, .goto (4), 3), (86, .iconst (-1), 1), (87, .istore_n 2, 1), (88, .iload_n 1, 1), (89, .ifCond .lt (7), 3), (92, .iload_n 1, 1), (93, .goto (27), 3), (96, .iload_n 2, 1), (97, .ifCond .lt (7), 3), (100, .iload_n 2, 1), (101, .goto (19), 3), (104, .aload_n 0, 1), (105, .ldc_w 286, 3), (108, .invokevirtual 266, 3), (111, .ifCond .eq (8), 3), (114, .bipush (6), 2), (116, .goto (4), 3), (119, .iconst (-1), 1), (120, .ireturn, 1)]
def bm_rc183 : List (Nat × Instr × Nat) := [(0, .aload_n 1, 1), (1, .getfield 81, 3), (4, .bipush (8), 2), (6, .if_icmp .lt (5), 3), (9, .iconst 0, 1), (10, .ireturn, 1), (11, .aload_n 1, 1), (12, .iload_n 2, 1), (13, .iconst 0, 1), (14, .invokevirtual 86, 3), (17, .istore_n 3, 1), (18, .aload_n 0, 1), (19, .invokevirtual 34, 3), (22, .aload_n 0, 1), (23, .ldc 89, 2), (25, .aload_n 1, 1), (26, .getfield 91, 3), (29, .iload_n 3, 1), (30, .bipush (11), 2), (32, .invokevirtual 94, 3), (35, .ifCond .eq (35), 3), (38, .aload_n 0, 1), (39, .ldc 98, 2), (41, .aload_n 1, 1), (42, .getfield 100, 3), (45, .iload_n 3, 1), (46, .bipush (11), 2), (48, .invokevirtual 94, 3), (51, .ifCond .eq (19), 3), (54, .aload_n 0, 1), (55, .ldc 102, 2), (57, .aload_n 1, 1), (58, .getfield 104, 3), (61, .iload_n 3, 1), (62, .bipush (9), 2), (64, .invokevirtual 94, 3), (67, .ifCond .ne (5), 3), (70, .iconst 0, 1), (71, .ireturn, 1), (72, .aload_n 0, 1), (73, .ldc 106, 2), (75, .invokevirtual 64, 3), (78, .ifCond .eq (14), 3), (81, .aload_n 1, 1), (82, .getfield 108, 3), (85, .iload_n 3, 1), (86, .iconst 1, 1), (87, .iastore, 1), (88, .aload_n 0, 1), (89, .invokevirtual 34, 3), (92, .iconst 1, 1), (93, .ireturn, 1)]
def bm_rc184 : List (Nat × Instr × Nat) := [(0, .aload_n 0, 1), (1, .iload_n 1, 1), (2, .invokevirtual 88, 3), (5, .ifCond .eq (12), 3), (8, .iload_n 2, 1), (9, .bipush (40), 2), (11, .invokestatic 51, 3), (14, .ifCond .ne (9), 3), (17, .aload_n 0, 1), (18, .iconst 0, 1), (19, .invokevirtual 55, 3), (22, .ireturn, 1), (23, .aload_n 0, 1), (24, .iload_n 1, 1), (25, .iconst 1, 1), (26, .iload_n 2, 1), (27, .invokevirtual 150, 3), (30, .ireturn, 1)]
def bm_rc185 : List (Nat × Instr × Nat) := [(0, .aload_n 0, 1), (1, .iload_n 1, 1), (2, .invokevirtual 88, 3), (5, .ifCond .eq (12), 3), (8, .iload_n 2, 1), (9, .bipush (40), 2), (11, .invokestatic 51, 3), (14, .ifCond .ne (9), 3), (17, .aload_n 0, 1), (18, .iconst 0, 1), (19, .invokevirtual 55, 3), (22, .ireturn, 1), (23, .aload_n 0, 1), (24, .iload_n 1, 1), (25, .iconst 0, 1), (26, .iload_n 2, 1), (27, .invokevirtual 150, 3), (30, .ireturn, 1)]
def bm_rc186 : List (Nat × Instr × Nat) := [(0, .iload_n 1, 1), (1, .sipush (9999), 3), (4, .invokestatic 51, 3), (7, .ifCond .eq (12), 3), (10, .iload_n 2, 1), (11, .bipush (40), 2), (13, .invokestatic 51, 3), (16, .ifCond .ne (9), 3), (19, .aload_n 0, 1), (20, .iconst 0, 1), (21, .invokevirtual 55, 3), (24, .ireturn, 1), (25, .bipush (99), 2), (27, .istore_n 3, 1), (28, .iload_n 3, 1), (29, .ifCond .lt (49), 3), (32, .iload_n 3, 1), (33, .bipush (10), 2), (35, .irem, 1), (36, .bipush (9), 2), (38, .if_icmp .ne (22), 3), (41, .aload_n 0, 1), (42, .iload_n 3, 1), (43, .bipush (9), 2), (45, .isub, 1), (46, .iload_n 2, 1), (47, .invokevirtual 163, 3), (50, .iload_n 1, 1), (51, .if_icmp .ge (9), 3), (54, .iinc 3 (-9), 3), (57, .goto (15), 3), (60, .aload_n 0, 1), (61, .iload_n 3, 1), (62, .iload_n 2, 1), (63, .invokevirtual 163, 3), (66, .iload_n 1, 1), (67, .if_icmp .lt (5), 3), (70, .iload_n 3, 1), (71, .ireturn, 1), (72, .iinc 3 (-1), 3), (75, .goto (-47), 3), (78, .aload_n 0, 1), (79, .iconst 3, 1), (80, .invokevirtual 55, 3), (83, .ireturn, 1)]
def bm_rc187 : List (Nat × Instr × Nat) := [(0, .iload_n 1, 1), (1, .invokestatic 72, 3), (4, .ifCond .eq (22), 3), (7, .iload_n 2, 1), (8, .sipush (9999), 3), (11, .invokestatic 51, 3), (14, .ifCond .eq (12), 3), (17, .iload_n 3, 1), (18, .bipush (18), 2), (20, .invokestatic 51, 3), (23, .ifCond .ne (9), 3), (26, .aload_n 0, 1), (27, .iconst 0, 1), (28, .invokevirtual 55, 3), (31, .ireturn, 1), (32, .aload_n 0, 1), (33, .iconst (-1), 1), (34, .iload_n 1, 1), (35, .iload_n 3, 1), (36, .invokevirtual 169, 3), (39, .istore 4, 2), (41, .iconst 0, 1), (42, .istore 5, 2), (44, .iload 5, 2), (46, .aload_n 0, 1), (47, .getfield 10, 3), (50, .getfield 81, 3), (53, .if_icmp .ge (27), 3), (56, .aload_n 0, 1), (57, .getfield 44, 3), (60, .iload 5, 2), (62, .iload 4, 2), (64, .aload_n 0, 1), (65, .iload 5, 2), (67, .iload_n 1, 1), (68, .iload_n 3, 1), (69, .invokevirtual 169, 3), (72, .isub, 1), (73, .iastore, 1), (74, .iinc 5 (1), 3), (77, .goto (-33), 3), (80, .aload_n 0, 1), (81, .aload_n 0, 1), (82, .getfield 10, 3), (85, .getfield 75, 3), (88, .iload_n 1, 1), (89, .iaload, 1), (90, .iload 4, 2), (92, .iadd, 1), (93, .iload_n 2, 1), (94, .isub, 1), (95, .invokevirtual 172, 3), (98, .istore 5, 2), (100, .iload 5, 2), (102, .iconst (-1), 1), (103, .if_icmp .ne (11), 3), (106, .aload_n 0, 1), (107, .iconst 3, 1), (108, .invokevirtual 55, 3), (111, .goto (5), 3), (114, .iload 5, 2), (116, .ireturn, 1)]
def bm_rc188 : List (Nat × Instr × Nat) := [(0, .iload_n 1, 1), (1, .invokestatic 175, 3), (4, .ifCond .ne (9), 3), (7, .aload_n 0, 1), (8, .iconst 0, 1), (9, .invokevirtual 55, 3), (12, .ireturn, 1), (13, .aload_n 0, 1), (14, .getfield 38, 3), (17, .iload_n 1, 1), (18, .iaload, 1), (19, .ifCond .ne (9), 3), (22, .aload_n 0, 1), (23, .iconst 5, 1), (24, .invokevirtual 55, 3), (27, .ireturn, 1), (28, .iload_n 2, 1), (29, .invokestatic 72, 3), (32, .ifCond .ne (9), 3), (35, .aload_n 0, 1), (36, .iconst 0, 1), (37, .invokevirtual 55, 3), (40, .ireturn, 1), (41, .iconst 0, 1), (42, .istore_n 3, 1), (43, .iconst 0, 1), (44, .istore 4, 2), (46, .iload 4, 2), (48, .aload_n 0, 1), (49, .getfield 10, 3), (52, .getfield 81, 3), (55, .if_icmp .ge (60), 3), (58, .aload_n 0, 1), (59, .invokevirtual 137, 3), (62, .aload_n 0, 1), (63, .getfield 16, 3), (66, .getfield 178, 3), (69, .iload 4, 2), (71, .iconst 1, 1), (72, .aload_n 0, 1), (73, .getfield 16, 3), (76, .getfield 178, 3), (79, .iload 4, 2), (81, .iaload, 1), (82, .isub, 1), (83, .iastore, 1), (84, .aload_n 0, 1), (85, .iload_n 1, 1), (86, .aload_n 0, 1), (87, .getfield 16, 3), (90, .getfield 75, 3), (93, .iload_n 2, 1), (94, .bipush (6), 2), (96, .invokevirtual 181, 3), (99, .ifCond .eq (10), 3), (102, .iload_n 3, 1), (103, .iconst 1, 1), (104, .iload 4, 2), (106, .ishl, 1), (107, .ior, 1), (108, .istore_n 3, 1), (109, .iinc 4 (1), 3), (112, .goto (-66), 3), (115, .iload_n 3, 1), (116, .ireturn, 1)]
def bm_rc189 : List (Nat × Instr × Nat) := [(0, .iload_n 1, 1), (1, .invokestatic 175, 3), (4, .ifCond .ne (9), 3), (7, .aload_n 0, 1), (8, .iconst 0, 1), (9, .invokevirtual 55, 3), (12, .ireturn, 1), (13, .aload_n 0, 1), (14, .getfield 38, 3), (17, .iload_n 1, 1), (18, .iaload, 1), (19, .ifCond .ne (9), 3), (22, .aload_n 0, 1), (23, .iconst 5, 1), (24, .invokevirtual 55, 3), (27, .ireturn, 1), (28, .aload_n 0, 1), (29, .iload_n 2, 1), (30, .invokevirtual 88, 3), (33, .ifCond .ne (9), 3), (36, .aload_n 0, 1), (37, .iconst 0, 1), (38, .invokevirtual 55, 3), (41, .ireturn, 1), (42, .iconst 0, 1), (43, .istore_n 3, 1), (44, .iconst 0, 1), (45, .istore 4, 2), (47, .iload 4, 2), (49, .bipush (7), 2), (51, .if_icmp .ge (48), 3), (54, .aload_n 0, 1), (55, .invokevirtual 137, 3), (58, .aload_n 0, 1), (59, .getfield 16, 3), (62, .getfield 185, 3), (65, .iload_n 2, 1), (66, .iload 4, 2), (68, .iastore, 1), (69, .aload_n 0, 1), (70, .iload_n 1, 1), (71, .aload_n 0, 1), (72, .getfield 16, 3), (75, .getfield 188, 3), (78, .iload_n 2, 1), (79, .iconst 1, 1), (80, .invokevirtual 181, 3), (83, .ifCond .eq (10), 3), (86, .iload_n 3, 1), (87, .iconst 1, 1), (88, .iload 4, 2), (90, .ishl, 1), (91, .ior, 1), (92, .istore_n 3, 1), (93, .iinc 4 (1), 3), (96, .goto (-49), 3), (99, .iload_n 3, 1), (100, .ireturn, 1)]
def bm_rc190 : List (Nat × Instr × Nat) := [(0, .iload_n 1, 1), (1, .i2l, 1), (2, .lconst 1, 1), (3, .ldc2_w 148, 3), (6, .invokestatic 42, 3), (9, .ifCond .ne (9), 3), (12, .aload_n 0, 1), (13, .iconst 0, 1), (14, .invokevirtual 82, 3), (17, .ireturn, 1), (18, .aload_n 0, 1), (19, .getfield 9, 3), (22, .iconst 0, 1), (23, .iaload, 1), (24, .iload_n 1, 1), (25, .iadd, 1), (26, .ldc 134, 2), (28, .if_icmp .le (9), 3), (31, .aload_n 0, 1), (32, .iconst 4, 1), (33, .invokevirtual 82, 3), (36, .ireturn, 1), (37, .aload_n 0, 1), (38, .iload_n 1, 1), (39, .invokevirtual 150, 3), (42, .aload_n 0, 1), (43, .invokevirtual 153, 3), (46, .ireturn, 1)]
def bm_rc191 : List (Nat × Instr × Nat) := [(0, .aload_n 0, 1), (1, .iload_n 2, 1), (2, .invokevirtual 150, 3), (5, .aload_n 0, 1), (6, .getfield 9, 3), (9, .iload_n 1, 1), (10, .iaload, 1), (11, .istore_n 3, 1), (12, .aload_n 0, 1), (13, .invokevirtual 176, 3), (16, .iload_n 3, 1), (17, .ireturn, 1)]
def bm_rc192 : List (Nat × Instr × Nat) := [(0, .aload_n 0, 1), (1, .iload_n 1, 1), (2, .invokevirtual 150, 3), (5, .aload_n 0, 1), (6, .invokevirtual 153, 3), (9, .istore_n 2, 1), (10, .aload_n 0, 1), (11, .invokevirtual 176, 3), (14, .iload_n 2, 1), (15, .ireturn, 1)]
def bm_rc193 : List (Nat × Instr × Nat) := [(0, .iload_n 1, 1), (1, .invokestatic 204, 3), (4, .ifCond .ne (9), 3), (7, .aload_n 0, 1), (8, .iconst 0, 1), (9, .invokevirtual 82, 3), (12, .ireturn, 1), (13, .iconst (-1), 1), (14, .istore_n 2, 1), (15, .bipush (20), 2), (17, .istore_n 3, 1), (18, .iload_n 3, 1), (19, .ifCond .lt (34), 3), (22, .aload_n 0, 1), (23, .invokevirtual 182, 3), (26, .aload_n 0, 1), (27, .getfield 9, 3), (30, .iconst 3, 1), (31, .iload_n 3, 1), (32, .iastore, 1), (33, .aload_n 0, 1), (34, .iload_n 1, 1), (35, .invokevirtual 216, 3), (38, .ifCond .eq (7), 3), (41, .iload_n 3, 1), (42, .goto (4), 3), (45, .iload_n 2, 1), (46, .istore_n 2, 1), (47, .iinc 3 (-1), 3), (50, .goto (-32), 3), (53, .iload_n 2, 1), (54, .ifCond .ge (11), 3), (57, .aload_n 0, 1), (58, .iconst 3, 1), (59, .invokevirtual 82, 3), (62, .goto (4), 3), (65, .iload_n 2, 1), (66, .ireturn, 1)]
def bm_rc194 : List (Nat × Instr × Nat) := [(0, .iconst 1, 1), (1, .istore 4, 2), (3, .iconst 0, 1), (4, .istore 5, 2), (6, .iload 5, 2), (8, .aload_n 0, 1), (9, .getfield 28, 3), (12, .iload_n 1, 1), (13, .iaload, 1), (14, .if_icmp .ge (57), 3), (17, .aload_n 0, 1), (18, .getfield 31, 3), (21, .bipush (40), 2), (23, .iload_n 1, 1), (24, .imul, 1), (25, .iload 5, 2), (27, .iadd, 1), (28, .iaload, 1), (29, .istore 6, 2), (31, .iload 4, 2), (33, .ifCond .eq (24), 3), (36, .iload 6, 2), (38, .iconst (-1), 1), (39, .if_icmp .eq (14), 3), (42, .iload 6, 2), (44, .aload_n 0, 1), (45, .getfield 9, 3), (48, .iload_n 2, 1), (49, .iaload, 1), (50, .if_icmp .ne (7), 3), (53, .iconst 1, 1), (54, .goto (4), 3), (57, .iconst 0, 1), (58, .istore 4, 2), (60, .aload_n 0, 1), (61, .iload_n 3, 1), (62, .invokevirtual 150, 3), (65, .iinc 5 (1), 3), (68, .goto (-62), 3), (71, .aload_n 0, 1), (72, .invokevirtual 176, 3), (75, .iload 4, 2), (77, .ireturn, 1)]
def bm_rc195 : List (Nat × Instr × Nat) := [(0, .aload_n 0, 1), (1, .aload_n 0, 1), (2, .getfield 9, 3), (5, .iconst 2, 1), (6, .iaload, 1), (7, .bipush (8), 2), (9, .if_icmp .ge (7), 3), (12, .iconst 1, 1), (13, .goto (4), 3), (16, .iconst 0, 1), (17, .invokevirtual 270, 3), (20, .aload_n 0, 1), (21, .getfield 251, 3), (24, .ifCond .eq (4), 3), (27, .return_, 1), (28, .aload_n 0, 1), (29, .iload_n 1, 1), (30, .iconst 0, 1), (31, .invokevirtual 93, 3), (34, .istore_n 2, 1), (35, .aload_n 0, 1), (36, .ldc_w 288, 3), (39, .invokevirtual 290, 3), (42, .ifCond .eq (16), 3), (45, .aload_n 0, 1), (46, .iload_n 2, 1), (47, .iconst 1, 1), (48, .aload_n 0, 1), (49, .iconst 0, 1), (50, .bipush (11), 2), (52, .invokevirtual 293, 3), (55, .invokevirtual 68, 3), (58, .aload_n 0, 1), (59, .ldc_w 296, 3), (62, .invokevirtual 290, 3), (65, .ifCond .eq (16), 3), (68, .aload_n 0, 1), (69, .iload_n 2, 1), (70, .iconst 2, 1), (71, .aload_n 0, 1), (72, .iconst 0, 1), (73, .bipush (11), 2), (75, .invokevirtual 293, 3), (78, .invokevirtual 68, 3), (81, .aload_n 0, 1), (82, .ldc_w 298, 3), (85, .invokevirtual 290, 3), (88, .ifCond .eq (16), 3), (91, .aload_n 0, 1), (92, .iload_n 2, 1), (93, .iconst 3, 1), (94, .aload_n 0, 1), (95, .iconst 0, 1), (96, .bipush (9), 2), (98, .invokevirtual 293, 3), (101, .invokevirtual 68, 3), (104, .aload_n 0, 1), (105, .ldc_w 300, 3), (108, .invokevirtual 290, 3), (111, .ifCond .eq (11), 3), (114, .aload_n 0, 1), (115, .iload_n 2, 1), (116, .bipush (6), 2), (118, .iconst 1, 1), (119, .invokevirtual 68, 3), (122, .return_, 1)]
def bm_rc196 : List (Nat × Instr × Nat) := [(0, .aload_n 0, 1), (1, .invokevirtual 54, 3), (4, .istore_n 2, 1), (5, .iload_n 2, 1), (6, .iconst (-1), 1), (7, .if_icmp .eq (10), 3), (10, .aload_n 0, 1), (11, .aload_n 1, 1), (12, .iload_n 2, 1), (13, .invokevirtual 58, 3), (16, .ireturn, 1), (17, .aload_n 0, 1), (18, .ldc 62, 2), (20, .invokevirtual 64, 3), (23, .ifCond .eq (9), 3), (26, .aload_n 0, 1), (27, .aload_n 1, 1), (28, .invokevirtual 68, 3), (31, .ireturn, 1), (32, .aload_n 0, 1), (33, .ldc 71, 2), (35, .invokevirtual 64, 3), (38, .ifCond .eq (9), 3), (41, .aload_n 0, 1), (42, .aload_n 1, 1), (43, .invokevirtual 73, 3), (46, .ireturn, 1), (47, .aload_n 0, 1), (48, .ldc 76, 2), (50, .invokevirtual 64, 3), (53, .ifCond .eq (15), 3), (56, .aload_n 0, 1), (57, .aload_n 1, 1), (58, .invokevirtual 78, 3), (61, .ifCond .eq (7), 3), (64, .iconst 1, 1), (65, .goto (4), 3), (68, .iconst 0, 1), (69, .ireturn, 1)]
def bm_rc197 : List (Nat × Instr × Nat) := [(0, .iload_n 1, 1), (1, .invokestatic 72, 3), (4, .ifCond .eq (10), 3), (7, .iload_n 2, 1), (8, .invokestatic 179, 3), (11, .ifCond .ne (9), 3), (14, .aload_n 0, 1), (15, .iconst 0, 1), (16, .invokevirtual 82, 3), (19, .ireturn, 1), (20, .aload_n 0, 1), (21, .invokevirtual 182, 3), (24, .aload_n 0, 1), (25, .bipush (17), 2), (27, .iload_n 1, 1), (28, .iadd, 1), (29, .iload_n 2, 1), (30, .invokevirtual 185, 3), (33, .ireturn, 1)]
def bm_rc198 : List (Nat × Instr × Nat) := [(0, .aload_n 0, 1), (1, .iload_n 1, 1), (2, .invokevirtual 96, 3), (5, .ifCond .eq (20), 3), (8, .iload_n 2, 1), (9, .iconst 1, 1), (10, .if_icmp .eq (8), 3), (13, .iload_n 2, 1), (14, .iconst 5, 1), (15, .if_icmp .ne (10), 3), (18, .iload_n 3, 1), (19, .invokestatic 179, 3), (22, .ifCond .ne (9), 3), (25, .aload_n 0, 1), (26, .iconst 0, 1), (27, .invokevirtual 82, 3), (30, .ireturn, 1), (31, .aload_n 0, 1), (32, .invokevirtual 182, 3), (35, .aload_n 0, 1), (36, .bipush (29), 2), (38, .bipush (7), 2), (40, .iload_n 1, 1), (41, .imul, 1), (42, .iadd, 1), (43, .iload_n 2, 1), (44, .iadd, 1), (45, .iload_n 3, 1), (46, .invokevirtual 185, 3), (49, .ireturn, 1)]
def bm_rc199 : List (Nat × Instr × Nat) := [(0, .aload_n 0, 1), (1, .iload_n 1, 1), (2, .invokevirtual 96, 3), (5, .ifCond .eq (10), 3), (8, .iload_n 2, 1), (9, .invokestatic 204, 3), (12, .ifCond .ne (9), 3), (15, .aload_n 0, 1), (16, .iconst 0, 1), (17, .invokevirtual 82, 3), (20, .ireturn, 1), (21, .aload_n 0, 1), (22, .invokevirtual 207, 3), (25, .iconst 0, 1), (26, .istore_n 3, 1), (27, .iload_n 3, 1), (28, .bipush (12), 2), (30, .if_icmp .ge (30), 3), (33, .aload_n 0, 1), (34, .invokevirtual 182, 3), (37, .aload_n 0, 1), (38, .iload_n 1, 1), (39, .iconst 1, 1), (40, .iload_n 3, 1), (41, .invokevirtual 68, 3), (44, .aload_n 0, 1), (45, .iload_n 3, 1), (46, .aload_n 0, 1), (47, .iload_n 2, 1), (48, .invokevirtual 210, 3), (51, .invokevirtual 213, 3), (54, .iinc 3 (1), 3), (57, .goto (-30), 3), (60, .aload_n 0, 1), (61, .getfield 197, 3), (64, .ireturn, 1)]
def bm_rc200 : List (Nat × Instr × Nat) := [(0, .aload_n 0, 1), (1, .iload_n 1, 1), (2, .invokevirtual 96, 3), (5, .ifCond .eq (17), 3), (8, .iload_n 2, 1), (9, .invokestatic 72, 3), (12, .ifCond .eq (10), 3), (15, .iload_n 3, 1), (16, .invokestatic 204, 3), (19, .ifCond .ne (9), 3), (22, .aload_n 0, 1), (23, .iconst 0, 1), (24, .invokevirtual 82, 3), (27, .ireturn, 1), (28, .aload_n 0, 1), (29, .invokevirtual 207, 3), (32, .iconst 0, 1), (33, .istore 4, 2), (35, .iload 4, 2), (37, .bipush (12), 2), (39, .if_icmp .ge (36), 3), (42, .aload_n 0, 1), (43, .invokevirtual 182, 3), (46, .aload_n 0, 1), (47, .iload_n 1, 1), (48, .iconst 2, 1), (49, .iload 4, 2), (51, .invokevirtual 68, 3), (54, .aload_n 0, 1), (55, .iload 4, 2), (57, .aload_n 0, 1), (58, .bipush (17), 2), (60, .iload_n 2, 1), (61, .iadd, 1), (62, .iload_n 3, 1), (63, .invokevirtual 185, 3), (66, .invokevirtual 213, 3), (69, .iinc 4 (1), 3), (72, .goto (-37), 3), (75, .aload_n 0, 1), (76, .getfield 197, 3), (79, .ireturn, 1)]
def bm_rc201 : List (Nat × Instr × Nat) := [(0, .aload_n 0, 1), (1, .iload_n 1, 1), (2, .invokevirtual 96, 3), (5, .ifCond .eq (10), 3), (8, .iload_n 2, 1), (9, .invokestatic 204, 3), (12, .ifCond .ne (9), 3), (15, .aload_n 0, 1), (16, .iconst 0, 1), (17, .invokevirtual 82, 3), (20, .ireturn, 1), (21, .aload_n 0, 1), (22, .invokevirtual 207, 3), (25, .iconst 0, 1), (26, .istore_n 3, 1), (27, .iload_n 3, 1), (28, .bipush (6), 2), (30, .if_icmp .gt (30), 3), (33, .aload_n 0, 1), (34, .invokevirtual 182, 3), (37, .aload_n 0, 1), (38, .iload_n 1, 1), (39, .iconst 0, 1), (40, .iload_n 3, 1), (41, .invokevirtual 68, 3), (44, .aload_n 0, 1), (45, .iload_n 3, 1), (46, .aload_n 0, 1), (47, .iload_n 2, 1), (48, .invokevirtual 210, 3), (51, .invokevirtual 213, 3), (54, .iinc 3 (1), 3), (57, .goto (-30), 3), (60, .aload_n 0, 1), (61, .getfield 197, 3), (64, .ireturn, 1)]
def bm_rc202 : List (Nat × Instr × Nat) := [(0, .aload_n 0, 1), (1, .iload_n 1, 1), (2, .invokevirtual 96, 3), (5, .ifCond .eq (22), 3), (8, .iload_n 2, 1), (9, .i2l, 1), (10, .lconst 0, 1), (11, .ldc2_w 117, 3), (14, .invokestatic 42, 3), (17, .ifCond .eq (10), 3), (20, .iload_n 3, 1), (21, .invokestatic 204, 3), (24, .ifCond .ne (9), 3), (27, .aload_n 0, 1), (28, .iconst 0, 1), (29, .invokevirtual 82, 3), (32, .ireturn, 1), (33, .iconst (-1), 1), (34, .istore 4, 2), (36, .bipush (9), 2), (38, .istore 5, 2), (40, .iload 5, 2), (42, .ifCond .lt (48), 3), (45, .aload_n 0, 1), (46, .invokevirtual 182, 3), (49, .aload_n 0, 1), (50, .iload_n 1, 1), (51, .iconst 3, 1), (52, .iload 5, 2), (54, .invokevirtual 68, 3), (57, .aload_n 0, 1), (58, .bipush (17), 2), (60, .aload_n 0, 1), (61, .iload_n 1, 1), (62, .iconst 2, 1), (63, .invokevirtual 56, 3), (66, .iadd, 1), (67, .iload_n 3, 1), (68, .invokevirtual 185, 3), (71, .iload_n 2, 1), (72, .if_icmp .lt (8), 3), (75, .iload 5, 2), (77, .goto (5), 3), (80, .iload 4, 2), (82, .istore 4, 2), (84, .iinc 5 (-1), 3), (87, .goto (-47), 3), (90, .iload 4, 2), (92, .ifCond .ge (11), 3), (95, .aload_n 0, 1), (96, .iconst 3, 1), (97, .invokevirtual 82, 3), (100, .goto (5), 3), (103, .iload 4, 2), (105, .ireturn, 1)]
def bm_rc203 : List (Nat × Instr × Nat) := [(0, .iload_n 1, 1), (1, .i2l, 1), (2, .lconst 0, 1), (3, .ldc2_w 117, 3), (6, .invokestatic 42, 3), (9, .ifCond .eq (10), 3), (12, .iload_n 2, 1), (13, .invokestatic 204, 3), (16, .ifCond .ne (9), 3), (19, .aload_n 0, 1), (20, .iconst 0, 1), (21, .invokevirtual 82, 3), (24, .ireturn, 1), (25, .iconst (-1), 1), (26, .istore_n 3, 1), (27, .iconst 0, 1), (28, .istore 4, 2), (30, .iload 4, 2), (32, .bipush (99), 2), (34, .if_icmp .gt (37), 3), (37, .aload_n 0, 1), (38, .invokevirtual 182, 3), (41, .aload_n 0, 1), (42, .getfield 9, 3), (45, .iconst 4, 1), (46, .iload 4, 2), (48, .iastore, 1), (49, .aload_n 0, 1), (50, .iload_n 2, 1), (51, .invokevirtual 210, 3), (54, .iload_n 1, 1), (55, .if_icmp .lt (8), 3), (58, .iload 4, 2), (60, .goto (4), 3), (63, .iload_n 3, 1), (64, .istore_n 3, 1), (65, .iinc 4 (1), 3), (68, .goto (-38), 3), (71, .iload_n 3, 1), (72, .ifCond .ge (11), 3), (75, .aload_n 0, 1), (76, .iconst 3, 1), (77, .invokevirtual 82, 3), (80, .goto (4), 3), (83, .iload_n 3, 1), (84, .ireturn, 1)]
def bm_rc204 : List (Nat × Instr × Nat) := [(0, .iload_n 1, 1), (1, .invokestatic 72, 3), (4, .ifCond .eq (27), 3), (7, .iload_n 2, 1), (8, .i2l, 1), (9, .lconst 0, 1), (10, .ldc2_w 117, 3), (13, .invokestatic 42, 3), (16, .ifCond .eq (15), 3), (19, .iload_n 3, 1), (20, .i2l, 1), (21, .lconst 0, 1), (22, .ldc2_w 219, 3), (25, .invokestatic 42, 3), (28, .ifCond .ne (9), 3), (31, .aload_n 0, 1), (32, .iconst 0, 1), (33, .invokevirtual 82, 3), (36, .ireturn, 1), (37, .iconst (-1), 1), (38, .istore 4, 2), (40, .iconst 0, 1), (41, .istore 5, 2), (43, .iload 5, 2), (45, .iconst 1, 1), (46, .aload_n 0, 1), (47, .getfield 9, 3), (50, .iconst 2, 1), (51, .iaload, 1), (52, .ishl, 1), (53, .if_icmp .ge (104), 3), (56, .iload 4, 2), (58, .ifCond .lt (16), 3), (61, .iload 5, 2), (63, .invokestatic 221, 3), (66, .iload 4, 2), (68, .invokestatic 221, 3), (71, .if_icmp .ge (80), 3), (74, .aload_n 0, 1), (75, .invokevirtual 182, 3), (78, .iconst 0, 1), (79, .istore 6, 2), (81, .iload 6, 2), (83, .aload_n 0, 1), (84, .getfield 9, 3), (87, .iconst 2, 1), (88, .iaload, 1), (89, .if_icmp .ge (40), 3), (92, .aload_n 0, 1), (93, .iload 6, 2), (95, .bipush (6), 2), (97, .iload 5, 2), (99, .iload 6, 2), (101, .ishr, 1), (102, .iconst 1, 1), (103, .iand, 1), (104, .iconst 1, 1), (105, .if_icmp .ne (7), 3), (108, .iconst 1, 1), (109, .goto (11), 3), (112, .aload_n 0, 1), (113, .iload 6, 2), (115, .bipush (6), 2), (117, .invokevirtual 56, 3), (120, .invokevirtual 68, 3), (123, .iinc 6 (1), 3), (126, .goto (-45), 3), (129, .aload_n 0, 1), (130, .bipush (17), 2), (132, .iload_n 1, 1), (133, .iadd, 1), (134, .iload_n 3, 1), (135, .invokevirtual 185, 3), (138, .iload_n 2, 1), (139, .if_icmp .gt (8), 3), (142, .iload 5, 2), (144, .goto (5), 3), (147, .iload 4, 2), (149, .istore 4, 2), (151, .iinc 5 (1), 3), (154, .goto (-111), 3), (157, .iload 4, 2), (159, .ifCond .ge (11), 3), (162, .aload_n 0, 1), (163, .iconst 3, 1), (164, .invokevirtual 82, 3), (167, .goto (5), 3), (170, .iload 4, 2), (172, .ireturn, 1)]
def bm_rc205 : List (Nat × Instr × Nat) := [(0, .aload_n 0, 1), (1, .iload_n 1, 1), (2, .invokevirtual 224, 3), (5, .istore_n 3, 1), (6, .iload_n 3, 1), (7, .ifCond .lt (9), 3), (10, .aload_n 0, 1), (11, .iload_n 3, 1), (12, .invokevirtual 82, 3), (15, .ireturn, 1), (16, .iload_n 2, 1), (17, .invokestatic 72, 3), (20, .ifCond .ne (9), 3), (23, .aload_n 0, 1), (24, .iconst 0, 1), (25, .invokevirtual 82, 3), (28, .ireturn, 1), (29, .iconst 0, 1), (30, .istore 4, 2), (32, .iconst 0, 1), (33, .istore 5, 2), (35, .iload 5, 2), (37, .aload_n 0, 1), (38, .getfield 9, 3), (41, .iconst 2, 1), (42, .iaload, 1), (43, .if_icmp .ge (58), 3), (46, .aload_n 0, 1), (47, .invokevirtual 182, 3), (50, .aload_n 0, 1), (51, .iload 5, 2), (53, .bipush (6), 2), (55, .iconst 1, 1), (56, .aload_n 0, 1), (57, .iload 5, 2), (59, .bipush (6), 2), (61, .invokevirtual 56, 3), (64, .isub, 1), (65, .invokevirtual 68, 3), (68, .iload 4, 2), (70, .aload_n 0, 1), (71, .iload_n 1, 1), (72, .bipush (17), 2), (74, .iload_n 2, 1), (75, .iadd, 1), (76, .bipush (6), 2), (78, .invokevirtual 227, 3), (81, .ifCond .eq (10), 3), (84, .iconst 1, 1), (85, .iload 5, 2), (87, .ishl, 1), (88, .goto (4), 3), (91, .iconst 0, 1), (92, .ior, 1), (93, .istore 4, 2), (95, .iinc 5 (1), 3), (98, .goto (-63), 3), (101, .iload 4, 2), (103, .ireturn, 1)]
def bm_rc206 : List (Nat × Instr × Nat) := [(0, .aload_n 0, 1), (1, .iload_n 1, 1), (2, .invokevirtual 224, 3), (5, .istore_n 3, 1), (6, .iload_n 3, 1), (7, .ifCond .lt (9), 3), (10, .aload_n 0, 1), (11, .iload_n 3, 1), (12, .invokevirtual 82, 3), (15, .ireturn, 1), (16, .aload_n 0, 1), (17, .iload_n 2, 1), (18, .invokevirtual 96, 3), (21, .ifCond .ne (9), 3), (24, .aload_n 0, 1), (25, .iconst 0, 1), (26, .invokevirtual 82, 3), (29, .ireturn, 1), (30, .iconst 0, 1), (31, .istore 4, 2), (33, .iconst 0, 1), (34, .istore 5, 2), (36, .iload 5, 2), (38, .bipush (6), 2), (40, .if_icmp .gt (52), 3), (43, .aload_n 0, 1), (44, .invokevirtual 182, 3), (47, .aload_n 0, 1), (48, .iload_n 2, 1), (49, .iconst 0, 1), (50, .iload 5, 2), (52, .invokevirtual 68, 3), (55, .iload 4, 2), (57, .aload_n 0, 1), (58, .iload_n 1, 1), (59, .bipush (29), 2), (61, .bipush (7), 2), (63, .iload_n 2, 1), (64, .imul, 1), (65, .iadd, 1), (66, .iconst 5, 1), (67, .iadd, 1), (68, .iconst 1, 1), (69, .invokevirtual 227, 3), (72, .ifCond .eq (10), 3), (75, .iconst 1, 1), (76, .iload 5, 2), (78, .ishl, 1), (79, .goto (4), 3), (82, .iconst 0, 1), (83, .ior, 1), (84, .istore 4, 2), (86, .iinc 5 (1), 3), (89, .goto (-53), 3), (92, .iload 4, 2), (94, .ireturn, 1)]
def bm_rc207 : List (Nat × Instr × Nat) := [(0, .aload_n 0, 1), (1, .invokevirtual 302, 3), (4, .istore_n 1, 1), (5, .iload_n 1, 1), (6, .ifCond .lt (11), 3), (9, .aload_n 0, 1), (10, .iload_n 1, 1), (11, .invokevirtual 305, 3), (14, .goto (98), 3), (17, .aload_n 0, 1), (18, .ldc_w 308, 3), (21, .invokevirtual 290, 3), (24, .ifCond .eq (38), 3), (27, .aload_n 0, 1), (28, .iconst 0, 1), (29, .bipush (11), 2), (31, .invokevirtual 293, 3), (34, .istore_n 2, 1), (35, .aload_n 0, 1), (36, .iconst 0, 1), (37, .bipush (99), 2), (39, .invokevirtual 293, 3), (42, .istore_n 3, 1), (43, .aload_n 0, 1), (44, .getfield 251, 3), (47, .ifCond .ne (12), 3), (50, .aload_n 0, 1), (51, .getfield 9, 3), (54, .iconst 5, 1), (55, .iload_n 2, 1), (56, .iadd, 1), (57, .iload_n 3, 1), (58, .iastore, 1), (59, .goto (53), 3), (62, .aload_n 0, 1), (63, .ldc_w 310, 3), (66, .invokevirtual 290, 3), (69, .ifCond .eq (19), 3), (72, .aload_n 0, 1), (73, .getfield 9, 3), (76, .iconst 3, 1), (77, .aload_n 0, 1), (78, .iconst 0, 1), (79, .bipush (20), 2), (81, .invokevirtual 293, 3), (84, .iastore, 1), (85, .goto (27), 3), (88, .aload_n 0, 1), (89, .aload_n 0, 1), (90, .ldc_w 312, 3), (93, .invokevirtual 266, 3), (96, .invokevirtual 270, 3), (99, .aload_n 0, 1), (100, .getfield 9, 3), (103, .iconst 4, 1), (104, .aload_n 0, 1), (105, .iconst 0, 1), (106, .bipush (99), 2), (108, .invokevirtual 293, 3), (111, .iastore, 1), (112, .return_, 1)]
def bm_rc208 : List (Nat × Instr × Nat) := [(0, .aload_n 0, 1), (1, .iconst 0, 1), (2, .putfield 25, 3), (5, .aload_n 0, 1), (6, .iconst 0, 1), (7, .putfield 31, 3), (10, .iconst 0, 1), (11, .istore_n 2, 1), (12, .iload_n 2, 1), (13, .aload_n 0, 1), (14, .getfield 15, 3), (17, .if_icmp .gt (54), 3), (20, .aload_n 0, 1), (21, .invokevirtual 34, 3), (24, .aload_n 0, 1), (25, .aload_n 1, 1), (26, .invokevirtual 37, 3), (29, .ifCond .ne (5), 3), (32, .iconst 0, 1), (33, .ireturn, 1), (34, .aload_n 0, 1), (35, .dup, 1), (36, .getfield 31, 3), (39, .iconst 1, 1), (40, .iadd, 1), (41, .putfield 31, 3), (44, .aload_n 0, 1), (45, .getfield 19, 3), (48, .iconst 3, 1), (49, .if_icmp .eq (16), 3), (52, .aload_n 0, 1), (53, .getfield 19, 3), (56, .ifCond .ne (7), 3), (59, .iconst 1, 1), (60, .goto (4), 3), (63, .iconst 0, 1), (64, .ireturn, 1), (65, .iinc 2 (1), 3), (68, .goto (-56), 3), (71, .iconst 0, 1), (72, .ireturn, 1)]
def bm_rc209 : List (Nat × Instr × Nat) := [(0, .aload_n 0, 1), (1, .invokevirtual 182, 3), (4, .aload_n 0, 1), (5, .iconst 0, 1), (6, .putfield 251, 3), (9, .aload_n 0, 1), (10, .iconst 0, 1), (11, .putfield 242, 3), (14, .aload_n 0, 1), (15, .invokevirtual 263, 3), (18, .aload_n 0, 1), (19, .invokevirtual 314, 3), (22, .iconst 1, 1), (23, .istore_n 1, 1), (24, .aload_n 0, 1), (25, .getfield 251, 3), (28, .ifCond .ne (35), 3), (31, .aload_n 0, 1), (32, .getfield 245, 3), (35, .aload_n 0, 1), (36, .getfield 239, 3), (39, .if_icmp .ge (24), 3), (42, .aload_n 0, 1), (43, .aload_n 0, 1), (44, .ldc_w 317, 3), (47, .invokevirtual 266, 3), (50, .invokevirtual 270, 3), (53, .aload_n 0, 1), (54, .invokevirtual 314, 3), (57, .iinc 1 (1), 3), (60, .goto (-36), 3), (63, .aload_n 0, 1), (64, .iconst 0, 1), (65, .putfield 239, 3), (68, .aload_n 0, 1), (69, .getfield 251, 3), (72, .ifCond .eq (14), 3), (75, .aload_n 0, 1), (76, .invokevirtual 176, 3), (79, .iconst (-1), 1), (80, .aload_n 0, 1), (81, .getfield 245, 3), (84, .isub, 1), (85, .ireturn, 1), (86, .iload_n 1, 1), (87, .ireturn, 1)]
def bm_rc210 : List (Nat × Instr × Nat) := [(0, .aload_n 0, 1), (1, .invokevirtual 137, 3), (4, .aload_n 0, 1), (5, .getfield 25, 3), (8, .aload_n 0, 1), (9, .getfield 16, 3), (12, .invokevirtual 215, 3), (15, .istore_n 1, 1), (16, .aload_n 0, 1), (17, .getfield 25, 3), (20, .iconst 0, 1), (21, .putfield 209, 3), (24, .iload_n 1, 1), (25, .ifCond .ne (13), 3), (28, .iconst (-1), 1), (29, .aload_n 0, 1), (30, .getfield 25, 3), (33, .getfield 219, 3), (36, .isub, 1), (37, .ireturn, 1), (38, .aload_n 0, 1), (39, .getfield 10, 3), (42, .aload_n 0, 1), (43, .getfield 16, 3), (46, .invokevirtual 222, 3), (49, .aload_n 0, 1), (50, .getfield 25, 3), (53, .getfield 226, 3), (56, .ireturn, 1)]
def bm_rc211 : List (Nat × Instr × Nat) := [(0, .new 7, 3), (3, .dup, 1), (4, .invokespecial 9, 3), (7, .astore_n 1, 1), (8, .new 10, 3), (11, .dup, 1), (12, .invokespecial 12, 3), (15, .astore_n 2, 1), (16, .iconst 0, 1), (17, .istore_n 3, 1), (18, .iload_n 3, 1), (19, .aload_n 0, 1), (20, .arraylength, 1), (21, .bipush (6), 2), (23, .isub, 1), (24, .if_icmp .gt (1482), 3), (27, .aload_n 0, 1), (28, .iload_n 3, 1), (29, .iaload, 1), (30, .bipush (63), 2), (32, .iand, 1), (33, .tableswitch (1467) (0) (42) #[187, 220, 253, 286, 309, 332, 365, 398, 441, 464, 487, 520, 563, 596, 629, 642, 675, 718, 751, 794, 817, 850, 873, 916, 949, 982, 1005, 1039, 1062, 1095, 1108, 1121, 1154, 1187, 1230, 1273, 1336, 1359, 1382, 1395, 1408, 1421, 1444], 187), (220, .aload_n 1, 1), (221, .aload_n 0, 1), (222, .iload_n 3, 1), (223, .iconst 1, 1), (224, .iadd, 1), (225, .iaload, 1), (226, .aload_n 0, 1), (227, .iload_n 3, 1), (228, .iconst 2, 1), (229, .iadd, 1), (230, .iaload, 1), (231, .invokevirtual 13, 3), (234, .aload_n 2, 1), (235, .aload_n 0, 1), (236, .iload_n 3, 1), (237, .iconst 1, 1), (238, .iadd, 1), (239, .iaload, 1), (240, .aload_n 0, 1), (241, .iload_n 3, 1), (242, .iconst 2, 1), (243, .iadd, 1), (244, .iaload, 1), (245, .invokevirtual 17, 3), (248, .if_icmp .eq (1252), 3), (251, .iconst 0, 1), (252, .ireturn, 1), (253, .aload_n 1, 1), (254, .aload_n 0, 1), (255, .iload_n 3, 1), (256, .iconst 1, 1), (257, .iadd, 1), (258, .iaload, 1), (259, .aload_n 0, 1), (260, .iload_n 3, 1), (261, .iconst 2, 1), (262, .iadd, 1), (263, .iaload, 1), (264, .invokevirtual 18, 3), (267, .aload_n 2, 1), (268, .aload_n 0, 1), (269, .iload_n 3, 1), (270, .iconst 1, 1), (271, .iadd, 1), (272, .iaload, 1), (273, .aload_n 0, 1), (274, .iload_n 3, 1), (275, .iconst 2, 1), (276, .iadd, 1), (277, .iaload, 1), (278, .invokevirtual 21, 3), (281, .if_icmp .eq (1219), 3), (284, .iconst 0, 1), (285, .ireturn, 1), (286, .aload_n 1, 1), (287, .aload_n 0, 1), (288, .iload_n 3, 1), (289, .iconst 1, 1), (290, .iadd, 1), (291, .iaload, 1), (292, .aload_n 0, 1), (293, .iload_n 3, 1), (294, .iconst 2, 1), (295, .iadd, 1), (296, .iaload, 1), (297, .invokevirtual 22, 3), (300, .aload_n 2, 1), (301, .aload_n 0, 1), (302, .iload_n 3, 1), (303, .iconst 1, 1), (304, .iadd, 1), (305, .iaload, 1), (306, .aload_n 0, 1), (307, .iload_n 3, 1), (308, .iconst 2, 1), (309, .iadd, 1), (310, .iaload, 1), (311, .invokevirtual 25, 3), (314, .if_icmp .eq (1186), 3), (317, .iconst 0, 1), (318, .ireturn, 1), (319, .aload_n 1, 1), (320, .aload_n 0, 1), (321, .iload_n 3, 1), (322, .iconst 1, 1), (323, .iadd, 1), (324, .iaload, 1), (325, .invokevirtual 26, 3), (328, .aload_n 2, 1), (329, .aload_n 0, 1), (330, .iload_n 3, 1), (331, .iconst 1, 1), (332, .iadd, 1), (333, .iaload, 1), (334, .invokevirtual 30, 3), (337, .if_icmp .eq (1163), 3), (340, .iconst 0, 1), (341, .ireturn, 1), (342, .aload_n 1, 1), (343, .aload_n 0, 1), (344, .iload_n 3, 1), (345, .iconst 1, 1), (346, .iadd, 1), (347, .iaload, 1), (348, .invokevirtual 31, 3), (351, .aload_n 2, 1), (352, .aload_n 0, 1), (353, .iload_n 3, 1), (354, .iconst 1, 1), (355, .iadd, 1), (356, .iaload, 1), (357, .invokevirtual 34, 3), (360, .if_icmp .eq (1140), 3), (363, .iconst 0, 1), (364, .ireturn, 1), (365, .aload_n 1, 1), (366, .aload_n 0, 1), (367, .iload_n 3, 1), (368, .iconst 1, 1), (369, .iadd, 1), (370, .iaload, 1), (371, .aload_n 0, 1), (372, .iload_n 3, 1), (373, .iconst 2, 1), (374, .iadd, 1), (375, .iaload, 1), (376, .invokevirtual 35, 3), (379, .aload_n 2, 1), (380, .aload_n 0, 1), (381, .iload_n 3, 1), (382, .iconst 1, 1), (383, .iadd, 1), (384, .iaload, 1), (385, .aload_n 0, 1), (386, .iload_n 3, 1), (387, .iconst 2, 1), (388, .iadd, 1), (389, .iaload, 1), (390, .invokevirtual 38, 3), (393, .if_icmp .eq (1107), 3), (396, .iconst 0, 1), (397, .ireturn, 1), (398, .aload_n 1, 1), (399, .aload_n 0, 1), (400, .iload_n 3, 1), (401, .iconst 1, 1), (402, .iadd, 1), (403, .iaload, 1), (404, .aload_n 0, 1), (405, .iload_n 3, 1), (406, .iconst 2, 1), (407, .iadd, 1), (408, .iaload, 1), (409, .invokevirtual 39, 3), (412, .aload_n 2, 1), (413, .aload_n 0, 1), (414, .iload_n 3, 1), (415, .iconst 1, 1), (416, .iadd, 1), (417, .iaload, 1), (418, .aload_n 0, 1), (419, .iload_n 3, 1), (420, .iconst 2, 1), (421, .iadd, 1), (422, .iaload, 1), (423, .invokevirtual 42, 3), (426, .if_icmp .eq (1074), 3), (429, .iconst 0, 1), (430, .ireturn, 1), (431, .aload_n 1, 1), (432, .aload_n 0, 1), (433, .iload_n 3, 1), (434, .iconst 1, 1), (435, .iadd, 1), (436, .iaload, 1), (437, .aload_n 0, 1), (438, .iload_n 3, 1), (439, .iconst 2, 1), (440, .iadd, 1), (441, .iaload, 1), (442, .aload_n 0, 1), (443, .iload_n 3, 1), (444, .iconst 3, 1), (445, .iadd, 1), (446, .iaload, 1), (447, .invokevirtual 43, 3), (450, .aload_n 2, 1), (451, .aload_n 0, 1), (452, .iload_n 3, 1), (453, .iconst 1, 1), (454, .iadd, 1), (455, .iaload, 1), (456, .aload_n 0, 1), (457, .iload_n 3, 1), (458, .iconst 2, 1), (459, .iadd, 1), (460, .iaload, 1), (461, .aload_n 0, 1), (462, .iload_n 3, 1), (463, .iconst 3, 1), (464, .iadd, 1), (465, .iaload, 1), (466, .invokevirtual 47, 3), (469, .if_icmp .eq (1031), 3), (472, .iconst 0, 1), (473, .ireturn, 1), (474, .aload_n 1, 1), (475, .aload_n 0, 1), (476, .iload_n 3, 1), (477, .iconst 1, 1), (478, .iadd, 1), (479, .iaload, 1), (480, .invokevirtual 48, 3), (483, .aload_n 2, 1), (484, .aload_n 0, 1), (485, .iload_n 3, 1), (486, .iconst 1, 1), (487, .iadd, 1), (488, .iaload, 1), (489, .invokevirtual 51, 3), (492, .if_icmp .eq (1008), 3), (495, .iconst 0, 1), (496, .ireturn, 1), (497, .aload_n 1, 1), (498, .aload_n 0, 1), (499, .iload_n 3, 1), (500, .iconst 1, 1), (501, .iadd, 1), (502, .iaload, 1), (503, .invokevirtual 52, 3), (506, .aload_n 2, 1), (507, .aload_n 0, 1), (508, .iload_n 3, 1), (509, .iconst 1, 1), (510, .iadd, 1), (511, .iaload, 1), (512, .invokevirtual 55, 3), (515, .if_icmp .eq (985), 3), (518, .iconst 0, 1), (519, .ireturn, 1), (520, .aload_n 1, 1), (521, .aload_n 0, 1), (522, .iload_n 3, 1), (523, .iconst 1, 1), (524, .iadd, 1), (525, .iaload, 1), (526, .aload_n 0, 1), (527, .iload_n 3, 1), (528, .iconst 2, 1), (529, .iadd, 1), (530, .iaload, 1), (531, .invokevirtual 56, 3), (534, .aload_n 2, 1), (535, .aload_n 0, 1), (536, .iload_n 3, 1), (537, .iconst 1, 1), (538, .iadd, 1), (539, .iaload, 1), (540, .aload_n 0, 1), (541, .iload_n 3, 1), (542, .iconst 2, 1), (543, .iadd, 1), (544, .iaload, 1), (545, .invokevirtual 59, 3), (548, .if_icmp .eq (952), 3), (551, .iconst 0, 1), (552, .ireturn, 1), (553, .aload_n 1, 1), (554, .aload_n 0, 1), (555, .iload_n 3, 1), (556, .iconst 1, 1), (557, .iadd, 1), (558, .iaload, 1), (559, .aload_n 0, 1), (560, .iload_n 3, 1), (561, .iconst 2, 1), (562, .iadd, 1), (563, .iaload, 1), (564, .aload_n 0, 1), (565, .iload_n 3, 1), (566, .iconst 3, 1), (567, .iadd, 1), (568, .iaload, 1), (569, .invokevirtual 60, 3), (572, .aload_n 2, 1), (573, .aload_n 0, 1), (574, .iload_n 3, 1), (575, .iconst 1, 1), (576, .iadd, 1), (577, .iaload, 1), (578, .aload_n 0, 1), (579, .iload_n 3, 1), (580, .iconst 2, 1), (581, .iadd, 1), (582, .iaload, 1), (583, .aload_n 0, 1), (584, .iload_n 3, 1), (585, .iconst 3, 1), (586, .iadd, 1), (587, .iaload, 1), (588, .invokevirtual 63, 3), (591, .if_icmp .eq (909), 3), (594, .iconst 0, 1), (595, .ireturn, 1), (596, .aload_n 1, 1), (597, .aload_n 0, 1), (598, .iload_n 3, 1), (599, .iconst 1, 1), (600, .iadd, 1), (601, .iaload, 1), (602, .aload_n 0, 1), (603, .iload_n 3, 1), (604, .iconst 2, 1), (605, .iadd, 1), (606, .iaload, 1), (607, .invokevirtual 64, 3), (610, .aload_n 2, 1), (611, .aload_n 0, 1), (612, .iload_n 3, 1), (613, .iconst 1, 1), (614, .iadd, 1), (615, .iaload, 1), (616, .aload_n 0, 1), (617, .iload_n 3, 1), (618, .iconst 2, 1), (619, .iadd, 1), (620, .iaload, 1), (621, .invokevirtual 67, 3), (624, .if_icmp .eq (876), 3), (627, .iconst 0, 1), (628, .ireturn, 1), (629, .aload_n 1, 1), (630, .aload_n 0, 1), (631, .iload_n 3, 1), (632, .iconst 1, 1), (633, .iadd, 1), (634, .iaload, 1), (635, .aload_n 0, 1), (636, .iload_n 3, 1), (637, .iconst 2, 1), (638, .iadd, 1), (639, .iaload, 1), (640, .invokevirtual 68, 3), (643, .aload_n 2, 1), (644, .aload_n 0, 1), (645, .iload_n 3, 1), (646, .iconst 1, 1), (647, .iadd, 1), (648, .iaload, 1), (649, .aload_n 0, 1), (650, .iload_n 3, 1), (651, .iconst 2, 1), (652, .iadd, 1), (653, .iaload, 1), (654, .invokevirtual 71, 3), (657, .if_icmp .eq (843), 3), (660, .iconst 0, 1), (661, .ireturn, 1), (662, .aload_n 1, 1), (663, .invokevirtual 72, 3), (666, .aload_n 2, 1), (667, .invokevirtual 76, 3), (670, .if_icmp .eq (830), 3), (673, .iconst 0, 1), (674, .ireturn, 1), (675, .aload_n 1, 1), (676, .aload_n 0, 1), (677, .iload_n 3, 1), (678, .iconst 1, 1), (679, .iadd, 1), (680, .iaload, 1), (681, .aload_n 0, 1), (682, .iload_n 3, 1), (683, .iconst 2, 1), (684, .iadd, 1), (685, .iaload, 1), (686, .invokevirtual 77, 3), (689, .aload_n 2, 1), (690, .aload_n 0, 1), (691, .iload_n 3, 1), (692, .iconst 1, 1), (693, .iadd, 1), (694, .iaload, 1), (695, .aload_n 0, 1), (696, .iload_n 3, 1), (697, .iconst 2, 1), (698, .iadd, 1), (699, .iaload, 1), (700, .invokevirtual 80, 3), (703, .if_icmp .eq (797), 3), (706, .iconst 0, 1), (707, .ireturn, 1), (708, .aload_n 1, 1), (709, .aload_n 0, 1), (710, .iload_n 3, 1), (711, .iconst 1, 1), (712, .iadd, 1), (713, .iaload, 1), (714, .aload_n 0, 1), (715, .iload_n 3, 1), (716, .iconst 2, 1), (717, .iadd, 1), (718, .iaload, 1), (719, .aload_n 0, 1), (720, .iload_n 3, 1), (721, .iconst 3, 1), (722, .iadd, 1), (723, .iaload, 1), (724, .invokevirtual 81, 3), (727, .aload_n 2, 1), (728, .aload_n 0, 1), (729, .iload_n 3, 1), (730, .iconst 1, 1), (731, .iadd, 1), (732, .iaload, 1), (733, .aload_n 0, 1), (734, .iload_n 3, 1), (735, .iconst 2, 1), (736, .iadd, 1), (737, .iaload, 1), (738, .aload_n 0, 1), (739, .iload_n 3, 1), (740, .iconst 3, 1), (741, .iadd, 1), (742, .iaload, 1), (743, .invokevirtual 84, 3), (746, .if_icmp .eq (754), 3), (749, .iconst 0, 1), (750, .ireturn, 1), (751, .aload_n 1, 1), (752, .aload_n 0, 1), (753, .iload_n 3, 1), (754, .iconst 1, 1), (755, .iadd, 1), (756, .iaload, 1), (757, .aload_n 0, 1), (758, .iload_n 3, 1), (759, .iconst 2, 1), (760, .iadd, 1), (761, .iaload, 1), (762, .invokevirtual 85, 3), (765, .aload_n 2, 1), (766, .aload_n 0, 1), (767, .iload_n 3, 1), (768, .iconst 1, 1), (769, .iadd, 1), (770, .iaload, 1), (771, .aload_n 0, 1), (772, .iload_n 3, 1), (773, .iconst 2, 1), (774, .iadd, 1), (775, .iaload, 1), (776, .invokevirtual 88, 3), (779, .if_icmp .eq (721), 3), (782, .iconst 0, 1), (783, .ireturn, 1), (784, .aload_n 1, 1), (785, .aload_n 0, 1), (786, .iload_n 3, 1), (787, .iconst 1, 1), (788, .iadd, 1), (789, .iaload, 1), (790, .aload_n 0, 1), (791, .iload_n 3, 1), (792, .iconst 2, 1), (793, .iadd, 1), (794, .iaload, 1), (795, .aload_n 0, 1), (796, .iload_n 3, 1), (797, .iconst 3, 1), (798, .iadd, 1), (799, .iaload, 1), (800, .invokevirtual 89, 3), (803, .aload_n 2, 1), (804, .aload_n 0, 1), (805, .iload_n 3, 1), (806, .iconst 1, 1), (807, .iadd, 1), (808, .iaload, 1), (809, .aload_n 0, 1), (810, .iload_n 3, 1), (811, .iconst 2, 1), (812, .iadd, 1), (813, .iaload, 1), (814, .aload_n 0, 1), (815, .iload_n 3, 1), (816, .iconst 3, 1), (817, .iadd, 1), (818, .iaload, 1), (819, .invokevirtual 92, 3), (822, .if_icmp .eq (678), 3), (825, .iconst 0, 1), (826, .ireturn, 1), (827, .aload_n 1, 1), (828, .aload_n 0, 1), (829, .iload_n 3, 1), (830, .iconst 1, 1), (831, .iadd, 1), (832, .iaload, 1), (833, .invokevirtual 93, 3), (836, .aload_n 2, 1), (837, .aload_n 0, 1), (838, .iload_n 3, 1), (839, .iconst 1, 1), (840, .iadd, 1), (841, .iaload, 1), (842, .invokevirtual 96, 3), (845, .if_icmp .eq (655), 3), (848, .iconst 0, 1), (849, .ireturn, 1), (850, .aload_n 1, 1), (851, .aload_n 0, 1), (852, .iload_n 3, 1), (853, .iconst 1, 1), (854, .iadd, 1), (855, .iaload, 1), (856, .aload_n 0, 1), (857, .iload_n 3, 1), (858, .iconst 2, 1), (859, .iadd, 1), (860, .iaload, 1), (861, .invokevirtual 97, 3), (864, .aload_n 2, 1), (865, .aload_n 0, 1), (866, .iload_n 3, 1), (867, .iconst 1, 1), (868, .iadd, 1), (869, .iaload, 1), (870, .aload_n 0, 1), (871, .iload_n 3, 1), (872, .iconst 2, 1), (873, .iadd, 1), (874, .iaload, 1), (875, .invokevirtual 100, 3), (878, .if_icmp .eq (622), 3), (881, .iconst 0, 1), (882, .ireturn, 1), (883, .aload_n 1, 1), (884, .aload_n 0, 1), (885, .iload_n 3, 1), (886, .iconst 1, 1), (887, .iadd, 1), (888, .iaload, 1), (889, .invokevirtual 101, 3), (892, .aload_n 2, 1), (893, .aload_n 0, 1), (894, .iload_n 3, 1), (895, .iconst 1, 1), (896, .iadd, 1), (897, .iaload, 1), (898, .invokevirtual 104, 3), (901, .if_icmp .eq (599), 3), (904, .iconst 0, 1), (905, .ireturn, 1), (906, .aload_n 1, 1), (907, .aload_n 0, 1), (908, .iload_n 3, 1), (909, .iconst 1, 1), (910, .iadd, 1), (911, .iaload, 1), (912, .aload_n 0, 1), (913, .iload_n 3, 1), (914, .iconst 2, 1), (915, .iadd, 1), (916, .iaload, 1), (917, .aload_n 0, 1), (918, .iload_n 3, 1), (919, .iconst 3, 1), (920, .iadd, 1), (921, .iaload, 1), (922, .invokevirtual 105, 3), (925, .aload_n 2, 1), (926, .aload_n 0, 1), (927, .iload_n 3, 1), (928, .iconst 1, 1), (929, .iadd, 1), (930, .iaload, 1), (931, .aload_n 0, 1), (932, .iload_n 3, 1), (933, .iconst 2, 1), (934, .iadd, 1), (935, .iaload, 1), (936, .aload_n 0, 1), (937, .iload_n 3, 1), (938, .iconst 3, 1), (939, .iadd, 1), (940, .iaload, 1), (941, .invokevirtual 108, 3), (944, .if_icmp .eq (556), 3), (947, .iconst 0, 1), (948, .ireturn, 1), (949, .aload_n 1, 1), (950, .aload_n 0, 1), (951, .iload_n 3, 1), (952, .iconst 1, 1), (953, .iadd, 1), (954, .iaload, 1), (955, .aload_n 0, 1), (956, .iload_n 3, 1), (957, .iconst 2, 1), (958, .iadd, 1), (959, .iaload, 1), (960, .invokevirtual 109, 3), (963, .aload_n 2, 1), (964, .aload_n 0, 1), (965, .iload_n 3, 1), (966, .iconst 1, 1), (967, .iadd, 1), (968, .iaload, 1), (969, .aload_n 0, 1), (970, .iload_n 3, 1), (971, .iconst 2, 1), (972, .iadd, 1), (973, .iaload, 1), (974, .invokevirtual 112, 3), (977, .if_icmp .eq (523), 3), (980, .iconst 0, 1), (981, .ireturn, 1), (982, .aload_n 1, 1), (983, .aload_n 0, 1), (984, .iload_n 3, 1), (985, .iconst 1, 1), (986, .iadd, 1), (987, .iaload, 1), (988, .aload_n 0, 1), (989, .iload_n 3, 1), (990, .iconst 2, 1), (991, .iadd, 1), (992, .iaload, 1), (993, .invokevirtual 113, 3), (996, .aload_n 2, 1), (997, .aload_n 0, 1), (998, .iload_n 3, 1), (999, .iconst 1, 1), (1000, .iadd, 1), (1001, .iaload, 1), (1002, .aload_n 0, 1), (1003, .iload_n 3, 1), (1004, .iconst 2, 1), (1005, .iadd, 1), (1006, .iaload, 1), (1007, .invokevirtual 116, 3), (1010, .if_icmp .eq (490), 3), (1013, .iconst 0, 1), (1014, .ireturn, 1), (1015, .aload_n 1, 1), (1016, .aload_n 0, 1), (1017, .iload_n 3, 1), (1018, .iconst 1, 1), (1019, .iadd, 1), (1020, .iaload, 1), (1021, .invokevirtual 117, 3), (1024, .aload_n 2, 1), (1025, .aload_n 0, 1), (1026, .iload_n 3, 1), (1027, .iconst 1, 1), (1028, .iadd, 1), (1029, .iaload, 1), (1030, .invokevirtual 120, 3), (1033, .if_icmp .eq (467), 3), (1036, .iconst 0, 1), (1037, .ireturn, 1), (1038, .aload_n 1, 1), (1039, .aload_n 0, 1), (1040, .iload_n 3, 1), (1041, .iconst 1, 1), (1042, .iadd, 1), (1043, .iaload, 1), (1044, .aload_n 0, 1), (1045, .iload_n 3, 1), (1046, .iconst 2, 1), (1047, .iadd, 1), (1048, .iaload, 1), (1049, .invokevirtual 121, 3), (1052, .aload_n 2, 1), (1053, .aload_n 0, 1), (1054, .iload_n 3, 1), (1055, .iconst 1, 1), (1056, .iadd, 1), (1057, .iaload, 1), (1058, .aload_n 0, 1), (1059, .iload_n 3, 1), (1060, .iconst 2, 1), (1061, .iadd, 1), (1062, .iaload, 1), (1063, .invokevirtual 125, 3), (1066, .lcmp, 1), (1067, .ifCond .eq (433), 3), (1070, .iconst 0, 1), (1071, .ireturn, 1), (1072, .aload_n 1, 1), (1073, .aload_n 0, 1), (1074, .iload_n 3, 1), (1075, .iconst 1, 1), (1076, .iadd, 1), (1077, .iaload, 1), (1078, .invokevirtual 126, 3), (1081, .aload_n 2, 1), (1082, .aload_n 0, 1), (1083, .iload_n 3, 1), (1084, .iconst 1, 1), (1085, .iadd, 1), (1086, .iaload, 1), (1087, .invokevirtual 129, 3), (1090, .if_icmp .eq (410), 3), (1093, .iconst 0, 1), (1094, .ireturn, 1), (1095, .aload_n 1, 1), (1096, .aload_n 0, 1), (1097, .iload_n 3, 1), (1098, .iconst 1, 1), (1099, .iadd, 1), (1100, .iaload, 1), (1101, .aload_n 0, 1), (1102, .iload_n 3, 1), (1103, .iconst 2, 1), (1104, .iadd, 1), (1105, .iaload, 1), (1106, .invokevirtual 130, 3), (1109, .aload_n 2, 1), (1110, .aload_n 0, 1), (1111, .iload_n 3, 1), (1112, .iconst 1, 1), (1113, .iadd, 1), (1114, .iaload, 1), (1115, .aload_n 0, 1), (1116, .iload_n 3, 1), (1117, .iconst 2, 1), (1118, .iadd, 1), (1119, .iaload, 1), (1120, .invokevirtual 133, 3), (1123, .if_icmp .eq (377), 3), (1126, .iconst 0, 1), (1127, .ireturn, 1), (1128, .aload_n 1, 1), (1129, .invokevirtual 134, 3), (1132, .aload_n 2, 1), (1133, .invokevirtual 137, 3), (1136, .if_icmp .eq (364), 3), (1139, .iconst 0, 1), (1140, .ireturn, 1), (1141, .aload_n 1, 1), (1142, .invokevirtual 138, 3), (1145, .aload_n 2, 1), (1146, .invokevirtual 141, 3), (1149, .if_icmp .eq (351), 3), (1152, .iconst 0, 1), (1153, .ireturn, 1), (1154, .aload_n 1, 1), (1155, .aload_n 0, 1), (1156, .iload_n 3, 1), (1157, .iconst 1, 1), (1158, .iadd, 1), (1159, .iaload, 1), (1160, .aload_n 0, 1), (1161, .iload_n 3, 1), (1162, .iconst 2, 1), (1163, .iadd, 1), (1164, .iaload, 1), (1165, .invokevirtual 142, 3), (1168, .aload_n 2, 1), (1169, .aload_n 0, 1), (1170, .iload_n 3, 1), (1171, .iconst 1, 1), (1172, .iadd, 1), (1173, .iaload, 1), (1174, .aload_n 0, 1), (1175, .iload_n 3, 1), (1176, .iconst 2, 1), (1177, .iadd, 1), (1178, .iaload, 1), (1179, .invokevirtual 145, 3), (1182, .if_icmp .eq (318), 3), (1185, .iconst 0, 1), (1186, .ireturn, 1), (1187, .aload_n 1, 1), (1188, .aload_n 0, 1), (1189, .iload_n 3, 1), (1190, .iconst 1, 1), (1191, .iadd, 1), (1192, .iaload, 1), (1193, .aload_n 0, 1), (1194, .iload_n 3, 1), (1195, .iconst 2, 1), (1196, .iadd, 1), (1197, .iaload, 1), (1198, .invokevirtual 146, 3), (1201, .aload_n 2, 1), (1202, .aload_n 0, 1), (1203, .iload_n 3, 1), (1204, .iconst 1, 1), (1205, .iadd, 1), (1206, .iaload, 1), (1207, .aload_n 0, 1), (1208, .iload_n 3, 1), (1209, .iconst 2, 1), (1210, .iadd, 1), (1211, .iaload, 1), (1212, .invokevirtual 149, 3), (1215, .if_icmp .eq (285), 3), (1218, .iconst 0, 1), (1219, .ireturn, 1), (1220, .aload_n 1, 1), (1221, .aload_n 0, 1), (1222, .iload_n 3, 1), (1223, .iconst 1, 1), (1224, .iadd, 1), (1225, .iaload, 1), (1226, .aload_n 0, 1), (1227, .iload_n 3, 1), (1228, .iconst 2, 1), (1229, .iadd, 1), (1230, .iaload, 1), (1231, .aload_n 0, 1), (1232, .iload_n 3, 1), (1233, .iconst 3, 1), (1234, .iadd, 1), (1235, .iaload, 1), (1236, .invokevirtual 150, 3), (1239, .aload_n 2, 1), (1240, .aload_n 0, 1), (1241, .iload_n 3, 1), (1242, .iconst 1, 1), (1243, .iadd, 1), (1244, .iaload, 1), (1245, .aload_n 0, 1), (1246, .iload_n 3, 1), (1247, .iconst 2, 1), (1248, .iadd, 1), (1249, .iaload, 1), (1250, .aload_n 0, 1), (1251, .iload_n 3, 1), (1252, .iconst 3, 1), (1253, .iadd, 1), (1254, .iaload, 1), (1255, .invokevirtual 153, 3), (1258, .if_icmp .eq (242), 3), (1261, .iconst 0, 1), (1262, .ireturn, 1), (1263, .aload_n 1, 1), (1264, .aload_n 0, 1), (1265, .iload_n 3, 1), (1266, .iconst 1, 1), (1267, .iadd, 1), (1268, .iaload, 1), (1269, .aload_n 0, 1), (1270, .iload_n 3, 1), (1271, .iconst 2, 1), (1272, .iadd, 1), (1273, .iaload, 1), (1274, .aload_n 0, 1), (1275, .iload_n 3, 1), (1276, .iconst 3, 1), (1277, .iadd, 1), (1278, .iaload, 1), (1279, .invokevirtual 154, 3), (1282, .aload_n 2, 1), (1283, .aload_n 0, 1), (1284, .iload_n 3, 1), (1285, .iconst 1, 1), (1286, .iadd, 1), (1287, .iaload, 1), (1288, .aload_n 0, 1), (1289, .iload_n 3, 1), (1290, .iconst 2, 1), (1291, .iadd, 1), (1292, .iaload, 1), (1293, .aload_n 0, 1), (1294, .iload_n 3, 1), (1295, .iconst 3, 1), (1296, .iadd, 1), (1297, .iaload, 1), (1298, .invokevirtual 157, 3), (1301, .if_icmp .eq (199), 3), (1304, .iconst 0, 1), (1305, .ireturn, 1), (1306, .aload_n 1, 1), (1307, .aload_n 0, 1), (1308, .iload_n 3, 1), (1309, .iconst 1, 1), (1310, .iadd, 1), (1311, .iaload, 1), (1312, .aload_n 0, 1), (1313, .iload_n 3, 1), (1314, .iconst 2, 1), (1315, .iadd, 1), (1316, .iaload, 1), (1317, .aload_n 0, 1), (1318, .iload_n 3, 1), (1319, .iconst 3, 1), (1320, .iadd, 1), (1321, .iaload, 1), (1322, .aload_n 0, 1), (1323, .iload_n 3, 1), (1324, .iconst 4, 1), (1325, .iadd, 1), (1326, .iaload, 1), (1327, .aload_n 0, 1), (1328, .iload_n 3, 1), (1329, .iconst 5, 1), (1330, .iadd, 1), (1331, .iaload, 1), (1332, .invokevirtual 158, 3), (1335, .aload_n 2, 1), (1336, .aload_n 0, 1), (1337, .iload_n 3, 1), (1338, .iconst 1, 1), (1339, .iadd, 1), (1340, .iaload, 1), (1341, .aload_n 0, 1), (1342, .iload_n 3, 1), (1343, .iconst 2, 1), (1344, .iadd, 1), (1345, .iaload, 1), (1346, .aload_n 0, 1), (1347, .iload_n 3, 1), (1348, .iconst 3, 1), (1349, .iadd, 1), (1350, .iaload, 1), (1351, .aload_n 0, 1), (1352, .iload_n 3, 1), (1353, .iconst 4, 1), (1354, .iadd, 1), (1355, .iaload, 1), (1356, .aload_n 0, 1), (1357, .iload_n 3, 1), (1358, .iconst 5, 1), (1359, .iadd, 1), (1360, .iaload, 1), (1361, .invokevirtual 162, 3), (1364, .if_icmp .eq (136), 3), (1367, .iconst 0, 1), (1368, .ireturn, 1), (1369, .aload_n 1, 1), (1370, .aload_n 0, 1), (1371, .iload_n 3, 1), (1372, .iconst 1, 1), (1373, .iadd, 1), (1374, .iaload, 1), (1375, .invokevirtual 163, 3), (1378, .aload_n 2, 1), (1379, .aload_n 0, 1), (1380, .iload_n 3, 1), (1381, .iconst 1, 1), (1382, .iadd, 1), (1383, .iaload, 1), (1384, .invokevirtual 166, 3), (1387, .if_icmp .eq (113), 3), (1390, .iconst 0, 1), (1391, .ireturn, 1), (1392, .aload_n 1, 1), (1393, .aload_n 0, 1), (1394, .iload_n 3, 1), (1395, .iconst 1, 1), (1396, .iadd, 1), (1397, .iaload, 1), (1398, .invokevirtual 167, 3), (1401, .aload_n 2, 1), (1402, .aload_n 0, 1), (1403, .iload_n 3, 1), (1404, .iconst 1, 1), (1405, .iadd, 1), (1406, .iaload, 1), (1407, .invokevirtual 170, 3), (1410, .if_icmp .eq (90), 3), (1413, .iconst 0, 1), (1414, .ireturn, 1), (1415, .aload_n 1, 1), (1416, .invokevirtual 171, 3), (1419, .aload_n 2, 1), (1420, .invokevirtual 174, 3), (1423, .if_icmp .eq (77), 3), (1426, .iconst 0, 1), (1427, .ireturn, 1), (1428, .aload_n 1, 1), (1429, .invokevirtual 175, 3), (1432, .aload_n 2, 1), (1433, .invokevirtual 178, 3), (1436, .if_icmp .eq (64), 3), (1439, .iconst 0, 1), (1440, .ireturn, 1), (1441, .aload_n 1, 1), (1442, .invokevirtual 179, 3), (1445, .aload_n 2, 1), (1446, .invokevirtual 182, 3), (1449, .if_icmp .eq (51), 3), (1452, .iconst 0, 1), (1453, .ireturn, 1), (1454, .aload_n 1, 1), (1455, .aload_n 0, 1), (1456, .iload_n 3, 1), (1457, .iconst 1, 1), (1458, .iadd, 1), (1459, .iaload, 1), (1460, .invokevirtual 183, 3), (1463, .aload_n 2, 1), (1464, .aload_n 0, 1), (1465, .iload_n 3, 1), (1466, .iconst 1, 1), (1467, .iadd, 1), (1468, .iaload, 1), (1469, .invokevirtual 186, 3), (1472, .if_icmp .eq (28), 3), (1475, .iconst 0, 1), (1476, .ireturn, 1), (1477, .aload_n 1, 1), (1478, .aload_n 0, 1), (1479, .iload_n 3, 1), (1480, .iconst 1, 1), (1481, .iadd, 1), (1482, .iaload, 1), (1483, .invokevirtual 187, 3), (1486, .aload_n 2, 1), (1487, .aload_n 0, 1), (1488, .iload_n 3, 1), (1489, .iconst 1, 1), (1490, .iadd, 1), (1491, .iaload, 1), (1492, .invokevirtual 190, 3), (1495, .if_icmp .eq (5), 3), (1498, .iconst 0, 1), (1499, .ireturn, 1), (1500, .iinc 3 (6), 3), (1503, .goto (-1485), 3), (1506, .iconst 1, 1), (1507, .ireturn, 1)]
def bm_rcs : List (List (Nat × Instr × Nat)) := [bm_rc0, bm_rc1, bm_rc2, bm_rc3, bm_rc4, bm_rc5, bm_rc6, bm_rc7, bm_rc8, bm_rc9, bm_rc10, bm_rc11, bm_rc12, bm_rc13, bm_rc14, bm_rc15, bm_rc16, bm_rc17, bm_rc18, bm_rc19, bm_rc20, bm_rc21, bm_rc22, bm_rc23, bm_rc24, bm_rc25, bm_rc26, bm_rc27, bm_rc28, bm_rc29, bm_rc30, bm_rc31, bm_rc32, bm_rc33, bm_rc34, bm_rc35, bm_rc36, bm_rc37, bm_rc38, bm_rc39, bm_rc40, bm_rc41, bm_rc42, bm_rc43, bm_rc44, bm_rc45, bm_rc46, bm_rc47, bm_rc48, bm_rc49, bm_rc50, bm_rc51, bm_rc52, bm_rc53, bm_rc54, bm_rc55, bm_rc56, bm_rc57, bm_rc58, bm_rc59, bm_rc60, bm_rc61, bm_rc62, bm_rc63, bm_rc64, bm_rc65, bm_rc66, bm_rc67, bm_rc68, bm_rc69, bm_rc70, bm_rc71, bm_rc72, bm_rc73, bm_rc74, bm_rc75, bm_rc76, bm_rc77, bm_rc78, bm_rc79, bm_rc80, bm_rc81, bm_rc82, bm_rc83, bm_rc84, bm_rc85, bm_rc86, bm_rc87, bm_rc88, bm_rc89, bm_rc90, bm_rc91, bm_rc92, bm_rc93, bm_rc94, bm_rc95, bm_rc96, bm_rc97, bm_rc98, bm_rc99, bm_rc100, bm_rc101, bm_rc102, bm_rc103, bm_rc104, bm_rc105, bm_rc106, bm_rc107, bm_rc108, bm_rc109, bm_rc110, bm_rc111, bm_rc112, bm_rc113, bm_rc114, bm_rc115, bm_rc116, bm_rc117, bm_rc118, bm_rc119, bm_rc120, bm_rc121, bm_rc122, bm_rc123, bm_rc124, bm_rc125, bm_rc126, bm_rc127, bm_rc128, bm_rc129, bm_rc130, bm_rc131, bm_rc132, bm_rc133, bm_rc134, bm_rc135, bm_rc136, bm_rc137, bm_rc138, bm_rc139, bm_rc140, bm_rc141, bm_rc142, bm_rc143, bm_rc144, bm_rc145, bm_rc146, bm_rc147, bm_rc148, bm_rc149, bm_rc150, bm_rc151, bm_rc152, bm_rc153, bm_rc154, bm_rc155, bm_rc156, bm_rc157, bm_rc158, bm_rc159, bm_rc160, bm_rc161, bm_rc162, bm_rc163, bm_rc164, bm_rc165, bm_rc166, bm_rc167, bm_rc168, bm_rc169, bm_rc170, bm_rc171, bm_rc172, bm_rc173, bm_rc174, bm_rc175, bm_rc176, bm_rc177, bm_rc178, bm_rc179, bm_rc180, bm_rc181, bm_rc182, bm_rc183, bm_rc184, bm_rc185, bm_rc186, bm_rc187, bm_rc188, bm_rc189, bm_rc190, bm_rc191, bm_rc192, bm_rc193, bm_rc194, bm_rc195, bm_rc196, bm_rc197, bm_rc198, bm_rc199, bm_rc200, bm_rc201, bm_rc202, bm_rc203, bm_rc204, bm_rc205, bm_rc206, bm_rc207, bm_rc208, bm_rc209, bm_rc210, bm_rc211]
def bm_nthR : List (List (Nat × Instr × Nat)) → Nat → List (Nat × Instr × Nat)
  | [], _ => []
  | a :: _, 0 => a
  | _ :: l, n + 1 => bm_nthR l n
def bm_rcd (M : Nat) : List (Nat × Instr × Nat) := bm_nthR bm_rcs M
/-- what the class files link: the class that names it, what it is, its index -/
def bm_links : List (Nat × Nat × Nat) := [(0, 2, 64), (0, 3, 95), (0, 4, 105), (0, 5, 108), (0, 6, 98), (0, 53, 92), (0, 54, 102), (0, 55, 111), (0, 103, 81), (0, 104, 89), (0, 141, 77), (1, 0, 86), (1, 18, 41), (1, 19, 45), (1, 56, 34), (1, 102, 133), (1, 105, 110), (1, 142, 68), (1, 143, 73), (1, 144, 78), (1, 152, 137), (1, 154, 64), (1, 163, 94), (1, 164, 54), (1, 183, 58), (1, 196, 37), (2, 0, 84), (2, 1, 103), (2, 3, 94), (2, 4, 100), (2, 5, 166), (2, 6, 194), (2, 7, 191), (2, 8, 118), (2, 9, 122), (2, 10, 128), (2, 11, 62), (2, 12, 125), (2, 13, 131), (2, 14, 134), (2, 15, 147), (2, 16, 252), (2, 17, 212), (2, 23, 55), (2, 24, 51), (2, 25, 88), (2, 26, 232), (2, 27, 238), (2, 28, 235), (2, 29, 202), (2, 30, 259), (2, 48, 197), (2, 52, 222), (2, 53, 91), (2, 54, 97), (2, 65, 47), (2, 66, 72), (2, 67, 78), (2, 68, 175), (2, 69, 172), (2, 121, 137), (2, 141, 140), (2, 153, 114), (2, 159, 160), (2, 171, 150), (2, 172, 163), (2, 173, 169), (2, 174, 181), (2, 208, 215), (3, 31, 82), (3, 32, 42), (3, 33, 38), (3, 34, 56), (3, 35, 68), (3, 36, 79), (3, 37, 221), (3, 38, 50), (3, 39, 153), (3, 40, 163), (3, 41, 169), (3, 42, 193), (3, 43, 207), (3, 44, 232), (3, 47, 333), (3, 70, 182), (3, 71, 176), (3, 72, 96), (3, 73, 72), (3, 74, 76), (3, 75, 322), (3, 76, 90), (3, 77, 60), (3, 78, 104), (3, 79, 107), (3, 80, 110), (3, 81, 93), (3, 82, 85), (3, 84, 126), (3, 85, 135), (3, 86, 157), (3, 87, 160), (3, 88, 166), (3, 89, 179), (3, 90, 204), (3, 91, 190), (3, 92, 213), (3, 95, 248), (3, 96, 319), (3, 97, 327), (3, 102, 254), (3, 122, 101), (3, 128, 119), (3, 129, 142), (3, 133, 263), (3, 137, 224), (3, 147, 139), (3, 148, 270), (3, 152, 259), (3, 160, 145), (3, 161, 266), (3, 162, 293), (3, 175, 150), (3, 179, 216), (3, 181, 290), (3, 182, 302), (3, 191, 185), (3, 192, 210), (3, 194, 227), (3, 195, 305), (3, 207, 314), (4, 20, 126), (4, 21, 134), (4, 22, 179), (4, 45, 137), (4, 46, 182), (4, 57, 22), (4, 58, 43), (4, 59, 52), (4, 60, 121), (4, 61, 130), (4, 62, 142), (4, 63, 183), (4, 64, 187), (4, 83, 25), (4, 93, 129), (4, 94, 133), (4, 98, 174), (4, 99, 178), (4, 100, 190), (4, 106, 13), (4, 107, 18), (4, 108, 26), (4, 109, 31), (4, 110, 35), (4, 111, 39), (4, 112, 101), (4, 113, 146), (4, 114, 150), (4, 115, 154), (4, 116, 158), (4, 117, 163), (4, 118, 167), (4, 119, 171), (4, 120, 175), (4, 123, 17), (4, 124, 21), (4, 125, 30), (4, 126, 34), (4, 127, 38), (4, 130, 55), (4, 131, 104), (4, 132, 125), (4, 134, 145), (4, 135, 149), (4, 136, 153), (4, 138, 162), (4, 139, 186), (4, 145, 42), (4, 146, 47), (4, 149, 157), (4, 150, 166), (4, 151, 170), (4, 155, 64), (4, 156, 68), (4, 157, 72), (4, 158, 117), (4, 165, 48), (4, 166, 56), (4, 167, 60), (4, 168, 81), (4, 169, 89), (4, 170, 93), (4, 176, 67), (4, 177, 71), (4, 178, 76), (4, 180, 120), (4, 184, 77), (4, 185, 85), (4, 186, 97), (4, 187, 105), (4, 188, 109), (4, 189, 113), (4, 190, 51), (4, 193, 96), (4, 197, 59), (4, 198, 63), (4, 199, 80), (4, 200, 84), (4, 201, 88), (4, 202, 92), (4, 203, 100), (4, 204, 108), (4, 205, 112), (4, 206, 116), (4, 209, 141), (4, 210, 138), (6, 49, 335), (6, 50, 492), (6, 51, 1059), (6, 140, 495), (7, 101, 9)]
def bm_prims : List (Nat × Nat × Nat) := [(0, 0, 68), (0, 1, 85), (0, 2, 58), (1, 1, 48), (2, 2, 242), (3, 0, 63), (3, 1, 123)]
def bm_fields : List (Nat × Nat × Nat × Nat) := [(0, 0, 0, 9), (0, 0, 1, 15), (0, 0, 2, 18), (0, 0, 3, 21), (0, 0, 4, 25), (0, 0, 5, 28), (0, 0, 6, 31), (0, 0, 7, 34), (0, 0, 8, 37), (0, 0, 9, 40), (0, 0, 10, 43), (0, 0, 11, 46), (0, 0, 12, 49), (0, 0, 13, 52), (0, 0, 14, 55), (1, 0, 0, 113), (1, 0, 3, 115), (1, 0, 4, 117), (1, 0, 7, 81), (1, 0, 9, 91), (1, 0, 10, 100), (1, 0, 11, 104), (1, 0, 14, 108), (1, 1, 0, 9), (1, 1, 1, 15), (1, 1, 2, 19), (1, 1, 3, 22), (1, 1, 4, 25), (1, 1, 5, 28), (1, 1, 6, 31), (2, 0, 0, 59), (2, 0, 1, 75), (2, 0, 2, 229), (2, 0, 3, 65), (2, 0, 4, 69), (2, 0, 5, 110), (2, 0, 6, 206), (2, 0, 7, 81), (2, 0, 8, 185), (2, 0, 9, 144), (2, 0, 10, 154), (2, 0, 11, 157), (2, 0, 13, 188), (2, 0, 14, 178), (2, 1, 1, 209), (2, 1, 3, 219), (2, 1, 6, 226), (2, 2, 0, 10), (2, 2, 1, 16), (2, 2, 2, 19), (2, 2, 3, 248), (2, 2, 4, 25), (2, 2, 5, 31), (2, 2, 6, 34), (2, 2, 7, 38), (2, 2, 8, 41), (2, 2, 9, 44), (3, 3, 0, 9), (3, 3, 1, 13), (3, 3, 2, 16), (3, 3, 3, 330), (3, 3, 4, 19), (3, 3, 5, 130), (3, 3, 6, 197), (3, 3, 7, 201), (3, 3, 8, 22), (3, 3, 9, 239), (3, 3, 10, 245), (3, 3, 11, 242), (3, 3, 12, 251), (3, 3, 13, 25), (3, 3, 14, 28), (3, 3, 15, 31), (3, 3, 16, 34)]
def bm_consts : List (Nat × Int32 × Nat) := [(0, 99999, 88), (0, 1103515245, 115), (2, -1000001, 255), (2, 99999, 113), (3, -1000001, 37), (3, 99999, 134), (3, 1103515245, 231), (5, 252645135, 267), (5, 858993459, 266), (5, 1431655765, 265)]
def bm_constsL : List (Nat × Int64 × Nat) := [(3, -1, 336), (3, 3, 325), (3, 4, 237), (3, 6, 54), (3, 8, 235), (3, 9, 113), (3, 10, 99), (3, 11, 46), (3, 18, 219), (3, 20, 88), (3, 40, 174), (3, 60, 148), (3, 99, 48), (3, 100, 172), (3, 999, 115), (3, 9999, 117), (3, 99999, 188)]
def bm_strs : List (Nat × Nat × Nat) := [(1, 0, 119), (1, 1, 121), (1, 2, 123), (1, 3, 125), (1, 4, 127), (1, 5, 129), (1, 6, 131), (1, 7, 89), (1, 8, 98), (1, 9, 102), (1, 10, 106), (1, 11, 62), (1, 12, 71), (1, 13, 76), (3, 0, 274), (3, 1, 276), (3, 2, 278), (3, 3, 280), (3, 4, 282), (3, 5, 284), (3, 6, 286), (3, 7, 288), (3, 8, 296), (3, 9, 298), (3, 10, 300), (3, 11, 308), (3, 12, 310), (3, 13, 312), (3, 14, 317)]
def bm_sx : List String := ["cow", "calf", "alto", "bride", "pass", "cracked", "kid", "on", "tone", "swings", "muffled", "grass", "grows", "thunder", ";"]
def bm_tx (k : Nat) : String := bm_sx.getD k ""
end
section
def bm_T : List Cond := lw_tbl.filter goodWord
theorem bm_mem {ws : List Cond} (ps : List Nat) (hp : ws = ps.filterMap (fun i => lw_tbl[i]?)) (h : ws.all goodWord = true) : ∀ w ∈ ws, w ∈ bm_T := by
  intro w hw
  have h1 := List.all_eq_true.mp h w hw
  rw [hp] at hw
  obtain ⟨i, -, hi⟩ := List.mem_filterMap.mp hw
  exact List.mem_filter.mpr ⟨List.mem_of_getElem? hi, h1⟩
def bm_lkC (q : Nat × Nat × Nat) : Cond := .methodLink (bm_cn q.1) q.2.2 (bm_y q.2.1)
def bm_flC (q : Nat × Nat × Nat × Nat) : Cond := .fieldLink (bm_cn q.1) q.2.2.2 ((bm_TT q.2.1 q.2.2.1).1) ((bm_TT q.2.1 q.2.2.1).2.1) ((bm_TT q.2.1 q.2.2.1).2.2.1)
def bm_coC (q : Nat × Int32 × Nat) : Cond := .constant (bm_cn q.1) q.2.2 q.2.1
def bm_clC (q : Nat × Int64 × Nat) : Cond := .constantLong (bm_cn q.1) q.2.2 q.2.1
def bm_prN (k : Nat) : MethodName := match k with
  | 0 => Lib.Math.max.name
  | 1 => Lib.Math.min.name
  | _ => arraycopyName
def bm_prC (q : Nat × Nat × Nat) : Cond := .methodLink (bm_cn q.1) q.2.2 (bm_prN q.2.1)
set_option maxRecDepth 100000 in
theorem bm_links_in : ∀ q ∈ bm_links, bm_lkC q ∈ bm_T := fun q hq => bm_mem (ws := bm_links.map bm_lkC) [291, 343, 354, 355, 344, 339, 353, 359, 335, 349, 331, 628, 550, 553, 546, 570, 634, 642, 647, 652, 580, 566, 630, 561, 624, 557, 275, 312, 298, 308, 467, 514, 509, 363, 371, 379, 249, 375, 383, 387, 423, 714, 530, 240, 237, 283, 665, 685, 678, 519, 486, 480, 399, 287, 304, 234, 261, 272, 494, 476, 395, 414, 327, 451, 431, 459, 472, 497, 542, 799, 788, 956, 812, 841, 795, 1045, 1166, 916, 932, 940, 988, 1000, 1072, 1205, 952, 963, 849, 784, 791, 1163, 833, 858, 863, 867, 871, 837, 808, 904, 912, 924, 928, 936, 948, 996, 976, 1008, 1103, 1156, 1056, 1120, 854, 879, 908, 1099, 1052, 899, 1132, 1121, 895, 1116, 1141, 891, 1028, 1137, 1111, 959, 1004, 1060, 1128, 1107, 522, 534, 706, 1091, 1197, 253, 316, 367, 515, 526, 657, 710, 718, 816, 1082, 1086, 1189, 1193, 1209, 230, 245, 257, 264, 268, 279, 463, 661, 670, 674, 681, 690, 694, 698, 702, 780, 804, 821, 825, 829, 920, 1036, 1077, 1152, 1159, 1169, 1177, 1201, 845, 875, 1173, 1181, 1185, 410, 415, 419, 505, 322, 391, 406, 435, 443, 447, 971, 980, 984, 1068, 427, 439, 455, 468, 490, 501, 885, 1024, 944, 967, 992, 1012, 1016, 1020, 1032, 1040, 1048, 1064, 1095, 538, 574, 584, 596, 588, 591] (by decide +kernel) (by decide +kernel) _ (List.mem_map_of_mem hq)
set_option maxRecDepth 100000 in
theorem bm_fields_in : ∀ q ∈ bm_fields, bm_flC q ∈ bm_T := fun q hq => bm_mem (ws := bm_fields.map bm_flC) [97, 100, 102, 104, 107, 110, 112, 114, 117, 119, 122, 125, 128, 129, 131, 99, 106, 109, 116, 120, 123, 126, 132, 172, 173, 175, 176, 178, 179, 180, 98, 101, 103, 105, 108, 111, 113, 115, 118, 121, 124, 127, 130, 133, 174, 177, 181, 199, 200, 201, 202, 203, 204, 205, 206, 207, 208, 728, 729, 730, 731, 732, 733, 734, 735, 736, 737, 738, 739, 740, 741, 742, 743, 744] (by decide +kernel) (by decide +kernel) _ (List.mem_map_of_mem hq)
set_option maxRecDepth 100000 in
theorem bm_consts_in : ∀ q ∈ bm_consts, bm_coC q ∈ bm_T := fun q hq => bm_mem (ws := bm_consts.map bm_coC) [348, 513, 244, 326, 803, 890, 1076, 485, 484, 483] (by decide +kernel) (by decide +kernel) _ (List.mem_map_of_mem hq)
set_option maxRecDepth 100000 in
theorem bm_constsL_in : ∀ q ∈ bm_constsL, bm_clC q ∈ bm_T := fun q hq => bm_mem (ws := bm_constsL.map bm_clC) [1213, 1059, 1090, 836, 1081, 882, 853, 787, 1044, 820, 999, 889, 794, 951, 883, 884, 975] (by decide +kernel) (by decide +kernel) _ (List.mem_map_of_mem hq)
set_option maxRecDepth 100000 in
theorem bm_prims_in : ∀ q ∈ bm_prims, bm_prC q ∈ bm_T := fun q hq => bm_mem (ws := bm_prims.map bm_prC) [295, 340, 403, 556, 689, 862, 903] (by decide +kernel) (by decide +kernel) _ (List.mem_map_of_mem hq)
def bm_insts : List Nat := [0, 1, 2, 3, 4, 5, 6, 7, 8, 9, 10, 11, 12, 13, 14, 15, 16, 17, 20, 21, 22, 23, 25, 27, 30, 31, 34, 35, 36, 39, 40, 41, 42, 43, 44, 45, 46, 47, 49, 50, 52, 53, 54, 55, 56, 57, 58, 59, 60, 61, 62, 63, 64, 69, 70, 71, 72, 77, 78, 79, 80, 81, 82, 83, 84, 85, 86, 87, 88, 91, 92, 93, 94, 95, 98, 99, 100, 102, 103, 104, 105, 106, 107, 108, 109, 110, 111, 112, 113, 114, 115, 116, 117, 118, 119, 120, 121, 122, 123, 124, 125, 126, 127, 129, 130, 131, 132, 133, 134, 135, 136, 137, 138, 139, 141, 142, 143, 144, 145, 146, 147, 148, 149, 150, 151, 152, 153, 154, 155, 156, 157, 158, 159, 160, 161, 162, 163, 164, 165, 166, 167, 168, 169, 170, 171, 172, 173, 174, 175, 176, 177, 178, 179, 180, 181, 182, 183, 184, 185, 186, 187, 188, 189, 190, 191, 192, 193, 194, 195, 196, 197, 198, 199, 200, 201, 202, 203, 204, 205, 206, 207, 208, 209, 210]
def bm_stats : List Nat := [18, 19, 24, 26, 28, 29, 32, 33, 37, 38, 48, 51, 65, 66, 67, 68, 73, 74, 75, 76, 89, 90, 96, 97, 101, 128, 140]
set_option maxRecDepth 100000 in
theorem bm_instM_in : ∀ q ∈ bm_insts, (fun M => Cond.instanceMethod (bm_y M)) q ∈ bm_T := fun q hq => bm_mem (ws := bm_insts.map (fun M => Cond.instanceMethod (bm_y M))) [276, 313, 293, 299, 309, 356, 345, 510, 364, 372, 380, 250, 376, 384, 388, 424, 715, 531, 523, 535, 707, 242, 285, 687, 488, 801, 814, 843, 797, 918, 934, 942, 990, 1002, 1074, 1092, 1198, 1207, 575, 585, 400, 288, 305, 361, 548, 254, 317, 368, 516, 527, 658, 711, 719, 478, 954, 965, 851, 860, 865, 869, 873, 839, 810, 817, 906, 914, 926, 930, 938, 978, 1010, 1083, 1087, 1105, 1190, 1194, 1210, 571, 337, 351, 636, 231, 246, 258, 265, 269, 280, 464, 662, 671, 675, 682, 691, 695, 699, 703, 397, 856, 781, 805, 822, 826, 830, 910, 921, 1037, 1078, 1101, 1153, 1160, 1170, 1054, 1178, 1202, 332, 644, 649, 654, 846, 876, 901, 1134, 1174, 1182, 1186, 581, 328, 568, 411, 416, 420, 506, 453, 897, 1118, 1143, 632, 563, 323, 392, 407, 436, 444, 448, 433, 461, 474, 499, 893, 972, 981, 985, 1030, 1069, 1139, 1113, 626, 428, 440, 456, 469, 491, 502, 886, 961, 1006, 1025, 1062, 1130, 559, 945, 968, 993, 1013, 1017, 1021, 1033, 1041, 1049, 1065, 1109, 543, 1096, 539] (by decide +kernel) (by decide +kernel) _ (List.mem_map_of_mem hq)
set_option maxRecDepth 100000 in
theorem bm_sel_in : ∀ q ∈ bm_insts, (fun M => Cond.selects (bm_y M).cls (bm_y M) (bm_y M)) q ∈ bm_T := fun q hq => bm_mem (ws := bm_insts.map (fun M => Cond.selects (bm_y M).cls (bm_y M) (bm_y M))) [277, 314, 2, 300, 310, 357, 346, 511, 365, 373, 381, 251, 377, 385, 389, 425, 716, 532, 524, 536, 708, 0, 1, 24, 12, 26, 28, 30, 25, 43, 46, 48, 53, 54, 60, 1093, 1199, 70, 576, 586, 401, 289, 306, 5, 14, 255, 318, 369, 517, 528, 659, 712, 720, 11, 49, 51, 31, 33, 34, 35, 36, 29, 27, 818, 40, 42, 44, 45, 47, 52, 56, 1084, 1088, 62, 1191, 1195, 1211, 572, 3, 4, 20, 232, 247, 259, 266, 270, 281, 465, 663, 672, 676, 683, 692, 696, 700, 704, 6, 32, 782, 806, 823, 827, 831, 41, 922, 1038, 1079, 61, 1154, 1161, 1171, 58, 1179, 1203, 333, 21, 22, 23, 847, 877, 39, 67, 1175, 1183, 1187, 582, 329, 17, 412, 417, 421, 507, 8, 38, 65, 69, 19, 16, 324, 393, 408, 437, 445, 449, 7, 9, 10, 13, 37, 973, 982, 986, 57, 1070, 68, 64, 18, 429, 441, 457, 470, 492, 503, 887, 50, 55, 1026, 59, 66, 15, 946, 969, 994, 1014, 1018, 1022, 1034, 1042, 1050, 1066, 63, 544, 1097, 540] (by decide +kernel) (by decide +kernel) _ (List.mem_map_of_mem hq)
set_option maxRecDepth 100000 in
theorem bm_stat_in : ∀ q ∈ bm_stats, (fun M => Cond.static (bm_y M)) q ∈ bm_T := fun q hq => bm_mem (ws := bm_stats.map (fun M => Cond.static (bm_y M))) [551, 554, 238, 666, 679, 520, 789, 957, 1046, 1167, 481, 597, 235, 262, 273, 495, 785, 792, 1164, 834, 949, 997, 1157, 1057, 592, 880, 589] (by decide +kernel) (by decide +kernel) _ (List.mem_map_of_mem hq)
def bm_meths : List Nat := List.range 211
set_option maxRecDepth 100000 in
theorem bm_ini_in : ∀ q ∈ bm_meths, (fun M => Cond.initialized (bm_y M).cls) q ∈ bm_T := fun q hq => bm_mem (ws := bm_meths.map (fun M => Cond.initialized (bm_y M).cls)) [73, 73, 73, 73, 73, 73, 73, 73, 73, 73, 73, 73, 73, 73, 73, 73, 73, 74, 74, 74, 72, 72, 72, 72, 72, 72, 72, 72, 72, 72, 72, 75, 75, 75, 75, 75, 75, 75, 75, 75, 75, 75, 75, 75, 75, 75, 75, 75, 78, 79, 79, 81, 73, 73, 73, 73, 74, 72, 72, 72, 72, 72, 72, 72, 72, 72, 72, 72, 72, 72, 75, 75, 75, 75, 75, 75, 75, 75, 75, 75, 75, 75, 75, 75, 75, 75, 75, 75, 75, 75, 75, 75, 75, 75, 75, 75, 75, 75, 75, 75, 75, 79, 79, 73, 73, 74, 72, 72, 72, 72, 72, 72, 72, 72, 72, 72, 72, 72, 72, 72, 72, 72, 75, 75, 75, 75, 75, 75, 75, 75, 75, 75, 75, 75, 75, 75, 75, 75, 75, 75, 80, 73, 74, 74, 74, 75, 75, 75, 75, 75, 75, 75, 79, 73, 74, 72, 72, 72, 72, 72, 75, 75, 75, 74, 74, 72, 72, 72, 72, 72, 72, 72, 72, 72, 72, 75, 75, 75, 75, 75, 75, 75, 75, 74, 72, 72, 72, 72, 72, 72, 75, 75, 75, 75, 75, 75, 74, 75, 75, 75, 75, 75, 75, 75, 75, 75, 75, 75, 74, 75, 72] (by decide +kernel) (by decide +kernel) _ (List.mem_map_of_mem hq)
set_option maxRecDepth 100000 in
theorem bm_code_eq : bm_meths.map (fun M => Cond.code (bm_y M) (bm_cc M) (bm_nL M) (bm_rt M)) = [278, 315, 294, 301, 311, 358, 347, 512, 366, 374, 382, 252, 378, 386, 390, 426, 717, 533, 552, 555, 525, 537, 709, 243, 239, 286, 667, 688, 680, 521, 489, 802, 790, 958, 815, 844, 798, 1047, 1168, 919, 935, 943, 991, 1003, 1075, 1094, 1200, 1208, 482, 577, 587, 598, 402, 290, 307, 362, 549, 256, 319, 370, 518, 529, 660, 713, 721, 236, 263, 274, 496, 479, 955, 966, 852, 786, 793, 1165, 835, 861, 866, 870, 874, 840, 811, 819, 907, 915, 927, 931, 939, 950, 998, 979, 1011, 1085, 1089, 1106, 1158, 1058, 1192, 1196, 1212, 593, 573, 338, 352, 637, 233, 248, 260, 267, 271, 282, 466, 664, 673, 677, 684, 693, 697, 701, 705, 398, 857, 783, 807, 824, 828, 832, 881, 911, 923, 1039, 1080, 1102, 1155, 1162, 1172, 1055, 1180, 1204, 590, 334, 645, 650, 655, 848, 878, 902, 1135, 1176, 1184, 1188, 583, 330, 569, 413, 418, 422, 508, 454, 898, 1119, 1144, 633, 564, 325, 394, 409, 438, 446, 450, 434, 462, 475, 500, 894, 974, 983, 987, 1031, 1071, 1140, 1114, 627, 430, 442, 458, 471, 493, 504, 888, 962, 1007, 1027, 1063, 1131, 560, 947, 970, 995, 1015, 1019, 1023, 1035, 1043, 1051, 1067, 1110, 545, 1098, 541].filterMap (fun i => lw_tbl[i]?) := by rfl
set_option maxRecDepth 100000 in
theorem bm_code_in : ∀ M ∈ bm_meths, Cond.code (bm_y M) (bm_cc M) (bm_nL M) (bm_rt M) ∈ bm_T := fun M hM => bm_mem _ bm_code_eq (List.all_eq_true.mpr (fun w hw => by obtain ⟨M, -, rfl⟩ := List.mem_map.mp hw; rfl)) _ (List.mem_map_of_mem (f := fun M => Cond.code (bm_y M) (bm_cc M) (bm_nL M) (bm_rt M)) hM)
theorem bm_lays0 : ∀ w ∈ u_ws RX0 TX0 15, w ∈ bm_T := bm_mem [134, 136, 138, 140, 142, 144, 146, 148, 150, 152, 154, 156, 158, 160, 162] (by decide +kernel) (by decide +kernel)
theorem bm_lays1 : ∀ w ∈ u_ws RX1 TX1 7, w ∈ bm_T := bm_mem [182, 184, 186, 188, 190, 192, 194] (by decide +kernel) (by decide +kernel)
theorem bm_lays2 : ∀ w ∈ u_ws RX2 TX2 10, w ∈ bm_T := bm_mem [209, 211, 213, 215, 217, 219, 221, 223, 225, 227] (by decide +kernel) (by decide +kernel)
theorem bm_lays3 : ∀ w ∈ u_ws RX3 TX3 17, w ∈ bm_T := bm_mem [745, 747, 749, 751, 753, 755, 757, 759, 761, 763, 765, 767, 769, 771, 773, 775, 777] (by decide +kernel) (by decide +kernel)
theorem bm_one {w : Cond} (i : Nat) (h : lw_tbl[i]? = some w) (g : goodWord w = true) : w ∈ bm_T := List.mem_filter.mpr ⟨List.mem_of_getElem? h, g⟩
theorem bm_max_st : Cond.static Lib.Math.max.name ∈ bm_T := bm_one 296 (by decide +kernel) (by decide +kernel)
theorem bm_min_st : Cond.static Lib.Math.min.name ∈ bm_T := bm_one 341 (by decide +kernel) (by decide +kernel)
theorem bm_math_ini : Cond.initialized "java/lang/Math" ∈ bm_T := bm_one 76 (by decide +kernel) (by decide +kernel)
theorem bm_sys_ini : Cond.initialized "java/lang/System" ∈ bm_T := bm_one 77 (by decide +kernel) (by decide +kernel)
theorem bm_max_co : Cond.code Lib.Math.max.name Lib.Math.max.code 2 (some .int) ∈ bm_T := bm_one 297 rfl rfl
theorem bm_min_co : Cond.code Lib.Math.min.name Lib.Math.min.code 2 (some .int) ∈ bm_T := bm_one 342 rfl rfl
theorem bm_ac_na : Cond.native arraycopyName ∈ bm_T := bm_one 405 (by decide +kernel) (by decide +kernel)
theorem bm_ac_st : Cond.static arraycopyName ∈ bm_T := bm_one 404 (by decide +kernel) (by decide +kernel)
end
section
def bm_iv (n : Int) : Int32 := match n with
  | .ofNat n => nI n
  | .negSucc n => -nI (n + 1)
def bm_nthT : List (Nat × Instr × Nat) → Nat → Nat × Instr × Nat
  | [], _ => (0, .nop, 0)
  | a :: _, 0 => a
  | _ :: l, n + 1 => bm_nthT l n
/-- the place of an instruction in the bytes of its method -/
def bm_pc (M j : Nat) : Nat := (bm_nthT (bm_rcd M) j).1
def bm_f4 (k : Nat) : Fin 4 := ⟨k % 4, Nat.mod_lt _ (by decide)⟩
def bm_rtn (t : Option FieldType) : Nat := match t with
  | none => 0
  | some .long => 2
  | some (.array _) => 3
  | some (.object _) => 3
  | some _ => 1
def bm_tsw (M : Nat) (pc : Int) : Int → List (Int × Int) → List Int → Bool
  | _, [], [] => true
  | v, (a, t) :: l, o :: os => decide (a = v) && decide (pc + o = (bm_pc M t.toNat : Int)) && bm_tsw M pc (v + 1) l os
  | _, _, _ => false
def bm_lsw (M : Nat) (pc : Int) : List (Int × Int) → List (Int × Int) → Bool
  | [], [] => true
  | (a, t) :: l, (b, o) :: os => decide (a = b) && decide (0 ≤ a) && decide (a < 2147483648) && decide (pc + o = (bm_pc M t.toNat : Int)) && bm_lsw M pc l os
  | _, _ => false
def bm_lo (M k : Nat) : Bool := decide (k < bm_nL M) && !((bm_lg M).any (fun g => decide (g + 1 = k)))
def bm_cst (cls : Nat) (real : Instr) (len : Nat) (v : Int32) : Bool := bm_consts.any (fun q => decide (q.1 = cls) && decide (q.2.1 = v) && ((decide (real = .ldc q.2.2) && decide (len = 2)) || (decide (real = .ldc_w q.2.2) && decide (len = 3))))
def bm_cstL (cls : Nat) (real : Instr) (len : Nat) (v : Int64) : Bool := bm_constsL.any (fun q => decide (q.1 = cls) && decide (q.2.1 = v) && (decide (real = .ldc2_w q.2.2) && decide (len = 3)))
def bm_fld (cls ci slot : Nat) (f : Nat → Instr) (real : Instr) : Bool := bm_fields.any (fun q => decide (q.1 = cls) && decide (q.2.1 = ci) && decide (q.2.2.1 = slot) && decide (real = f q.2.2.2))
def bm_inv (cls M m n : Nat) (real : Instr) : Bool := decide (m < 211) && decide (n / 8 % 4 = bm_rtn (bm_rt m)) && decide (n / 32 % 8 = bm_ar m + (if bm_sta m then 0 else 1)) && decide (n / 256 % 16 = bm_nL m) && decide (bm_dp m + 1 ≤ bm_dp M) && decide (bm_nL m ≤ 20) && decide ((if bm_sta m then (if bm_lg m = [0, 2, 4] then 6 else 0) else if bm_cl0 m = 6 then 5 else bm_cl0 m + 1) = n % 8) && bm_links.any (fun q => decide (q.1 = cls) && decide (q.2.1 = m) && decide (real = if bm_sta m then .invokestatic q.2.2 else .invokevirtual q.2.2))
/-- an instruction of the little machine and the one of the class file that it stands for -/
def bm_rel (M pc nx : Nat) (i real : Instr) (len : Nat) : Bool := match i with
  | .nop => true
  | .ldc n => decide (nx = pc + len) && ((decide (real = .iconst n) && decide (len = 1) && decide (Int32.ofInt n = nI n)) || (decide (real = .bipush n) && decide (len = 2) && decide ((Int8.ofInt n).toInt32 = nI n)) || (decide (real = .sipush n) && decide (len = 3) && decide ((Int16.ofInt n).toInt32 = nI n)) || bm_cst (bm_cl0 M) real len (nI n))
  | .ldc_w n => decide (nx = pc + len) && ((decide (real = .iconst (-(n : Int))) && decide (len = 1) && decide (Int32.ofInt (-(n : Int)) = -nI n)) || bm_cst (bm_cl0 M) real len (-nI n))
  | .ldc2_w n => decide (nx = pc + len) && ((decide (real = .lconst ⟨n % 2, Nat.mod_lt _ (by decide)⟩) && decide (n < 2) && decide (len = 1)) || bm_cstL (bm_cl0 M) real len (lN n))
  | .f2d => decide (nx = pc + len) && bm_cstL (bm_cl0 M) real len (-1)
  | .getstatic n => decide (nx = pc + len) && decide (len = 3) && ((decide (n = 56) && decide (bm_cl0 M = 0) && decide (real = .getstatic 74)) || (decide (n = 57) && decide (bm_cl0 M = 2) && decide (real = .getstatic 256)) || (decide (n = 58) && decide (bm_cl0 M = 2) && decide (real = .getstatic 107)))
  | .anewarray n => decide (nx = pc + len) && bm_strs.any (fun q => decide (q.1 = bm_cl0 M) && decide (60 + q.2.1 = n) && ((decide (real = .ldc q.2.2) && decide (len = 2)) || (decide (real = .ldc_w q.2.2) && decide (len = 3))))
  | .fconst _ => decide (nx = pc + len) && decide (len = 3) && decide (bm_cl0 M = 6) && decide (real = .getstatic 38)
  | .dconst _ => decide (nx = pc + len) && decide (len = 3) && decide (bm_cl0 M = 6) && decide (real = .getstatic 1053)
  | .iload k => decide (nx = pc + len) && ((decide (real = .iload k) && decide (len = 2)) || (decide (k < 4) && decide (real = .iload_n (bm_f4 k)) && decide (len = 1)))
  | .aload k => decide (nx = pc + len) && ((decide (real = .aload k) && decide (len = 2)) || (decide (k < 4) && decide (real = .aload_n (bm_f4 k)) && decide (len = 1)))
  | .lload k => decide (nx = pc + len) && ((decide (real = .lload k) && decide (len = 2)) || (decide (k < 4) && decide (real = .lload_n (bm_f4 k)) && decide (len = 1)))
  | .istore k => decide (nx = pc + len) && bm_lo M k && ((decide (real = .istore k) && decide (len = 2)) || (decide (k < 4) && decide (real = .istore_n (bm_f4 k)) && decide (len = 1)))
  | .astore k => decide (nx = pc + len) && bm_lo M k && ((decide (real = .astore k) && decide (len = 2)) || (decide (k < 4) && decide (real = .astore_n (bm_f4 k)) && decide (len = 1)))
  | .lstore k => decide (nx = pc + len) && bm_lo M k && decide (k + 1 < bm_nL M) && (bm_lg M).any (fun g => decide (g = k)) && ((decide (real = .lstore k) && decide (len = 2)) || (decide (k < 4) && decide (real = .lstore_n (bm_f4 k)) && decide (len = 1)))
  | .iinc k n => decide (nx = pc + 3) && bm_lo M k && decide (real = .iinc k n) && decide (len = 3) && decide (Int32.ofInt n = bm_iv n)
  | .dup | .dup2 | .pop | .iadd | .isub | .imul | .iand | .ior | .idiv | .irem | .ishl | .ishr | .iushr | .ladd | .lmul | .ldiv | .lrem | .lcmp | .i2l | .i2b | .i2s | .i2c | .iaload | .iastore | .aaload | .baload | .arraylength => decide (nx = pc + 1) && decide (real = i) && decide (len = 1)
  | .saload => decide (nx = pc + 1) && decide (real = .iaload) && decide (len = 1)
  | .fsub => decide (nx = pc + 1) && decide (real = .arraylength) && decide (len = 1)
  | .dmul => decide (nx = pc + 3) && decide (len = 3) && decide (1 ≤ bm_dp M) && bm_prims.any (fun q => decide (q.1 = bm_cl0 M) && decide (q.2.1 = 0) && decide (real = .invokestatic q.2.2))
  | .dadd => decide (nx = pc + 3) && decide (len = 3) && decide (1 ≤ bm_dp M) && bm_prims.any (fun q => decide (q.1 = bm_cl0 M) && decide (q.2.1 = 1) && decide (real = .invokestatic q.2.2))
  | .dastore => decide (nx = pc + 3) && decide (len = 3) && decide (1 ≤ bm_dp M) && bm_prims.any (fun q => decide (q.1 = bm_cl0 M) && decide (q.2.1 = 2) && decide (real = .invokestatic q.2.2))
  | .goto t => decide (real = .goto ((bm_pc M t.toNat : Int) - pc)) && decide (len = 3)
  | .if_icmp c t => decide (nx = pc + 3) && decide (real = .if_icmp c ((bm_pc M t.toNat : Int) - pc)) && decide (len = 3)
  | .ifCond c t => decide (nx = pc + 3) && decide (real = .ifCond c ((bm_pc M t.toNat : Int) - pc)) && decide (len = 3)
  | .lookupswitch d ps => match real with
    | .tableswitch dd lo hi offs => decide ((pc : Int) + dd = (bm_pc M d.toNat : Int)) && decide (0 ≤ lo) && decide (hi < 2147483648) && decide (hi + 1 = lo + ps.toList.length) && bm_tsw M pc lo ps.toList offs.toList
    | .lookupswitch dd ps' => decide ((pc : Int) + dd = (bm_pc M d.toNat : Int)) && ((ps'.toList.zip (ps'.toList.drop 1)).all (fun (a, next) => a.1 < next.1)) && bm_lsw M pc ps.toList ps'.toList
    | _ => false
  | .getfield n => decide (nx = pc + 3) && decide (len = 3) && decide (1 ≤ n / 32) && decide (n / 32 ≤ 4) && decide (n % 32 < bm_NN (n / 32 - 1)) && decide ((bm_fs (n / 32 - 1))[n % 32]? = some 0) && bm_fld (bm_cl0 M) (n / 32 - 1) (n % 32) .getfield real
  | .instanceof n => decide (nx = pc + 3) && decide (len = 3) && decide (1 ≤ n / 64 / 32) && decide (n / 64 / 32 ≤ 4) && decide (n / 64 % 32 < bm_NN (n / 64 / 32 - 1)) && decide ((bm_fs (n / 64 / 32 - 1))[n / 64 % 32]? = some (n % 64)) && decide (1 ≤ n % 64) && bm_fld (bm_cl0 M) (n / 64 / 32 - 1) (n / 64 % 32) .getfield real
  | .putfield n => decide (nx = pc + 3) && decide (len = 3) && decide (1 ≤ n / 32) && decide (n / 32 ≤ 4) && decide (n % 32 < bm_NN (n / 32 - 1)) && decide ((bm_fs (n / 32 - 1))[n % 32]? = some 0) && decide (bm_ty (n / 32 - 1) (n % 32) = .int) && decide ((bm_TT (n / 32 - 1) (n % 32)).2.2.2 = false) && bm_fld (bm_cl0 M) (n / 32 - 1) (n % 32) .putfield real
  | .checkcast n => decide (nx = pc + 3) && decide (len = 3) && decide (1 ≤ n / 32) && decide (n / 32 ≤ 4) && decide (n % 32 < bm_NN (n / 32 - 1)) && decide ((bm_fs (n / 32 - 1))[n % 32]? = some 0) && decide (bm_ty (n / 32 - 1) (n % 32) = .boolean) && decide ((bm_TT (n / 32 - 1) (n % 32)).2.2.2 = false) && bm_fld (bm_cl0 M) (n / 32 - 1) (n % 32) .putfield real
  | .f2l => decide (nx = pc + 3) && decide (len = 3) && decide (bm_cl0 M = 6) && decide (real = .getfield 9)
  | .fadd => decide (nx = pc + 3) && decide (len = 3) && decide (bm_cl0 M = 6) && decide (real = .getfield 15)
  | .invokevirtual n => decide (nx = pc + 3) && decide (len = 3) && bm_inv (bm_cl0 M) M (n / 4096) n real
  | .invokespecial n => decide (nx = pc + 3) && decide (len = 3) && bm_inv (bm_cl0 M) M (n / 4096) n real
  | .ireturn => decide (real = .ireturn) && decide (len = 1) && decide (bm_rt M = some .int)
  | .freturn => decide (real = .ireturn) && decide (len = 1) && decide (bm_rt M = some .boolean)
  | .d2f => decide (real = .ireturn) && decide (len = 1) && decide (bm_rt M = some .byte)
  | .d2i => decide (real = .ireturn) && decide (len = 1) && decide (bm_rt M = some .char)
  | .lreturn => decide (real = .lreturn) && decide (len = 1) && decide (bm_rt M = some .long)
  | .areturn => decide (real = .areturn) && decide (len = 1) && decide (bm_rt M = some (.array .int))
  | .return_ => decide (real = .return_) && decide (len = 1) && decide (bm_rt M = none)
  | _ => false
def bm_chk1 (M : Nat) (cc : ByteArray) (q : Nat × Instr × Nat) (nx : Nat) (i : Instr) : Bool := decide (decode cc q.1 = .ok q.2) && bm_rel M q.1 nx i q.2.1 q.2.2
def bm_chkG (M : Nat) (cc : ByteArray) : List Instr → List (Nat × Instr × Nat) → Bool
  | [], _ => true
  | _ :: _, [] => false
  | i :: is, q :: rs => bm_chk1 M cc q (bm_nthT rs 0).1 i && bm_chkG M cc is rs
def bm_chkM (M : Nat) : Bool := bm_chkG M (bm_cc M) (bm_code M) (bm_rcd M)
def bm_chkS (M a n : Nat) : Bool := bm_chkG M (bm_cc M) (((bm_code M).drop a).take n) ((bm_rcd M).drop a)
/-- what a check says of an instruction -/
def bm_fact (M j : Nat) (i : Instr) : Prop := decode (bm_cc M) (bm_pc M j) = .ok (bm_nthT (bm_rcd M) j).2 ∧ bm_rel M (bm_pc M j) (bm_pc M (j + 1)) i (bm_nthT (bm_rcd M) j).2.1 (bm_nthT (bm_rcd M) j).2.2 = true
theorem bm_chkG_at {M : Nat} {cc : ByteArray} : ∀ (is : List Instr) (rs : List (Nat × Instr × Nat)), bm_chkG M cc is rs = true → ∀ (j : Nat) (i : Instr), bm_nthI is j = some i → bm_chk1 M cc (bm_nthT rs j) (bm_nthT rs (j + 1)).1 i = true
  | [], _, _, j, i, h => by cases h
  | _ :: _, [], h, _, _, _ => by cases h
  | a :: is, q :: rs, h, 0, i, hj => by
    have h := (Bool.and_eq_true _ _).mp h
    cases hj
    exact h.1
  | a :: is, q :: rs, h, j + 1, i, hj => bm_chkG_at is rs ((Bool.and_eq_true _ _).mp h).2 j i hj
theorem bm_fact_of {M j : Nat} {i : Instr} (h : bm_chk1 M (bm_cc M) (bm_nthT (bm_rcd M) j) (bm_nthT (bm_rcd M) (j + 1)).1 i = true) : bm_fact M j i := by
  have h := (Bool.and_eq_true _ _).mp h
  exact ⟨of_decide_eq_true h.1, h.2⟩
theorem bm_fact_M {M : Nat} (h : bm_chkM M = true) (j : Nat) (i : Instr) (hj : bm_nthI (bm_code M) j = some i) : bm_fact M j i := bm_fact_of (bm_chkG_at _ _ h j i hj)
theorem bm_nthT_drop : ∀ (a : Nat) (rs : List (Nat × Instr × Nat)) (j : Nat), bm_nthT (rs.drop a) j = bm_nthT rs (a + j)
  | 0, rs, j => by rw [Nat.zero_add]; rfl
  | a + 1, [], j => by simp [bm_nthT]
  | a + 1, q :: rs, j => by
    rw [show a + 1 + j = (a + j) + 1 by omega]
    exact bm_nthT_drop a rs j
theorem bm_nthI_drop : ∀ (a : Nat) (is : List Instr) (j : Nat), bm_nthI (is.drop a) j = bm_nthI is (a + j)
  | 0, rs, j => by rw [Nat.zero_add]; rfl
  | a + 1, [], j => by simp [bm_nthI]
  | a + 1, q :: rs, j => by
    rw [show a + 1 + j = (a + j) + 1 by omega]
    exact bm_nthI_drop a rs j
theorem bm_nthI_take : ∀ (n : Nat) (is : List Instr) (j : Nat), j < n → bm_nthI (is.take n) j = bm_nthI is j
  | 0, _, _, h => absurd h (Nat.not_lt_zero _)
  | n + 1, [], j, _ => by simp
  | n + 1, q :: rs, 0, _ => rfl
  | n + 1, q :: rs, j + 1, h => bm_nthI_take n rs j (Nat.lt_of_succ_lt_succ h)
theorem bm_fact_S {M a n : Nat} (h : bm_chkS M a n = true) (j : Nat) (i : Instr) (h1 : a ≤ j) (h2 : j < a + n) (hj : bm_nthI (bm_code M) j = some i) : bm_fact M j i := by
  obtain ⟨k, rfl⟩ : ∃ k, j = a + k := ⟨j - a, by omega⟩
  have h3 := bm_chkG_at _ _ h k i (by rw [bm_nthI_take n _ k (by omega), bm_nthI_drop]; exact hj)
  rw [bm_nthT_drop, bm_nthT_drop] at h3
  exact bm_fact_of h3
end
section
set_option maxRecDepth 100000 in
theorem bm_ok0 : [0, 1, 2, 3, 4, 5, 6, 7, 8, 9].all bm_chkM = true := by decide +kernel
set_option maxRecDepth 100000 in
theorem bm_ok1 : [10, 11, 12, 13, 14, 15, 16, 17, 18, 19].all bm_chkM = true := by decide +kernel
set_option maxRecDepth 100000 in
theorem bm_ok2 : [20, 21, 22, 23, 24, 25, 26, 27, 28, 29].all bm_chkM = true := by decide +kernel
set_option maxRecDepth 100000 in
theorem bm_ok3 : [30, 31, 32, 33, 34, 35, 36, 37, 38, 39].all bm_chkM = true := by decide +kernel
set_option maxRecDepth 100000 in
theorem bm_ok4 : [40, 41, 42, 43, 44, 45, 46, 47, 48, 49].all bm_chkM = true := by decide +kernel
set_option maxRecDepth 100000 in
theorem bm_ok5 : [50, 51, 52, 53, 54, 55, 56, 57, 58, 59].all bm_chkM = true := by decide +kernel
set_option maxRecDepth 100000 in
theorem bm_ok6 : [60, 61, 62, 63, 64, 65, 66, 67, 68, 69].all bm_chkM = true := by decide +kernel
set_option maxRecDepth 100000 in
theorem bm_ok7 : [70, 71, 72, 73, 74, 75, 76, 77, 78, 79].all bm_chkM = true := by decide +kernel
set_option maxRecDepth 100000 in
theorem bm_ok8 : [80, 81, 82, 83, 84, 85, 86, 87, 88, 89].all bm_chkM = true := by decide +kernel
set_option maxRecDepth 100000 in
theorem bm_ok9 : [90, 91, 92, 93, 94, 95, 96, 97, 98, 99].all bm_chkM = true := by decide +kernel
set_option maxRecDepth 100000 in
theorem bm_ok10 : [100, 101, 102, 103, 104, 105, 106, 107, 108, 109].all bm_chkM = true := by decide +kernel
set_option maxRecDepth 100000 in
theorem bm_ok11 : [110, 111, 112, 113, 114, 115, 116, 117, 118, 119].all bm_chkM = true := by decide +kernel
set_option maxRecDepth 100000 in
theorem bm_ok12 : [120, 121, 122, 123, 124, 125, 126, 127, 128, 129].all bm_chkM = true := by decide +kernel
set_option maxRecDepth 100000 in
theorem bm_ok13 : [130, 131, 132, 133, 134, 135, 136, 137, 138, 139].all bm_chkM = true := by decide +kernel
set_option maxRecDepth 100000 in
theorem bm_ok14 : [140, 141, 142, 143, 144, 145, 146, 147, 148, 149].all bm_chkM = true := by decide +kernel
set_option maxRecDepth 100000 in
theorem bm_ok15 : [150, 151, 152, 153, 154, 155, 156, 157, 158, 159].all bm_chkM = true := by decide +kernel
set_option maxRecDepth 100000 in
theorem bm_ok16 : [160, 161, 162, 163, 164, 165, 166, 167, 168, 169].all bm_chkM = true := by decide +kernel
set_option maxRecDepth 100000 in
theorem bm_ok17 : [170, 171, 172, 173, 174, 175, 176, 177, 178, 179].all bm_chkM = true := by decide +kernel
set_option maxRecDepth 100000 in
theorem bm_ok18 : [180, 181, 182, 183, 184, 185, 186, 187, 188, 189].all bm_chkM = true := by decide +kernel
set_option maxRecDepth 100000 in
theorem bm_ok19 : [190, 191, 192, 193, 194, 195, 196, 197, 198, 199].all bm_chkM = true := by decide +kernel
set_option maxRecDepth 100000 in
theorem bm_ok20 : [200, 201, 202, 203, 204, 205, 206, 207, 208, 209].all bm_chkM = true := by decide +kernel
set_option maxRecDepth 100000 in
theorem bm_ok21 : [210].all bm_chkM = true := by decide +kernel
end
section
set_option maxRecDepth 100000 in
theorem bm_okL0 : bm_chkS 211 0 60 = true := by decide +kernel
set_option maxRecDepth 100000 in
theorem bm_okL1 : bm_chkS 211 60 60 = true := by decide +kernel
set_option maxRecDepth 100000 in
theorem bm_okL2 : bm_chkS 211 120 60 = true := by decide +kernel
set_option maxRecDepth 100000 in
theorem bm_okL3 : bm_chkS 211 180 60 = true := by decide +kernel
set_option maxRecDepth 100000 in
theorem bm_okL4 : bm_chkS 211 240 60 = true := by decide +kernel
set_option maxRecDepth 100000 in
theorem bm_okL5 : bm_chkS 211 300 60 = true := by decide +kernel
set_option maxRecDepth 100000 in
theorem bm_okL6 : bm_chkS 211 360 60 = true := by decide +kernel
set_option maxRecDepth 100000 in
theorem bm_okL7 : bm_chkS 211 420 60 = true := by decide +kernel
set_option maxRecDepth 100000 in
theorem bm_okL8 : bm_chkS 211 480 60 = true := by decide +kernel
set_option maxRecDepth 100000 in
theorem bm_okL9 : bm_chkS 211 540 60 = true := by decide +kernel
set_option maxRecDepth 100000 in
theorem bm_okL10 : bm_chkS 211 600 60 = true := by decide +kernel
set_option maxRecDepth 100000 in
theorem bm_okL11 : bm_chkS 211 660 60 = true := by decide +kernel
set_option maxRecDepth 100000 in
theorem bm_okL12 : bm_chkS 211 720 60 = true := by decide +kernel
set_option maxRecDepth 100000 in
theorem bm_okL13 : bm_chkS 211 780 60 = true := by decide +kernel
set_option maxRecDepth 100000 in
theorem bm_okL14 : bm_chkS 211 840 60 = true := by decide +kernel
set_option maxRecDepth 100000 in
theorem bm_okL15 : bm_chkS 211 900 60 = true := by decide +kernel
set_option maxRecDepth 100000 in
theorem bm_okL16 : bm_chkS 211 960 60 = true := by decide +kernel
set_option maxRecDepth 100000 in
theorem bm_okL17 : bm_chkS 211 1020 60 = true := by decide +kernel
end
section
/-! THE WORLD of the little machine as the heap holds it -/
def bm_cz (ad : Nat → Nat) (fm : Value) : Value → Value
  | .ref k => .ref (ad k)
  | .retAddr _ => fm
  | v => v
def bm_flds (ad : Nat → Nat) (k : Nat) (f : Nat → Int32) : Nat → List Nat → List Value
  | _, [] => []
  | j, d :: ds => (if d = 0 then .int (f j) else .ref (ad (k + d))) :: bm_flds ad k f (j + 1) ds
def bm_cell (ad : Nat → Nat) (cI cJ : ClassId) (k : Nat) (f : Nat → Int32) : va_E :=
  if bm_oc k = 0 then
    if k = 36 then .inl (cJ, 4, .inr (.inr (.inr (.inr (fun i => if i < 4 then some (ad (37 + i)) else none)))))
    else .inl (cI, bm_al k, .inl f)
  else .inr (bm_oc k - 1, bm_flds ad k f 0 (bm_fs (bm_oc k - 1)))
def bm_ws (ad : Nat → Nat) (cI cJ : ClassId) (σ : bm_M) : va_W := (List.range 55).map (fun k => (ad k, bm_cell ad cI cJ k (σ k)))
theorem bm_ws_at {ad : Nat → Nat} {cI cJ : ClassId} {σ : bm_M} {k : Nat} (hk : k < 55) : (bm_ws ad cI cJ σ)[k]? = some (ad k, bm_cell ad cI cJ k (σ k)) := by
  simp [bm_ws, hk]
theorem bm_ws_get {ad : Nat → Nat} {cI cJ : ClassId} {σ : bm_M} {k : Nat} : (bm_ws ad cI cJ σ)[k]? = if k < 55 then some (ad k, bm_cell ad cI cJ k (σ k)) else none := by
  by_cases h : k < 55
  · rw [if_pos h, bm_ws_at h]
  · rw [if_neg h]
    simp [bm_ws]
    omega
theorem bm_ws_set {ad : Nat → Nat} {cI cJ : ClassId} {σ τ : bm_M} {k : Nat} {y : Nat × va_E} (hy : y = (ad k, bm_cell ad cI cJ k (τ k))) (ho : ∀ j, j ≠ k → τ j = σ j) : (bm_ws ad cI cJ σ).set k y = bm_ws ad cI cJ τ := by
  apply List.ext_getElem?
  intro j
  rw [List.getElem?_set, bm_ws_get, bm_ws_get]
  by_cases e : k = j
  · subst e
    by_cases h : k < 55
    · simp [h, hy, bm_ws]
    · simp [h, bm_ws]
  · rw [if_neg e, ho j (fun q => e q.symm)]
theorem bm_nth_out : ∀ (l : List Nat) (k : Nat), l.length ≤ k → bm_nth l k = 0
  | [], _, _ => rfl
  | _ :: l, 0, h => by simp at h
  | _ :: l, k + 1, h => bm_nth_out l k (by simpa using h)
theorem bm_al_in {k : Nat} (h : bm_al k ≠ 0) : k < 55 ∧ bm_oc k = 0 ∧ k ≠ 36 := by
  have hk : k < 55 := by
    rcases Nat.lt_or_ge k 55 with q | q
    · exact q
    · exact absurd (show bm_al k = 0 from bm_nth_out _ k q) h
  refine ⟨hk, ?_⟩
  have : ∀ k, k < 55 → bm_al k ≠ 0 → bm_oc k = 0 ∧ k ≠ 36 := by decide +kernel
  exact this k hk h
theorem bm_oc_in {k c : Nat} (h : bm_oc k = c) (hc : 1 ≤ c) : k < 55 := by
  rcases Nat.lt_or_ge k 55 with q | q
  · exact q
  · have : bm_oc k = 0 := bm_nth_out _ k q
    omega
theorem bm_oc_le (k : Nat) : bm_oc k ≤ 4 := by
  rcases Nat.lt_or_ge k 55 with q | q
  · have : ∀ k, k < 55 → bm_oc k ≤ 4 := by decide +kernel
    exact this k q
  · rw [show bm_oc k = 0 from bm_nth_out _ k q]
    omega
theorem bm_cell_arr {ad : Nat → Nat} {cI cJ : ClassId} {k : Nat} {f : Nat → Int32} (h : bm_al k ≠ 0) : bm_cell ad cI cJ k f = .inl (cI, bm_al k, .inl f) := by
  obtain ⟨-, h1, h2⟩ := bm_al_in h
  unfold bm_cell
  rw [if_pos h1, if_neg h2]
theorem bm_cell_obj {ad : Nat → Nat} {cI cJ : ClassId} {k c : Nat} {f : Nat → Int32} (h : bm_oc k = c) (hc : 1 ≤ c) : bm_cell ad cI cJ k f = .inr (c - 1, bm_flds ad k f 0 (bm_fs (c - 1))) := by
  subst h
  unfold bm_cell
  rw [if_neg (by omega)]
theorem bm_flds_at {ad : Nat → Nat} {k : Nat} {f : Nat → Int32} : ∀ (ds : List Nat) (j i d : Nat), ds[i]? = some d → (bm_flds ad k f j ds)[i]? = some (if d = 0 then .int (f (j + i)) else .ref (ad (k + d)))
  | [], _, _, _, h => by simp at h
  | a :: ds, j, 0, d, h => by
    cases h
    rfl
  | a :: ds, j, i + 1, d, h => by
    have := bm_flds_at (ad := ad) (k := k) (f := f) ds (j + 1) i d h
    rw [show j + (i + 1) = j + 1 + i by omega]
    exact this
theorem bm_flds_len {ad : Nat → Nat} {k : Nat} {f : Nat → Int32} : ∀ (ds : List Nat) (j : Nat), (bm_flds ad k f j ds).length = ds.length
  | [], _ => rfl
  | a :: ds, j => by simp [bm_flds, bm_flds_len ds (j + 1)]
theorem bm_flds_eq {ad : Nat → Nat} {k : Nat} {f g : Nat → Int32} : ∀ (ds : List Nat) (j : Nat), (∀ i, j ≤ i → f i = g i) → bm_flds ad k f j ds = bm_flds ad k g j ds
  | [], _, _ => rfl
  | a :: ds, j, h => by
    simp only [bm_flds]
    rw [h j (Nat.le_refl _), bm_flds_eq ds (j + 1) (fun i hi => h i (by omega))]
theorem bm_flds_set {ad : Nat → Nat} {k : Nat} {f : Nat → Int32} {v : Int32} : ∀ (ds : List Nat) (j i : Nat), ds[i]? = some 0 → (bm_flds ad k f j ds).set i (.int v) = bm_flds ad k (upd f (j + i) v) j ds
  | [], _, _, h => by simp at h
  | a :: ds, j, 0, h => by
    cases h
    simp only [bm_flds, List.set_cons_zero, if_pos]
    rw [bm_flds_eq (f := f) (g := upd f (j + 0) v) ds (j + 1) (fun i hi => by simp [upd]; intro q; omega)]
    simp [upd]
  | a :: ds, j, i + 1, h => by
    have := bm_flds_set (ad := ad) (k := k) (f := f) (v := v) ds (j + 1) i h
    simp only [bm_flds, List.set_cons_succ]
    rw [this, show j + 1 + i = j + (i + 1) by omega]
    congr 1
    by_cases ha : a = 0
    · rw [if_pos ha, if_pos ha]
      simp [upd]
    · rw [if_neg ha, if_neg ha]
theorem bm_up_self (σ : bm_M) (k i : Nat) (v : Int32) : bm_up σ k i v k = upd (σ k) i v := by simp [bm_up]
theorem bm_up_ne (σ : bm_M) {k j : Nat} (i : Nat) (v : Int32) (h : j ≠ k) : bm_up σ k i v j = σ j := by simp [bm_up, h]
theorem bm_cl_at {ci : Nat} (h : ci < 4) : bm_cl[ci]? = some (bm_RR ci, bm_TT ci, bm_NN ci) := by
  match ci, h with
  | 0, _ => rfl
  | 1, _ => rfl
  | 2, _ => rfl
  | 3, _ => rfl
theorem bm_lays {ci : Nat} (h : ci < 4) : ∀ w ∈ u_ws (bm_RR ci) (bm_TT ci) (bm_NN ci), w ∈ bm_T := by
  match ci, h with
  | 0, _ => exact bm_lays0
  | 1, _ => exact bm_lays1
  | 2, _ => exact bm_lays2
  | 3, _ => exact bm_lays3
theorem bm_ty_ok {ci : Nat} (h : ci < 4) : ∀ k, k < bm_NN ci → parseFieldDescriptor (bm_TT ci k).2.2.1 = some (bm_ty ci k) := by
  match ci, h with
  | 0, _ => exact tyX0_ok
  | 1, _ => exact tyX1_ok
  | 2, _ => exact tyX2_ok
  | 3, _ => exact tyX3_ok
theorem bm_nm_ok {ci : Nat} (h : ci < 4) : ∀ a, a < bm_NN ci → ∀ b, b < bm_NN ci → a ≠ b → (bm_TT ci a).2.1 ≠ (bm_TT ci b).2.1 := by
  match ci, h with
  | 0, _ => exact nmX0
  | 1, _ => exact nmX1
  | 2, _ => exact nmX2
  | 3, _ => exact nmX3
theorem bm_in_vp {i : Int32} {n : Nat} (h : bm_in i n = true) : vp_in i n := by
  simp only [bm_in, Bool.and_eq_true, Bool.not_eq_true', decide_eq_false_iff_not, decide_eq_true_eq] at h
  rintro (q | q)
  · exact h.1 q
  · omega
theorem bm_in_pos {i : Int32} {n : Nat} (h : bm_in i n = true) : n ≠ 0 := by
  simp only [bm_in, Bool.and_eq_true, Bool.not_eq_true', decide_eq_false_iff_not, decide_eq_true_eq] at h
  omega
/-- lengths and bytes of the texts -/
def bm_slen : List Nat := bm_rls.drop 80
def bm_sbyt : List (List Int32) := bm_rvs.drop 80
/-- what is only read -/
def bm_RO (A : Nat → Prop) (ad : Nat → Nat) (fm : Value) (X : bm_X) (U : State) : Prop :=
  va_T .int (ad 55) X.1 (fun j => .int (X.2 j)) A U U.heap ∧
  (va_Z "BellMilk" "EATS" "[I" (.ref (ad 56)) A U U.heap ∧ va_T .int (ad 56) 7 (fun j => .int (bm_rv X 56 j)) A U U.heap) ∧
  (va_Z "BellMilk" "ABOVE" "[I" (.ref (ad 57)) A U U.heap ∧ va_T .int (ad 57) 7 (fun j => .int (bm_rv X 57 j)) A U U.heap) ∧
  (va_Z "BellMilk" "MOST_OF" "[I" (.ref (ad 58)) A U U.heap ∧ va_T .int (ad 58) 7 (fun j => .int (bm_rv X 58 j)) A U U.heap) ∧
  va_Z "java/lang/String" "COMPACT_STRINGS" "Z" (.int 1) A U U.heap ∧
  va_Z "jdk/internal/util/Preconditions" "SIOOBE_FORMATTER" "Ljava/util/function/BiFunction;" fm A U U.heap ∧
  vk_S 15 bm_slen bm_sbyt (fun i => ad (60 + i)) (fun i => ad (80 + i)) A U U.heap ∧
  (∀ q ∈ bm_strs, vk_R (bm_cn q.1) q.2.2 (bm_tx q.2.1) (ad (60 + q.2.1)) U) ∧
  va_Nw (.fieldLinkNest "BellMilk$Herd" 74 "BellMilk" "EATS" "[I" "BellMilk") U
theorem bm_RO.go {A : Nat → Prop} {ad : Nat → Nat} {fm : Value} {X : bm_X} {s U : State} (h : bm_RO A ad fm X s) (hW : s.WarmedH U.vm) (hq : ∀ q : Nat, q < s.heap.size → ¬ A q → U.heap[q]? = s.heap[q]?) : bm_RO A ad fm X U := by
  obtain ⟨h1, ⟨h2, h3⟩, ⟨h4, h5⟩, ⟨h6, h7⟩, h8, h9, h10, h11, h12⟩ := h
  have hv := hW.alike
  exact ⟨(h1.moved hv).kept hq, ⟨(h2.moved hv).kept hq, (h3.moved hv).kept hq⟩, ⟨(h4.moved hv).kept hq, (h5.moved hv).kept hq⟩, ⟨(h6.moved hv).kept hq, (h7.moved hv).kept hq⟩, (h8.moved hv).kept hq, (h9.moved hv).kept hq, (h10.moved hv).kept hq, fun q hm => (h11 q hm).warm hW, va_Nw.warmF hW h12⟩
/-- the locals that are held -/
def bm_LR (ad : Nat → Nat) (fm : Value) (M : Nat) (L : List Value) (ls : Array Slot) : Prop := ls.size = bm_nL M ∧ lv_wf ls ∧ (∀ i, bm_get L i ≠ .null → ls[i]? = some (.val (bm_cz ad fm (bm_get L i)))) ∧ ∀ i, (bm_get L i).category = 2 → (bm_lg M).any (fun g => decide (g = i)) = true
def bm_lv (ad : Nat → Nat) (fm : Value) (L : List Value) (n : Nat) : List (Nat × Value) := (List.range n).filterMap (fun i => if bm_get L i = .null then none else some (i, bm_cz ad fm (bm_get L i)))
theorem bm_lv_mem {ad : Nat → Nat} {fm : Value} {L : List Value} {n : Nat} {q : Nat × Value} : q ∈ bm_lv ad fm L n ↔ q.1 < n ∧ bm_get L q.1 ≠ .null ∧ q.2 = bm_cz ad fm (bm_get L q.1) := by
  unfold bm_lv
  rw [List.mem_filterMap]
  constructor
  · rintro ⟨i, hi, h⟩
    by_cases hn : bm_get L i = .null
    · rw [if_pos hn] at h; cases h
    · rw [if_neg hn] at h
      cases h
      exact ⟨List.mem_range.mp hi, hn, rfl⟩
  · rintro ⟨h1, h2, h3⟩
    refine ⟨q.1, List.mem_range.mpr h1, ?_⟩
    rw [if_neg h2, ← h3]
theorem bm_LR.has {ad : Nat → Nat} {fm : Value} {M : Nat} {L : List Value} {ls : Array Slot} (h : bm_LR ad fm M L ls) : lv_has ls (bm_nL M) (bm_lv ad fm L (bm_nL M)) := by
  refine ⟨h.1, h.2.1, fun q hq => ?_⟩
  obtain ⟨h1, h2, h3⟩ := bm_lv_mem.mp hq
  rw [h3]
  exact h.2.2.1 q.1 h2
theorem bm_LR.lt {ad : Nat → Nat} {fm : Value} {M : Nat} {L : List Value} {ls : Array Slot} (h : bm_LR ad fm M L ls) {i : Nat} (hi : bm_get L i ≠ .null) : i < bm_nL M := by
  have := lv_lt (h.2.2.1 i hi)
  rw [h.1] at this
  exact this
theorem bm_get_put_ne : ∀ (L : List Value) (k i : Nat) (v : Value), i ≠ k → bm_get (bm_put L k v) i = bm_get L i
  | [], _, _, _, _ => rfl
  | a :: l, 0, 0, v, h => absurd rfl h
  | a :: l, 0, i + 1, v, _ => rfl
  | a :: l, k + 1, 0, v, _ => rfl
  | a :: l, k + 1, i + 1, v, h => bm_get_put_ne l k i v (fun q => h (by rw [q]))
theorem bm_get_put : ∀ (L : List Value) (k : Nat) (v : Value), bm_get (bm_put L k v) k = v ∨ bm_get (bm_put L k v) k = .null
  | [], _, _ => Or.inr rfl
  | a :: l, 0, v => Or.inl rfl
  | a :: l, k + 1, v => bm_get_put l k v
theorem bm_cz_cat {ad : Nat → Nat} {fm : Value} (hf : fm.category = 1) (v : Value) : (bm_cz ad fm v).category = v.category := by
  cases v <;> first | rfl | exact hf
theorem bm_lo_lt {M k : Nat} (h : bm_lo M k = true) : k < bm_nL M := by
  simp only [bm_lo, Bool.and_eq_true, decide_eq_true_eq] at h
  exact h.1
theorem bm_lo_ne {M k i : Nat} (h : bm_lo M k = true) (hi : (bm_lg M).any (fun g => decide (g = i)) = true) : i + 1 ≠ k := by
  simp only [bm_lo, Bool.and_eq_true, Bool.not_eq_true'] at h
  intro q
  obtain ⟨g, hg, he⟩ := List.any_eq_true.mp hi
  have : (bm_lg M).any (fun g => decide (g + 1 = k)) = true := List.any_eq_true.mpr ⟨g, hg, by simp at he; simp [he, q]⟩
  rw [h.2] at this
  cases this
theorem bm_LR.put {ad : Nat → Nat} {fm : Value} {M : Nat} {L : List Value} {ls ls' : Array Slot} {k : Nat} {v : Value} (hf : fm.category = 1) (h : bm_LR ad fm M L ls) (hk : bm_lo M k = true) (hv : v.category = 1) (h' : lv_has ls' (bm_nL M) ((k, bm_cz ad fm v) :: (bm_lv ad fm L (bm_nL M)).filter (fun q => !(q.1 == k) && !(q.1 + 1 == k && q.2.category == 2)))) : bm_LR ad fm M (bm_put L k v) ls' := by
  refine ⟨h'.1, h'.2.1, fun i hi => ?_, fun i hi => ?_⟩
  · by_cases e : i = k
    · subst e
      rcases bm_get_put L i v with q | q
      · rw [q]
        exact h'.2.2 (i, bm_cz ad fm v) List.mem_cons_self
      · exact absurd q hi
    · rw [bm_get_put_ne L k i v e] at hi ⊢
      refine h'.2.2 (i, bm_cz ad fm (bm_get L i)) (List.mem_cons_of_mem _ (List.mem_filter.mpr ⟨bm_lv_mem.mpr ⟨h.lt hi, hi, rfl⟩, ?_⟩))
      simp only [Bool.and_eq_true, Bool.not_eq_true', beq_eq_false_iff_ne, ne_eq, Bool.and_eq_false_iff]
      refine ⟨e, ?_⟩
      by_cases hc : (bm_get L i).category = 2
      · exact Or.inl (bm_lo_ne hk (h.2.2.2 i hc))
      · exact Or.inr (by rw [bm_cz_cat hf]; exact hc)
  · by_cases e : i = k
    · subst e
      rcases bm_get_put L i v with q | q
      · rw [q, hv] at hi; cases hi
      · rw [q] at hi; cases hi
    · rw [bm_get_put_ne L k i v e] at hi
      exact h.2.2.2 i hi
theorem bm_LR.put2 {ad : Nat → Nat} {fm : Value} {M : Nat} {L : List Value} {ls ls' : Array Slot} {k : Nat} {x : Int64} (hf : fm.category = 1) (h : bm_LR ad fm M L ls) (hk : bm_lo M k = true) (hg : (bm_lg M).any (fun g => decide (g = k)) = true) (h' : lv_has ls' (bm_nL M) ((k, .long x) :: (bm_lv ad fm L (bm_nL M)).filter (fun q => !(q.1 == k) && (!(q.1 == k + 1) && !(q.1 + 1 == k && q.2.category == 2))))) : bm_LR ad fm M (bm_put (bm_put L (k + 1) .null) k (.long x)) ls' := by
  refine ⟨h'.1, h'.2.1, fun i hi => ?_, fun i hi => ?_⟩
  · by_cases e : i = k
    · subst e
      rcases bm_get_put (bm_put L (i + 1) .null) i (.long x) with q | q
      · rw [q]
        exact h'.2.2 (i, .long x) List.mem_cons_self
      · exact absurd q hi
    · rw [bm_get_put_ne _ k i _ e] at hi ⊢
      by_cases e1 : i = k + 1
      · subst e1
        rcases bm_get_put L (k + 1) .null with q | q <;> exact absurd q hi
      · rw [bm_get_put_ne _ (k + 1) i _ e1] at hi ⊢
        refine h'.2.2 (i, bm_cz ad fm (bm_get L i)) (List.mem_cons_of_mem _ (List.mem_filter.mpr ⟨bm_lv_mem.mpr ⟨h.lt hi, hi, rfl⟩, ?_⟩))
        simp only [Bool.and_eq_true, Bool.not_eq_true', beq_eq_false_iff_ne, ne_eq, Bool.and_eq_false_iff]
        refine ⟨e, e1, ?_⟩
        by_cases hc : (bm_get L i).category = 2
        · exact Or.inl (bm_lo_ne hk (h.2.2.2 i hc))
        · exact Or.inr (by rw [bm_cz_cat hf]; exact hc)
  · by_cases e : i = k
    · subst e
      exact hg
    · rw [bm_get_put_ne _ k i _ e] at hi
      by_cases e1 : i = k + 1
      · subst e1
        rcases bm_get_put L (k + 1) .null with q | q <;> (rw [q] at hi; cases hi)
      · rw [bm_get_put_ne _ (k + 1) i _ e1] at hi
        exact h.2.2.2 i hi
theorem bm_dec {M j n : Nat} {i : Instr} (hd : decode (bm_cc M) (bm_pc M j) = .ok (bm_nthT (bm_rcd M) j).2) (h1 : (bm_nthT (bm_rcd M) j).2.1 = i) (h2 : (bm_nthT (bm_rcd M) j).2.2 = n) : decode (bm_cc M) (bm_pc M j) = .ok (i, n) := by
  rw [hd, ← h1, ← h2]
theorem bm_nthL_getD : ∀ (l : List (List Int32)) (k : Nat), bm_nthL l k = l.getD k []
  | [], _ => rfl
  | a :: l, 0 => rfl
  | a :: l, k + 1 => by
    show bm_nthL l k = _
    rw [bm_nthL_getD l k]
    simp
theorem bm_nth32_getD : ∀ (l : List Int32) (k : Nat), bm_nth32 l k = l.getD k 0
  | [], _ => rfl
  | a :: l, 0 => rfl
  | a :: l, k + 1 => by
    show bm_nth32 l k = _
    rw [bm_nth32_getD l k]
    simp
theorem bm_nth_getD : ∀ (l : List Nat) (k : Nat), bm_nth l k = l.getD k 0
  | [], _ => rfl
  | a :: l, 0 => rfl
  | a :: l, k + 1 => by
    show bm_nth l k = _
    rw [bm_nth_getD l k]
    simp
theorem bm_slen_at {X : bm_X} (i : Nat) : bm_slen.getD i 0 = bm_rl X (80 + i) := by
  have : bm_rl X (80 + i) = bm_nth bm_rls (80 + i) := by
    unfold bm_rl
    split
    · omega
    · rfl
  rw [this, bm_nth_getD, bm_slen]
  simp [List.getD]
theorem bm_sbyt_at {X : bm_X} (i j : Nat) : (bm_sbyt.getD i []).getD j 0 = bm_rv X (80 + i) j := by
  have : bm_rv X (80 + i) j = bm_nth32 (bm_nthL bm_rvs (80 + i)) j := by
    unfold bm_rv
    split
    · omega
    · rfl
  rw [this, bm_nth32_getD, bm_nthL_getD, bm_sbyt]
  congr 1
  simp [List.getD]
end
section
/-! ONE STEP: what an instruction of the little machine does, the machine does -/
/-- what a frame stands on -/
def bm_Ctx (dC : Nat → ClassId) (dI : Nat → Nat → Nat) (ad : Nat → Nat) (cI cJ : ClassId) (A : Nat → Prop) (X : bm_X) (fm : Value) (p : Program) (R : Room) (s : State) (m : MethodId) (args : Array Value) (c : Code) (cells slots M : Nat) : Prop :=
  p.tables.exec = Jvm.exec ∧ c.code = bm_cc M ∧ c.maxLocals = bm_nL M ∧ s.vm.findClass (bm_cn (bm_cl0 M)) = some m.cls ∧ (∀ w ∈ bm_T, w.before args s = true) ∧ va_K (dC, dI) bm_cl [(cI, .int), (cJ, .array .int)] s ∧ (∀ σ, va_D A (bm_ws ad cI cJ σ)) ∧ bm_RO A ad fm X s ∧ fm.category = 1 ∧ bm_dp M ≤ R.frames ∧ 40 * bm_dp M ≤ R.locals ∧ cells ≤ R.cells ∧ slots ≤ R.slots
def bm_Wg (l : Launch) (dC : Nat → ClassId) (dI : Nat → Nat → Nat) (ad : Nat → Nat) (cI cJ : ClassId) (A : Nat → Prop) (fm : Value) (p : Program) (e : Env) (R : Room) (s : State) (m : MethodId) (args : Array Value) (below : List Frame) (meth : Method) (c : Code) (cells slots : Nat) (Q : State → Prop) (M pc : Nat) (L S : List Value) (σ : bm_M) : Prop :=
  ∀ (H : Heap) (locs : List Loc) (ls : Array Slot), va_P (dC, dI) bm_cl (bm_ws ad cI cJ σ) H → va_S A s.heap H locs → bm_LR ad fm M L ls → W p l e R s m args below meth c H locs cells slots Q (F0 m (bm_pc M pc) ls (S.map (bm_cz ad fm)))
theorem bm_cst_in {cls len : Nat} {real : Instr} {v : Int32} (h : bm_cst cls real len v = true) : ∃ i, Cond.constant (bm_cn cls) i v ∈ bm_T ∧ ((real = .ldc i ∧ len = 2) ∨ (real = .ldc_w i ∧ len = 3)) := by
  obtain ⟨q, hq, he⟩ := List.any_eq_true.mp h
  simp only [Bool.and_eq_true, Bool.or_eq_true, decide_eq_true_eq] at he
  obtain ⟨⟨e1, e2⟩, e3⟩ := he
  refine ⟨q.2.2, ?_, e3⟩
  have := bm_consts_in q hq
  unfold bm_coC at this
  rw [e1, e2] at this
  exact this
theorem bm_cstL_in {cls len : Nat} {real : Instr} {v : Int64} (h : bm_cstL cls real len v = true) : ∃ i, Cond.constantLong (bm_cn cls) i v ∈ bm_T ∧ real = .ldc2_w i ∧ len = 3 := by
  obtain ⟨q, hq, he⟩ := List.any_eq_true.mp h
  simp only [Bool.and_eq_true, decide_eq_true_eq] at he
  obtain ⟨⟨e1, e2⟩, e3⟩ := he
  refine ⟨q.2.2, ?_, e3⟩
  have := bm_constsL_in q hq
  unfold bm_clC at this
  rw [e1, e2] at this
  exact this
theorem bm_fld_in {cls ci slot : Nat} {f : Nat → Instr} {real : Instr} (h : bm_fld cls ci slot f real = true) : ∃ i, Cond.fieldLink (bm_cn cls) i ((bm_TT ci slot).1) ((bm_TT ci slot).2.1) ((bm_TT ci slot).2.2.1) ∈ bm_T ∧ real = f i := by
  obtain ⟨q, hq, he⟩ := List.any_eq_true.mp h
  simp only [Bool.and_eq_true, decide_eq_true_eq] at he
  obtain ⟨⟨⟨e1, e2⟩, e3⟩, e4⟩ := he
  refine ⟨q.2.2.2, ?_, e4⟩
  have := bm_fields_in q hq
  unfold bm_flC at this
  rw [e1, e2, e3] at this
  exact this
theorem bm_prim_in {cls k : Nat} {real : Instr} (h : bm_prims.any (fun q => decide (q.1 = cls) && decide (q.2.1 = k) && decide (real = .invokestatic q.2.2)) = true) : ∃ i, Cond.methodLink (bm_cn cls) i (bm_prN k) ∈ bm_T ∧ real = .invokestatic i := by
  obtain ⟨q, hq, he⟩ := List.any_eq_true.mp h
  simp only [Bool.and_eq_true, decide_eq_true_eq] at he
  obtain ⟨⟨e1, e2⟩, e3⟩ := he
  refine ⟨q.2.2, ?_, e3⟩
  have := bm_prims_in q hq
  unfold bm_prC at this
  rw [e1, e2] at this
  exact this
def bm_cnd (cd : Jvm.ClassFile.Cond) (x y : Int32) : Prop := match cd with
  | .eq => x = y
  | .ne => ¬ x = y
  | .lt => x < y
  | .ge => ¬ x < y
  | .gt => y < x
  | .le => ¬ y < x
theorem bm_f4_eq {k : Nat} (h : k < 4) : ((bm_f4 k : Fin 4) : Nat) = k := Nat.mod_eq_of_lt h
section BS
variable {l : Launch} {dC : Nat → ClassId} {dI : Nat → Nat → Nat} {ad : Nat → Nat} {cI cJ : ClassId} {A : Nat → Prop} {X : bm_X} {fm : Value} {p : Program} {e : Env} {R : Room} {s : State} {m : MethodId} {args : Array Value} {below : List Frame} {meth : Method} {c : Code} {cells slots : Nat} {Q : State → Prop} {M pc : Nat} {L S : List Value} {σ : bm_M}

theorem bs_iadd (C : (bm_Ctx dC dI ad cI cJ A X fm p R s m args c cells slots M)) (hf : bm_fact M pc .iadd) {x y : Int32} (k : (bm_Wg l dC dI ad cI cJ A fm p e R s m args below meth c cells slots Q M (pc + 1) (L) (.int (x + y) :: S) (σ))) : (bm_Wg l dC dI ad cI cJ A fm p e R s m args below meth c cells slots Q M (pc) (L) (.int y :: .int x :: S) (σ)) := by
  obtain ⟨hx, hb, hml, hown, hts, hK, hD, hRO, hfm, hR1, hR2, hR3, hR4⟩ := C
  obtain ⟨hd, hr⟩ := hf
  simp only [bm_rel, Bool.and_eq_true, Bool.or_eq_true, decide_eq_true_eq] at hr
  obtain ⟨⟨hn, h1⟩, h2⟩ := hr
  intro H locs ls hP hS hL
  have k := k H locs ls hP hS hL
  rw [hn] at k
  exact lv_iadd hx hb (bm_dec hd h1 h2) k
theorem bs_isub (C : (bm_Ctx dC dI ad cI cJ A X fm p R s m args c cells slots M)) (hf : bm_fact M pc .isub) {x y : Int32} (k : (bm_Wg l dC dI ad cI cJ A fm p e R s m args below meth c cells slots Q M (pc + 1) (L) (.int (x - y) :: S) (σ))) : (bm_Wg l dC dI ad cI cJ A fm p e R s m args below meth c cells slots Q M (pc) (L) (.int y :: .int x :: S) (σ)) := by
  obtain ⟨hx, hb, hml, hown, hts, hK, hD, hRO, hfm, hR1, hR2, hR3, hR4⟩ := C
  obtain ⟨hd, hr⟩ := hf
  simp only [bm_rel, Bool.and_eq_true, Bool.or_eq_true, decide_eq_true_eq] at hr
  obtain ⟨⟨hn, h1⟩, h2⟩ := hr
  intro H locs ls hP hS hL
  have k := k H locs ls hP hS hL
  rw [hn] at k
  exact lv_isub hx hb (bm_dec hd h1 h2) k
theorem bs_imul (C : (bm_Ctx dC dI ad cI cJ A X fm p R s m args c cells slots M)) (hf : bm_fact M pc .imul) {x y : Int32} (k : (bm_Wg l dC dI ad cI cJ A fm p e R s m args below meth c cells slots Q M (pc + 1) (L) (.int (x * y) :: S) (σ))) : (bm_Wg l dC dI ad cI cJ A fm p e R s m args below meth c cells slots Q M (pc) (L) (.int y :: .int x :: S) (σ)) := by
  obtain ⟨hx, hb, hml, hown, hts, hK, hD, hRO, hfm, hR1, hR2, hR3, hR4⟩ := C
  obtain ⟨hd, hr⟩ := hf
  simp only [bm_rel, Bool.and_eq_true, Bool.or_eq_true, decide_eq_true_eq] at hr
  obtain ⟨⟨hn, h1⟩, h2⟩ := hr
  intro H locs ls hP hS hL
  have k := k H locs ls hP hS hL
  rw [hn] at k
  exact lv_imul hx hb (bm_dec hd h1 h2) k
theorem bs_iand (C : (bm_Ctx dC dI ad cI cJ A X fm p R s m args c cells slots M)) (hf : bm_fact M pc .iand) {x y : Int32} (k : (bm_Wg l dC dI ad cI cJ A fm p e R s m args below meth c cells slots Q M (pc + 1) (L) (.int (x &&& y) :: S) (σ))) : (bm_Wg l dC dI ad cI cJ A fm p e R s m args below meth c cells slots Q M (pc) (L) (.int y :: .int x :: S) (σ)) := by
  obtain ⟨hx, hb, hml, hown, hts, hK, hD, hRO, hfm, hR1, hR2, hR3, hR4⟩ := C
  obtain ⟨hd, hr⟩ := hf
  simp only [bm_rel, Bool.and_eq_true, Bool.or_eq_true, decide_eq_true_eq] at hr
  obtain ⟨⟨hn, h1⟩, h2⟩ := hr
  intro H locs ls hP hS hL
  have k := k H locs ls hP hS hL
  rw [hn] at k
  exact lv_iand hx hb (bm_dec hd h1 h2) k
theorem bs_ior (C : (bm_Ctx dC dI ad cI cJ A X fm p R s m args c cells slots M)) (hf : bm_fact M pc .ior) {x y : Int32} (k : (bm_Wg l dC dI ad cI cJ A fm p e R s m args below meth c cells slots Q M (pc + 1) (L) (.int (x ||| y) :: S) (σ))) : (bm_Wg l dC dI ad cI cJ A fm p e R s m args below meth c cells slots Q M (pc) (L) (.int y :: .int x :: S) (σ)) := by
  obtain ⟨hx, hb, hml, hown, hts, hK, hD, hRO, hfm, hR1, hR2, hR3, hR4⟩ := C
  obtain ⟨hd, hr⟩ := hf
  simp only [bm_rel, Bool.and_eq_true, Bool.or_eq_true, decide_eq_true_eq] at hr
  obtain ⟨⟨hn, h1⟩, h2⟩ := hr
  intro H locs ls hP hS hL
  have k := k H locs ls hP hS hL
  rw [hn] at k
  exact lv_ior hx hb (bm_dec hd h1 h2) k
theorem bs_ishl (C : (bm_Ctx dC dI ad cI cJ A X fm p R s m args c cells slots M)) (hf : bm_fact M pc .ishl) {x y : Int32} (k : (bm_Wg l dC dI ad cI cJ A fm p e R s m args below meth c cells slots Q M (pc + 1) (L) (.int (bm_shl x y) :: S) (σ))) : (bm_Wg l dC dI ad cI cJ A fm p e R s m args below meth c cells slots Q M (pc) (L) (.int y :: .int x :: S) (σ)) := by
  obtain ⟨hx, hb, hml, hown, hts, hK, hD, hRO, hfm, hR1, hR2, hR3, hR4⟩ := C
  obtain ⟨hd, hr⟩ := hf
  simp only [bm_rel, Bool.and_eq_true, Bool.or_eq_true, decide_eq_true_eq] at hr
  obtain ⟨⟨hn, h1⟩, h2⟩ := hr
  intro H locs ls hP hS hL
  have k := k H locs ls hP hS hL
  rw [hn] at k
  exact lv_ishl hx hb (bm_dec hd h1 h2) k
theorem bs_ishr (C : (bm_Ctx dC dI ad cI cJ A X fm p R s m args c cells slots M)) (hf : bm_fact M pc .ishr) {x y : Int32} (k : (bm_Wg l dC dI ad cI cJ A fm p e R s m args below meth c cells slots Q M (pc + 1) (L) (.int (bm_shr x y) :: S) (σ))) : (bm_Wg l dC dI ad cI cJ A fm p e R s m args below meth c cells slots Q M (pc) (L) (.int y :: .int x :: S) (σ)) := by
  obtain ⟨hx, hb, hml, hown, hts, hK, hD, hRO, hfm, hR1, hR2, hR3, hR4⟩ := C
  obtain ⟨hd, hr⟩ := hf
  simp only [bm_rel, Bool.and_eq_true, Bool.or_eq_true, decide_eq_true_eq] at hr
  obtain ⟨⟨hn, h1⟩, h2⟩ := hr
  intro H locs ls hP hS hL
  have k := k H locs ls hP hS hL
  rw [hn] at k
  exact lv_ishr hx hb (bm_dec hd h1 h2) k
theorem bs_iushr (C : (bm_Ctx dC dI ad cI cJ A X fm p R s m args c cells slots M)) (hf : bm_fact M pc .iushr) {x y : Int32} (k : (bm_Wg l dC dI ad cI cJ A fm p e R s m args below meth c cells slots Q M (pc + 1) (L) (.int (bm_ushr x y) :: S) (σ))) : (bm_Wg l dC dI ad cI cJ A fm p e R s m args below meth c cells slots Q M (pc) (L) (.int y :: .int x :: S) (σ)) := by
  obtain ⟨hx, hb, hml, hown, hts, hK, hD, hRO, hfm, hR1, hR2, hR3, hR4⟩ := C
  obtain ⟨hd, hr⟩ := hf
  simp only [bm_rel, Bool.and_eq_true, Bool.or_eq_true, decide_eq_true_eq] at hr
  obtain ⟨⟨hn, h1⟩, h2⟩ := hr
  intro H locs ls hP hS hL
  have k := k H locs ls hP hS hL
  rw [hn] at k
  exact lv_iushr (v := bm_ushr x y) hx hb (bm_dec hd h1 h2) rfl k
theorem bs_idiv (C : (bm_Ctx dC dI ad cI cJ A X fm p R s m args c cells slots M)) (hf : bm_fact M pc .idiv) {x y : Int32} (hz : bm_nz y = true) (k : (bm_Wg l dC dI ad cI cJ A fm p e R s m args below meth c cells slots Q M (pc + 1) (L) (.int (x / y) :: S) (σ))) : (bm_Wg l dC dI ad cI cJ A fm p e R s m args below meth c cells slots Q M (pc) (L) (.int y :: .int x :: S) (σ)) := by
  obtain ⟨hx, hb, hml, hown, hts, hK, hD, hRO, hfm, hR1, hR2, hR3, hR4⟩ := C
  obtain ⟨hd, hr⟩ := hf
  simp only [bm_rel, Bool.and_eq_true, Bool.or_eq_true, decide_eq_true_eq] at hr
  obtain ⟨⟨hn, h1⟩, h2⟩ := hr
  intro H locs ls hP hS hL
  have k := k H locs ls hP hS hL
  rw [hn] at k
  exact lv_idiv hx hb (bm_dec hd h1 h2) (by simpa [bm_nz] using hz) k
theorem bs_irem (C : (bm_Ctx dC dI ad cI cJ A X fm p R s m args c cells slots M)) (hf : bm_fact M pc .irem) {x y : Int32} (hz : bm_nz y = true) (k : (bm_Wg l dC dI ad cI cJ A fm p e R s m args below meth c cells slots Q M (pc + 1) (L) (.int (bm_rem x y) :: S) (σ))) : (bm_Wg l dC dI ad cI cJ A fm p e R s m args below meth c cells slots Q M (pc) (L) (.int y :: .int x :: S) (σ)) := by
  obtain ⟨hx, hb, hml, hown, hts, hK, hD, hRO, hfm, hR1, hR2, hR3, hR4⟩ := C
  obtain ⟨hd, hr⟩ := hf
  simp only [bm_rel, Bool.and_eq_true, Bool.or_eq_true, decide_eq_true_eq] at hr
  obtain ⟨⟨hn, h1⟩, h2⟩ := hr
  intro H locs ls hP hS hL
  have k := k H locs ls hP hS hL
  rw [hn] at k
  exact lv_irem hx hb (bm_dec hd h1 h2) (by simpa [bm_nz] using hz) k
theorem bs_ladd (C : (bm_Ctx dC dI ad cI cJ A X fm p R s m args c cells slots M)) (hf : bm_fact M pc .ladd) {x y : Int64} (k : (bm_Wg l dC dI ad cI cJ A fm p e R s m args below meth c cells slots Q M (pc + 1) (L) (.long (x + y) :: S) (σ))) : (bm_Wg l dC dI ad cI cJ A fm p e R s m args below meth c cells slots Q M (pc) (L) (.long y :: .long x :: S) (σ)) := by
  obtain ⟨hx, hb, hml, hown, hts, hK, hD, hRO, hfm, hR1, hR2, hR3, hR4⟩ := C
  obtain ⟨hd, hr⟩ := hf
  simp only [bm_rel, Bool.and_eq_true, Bool.or_eq_true, decide_eq_true_eq] at hr
  obtain ⟨⟨hn, h1⟩, h2⟩ := hr
  intro H locs ls hP hS hL
  have k := k H locs ls hP hS hL
  rw [hn] at k
  exact lv_ladd hx hb (bm_dec hd h1 h2) k
theorem bs_lmul (C : (bm_Ctx dC dI ad cI cJ A X fm p R s m args c cells slots M)) (hf : bm_fact M pc .lmul) {x y : Int64} (k : (bm_Wg l dC dI ad cI cJ A fm p e R s m args below meth c cells slots Q M (pc + 1) (L) (.long (x * y) :: S) (σ))) : (bm_Wg l dC dI ad cI cJ A fm p e R s m args below meth c cells slots Q M (pc) (L) (.long y :: .long x :: S) (σ)) := by
  obtain ⟨hx, hb, hml, hown, hts, hK, hD, hRO, hfm, hR1, hR2, hR3, hR4⟩ := C
  obtain ⟨hd, hr⟩ := hf
  simp only [bm_rel, Bool.and_eq_true, Bool.or_eq_true, decide_eq_true_eq] at hr
  obtain ⟨⟨hn, h1⟩, h2⟩ := hr
  intro H locs ls hP hS hL
  have k := k H locs ls hP hS hL
  rw [hn] at k
  exact lv_lmul hx hb (bm_dec hd h1 h2) k
theorem bs_ldiv (C : (bm_Ctx dC dI ad cI cJ A X fm p R s m args c cells slots M)) (hf : bm_fact M pc .ldiv) {x y : Int64} (hz : bm_nzl y = true) (k : (bm_Wg l dC dI ad cI cJ A fm p e R s m args below meth c cells slots Q M (pc + 1) (L) (.long (x / y) :: S) (σ))) : (bm_Wg l dC dI ad cI cJ A fm p e R s m args below meth c cells slots Q M (pc) (L) (.long y :: .long x :: S) (σ)) := by
  obtain ⟨hx, hb, hml, hown, hts, hK, hD, hRO, hfm, hR1, hR2, hR3, hR4⟩ := C
  obtain ⟨hd, hr⟩ := hf
  simp only [bm_rel, Bool.and_eq_true, Bool.or_eq_true, decide_eq_true_eq] at hr
  obtain ⟨⟨hn, h1⟩, h2⟩ := hr
  intro H locs ls hP hS hL
  have k := k H locs ls hP hS hL
  rw [hn] at k
  exact lv_ldiv hx hb (bm_dec hd h1 h2) (by simpa [bm_nzl] using hz) k
theorem bs_lrem (C : (bm_Ctx dC dI ad cI cJ A X fm p R s m args c cells slots M)) (hf : bm_fact M pc .lrem) {x y : Int64} (hz : bm_nzl y = true) (k : (bm_Wg l dC dI ad cI cJ A fm p e R s m args below meth c cells slots Q M (pc + 1) (L) (.long (bm_lrem x y) :: S) (σ))) : (bm_Wg l dC dI ad cI cJ A fm p e R s m args below meth c cells slots Q M (pc) (L) (.long y :: .long x :: S) (σ)) := by
  obtain ⟨hx, hb, hml, hown, hts, hK, hD, hRO, hfm, hR1, hR2, hR3, hR4⟩ := C
  obtain ⟨hd, hr⟩ := hf
  simp only [bm_rel, Bool.and_eq_true, Bool.or_eq_true, decide_eq_true_eq] at hr
  obtain ⟨⟨hn, h1⟩, h2⟩ := hr
  intro H locs ls hP hS hL
  have k := k H locs ls hP hS hL
  rw [hn] at k
  exact lv_lrem hx hb (bm_dec hd h1 h2) (by simpa [bm_nzl] using hz) k
theorem bs_lcmp (C : (bm_Ctx dC dI ad cI cJ A X fm p R s m args c cells slots M)) (hf : bm_fact M pc .lcmp) {x y : Int64} (k : (bm_Wg l dC dI ad cI cJ A fm p e R s m args below meth c cells slots Q M (pc + 1) (L) (.int (lg_cmp x y) :: S) (σ))) : (bm_Wg l dC dI ad cI cJ A fm p e R s m args below meth c cells slots Q M (pc) (L) (.long y :: .long x :: S) (σ)) := by
  obtain ⟨hx, hb, hml, hown, hts, hK, hD, hRO, hfm, hR1, hR2, hR3, hR4⟩ := C
  obtain ⟨hd, hr⟩ := hf
  simp only [bm_rel, Bool.and_eq_true, Bool.or_eq_true, decide_eq_true_eq] at hr
  obtain ⟨⟨hn, h1⟩, h2⟩ := hr
  intro H locs ls hP hS hL
  have k := k H locs ls hP hS hL
  rw [hn] at k
  exact W.lcmp hx hb (bm_dec hd h1 h2) k
theorem bs_i2l (C : (bm_Ctx dC dI ad cI cJ A X fm p R s m args c cells slots M)) (hf : bm_fact M pc .i2l) {x : Int32} (k : (bm_Wg l dC dI ad cI cJ A fm p e R s m args below meth c cells slots Q M (pc + 1) (L) (.long x.toInt64 :: S) (σ))) : (bm_Wg l dC dI ad cI cJ A fm p e R s m args below meth c cells slots Q M (pc) (L) (.int x :: S) (σ)) := by
  obtain ⟨hx, hb, hml, hown, hts, hK, hD, hRO, hfm, hR1, hR2, hR3, hR4⟩ := C
  obtain ⟨hd, hr⟩ := hf
  simp only [bm_rel, Bool.and_eq_true, Bool.or_eq_true, decide_eq_true_eq] at hr
  obtain ⟨⟨hn, h1⟩, h2⟩ := hr
  intro H locs ls hP hS hL
  have k := k H locs ls hP hS hL
  rw [hn] at k
  exact lv_i2l hx hb (bm_dec hd h1 h2) rfl k
theorem bs_i2b (C : (bm_Ctx dC dI ad cI cJ A X fm p R s m args c cells slots M)) (hf : bm_fact M pc .i2b) {x : Int32} (k : (bm_Wg l dC dI ad cI cJ A fm p e R s m args below meth c cells slots Q M (pc + 1) (L) (.int x.toInt8.toInt32 :: S) (σ))) : (bm_Wg l dC dI ad cI cJ A fm p e R s m args below meth c cells slots Q M (pc) (L) (.int x :: S) (σ)) := by
  obtain ⟨hx, hb, hml, hown, hts, hK, hD, hRO, hfm, hR1, hR2, hR3, hR4⟩ := C
  obtain ⟨hd, hr⟩ := hf
  simp only [bm_rel, Bool.and_eq_true, Bool.or_eq_true, decide_eq_true_eq] at hr
  obtain ⟨⟨hn, h1⟩, h2⟩ := hr
  intro H locs ls hP hS hL
  have k := k H locs ls hP hS hL
  rw [hn] at k
  exact lv_i2b hx hb (bm_dec hd h1 h2) rfl k
theorem bs_i2s (C : (bm_Ctx dC dI ad cI cJ A X fm p R s m args c cells slots M)) (hf : bm_fact M pc .i2s) {x : Int32} (k : (bm_Wg l dC dI ad cI cJ A fm p e R s m args below meth c cells slots Q M (pc + 1) (L) (.int x.toInt16.toInt32 :: S) (σ))) : (bm_Wg l dC dI ad cI cJ A fm p e R s m args below meth c cells slots Q M (pc) (L) (.int x :: S) (σ)) := by
  obtain ⟨hx, hb, hml, hown, hts, hK, hD, hRO, hfm, hR1, hR2, hR3, hR4⟩ := C
  obtain ⟨hd, hr⟩ := hf
  simp only [bm_rel, Bool.and_eq_true, Bool.or_eq_true, decide_eq_true_eq] at hr
  obtain ⟨⟨hn, h1⟩, h2⟩ := hr
  intro H locs ls hP hS hL
  have k := k H locs ls hP hS hL
  rw [hn] at k
  exact lv_i2s hx hb (bm_dec hd h1 h2) rfl k
theorem bs_i2c (C : (bm_Ctx dC dI ad cI cJ A X fm p R s m args c cells slots M)) (hf : bm_fact M pc .i2c) {x : Int32} (k : (bm_Wg l dC dI ad cI cJ A fm p e R s m args below meth c cells slots Q M (pc + 1) (L) (.int (x.toUInt32 % 65536).toInt32 :: S) (σ))) : (bm_Wg l dC dI ad cI cJ A fm p e R s m args below meth c cells slots Q M (pc) (L) (.int x :: S) (σ)) := by
  obtain ⟨hx, hb, hml, hown, hts, hK, hD, hRO, hfm, hR1, hR2, hR3, hR4⟩ := C
  obtain ⟨hd, hr⟩ := hf
  simp only [bm_rel, Bool.and_eq_true, Bool.or_eq_true, decide_eq_true_eq] at hr
  obtain ⟨⟨hn, h1⟩, h2⟩ := hr
  intro H locs ls hP hS hL
  have k := k H locs ls hP hS hL
  rw [hn] at k
  exact lv_i2c hx hb (bm_dec hd h1 h2) rfl k
theorem bs_dupI (C : (bm_Ctx dC dI ad cI cJ A X fm p R s m args c cells slots M)) (hf : bm_fact M pc .dup) {x : Int32} (k : (bm_Wg l dC dI ad cI cJ A fm p e R s m args below meth c cells slots Q M (pc + 1) (L) (.int x :: .int x :: S) (σ))) : (bm_Wg l dC dI ad cI cJ A fm p e R s m args below meth c cells slots Q M (pc) (L) (.int x :: S) (σ)) := by
  obtain ⟨hx, hb, hml, hown, hts, hK, hD, hRO, hfm, hR1, hR2, hR3, hR4⟩ := C
  obtain ⟨hd, hr⟩ := hf
  simp only [bm_rel, Bool.and_eq_true, Bool.or_eq_true, decide_eq_true_eq] at hr
  obtain ⟨⟨hn, h1⟩, h2⟩ := hr
  intro H locs ls hP hS hL
  have k := k H locs ls hP hS hL
  rw [hn] at k
  exact lv_dup hx hb (bm_dec hd h1 h2) rfl k
theorem bs_dupA (C : (bm_Ctx dC dI ad cI cJ A X fm p R s m args c cells slots M)) (hf : bm_fact M pc .dup) {x : Nat} (k : (bm_Wg l dC dI ad cI cJ A fm p e R s m args below meth c cells slots Q M (pc + 1) (L) (.ref x :: .ref x :: S) (σ))) : (bm_Wg l dC dI ad cI cJ A fm p e R s m args below meth c cells slots Q M (pc) (L) (.ref x :: S) (σ)) := by
  obtain ⟨hx, hb, hml, hown, hts, hK, hD, hRO, hfm, hR1, hR2, hR3, hR4⟩ := C
  obtain ⟨hd, hr⟩ := hf
  simp only [bm_rel, Bool.and_eq_true, Bool.or_eq_true, decide_eq_true_eq] at hr
  obtain ⟨⟨hn, h1⟩, h2⟩ := hr
  intro H locs ls hP hS hL
  have k := k H locs ls hP hS hL
  rw [hn] at k
  exact lv_dup hx hb (bm_dec hd h1 h2) rfl k
theorem bs_dup2 (C : (bm_Ctx dC dI ad cI cJ A X fm p R s m args c cells slots M)) (hf : bm_fact M pc .dup2) {x : Int32} {y : Nat} (k : (bm_Wg l dC dI ad cI cJ A fm p e R s m args below meth c cells slots Q M (pc + 1) (L) (.int x :: .ref y :: .int x :: .ref y :: S) (σ))) : (bm_Wg l dC dI ad cI cJ A fm p e R s m args below meth c cells slots Q M (pc) (L) (.int x :: .ref y :: S) (σ)) := by
  obtain ⟨hx, hb, hml, hown, hts, hK, hD, hRO, hfm, hR1, hR2, hR3, hR4⟩ := C
  obtain ⟨hd, hr⟩ := hf
  simp only [bm_rel, Bool.and_eq_true, Bool.or_eq_true, decide_eq_true_eq] at hr
  obtain ⟨⟨hn, h1⟩, h2⟩ := hr
  intro H locs ls hP hS hL
  have k := k H locs ls hP hS hL
  rw [hn] at k
  exact lv_dup2_11 hx hb (bm_dec hd h1 h2) rfl rfl k
theorem bs_pop (C : (bm_Ctx dC dI ad cI cJ A X fm p R s m args c cells slots M)) (hf : bm_fact M pc .pop) {x : Int32} (k : (bm_Wg l dC dI ad cI cJ A fm p e R s m args below meth c cells slots Q M (pc + 1) (L) (S) (σ))) : (bm_Wg l dC dI ad cI cJ A fm p e R s m args below meth c cells slots Q M (pc) (L) (.int x :: S) (σ)) := by
  obtain ⟨hx, hb, hml, hown, hts, hK, hD, hRO, hfm, hR1, hR2, hR3, hR4⟩ := C
  obtain ⟨hd, hr⟩ := hf
  simp only [bm_rel, Bool.and_eq_true, Bool.or_eq_true, decide_eq_true_eq] at hr
  obtain ⟨⟨hn, h1⟩, h2⟩ := hr
  intro H locs ls hP hS hL
  have k := k H locs ls hP hS hL
  rw [hn] at k
  exact lv_pop hx hb (bm_dec hd h1 h2) rfl k
theorem bs_iload (C : (bm_Ctx dC dI ad cI cJ A X fm p R s m args c cells slots M)) {j : Nat} (hf : bm_fact M pc (.iload j)) {x : Int32} (hg : bm_get L j = .int x) (k : (bm_Wg l dC dI ad cI cJ A fm p e R s m args below meth c cells slots Q M (pc + 1) (L) (.int x :: S) (σ))) : (bm_Wg l dC dI ad cI cJ A fm p e R s m args below meth c cells slots Q M (pc) (L) (S) (σ)) := by
  obtain ⟨hx, hb, hml, hown, hts, hK, hD, hRO, hfm, hR1, hR2, hR3, hR4⟩ := C
  obtain ⟨hd, hr⟩ := hf
  simp only [bm_rel, Bool.and_eq_true, Bool.or_eq_true, decide_eq_true_eq] at hr
  obtain ⟨hn, hr⟩ := hr
  intro H locs ls hP hS hL
  have k := k H locs ls hP hS hL
  rw [hn] at k
  have hv := hL.2.2.1 j (by rw [hg]; intro q; cases q)
  rw [hg] at hv
  rcases hr with ⟨h1, h2⟩ | ⟨⟨h0, h1⟩, h2⟩
  · rw [h2] at k
    exact lv_iload hx hb (bm_dec hd h1 h2) hv k
  · rw [h2] at k
    exact lv_iload_n hx hb (bm_dec hd h1 h2) (bm_f4_eq h0) hv k
theorem bs_aload (C : (bm_Ctx dC dI ad cI cJ A X fm p R s m args c cells slots M)) {j : Nat} (hf : bm_fact M pc (.aload j)) {x : Nat} (hg : bm_get L j = .ref x) (k : (bm_Wg l dC dI ad cI cJ A fm p e R s m args below meth c cells slots Q M (pc + 1) (L) (.ref x :: S) (σ))) : (bm_Wg l dC dI ad cI cJ A fm p e R s m args below meth c cells slots Q M (pc) (L) (S) (σ)) := by
  obtain ⟨hx, hb, hml, hown, hts, hK, hD, hRO, hfm, hR1, hR2, hR3, hR4⟩ := C
  obtain ⟨hd, hr⟩ := hf
  simp only [bm_rel, Bool.and_eq_true, Bool.or_eq_true, decide_eq_true_eq] at hr
  obtain ⟨hn, hr⟩ := hr
  intro H locs ls hP hS hL
  have k := k H locs ls hP hS hL
  rw [hn] at k
  have hv := hL.2.2.1 j (by rw [hg]; intro q; cases q)
  rw [hg] at hv
  rcases hr with ⟨h1, h2⟩ | ⟨⟨h0, h1⟩, h2⟩
  · rw [h2] at k
    exact lv_aload hx hb (bm_dec hd h1 h2) hv k
  · rw [h2] at k
    exact lv_aload_n hx hb (bm_dec hd h1 h2) (bm_f4_eq h0) hv k
theorem bs_lload (C : (bm_Ctx dC dI ad cI cJ A X fm p R s m args c cells slots M)) {j : Nat} (hf : bm_fact M pc (.lload j)) {x : Int64} (hg : bm_get L j = .long x) (k : (bm_Wg l dC dI ad cI cJ A fm p e R s m args below meth c cells slots Q M (pc + 1) (L) (.long x :: S) (σ))) : (bm_Wg l dC dI ad cI cJ A fm p e R s m args below meth c cells slots Q M (pc) (L) (S) (σ)) := by
  obtain ⟨hx, hb, hml, hown, hts, hK, hD, hRO, hfm, hR1, hR2, hR3, hR4⟩ := C
  obtain ⟨hd, hr⟩ := hf
  simp only [bm_rel, Bool.and_eq_true, Bool.or_eq_true, decide_eq_true_eq] at hr
  obtain ⟨hn, hr⟩ := hr
  intro H locs ls hP hS hL
  have k := k H locs ls hP hS hL
  rw [hn] at k
  have hv := hL.2.2.1 j (by rw [hg]; intro q; cases q)
  rw [hg] at hv
  rcases hr with ⟨h1, h2⟩ | ⟨⟨h0, h1⟩, h2⟩
  · rw [h2] at k
    exact lv_lload hx hb (bm_dec hd h1 h2) hv k
  · rw [h2] at k
    exact lv_lload_n hx hb (bm_dec hd h1 h2) (bm_f4_eq h0) hv k
theorem bs_istore (C : (bm_Ctx dC dI ad cI cJ A X fm p R s m args c cells slots M)) {j : Nat} (hf : bm_fact M pc (.istore j)) {x : Int32} (k : (bm_Wg l dC dI ad cI cJ A fm p e R s m args below meth c cells slots Q M (pc + 1) (bm_put L j (.int x)) (S) (σ))) : (bm_Wg l dC dI ad cI cJ A fm p e R s m args below meth c cells slots Q M (pc) (L) (.int x :: S) (σ)) := by
  obtain ⟨hx, hb, hml, hown, hts, hK, hD, hRO, hfm, hR1, hR2, hR3, hR4⟩ := C
  obtain ⟨hd, hr⟩ := hf
  simp only [bm_rel, Bool.and_eq_true, Bool.or_eq_true, decide_eq_true_eq] at hr
  obtain ⟨⟨hn, ho⟩, hr⟩ := hr
  intro H locs ls hP hS hL
  rcases hr with ⟨h1, h2⟩ | ⟨⟨h0, h1⟩, h2⟩
  · refine lv_istore hx hb (bm_dec hd h1 h2) hL.has (bm_lo_lt ho) rfl (fun ls' hl' => ?_)
    have k := k H locs ls' hP hS (hL.put hfm ho rfl hl')
    rw [hn, h2] at k
    exact k
  · refine lv_istore_n hx hb (bm_dec hd h1 h2) (bm_f4_eq h0) hL.has (bm_lo_lt ho) rfl (fun ls' hl' => ?_)
    have k := k H locs ls' hP hS (hL.put hfm ho rfl hl')
    rw [hn, h2] at k
    exact k
theorem bs_astore (C : (bm_Ctx dC dI ad cI cJ A X fm p R s m args c cells slots M)) {j : Nat} (hf : bm_fact M pc (.astore j)) {x : Nat} (k : (bm_Wg l dC dI ad cI cJ A fm p e R s m args below meth c cells slots Q M (pc + 1) (bm_put L j (.ref x)) (S) (σ))) : (bm_Wg l dC dI ad cI cJ A fm p e R s m args below meth c cells slots Q M (pc) (L) (.ref x :: S) (σ)) := by
  obtain ⟨hx, hb, hml, hown, hts, hK, hD, hRO, hfm, hR1, hR2, hR3, hR4⟩ := C
  obtain ⟨hd, hr⟩ := hf
  simp only [bm_rel, Bool.and_eq_true, Bool.or_eq_true, decide_eq_true_eq] at hr
  obtain ⟨⟨hn, ho⟩, hr⟩ := hr
  intro H locs ls hP hS hL
  rcases hr with ⟨h1, h2⟩ | ⟨⟨h0, h1⟩, h2⟩
  · refine lv_astore hx hb (bm_dec hd h1 h2) hL.has (bm_lo_lt ho) rfl (fun ls' hl' => ?_)
    have k := k H locs ls' hP hS (hL.put hfm ho rfl hl')
    rw [hn, h2] at k
    exact k
  · refine lv_astore_n hx hb (bm_dec hd h1 h2) (bm_f4_eq h0) hL.has (bm_lo_lt ho) rfl (fun ls' hl' => ?_)
    have k := k H locs ls' hP hS (hL.put hfm ho rfl hl')
    rw [hn, h2] at k
    exact k
theorem bs_lstore (C : (bm_Ctx dC dI ad cI cJ A X fm p R s m args c cells slots M)) {j : Nat} (hf : bm_fact M pc (.lstore j)) {x : Int64} (k : (bm_Wg l dC dI ad cI cJ A fm p e R s m args below meth c cells slots Q M (pc + 1) (bm_put (bm_put L (j + 1) .null) j (.long x)) (S) (σ))) : (bm_Wg l dC dI ad cI cJ A fm p e R s m args below meth c cells slots Q M (pc) (L) (.long x :: S) (σ)) := by
  obtain ⟨hx, hb, hml, hown, hts, hK, hD, hRO, hfm, hR1, hR2, hR3, hR4⟩ := C
  obtain ⟨hd, hr⟩ := hf
  simp only [bm_rel, Bool.and_eq_true, Bool.or_eq_true, decide_eq_true_eq] at hr
  obtain ⟨⟨⟨⟨hn, ho⟩, h5⟩, h6⟩, hr⟩ := hr
  intro H locs ls hP hS hL
  rcases hr with ⟨h1, h2⟩ | ⟨⟨h0, h1⟩, h2⟩
  · refine lv_lstore hx hb (bm_dec hd h1 h2) hL.has h5 rfl (fun ls' hl' => ?_)
    have k := k H locs ls' hP hS (hL.put2 hfm ho h6 hl')
    rw [hn, h2] at k
    exact k
  · refine lv_lstore_n hx hb (bm_dec hd h1 h2) (bm_f4_eq h0) hL.has h5 rfl (fun ls' hl' => ?_)
    have k := k H locs ls' hP hS (hL.put2 hfm ho h6 hl')
    rw [hn, h2] at k
    exact k
theorem bs_iinc (C : (bm_Ctx dC dI ad cI cJ A X fm p R s m args c cells slots M)) {j : Nat} {n : Int} (hf : bm_fact M pc (.iinc j n)) {x y : Int32} (hg : bm_get L j = .int x) (hy : y = x + bm_iv n) (k : (bm_Wg l dC dI ad cI cJ A fm p e R s m args below meth c cells slots Q M (pc + 1) (bm_put L j (.int y)) (S) (σ))) : (bm_Wg l dC dI ad cI cJ A fm p e R s m args below meth c cells slots Q M (pc) (L) (S) (σ)) := by
  obtain ⟨hx, hb, hml, hown, hts, hK, hD, hRO, hfm, hR1, hR2, hR3, hR4⟩ := C
  obtain ⟨hd, hr⟩ := hf
  simp only [bm_rel, Bool.and_eq_true, Bool.or_eq_true, decide_eq_true_eq] at hr
  obtain ⟨⟨⟨⟨hn, ho⟩, h1⟩, h2⟩, h3⟩ := hr
  intro H locs ls hP hS hL
  obtain ⟨q, hq⟩ := List.getElem?_of_mem (bm_lv_mem (ad := ad) (fm := fm) (L := L) (n := bm_nL M) (q := (j, .int x)) |>.mpr ⟨bm_lo_lt ho, (by rw [hg]; exact fun q => by cases q), (by rw [hg]; rfl)⟩)
  refine lv_iinc (v := y) hx hb (bm_dec hd h1 h2) hL.has hq (by rw [h3, hy]) (bm_lo_lt ho) rfl (fun ls' hl' => ?_)
  have k := k H locs ls' hP hS (hL.put hfm ho rfl hl')
  rw [hn] at k
  exact k
theorem bs_ldc (C : (bm_Ctx dC dI ad cI cJ A X fm p R s m args c cells slots M)) {n : Nat} (hf : bm_fact M pc (.ldc n)) (k : (bm_Wg l dC dI ad cI cJ A fm p e R s m args below meth c cells slots Q M (pc + 1) (L) (.int (nI n) :: S) (σ))) : (bm_Wg l dC dI ad cI cJ A fm p e R s m args below meth c cells slots Q M (pc) (L) (S) (σ)) := by
  obtain ⟨hx, hb, hml, hown, hts, hK, hD, hRO, hfm, hR1, hR2, hR3, hR4⟩ := C
  obtain ⟨hd, hr⟩ := hf
  simp only [bm_rel, Bool.and_eq_true, Bool.or_eq_true, decide_eq_true_eq] at hr
  obtain ⟨hn, hr⟩ := hr
  intro H locs ls hP hS hL
  have k := k H locs ls hP hS hL
  rw [hn] at k
  rcases hr with ((⟨⟨h1, h2⟩, h3⟩ | ⟨⟨h1, h2⟩, h3⟩) | ⟨⟨h1, h2⟩, h3⟩) | hr
  · rw [h2] at k
    exact lv_iconst hx hb (bm_dec hd h1 h2) h3 k
  · rw [h2] at k
    exact lv_bipush hx hb (bm_dec hd h1 h2) h3 k
  · rw [h2] at k
    exact lv_sipush hx hb (bm_dec hd h1 h2) h3 k
  · obtain ⟨i, hi, ⟨h1, h2⟩ | ⟨h1, h2⟩⟩ := bm_cst_in hr
    · rw [h2] at k
      exact lv_ldc hx hb hown (hts _ hi) (bm_dec hd h1 h2) k
    · rw [h2] at k
      exact lv_ldcw hx hb hown (hts _ hi) (bm_dec hd h1 h2) k
theorem bs_ldc_w (C : (bm_Ctx dC dI ad cI cJ A X fm p R s m args c cells slots M)) {n : Nat} (hf : bm_fact M pc (.ldc_w n)) (k : (bm_Wg l dC dI ad cI cJ A fm p e R s m args below meth c cells slots Q M (pc + 1) (L) (.int (-nI n) :: S) (σ))) : (bm_Wg l dC dI ad cI cJ A fm p e R s m args below meth c cells slots Q M (pc) (L) (S) (σ)) := by
  obtain ⟨hx, hb, hml, hown, hts, hK, hD, hRO, hfm, hR1, hR2, hR3, hR4⟩ := C
  obtain ⟨hd, hr⟩ := hf
  simp only [bm_rel, Bool.and_eq_true, Bool.or_eq_true, decide_eq_true_eq] at hr
  obtain ⟨hn, hr⟩ := hr
  intro H locs ls hP hS hL
  have k := k H locs ls hP hS hL
  rw [hn] at k
  rcases hr with ⟨⟨h1, h2⟩, h3⟩ | hr
  · rw [h2] at k
    exact lv_iconst hx hb (bm_dec hd h1 h2) h3 k
  · obtain ⟨i, hi, ⟨h1, h2⟩ | ⟨h1, h2⟩⟩ := bm_cst_in hr
    · rw [h2] at k
      exact lv_ldc hx hb hown (hts _ hi) (bm_dec hd h1 h2) k
    · rw [h2] at k
      exact lv_ldcw hx hb hown (hts _ hi) (bm_dec hd h1 h2) k
theorem bs_ldc2_w (C : (bm_Ctx dC dI ad cI cJ A X fm p R s m args c cells slots M)) {n : Nat} (hf : bm_fact M pc (.ldc2_w n)) (k : (bm_Wg l dC dI ad cI cJ A fm p e R s m args below meth c cells slots Q M (pc + 1) (L) (.long (lN n) :: S) (σ))) : (bm_Wg l dC dI ad cI cJ A fm p e R s m args below meth c cells slots Q M (pc) (L) (S) (σ)) := by
  obtain ⟨hx, hb, hml, hown, hts, hK, hD, hRO, hfm, hR1, hR2, hR3, hR4⟩ := C
  obtain ⟨hd, hr⟩ := hf
  simp only [bm_rel, Bool.and_eq_true, Bool.or_eq_true, decide_eq_true_eq] at hr
  obtain ⟨hn, hr⟩ := hr
  intro H locs ls hP hS hL
  have k := k H locs ls hP hS hL
  rw [hn] at k
  rcases hr with ⟨⟨h1, h0⟩, h2⟩ | hr
  · rw [h2] at k
    exact lv_lconst hx hb (bm_dec hd h1 h2) (by show Int64.ofNat (n % 2) = _; rw [Nat.mod_eq_of_lt h0]; rfl) k
  · obtain ⟨i, hi, h1, h2⟩ := bm_cstL_in hr
    rw [h2] at k
    exact lv_ldc2 hx hb hown (hts _ hi) (bm_dec hd h1 h2) k
theorem bs_f2d (C : (bm_Ctx dC dI ad cI cJ A X fm p R s m args c cells slots M)) (hf : bm_fact M pc .f2d) (k : (bm_Wg l dC dI ad cI cJ A fm p e R s m args below meth c cells slots Q M (pc + 1) (L) (.long (-1) :: S) (σ))) : (bm_Wg l dC dI ad cI cJ A fm p e R s m args below meth c cells slots Q M (pc) (L) (S) (σ)) := by
  obtain ⟨hx, hb, hml, hown, hts, hK, hD, hRO, hfm, hR1, hR2, hR3, hR4⟩ := C
  obtain ⟨hd, hr⟩ := hf
  simp only [bm_rel, Bool.and_eq_true, Bool.or_eq_true, decide_eq_true_eq] at hr
  obtain ⟨hn, hr⟩ := hr
  intro H locs ls hP hS hL
  have k := k H locs ls hP hS hL
  rw [hn] at k
  obtain ⟨i, hi, h1, h2⟩ := bm_cstL_in hr
  rw [h2] at k
  exact lv_ldc2 hx hb hown (hts _ hi) (bm_dec hd h1 h2) k
theorem bm_st_above : Cond.fieldLink "BellMilk" 256 "BellMilk" "ABOVE" "[I" ∈ bm_T := bm_one 668 (by decide +kernel) (by decide +kernel)
theorem bm_st_most : Cond.fieldLink "BellMilk" 107 "BellMilk" "MOST_OF" "[I" ∈ bm_T := bm_one 320 (by decide +kernel) (by decide +kernel)
theorem bm_st_comp : Cond.fieldLink "java/lang/String" 38 "java/lang/String" "COMPACT_STRINGS" "Z" ∈ bm_T := bm_one 578 (by decide +kernel) (by decide +kernel)
theorem bm_st_fmt : Cond.fieldLink "java/lang/String" 1053 "jdk/internal/util/Preconditions" "SIOOBE_FORMATTER" "Ljava/util/function/BiFunction;" ∈ bm_T := bm_one 594 (by decide +kernel) (by decide +kernel)
theorem bm_st_val : Cond.fieldLink "java/lang/String" 9 "java/lang/String" "value" "[B" ∈ bm_T := bm_one 1214 (by decide +kernel) (by decide +kernel)
theorem bm_st_cod : Cond.fieldLink "java/lang/String" 15 "java/lang/String" "coder" "B" ∈ bm_T := bm_one 1215 (by decide +kernel) (by decide +kernel)
theorem bs_getstatic (C : (bm_Ctx dC dI ad cI cJ A X fm p R s m args c cells slots M)) {n : Nat} (hf : bm_fact M pc (.getstatic n)) (k : (bm_Wg l dC dI ad cI cJ A fm p e R s m args below meth c cells slots Q M (pc + 1) (L) (.ref n :: S) (σ))) : (bm_Wg l dC dI ad cI cJ A fm p e R s m args below meth c cells slots Q M (pc) (L) (S) (σ)) := by
  obtain ⟨hx, hb, hml, hown, hts, hK, hD, hRO, hfm, hR1, hR2, hR3, hR4⟩ := C
  obtain ⟨hd, hr⟩ := hf
  simp only [bm_rel, Bool.and_eq_true, Bool.or_eq_true, decide_eq_true_eq] at hr
  obtain ⟨⟨hn, h2⟩, hr⟩ := hr
  intro H locs ls hP hS hL
  have k := k H locs ls hP hS hL
  rw [hn, h2] at k
  obtain ⟨r1, ⟨r2, -⟩, ⟨r3, -⟩, ⟨r4, -⟩, -, -, -, -, r5⟩ := hRO
  rcases hr with (⟨⟨e1, e2⟩, h1⟩ | ⟨⟨e1, e2⟩, h1⟩) | ⟨⟨e1, e2⟩, h1⟩
  · subst e1
    rw [e2] at hown
    exact va_getsN hx hb r2 hS hown (va_tabs rfl rfl r5) (fun _ h => h) (bm_dec hd h1 h2) k
  · subst e1
    rw [e2] at hown
    exact va_gets hx hb r3 hS hown (hts _ bm_st_above) (fun _ h => h) (bm_dec hd h1 h2) k
  · subst e1
    rw [e2] at hown
    exact va_gets hx hb r4 hS hown (hts _ bm_st_most) (fun _ h => h) (bm_dec hd h1 h2) k
theorem bs_fconst (C : (bm_Ctx dC dI ad cI cJ A X fm p R s m args c cells slots M)) {n : Fin 3} (hf : bm_fact M pc (.fconst n)) (k : (bm_Wg l dC dI ad cI cJ A fm p e R s m args below meth c cells slots Q M (pc + 1) (L) (.int (nI 1) :: S) (σ))) : (bm_Wg l dC dI ad cI cJ A fm p e R s m args below meth c cells slots Q M (pc) (L) (S) (σ)) := by
  obtain ⟨hx, hb, hml, hown, hts, hK, hD, hRO, hfm, hR1, hR2, hR3, hR4⟩ := C
  obtain ⟨hd, hr⟩ := hf
  simp only [bm_rel, Bool.and_eq_true, Bool.or_eq_true, decide_eq_true_eq] at hr
  obtain ⟨⟨⟨hn, h2⟩, e2⟩, h1⟩ := hr
  intro H locs ls hP hS hL
  have k := k H locs ls hP hS hL
  rw [hn, h2] at k
  rw [e2] at hown
  exact va_gets hx hb hRO.2.2.2.2.1 hS hown (hts _ bm_st_comp) (fun _ h => h) (bm_dec hd h1 h2) k
theorem bs_dconst (C : (bm_Ctx dC dI ad cI cJ A X fm p R s m args c cells slots M)) {n : Fin 2} (hf : bm_fact M pc (.dconst n)) (k : (bm_Wg l dC dI ad cI cJ A fm p e R s m args below meth c cells slots Q M (pc + 1) (L) (.retAddr 0 :: S) (σ))) : (bm_Wg l dC dI ad cI cJ A fm p e R s m args below meth c cells slots Q M (pc) (L) (S) (σ)) := by
  obtain ⟨hx, hb, hml, hown, hts, hK, hD, hRO, hfm, hR1, hR2, hR3, hR4⟩ := C
  obtain ⟨hd, hr⟩ := hf
  simp only [bm_rel, Bool.and_eq_true, Bool.or_eq_true, decide_eq_true_eq] at hr
  obtain ⟨⟨⟨hn, h2⟩, e2⟩, h1⟩ := hr
  intro H locs ls hP hS hL
  have k := k H locs ls hP hS hL
  rw [hn, h2] at k
  rw [e2] at hown
  exact va_gets hx hb hRO.2.2.2.2.2.1 hS hown (hts _ bm_st_fmt) (fun _ h => h) (bm_dec hd h1 h2) k
theorem bm_ldcSW {cc : ByteArray} {pc : Nat} {H : Heap} {locs : List Loc} {ls : Array Slot} {rest : List Value} (hexec : p.tables.exec = Jvm.exec) (hb : c.code = cc) {own tx : String} {index q : Nat} (hown : s.vm.findClass own = some m.cls) (hZ : vk_R own index tx q s) (hdg : decode cc pc = .ok (.ldc_w index, 3))
    (k : W p l e R s m args below meth c H locs cells slots Q (F0 m (pc + 3) ls (.ref q :: rest))) : W p l e R s m args below meth c H locs cells slots Q (F0 m pc ls rest) := by
  intro T hT X
  obtain ⟨t, a1, b1⟩ := k T hT X
  exact ⟨t, X.ldcStringW hexec hown (text := tx) (a := q) hZ.1 hZ.2 (g := F0 m pc ls rest) rfl (by rw [hb]; exact hdg) t a1, b1⟩
theorem bs_anewarray (C : (bm_Ctx dC dI ad cI cJ A X fm p R s m args c cells slots M)) {n : Nat} (hf : bm_fact M pc (.anewarray n)) (k : (bm_Wg l dC dI ad cI cJ A fm p e R s m args below meth c cells slots Q M (pc + 1) (L) (.ref n :: S) (σ))) : (bm_Wg l dC dI ad cI cJ A fm p e R s m args below meth c cells slots Q M (pc) (L) (S) (σ)) := by
  obtain ⟨hx, hb, hml, hown, hts, hK, hD, hRO, hfm, hR1, hR2, hR3, hR4⟩ := C
  obtain ⟨hd, hr⟩ := hf
  simp only [bm_rel, Bool.and_eq_true, Bool.or_eq_true, decide_eq_true_eq] at hr
  obtain ⟨hn, hr⟩ := hr
  obtain ⟨q, hq, he⟩ := List.any_eq_true.mp hr
  simp only [Bool.and_eq_true, Bool.or_eq_true, decide_eq_true_eq] at he
  obtain ⟨⟨e1, e2⟩, hr2⟩ := he
  clear hr
  intro H locs ls hP hS hL
  have k := k H locs ls hP hS hL
  have hZ := hRO.2.2.2.2.2.2.2.1 q hq
  rw [e1] at hZ
  subst e2
  rw [hn] at k
  rcases hr2 with ⟨h1, h2⟩ | ⟨h1, h2⟩
  · rw [h2] at k
    exact va_ldcS hx hb hown hZ (bm_dec hd h1 h2) k
  · rw [h2] at k
    exact bm_ldcSW hx hb hown hZ (bm_dec hd h1 h2) k
theorem bs_iaload (C : (bm_Ctx dC dI ad cI cJ A X fm p R s m args c cells slots M)) (hf : bm_fact M pc .iaload) {i : Int32} {q : Nat} (hi : bm_in i (bm_al q) = true) (k : (bm_Wg l dC dI ad cI cJ A fm p e R s m args below meth c cells slots Q M (pc + 1) (L) (.int (σ q i.toNatClampNeg) :: S) (σ))) : (bm_Wg l dC dI ad cI cJ A fm p e R s m args below meth c cells slots Q M (pc) (L) (.int i :: .ref q :: S) (σ)) := by
  obtain ⟨hx, hb, hml, hown, hts, hK, hD, hRO, hfm, hR1, hR2, hR3, hR4⟩ := C
  obtain ⟨hd, hr⟩ := hf
  simp only [bm_rel, Bool.and_eq_true, Bool.or_eq_true, decide_eq_true_eq] at hr
  obtain ⟨⟨hn, h1⟩, h2⟩ := hr
  intro H locs ls hP hS hL
  have k := k H locs ls hP hS hL
  rw [hn] at k
  exact va_iald hx hb hK hP q 0 (by rw [bm_ws_at (bm_al_in (bm_in_pos hi)).1, bm_cell_arr (bm_in_pos hi)]) rfl (bm_in_vp hi) (bm_dec hd h1 h2) k
theorem bs_iastore (C : (bm_Ctx dC dI ad cI cJ A X fm p R s m args c cells slots M)) (hf : bm_fact M pc .iastore) {i v : Int32} {q : Nat} (hi : bm_in i (bm_al q) = true) (k : (bm_Wg l dC dI ad cI cJ A fm p e R s m args below meth c cells slots Q M (pc + 1) (L) (S) (bm_up σ q i.toNatClampNeg v))) : (bm_Wg l dC dI ad cI cJ A fm p e R s m args below meth c cells slots Q M (pc) (L) (.int v :: .int i :: .ref q :: S) (σ)) := by
  obtain ⟨hx, hb, hml, hown, hts, hK, hD, hRO, hfm, hR1, hR2, hR3, hR4⟩ := C
  obtain ⟨hd, hr⟩ := hf
  simp only [bm_rel, Bool.and_eq_true, Bool.or_eq_true, decide_eq_true_eq] at hr
  obtain ⟨⟨hn, h1⟩, h2⟩ := hr
  intro H locs ls hP hS hL
  refine va_iast hx hb hK hP (hD σ) hS q 0 (by rw [bm_ws_at (bm_al_in (bm_in_pos hi)).1, bm_cell_arr (bm_in_pos hi)]) rfl (bm_in_vp hi) (bm_dec hd h1 h2) (fun H1 locs1 hP1 _ hS1 => ?_)
  rw [bm_ws_set (τ := bm_up σ q i.toNatClampNeg v) (by rw [bm_cell_arr (bm_in_pos hi), bm_up_self]) (fun j hj => bm_up_ne σ _ _ hj)] at hP1
  have k := k H1 locs1 ls hP1 hS1 hL
  rw [hn] at k
  exact k
theorem bs_aaload (C : (bm_Ctx dC dI ad cI cJ A X fm p R s m args c cells slots M)) (hf : bm_fact M pc .aaload) {i : Int32} (hi : bm_in i 4 = true) (k : (bm_Wg l dC dI ad cI cJ A fm p e R s m args below meth c cells slots Q M (pc + 1) (L) (.ref (37 + i.toNatClampNeg) :: S) (σ))) : (bm_Wg l dC dI ad cI cJ A fm p e R s m args below meth c cells slots Q M (pc) (L) (.int i :: .ref 36 :: S) (σ)) := by
  obtain ⟨hx, hb, hml, hown, hts, hK, hD, hRO, hfm, hR1, hR2, hR3, hR4⟩ := C
  obtain ⟨hd, hr⟩ := hf
  simp only [bm_rel, Bool.and_eq_true, Bool.or_eq_true, decide_eq_true_eq] at hr
  obtain ⟨⟨hn, h1⟩, h2⟩ := hr
  intro H locs ls hP hS hL
  have k := k H locs ls hP hS hL
  rw [hn] at k
  exact by
    have hlt : i.toNatClampNeg < 4 := by
      simp only [bm_in, Bool.and_eq_true, decide_eq_true_eq] at hi
      exact hi.2
    have ha : (bm_ws ad cI cJ σ)[36]? = some (ad 36, .inl (cJ, 4, .inr (.inr (.inr (.inr (fun i => if i < 4 then some (ad (37 + i)) else none)))))) := by
      rw [bm_ws_at (by decide)]
      rfl
    exact W.aald (v := va_rf (some (ad (37 + i.toNatClampNeg)))) (ty := .array .int) hx hb (hP 36 _ ha) ((hK.2 1 _ rfl).1 4 (fun j => va_rf (if j < 4 then some (ad (37 + j)) else none))) rfl (fun q => by cases q) (by show ¬ (i < 0 ∨ (arrV _ _ _).slots.size ≤ _); rw [arrV_size]; exact bm_in_vp hi) (by show (arrV _ _ _).slots[_]? = _; rw [arrV_read _ _ hlt]; show some (va_rf (if i.toNatClampNeg < 4 then some (ad (37 + i.toNatClampNeg)) else none)) = _; rw [if_pos hlt]) rfl rfl (bm_dec hd h1 h2) k
theorem bs_saload (C : (bm_Ctx dC dI ad cI cJ A X fm p R s m args c cells slots M)) (hf : bm_fact M pc .saload) {i : Int32} {q : Nat} (h5 : (Nat.ble 55 q && Nat.ble q 58) = true) (hi : bm_in i (bm_rl X q) = true) (k : (bm_Wg l dC dI ad cI cJ A fm p e R s m args below meth c cells slots Q M (pc + 1) (L) (.int (bm_rv X q i.toNatClampNeg) :: S) (σ))) : (bm_Wg l dC dI ad cI cJ A fm p e R s m args below meth c cells slots Q M (pc) (L) (.int i :: .ref q :: S) (σ)) := by
  obtain ⟨hx, hb, hml, hown, hts, hK, hD, hRO, hfm, hR1, hR2, hR3, hR4⟩ := C
  obtain ⟨hd, hr⟩ := hf
  simp only [bm_rel, Bool.and_eq_true, Bool.or_eq_true, decide_eq_true_eq] at hr
  obtain ⟨⟨hn, h1⟩, h2⟩ := hr
  obtain ⟨r1, ⟨-, r2⟩, ⟨-, r3⟩, ⟨-, r4⟩, -⟩ := hRO
  intro H locs ls hP hS hL
  have k := k H locs ls hP hS hL
  rw [hn] at k
  simp only [Bool.and_eq_true, Nat.ble_eq] at h5
  rcases (show q = 55 ∨ q = 56 ∨ q = 57 ∨ q = 58 by omega) with rfl | rfl | rfl | rfl
  · exact va_ti hx hb r1 hS (bm_in_vp hi) rfl (bm_dec hd h1 h2) k
  · exact va_ti hx hb r2 hS (bm_in_vp hi) rfl (bm_dec hd h1 h2) k
  · exact va_ti hx hb r3 hS (bm_in_vp hi) rfl (bm_dec hd h1 h2) k
  · exact va_ti hx hb r4 hS (bm_in_vp hi) rfl (bm_dec hd h1 h2) k
theorem bs_arraylength (C : (bm_Ctx dC dI ad cI cJ A X fm p R s m args c cells slots M)) (hf : bm_fact M pc .arraylength) {q : Nat} (h5 : (Nat.ble 55 q && Nat.ble q 58) = true) (k : (bm_Wg l dC dI ad cI cJ A fm p e R s m args below meth c cells slots Q M (pc + 1) (L) (.int (nI (bm_rl X q)) :: S) (σ))) : (bm_Wg l dC dI ad cI cJ A fm p e R s m args below meth c cells slots Q M (pc) (L) (.ref q :: S) (σ)) := by
  obtain ⟨hx, hb, hml, hown, hts, hK, hD, hRO, hfm, hR1, hR2, hR3, hR4⟩ := C
  obtain ⟨hd, hr⟩ := hf
  simp only [bm_rel, Bool.and_eq_true, Bool.or_eq_true, decide_eq_true_eq] at hr
  obtain ⟨⟨hn, h1⟩, h2⟩ := hr
  obtain ⟨r1, ⟨-, r2⟩, ⟨-, r3⟩, ⟨-, r4⟩, -⟩ := hRO
  intro H locs ls hP hS hL
  have k := k H locs ls hP hS hL
  rw [hn] at k
  simp only [Bool.and_eq_true, Nat.ble_eq] at h5
  rcases (show q = 55 ∨ q = 56 ∨ q = 57 ∨ q = 58 by omega) with rfl | rfl | rfl | rfl
  · exact va_tlen hx hb r1 hS rfl (bm_dec hd h1 h2) k
  · exact va_tlen hx hb r2 hS rfl (bm_dec hd h1 h2) k
  · exact va_tlen hx hb r3 hS rfl (bm_dec hd h1 h2) k
  · exact va_tlen hx hb r4 hS rfl (bm_dec hd h1 h2) k
theorem bs_fsub (C : (bm_Ctx dC dI ad cI cJ A X fm p R s m args c cells slots M)) (hf : bm_fact M pc .fsub) {q : Nat} (h5 : bm_sv q = true) (k : (bm_Wg l dC dI ad cI cJ A fm p e R s m args below meth c cells slots Q M (pc + 1) (L) (.int (nI (bm_rl X q)) :: S) (σ))) : (bm_Wg l dC dI ad cI cJ A fm p e R s m args below meth c cells slots Q M (pc) (L) (.ref q :: S) (σ)) := by
  obtain ⟨hx, hb, hml, hown, hts, hK, hD, hRO, hfm, hR1, hR2, hR3, hR4⟩ := C
  obtain ⟨hd, hr⟩ := hf
  simp only [bm_rel, Bool.and_eq_true, Bool.or_eq_true, decide_eq_true_eq] at hr
  obtain ⟨⟨hn, h1⟩, h2⟩ := hr
  obtain ⟨j, hj, rfl⟩ : ∃ j, j < 15 ∧ q = 80 + j := by
    simp only [bm_sv, Bool.and_eq_true, Nat.ble_eq] at h5
    exact ⟨q - 80, by omega, by omega⟩
  have hT := (hRO.2.2.2.2.2.2.1.1 j hj).2.2.2
  rw [bm_slen_at (X := X)] at hT
  intro H locs ls hP hS hL
  have k := k H locs ls hP hS hL
  rw [hn] at k
  exact va_tlen hx hb hT hS rfl (bm_dec hd h1 h2) k
theorem bs_baload (C : (bm_Ctx dC dI ad cI cJ A X fm p R s m args c cells slots M)) (hf : bm_fact M pc .baload) {i : Int32} {q : Nat} (h5 : bm_sv q = true) (hi : bm_in i (bm_rl X q) = true) (k : (bm_Wg l dC dI ad cI cJ A fm p e R s m args below meth c cells slots Q M (pc + 1) (L) (.int (bm_rv X q i.toNatClampNeg) :: S) (σ))) : (bm_Wg l dC dI ad cI cJ A fm p e R s m args below meth c cells slots Q M (pc) (L) (.int i :: .ref q :: S) (σ)) := by
  obtain ⟨hx, hb, hml, hown, hts, hK, hD, hRO, hfm, hR1, hR2, hR3, hR4⟩ := C
  obtain ⟨hd, hr⟩ := hf
  simp only [bm_rel, Bool.and_eq_true, Bool.or_eq_true, decide_eq_true_eq] at hr
  obtain ⟨⟨hn, h1⟩, h2⟩ := hr
  obtain ⟨j, hj, rfl⟩ : ∃ j, j < 15 ∧ q = 80 + j := by
    simp only [bm_sv, Bool.and_eq_true, Nat.ble_eq] at h5
    exact ⟨q - 80, by omega, by omega⟩
  have hT := (hRO.2.2.2.2.2.2.1.1 j hj).2.2.2
  rw [bm_slen_at (X := X)] at hT
  intro H locs ls hP hS hL
  have k := k H locs ls hP hS hL
  rw [hn] at k
  exact va_tb hx hb hT hS (bm_in_vp hi) (by show Value.int ((bm_sbyt.getD j []).getD i.toNatClampNeg 0) = _; rw [bm_sbyt_at (X := X)]; rfl) (bm_dec hd h1 h2) k
theorem bs_f2l (C : (bm_Ctx dC dI ad cI cJ A X fm p R s m args c cells slots M)) (hf : bm_fact M pc .f2l) {q : Nat} (h5 : bm_st q = true) (k : (bm_Wg l dC dI ad cI cJ A fm p e R s m args below meth c cells slots Q M (pc + 1) (L) (.ref (q + 20) :: S) (σ))) : (bm_Wg l dC dI ad cI cJ A fm p e R s m args below meth c cells slots Q M (pc) (L) (.ref q :: S) (σ)) := by
  obtain ⟨hx, hb, hml, hown, hts, hK, hD, hRO, hfm, hR1, hR2, hR3, hR4⟩ := C
  obtain ⟨hd, hr⟩ := hf
  simp only [bm_rel, Bool.and_eq_true, Bool.or_eq_true, decide_eq_true_eq] at hr
  obtain ⟨⟨⟨hn, h2⟩, e2⟩, h1⟩ := hr
  obtain ⟨j, hj, rfl⟩ : ∃ j, j < 15 ∧ q = 60 + j := by
    simp only [bm_st, Bool.and_eq_true, Nat.ble_eq] at h5
    exact ⟨q - 60, by omega, by omega⟩
  have hT := hRO.2.2.2.2.2.2.1.1 j hj
  intro H locs ls hP hS hL
  have k := k H locs ls hP hS hL
  rw [hn] at k
  rw [e2] at hown
  rw [show 60 + j + 20 = 80 + j by omega] at k
  exact vk_getf hx hb hT.2.2.1 hS hown (hts _ bm_st_val) (fun _ h => h) (bm_dec hd h1 h2) k
theorem bs_fadd (C : (bm_Ctx dC dI ad cI cJ A X fm p R s m args c cells slots M)) (hf : bm_fact M pc .fadd) {q : Nat} (h5 : bm_st q = true) (k : (bm_Wg l dC dI ad cI cJ A fm p e R s m args below meth c cells slots Q M (pc + 1) (L) (.int (nI 0) :: S) (σ))) : (bm_Wg l dC dI ad cI cJ A fm p e R s m args below meth c cells slots Q M (pc) (L) (.ref q :: S) (σ)) := by
  obtain ⟨hx, hb, hml, hown, hts, hK, hD, hRO, hfm, hR1, hR2, hR3, hR4⟩ := C
  obtain ⟨hd, hr⟩ := hf
  simp only [bm_rel, Bool.and_eq_true, Bool.or_eq_true, decide_eq_true_eq] at hr
  obtain ⟨⟨⟨hn, h2⟩, e2⟩, h1⟩ := hr
  obtain ⟨j, hj, rfl⟩ : ∃ j, j < 15 ∧ q = 60 + j := by
    simp only [bm_st, Bool.and_eq_true, Nat.ble_eq] at h5
    exact ⟨q - 60, by omega, by omega⟩
  have hT := hRO.2.2.2.2.2.2.1.1 j hj
  intro H locs ls hP hS hL
  have k := k H locs ls hP hS hL
  rw [hn] at k
  rw [e2] at hown
  exact vk_getf hx hb hT.2.1 hS hown (hts _ bm_st_cod) (fun _ h => h) (bm_dec hd h1 h2) k
theorem bs_getfield (C : (bm_Ctx dC dI ad cI cJ A X fm p R s m args c cells slots M)) {n : Nat} (hf : bm_fact M pc (.getfield n)) {q : Nat} (ho : bm_oc q = n / 32) (k : (bm_Wg l dC dI ad cI cJ A fm p e R s m args below meth c cells slots Q M (pc + 1) (L) (.int (σ q (n % 32)) :: S) (σ))) : (bm_Wg l dC dI ad cI cJ A fm p e R s m args below meth c cells slots Q M (pc) (L) (.ref q :: S) (σ)) := by
  obtain ⟨hx, hb, hml, hown, hts, hK, hD, hRO, hfm, hR1, hR2, hR3, hR4⟩ := C
  obtain ⟨hd, hr⟩ := hf
  simp only [bm_rel, Bool.and_eq_true, Bool.or_eq_true, decide_eq_true_eq] at hr
  obtain ⟨⟨⟨⟨⟨⟨hn, h2⟩, g1⟩, g2⟩, g3⟩, g4⟩, g5⟩ := hr
  obtain ⟨i, hi, h1⟩ := bm_fld_in g5
  intro H locs ls hP hS hL
  have k := k H locs ls hP hS hL
  rw [hn] at k
  have hc : n / 32 - 1 < 4 := by omega
  exact va_get (D := (dC, dI)) hx hb hts (bm_lays hc) hown hK hP q (by rw [bm_ws_at (bm_oc_in ho g1), bm_cell_obj ho g1]) (bm_cl_at hc) (n % 32) g3 (hts _ hi) (fun _ h => h) (by rw [bm_flds_at _ 0 _ _ g4, Nat.zero_add]; rfl) (bm_dec hd h1 h2) k
theorem bs_instanceof (C : (bm_Ctx dC dI ad cI cJ A X fm p R s m args c cells slots M)) {n : Nat} (hf : bm_fact M pc (.instanceof n)) {q : Nat} (ho : bm_oc q = n / 64 / 32) (k : (bm_Wg l dC dI ad cI cJ A fm p e R s m args below meth c cells slots Q M (pc + 1) (L) (.ref (q + n % 64) :: S) (σ))) : (bm_Wg l dC dI ad cI cJ A fm p e R s m args below meth c cells slots Q M (pc) (L) (.ref q :: S) (σ)) := by
  obtain ⟨hx, hb, hml, hown, hts, hK, hD, hRO, hfm, hR1, hR2, hR3, hR4⟩ := C
  obtain ⟨hd, hr⟩ := hf
  simp only [bm_rel, Bool.and_eq_true, Bool.or_eq_true, decide_eq_true_eq] at hr
  obtain ⟨⟨⟨⟨⟨⟨⟨hn, h2⟩, g1⟩, g2⟩, g3⟩, g4⟩, g6⟩, g5⟩ := hr
  obtain ⟨i, hi, h1⟩ := bm_fld_in g5
  intro H locs ls hP hS hL
  have k := k H locs ls hP hS hL
  rw [hn] at k
  have hc : n / 64 / 32 - 1 < 4 := by omega
  exact va_get (D := (dC, dI)) hx hb hts (bm_lays hc) hown hK hP q (by rw [bm_ws_at (bm_oc_in ho g1), bm_cell_obj ho g1]) (bm_cl_at hc) (n / 64 % 32) g3 (hts _ hi) (fun _ h => h) (by rw [bm_flds_at _ 0 _ _ g4, if_neg (by omega)]; rfl) (bm_dec hd h1 h2) k
theorem bs_putfield (C : (bm_Ctx dC dI ad cI cJ A X fm p R s m args c cells slots M)) {n : Nat} (hf : bm_fact M pc (.putfield n)) {q : Nat} {v : Int32} (ho : bm_oc q = n / 32) (k : (bm_Wg l dC dI ad cI cJ A fm p e R s m args below meth c cells slots Q M (pc + 1) (L) (S) (bm_up σ q (n % 32) v))) : (bm_Wg l dC dI ad cI cJ A fm p e R s m args below meth c cells slots Q M (pc) (L) (.int v :: .ref q :: S) (σ)) := by
  obtain ⟨hx, hb, hml, hown, hts, hK, hD, hRO, hfm, hR1, hR2, hR3, hR4⟩ := C
  obtain ⟨hd, hr⟩ := hf
  simp only [bm_rel, Bool.and_eq_true, Bool.or_eq_true, decide_eq_true_eq] at hr
  obtain ⟨⟨⟨⟨⟨⟨⟨⟨hn, h2⟩, g1⟩, g2⟩, g3⟩, g4⟩, g6⟩, g7⟩, g5⟩ := hr
  obtain ⟨i, hi, h1⟩ := bm_fld_in g5
  have hc : n / 32 - 1 < 4 := by omega
  intro H locs ls hP hS hL
  refine va_put (D := (dC, dI)) (v := .int v) (ty := .int) hx hb hts (bm_lays hc) (bm_ty (n / 32 - 1)) (bm_ty_ok hc) (bm_nm_ok hc) hown hK hP (hD σ) hS q (by rw [bm_ws_at (bm_oc_in ho g1), bm_cell_obj ho g1]) (bm_cl_at hc) (n % 32) g3 (hts _ hi) (fun _ h => h) g7 (by rw [bm_ty_ok hc _ g3, g6]) rfl rfl (by rw [bm_flds_len]; exact (List.getElem?_eq_some_iff.mp g4).1) (bm_dec hd h1 h2) (fun H1 locs1 hP1 _ hS1 => ?_)
  rw [bm_flds_set _ 0 _ g4, Nat.zero_add, bm_ws_set (τ := bm_up σ q (n % 32) v) (by rw [bm_cell_obj ho g1, bm_up_self]) (fun j hj => bm_up_ne σ _ _ hj)] at hP1
  have k := k H1 locs1 ls hP1 hS1 hL
  rw [hn] at k
  exact k
theorem bm_bo_of {v : Int32} (h : bm_bo v = true) : v = 0 ∨ v = 1 := by simpa [bm_bo] using h
theorem bs_checkcast (C : (bm_Ctx dC dI ad cI cJ A X fm p R s m args c cells slots M)) {n : Nat} (hf : bm_fact M pc (.checkcast n)) {q : Nat} {v : Int32} (ho : bm_oc q = n / 32) (hv : bm_bo v = true) (k : (bm_Wg l dC dI ad cI cJ A fm p e R s m args below meth c cells slots Q M (pc + 1) (L) (S) (bm_up σ q (n % 32) v))) : (bm_Wg l dC dI ad cI cJ A fm p e R s m args below meth c cells slots Q M (pc) (L) (.int v :: .ref q :: S) (σ)) := by
  obtain ⟨hx, hb, hml, hown, hts, hK, hD, hRO, hfm, hR1, hR2, hR3, hR4⟩ := C
  obtain ⟨hd, hr⟩ := hf
  simp only [bm_rel, Bool.and_eq_true, Bool.or_eq_true, decide_eq_true_eq] at hr
  obtain ⟨⟨⟨⟨⟨⟨⟨⟨hn, h2⟩, g1⟩, g2⟩, g3⟩, g4⟩, g6⟩, g7⟩, g5⟩ := hr
  obtain ⟨i, hi, h1⟩ := bm_fld_in g5
  have hc : n / 32 - 1 < 4 := by omega
  intro H locs ls hP hS hL
  refine va_put (D := (dC, dI)) (v := .int v) (ty := .boolean) hx hb hts (bm_lays hc) (bm_ty (n / 32 - 1)) (bm_ty_ok hc) (bm_nm_ok hc) hown hK hP (hD σ) hS q (by rw [bm_ws_at (bm_oc_in ho g1), bm_cell_obj ho g1]) (bm_cl_at hc) (n % 32) g3 (hts _ hi) (fun _ h => h) g7 (by rw [bm_ty_ok hc _ g3, g6]) (by rcases bm_bo_of hv with rfl | rfl <;> rfl) (by rcases bm_bo_of hv with rfl | rfl <;> rfl) (by rw [bm_flds_len]; exact (List.getElem?_eq_some_iff.mp g4).1) (bm_dec hd h1 h2) (fun H1 locs1 hP1 _ hS1 => ?_)
  rw [bm_flds_set _ 0 _ g4, Nat.zero_add, bm_ws_set (τ := bm_up σ q (n % 32) v) (by rw [bm_cell_obj ho g1, bm_up_self]) (fun j hj => bm_up_ne σ _ _ hj)] at hP1
  have k := k H1 locs1 ls hP1 hS1 hL
  rw [hn] at k
  exact k
theorem bs_goto (C : (bm_Ctx dC dI ad cI cJ A X fm p R s m args c cells slots M)) {t : Int} (hf : bm_fact M pc (.goto t)) (k : (bm_Wg l dC dI ad cI cJ A fm p e R s m args below meth c cells slots Q M (t.toNat) (L) (S) (σ))) : (bm_Wg l dC dI ad cI cJ A fm p e R s m args below meth c cells slots Q M (pc) (L) (S) (σ)) := by
  obtain ⟨hx, hb, hml, hown, hts, hK, hD, hRO, hfm, hR1, hR2, hR3, hR4⟩ := C
  obtain ⟨hd, hr⟩ := hf
  simp only [bm_rel, Bool.and_eq_true, Bool.or_eq_true, decide_eq_true_eq] at hr
  obtain ⟨h1, h2⟩ := hr
  intro H locs ls hP hS hL
  have k := k H locs ls hP hS hL
  exact lv_goto (tgt := bm_pc M t.toNat) hx hb (bm_dec hd h1 h2) (by omega) k
theorem bs_if_icmp (C : (bm_Ctx dC dI ad cI cJ A X fm p R s m args c cells slots M)) {cd : Jvm.ClassFile.Cond} {t : Int} (hf : bm_fact M pc (.if_icmp cd t)) {x y : Int32}
    (k1 : bm_cnd cd x y → (bm_Wg l dC dI ad cI cJ A fm p e R s m args below meth c cells slots Q M (t.toNat) (L) (S) (σ)))
    (k2 : ¬ bm_cnd cd x y → (bm_Wg l dC dI ad cI cJ A fm p e R s m args below meth c cells slots Q M (pc + 1) (L) (S) (σ))) : (bm_Wg l dC dI ad cI cJ A fm p e R s m args below meth c cells slots Q M (pc) (L) (.int y :: .int x :: S) (σ)) := by
  obtain ⟨hx, hb, hml, hown, hts, hK, hD, hRO, hfm, hR1, hR2, hR3, hR4⟩ := C
  obtain ⟨hd, hr⟩ := hf
  simp only [bm_rel, Bool.and_eq_true, Bool.or_eq_true, decide_eq_true_eq] at hr
  obtain ⟨⟨hn, h1⟩, h2⟩ := hr
  intro H locs ls hP hS hL
  have k1 := fun h => k1 h H locs ls hP hS hL
  have k2 := fun h => k2 h H locs ls hP hS hL
  rw [hn] at k2
  cases cd
  · exact lv_icmp_eq (tgt := bm_pc M t.toNat) hx hb (bm_dec hd h1 h2) (by omega) k1 k2
  · exact lv_icmp_ne (tgt := bm_pc M t.toNat) hx hb (bm_dec hd h1 h2) (by omega) k1 (fun h => k2 (fun q => q h))
  · exact lv_icmp_lt (tgt := bm_pc M t.toNat) hx hb (bm_dec hd h1 h2) (by omega) k1 k2
  · exact lv_icmp_ge (tgt := bm_pc M t.toNat) hx hb (bm_dec hd h1 h2) (by omega) (fun h => k1 (by first | exact h | exact Int32.not_lt.mpr h)) (fun h => k2 (by first | exact h | exact fun q => h (Int32.not_lt.mp q)))
  · exact lv_icmp_gt (tgt := bm_pc M t.toNat) hx hb (bm_dec hd h1 h2) (by omega) k1 k2
  · exact lv_icmp_le (tgt := bm_pc M t.toNat) hx hb (bm_dec hd h1 h2) (by omega) (fun h => k1 (by first | exact h | exact Int32.not_lt.mpr h)) (fun h => k2 (by first | exact h | exact fun q => h (Int32.not_lt.mp q)))
theorem bs_ifCond (C : (bm_Ctx dC dI ad cI cJ A X fm p R s m args c cells slots M)) {cd : Jvm.ClassFile.Cond} {t : Int} (hf : bm_fact M pc (.ifCond cd t)) {x : Int32}
    (k1 : bm_cnd cd x 0 → (bm_Wg l dC dI ad cI cJ A fm p e R s m args below meth c cells slots Q M (t.toNat) (L) (S) (σ)))
    (k2 : ¬ bm_cnd cd x 0 → (bm_Wg l dC dI ad cI cJ A fm p e R s m args below meth c cells slots Q M (pc + 1) (L) (S) (σ))) : (bm_Wg l dC dI ad cI cJ A fm p e R s m args below meth c cells slots Q M (pc) (L) (.int x :: S) (σ)) := by
  obtain ⟨hx, hb, hml, hown, hts, hK, hD, hRO, hfm, hR1, hR2, hR3, hR4⟩ := C
  obtain ⟨hd, hr⟩ := hf
  simp only [bm_rel, Bool.and_eq_true, Bool.or_eq_true, decide_eq_true_eq] at hr
  obtain ⟨⟨hn, h1⟩, h2⟩ := hr
  intro H locs ls hP hS hL
  have k1 := fun h => k1 h H locs ls hP hS hL
  have k2 := fun h => k2 h H locs ls hP hS hL
  rw [hn] at k2
  cases cd
  · exact lv_if_eq (tgt := bm_pc M t.toNat) hx hb (bm_dec hd h1 h2) (by omega) k1 k2
  · exact lv_if_ne (tgt := bm_pc M t.toNat) hx hb (bm_dec hd h1 h2) (by omega) k1 (fun h => k2 (fun q => q h))
  · exact lv_if_lt (tgt := bm_pc M t.toNat) hx hb (bm_dec hd h1 h2) (by omega) k1 k2
  · exact lv_if_ge (tgt := bm_pc M t.toNat) hx hb (bm_dec hd h1 h2) (by omega) (fun h => k1 (by first | exact h | exact Int32.not_lt.mpr h)) (fun h => k2 (by first | exact h | exact fun q => h (Int32.not_lt.mp q)))
  · exact lv_if_gt (tgt := bm_pc M t.toNat) hx hb (bm_dec hd h1 h2) (by omega) k1 k2
  · exact lv_if_le (tgt := bm_pc M t.toNat) hx hb (bm_dec hd h1 h2) (by omega) (fun h => k1 (by first | exact h | exact Int32.not_lt.mpr h)) (fun h => k2 (by first | exact h | exact fun q => h (Int32.not_lt.mp q)))
theorem bm_cat_eq {S : List Value} (hf : fm.category = 1) : ((S.map (bm_cz ad fm)).map fun v => v.category).sum = bm_cat S := by
  induction S with
  | nil => rfl
  | cons v S ih =>
    simp only [List.map_cons, List.sum_cons, ih, bm_cz_cat hf]
    cases v <;> simp [bm_cat, Value.category] <;> omega
end BS
end
section
section BT
variable {l : Launch} {dC : Nat → ClassId} {dI : Nat → Nat → Nat} {ad : Nat → Nat} {cI cJ : ClassId} {A : Nat → Prop} {X : bm_X} {fm : Value} {p : Program} {e : Env} {R : Room} {s : State} {m : MethodId} {args : Array Value} {below : List Frame} {meth : Method} {c : Code} {cells slots : Nat} {Q : State → Prop} {M pc : Nat} {L S : List Value} {σ : bm_M}
theorem bs_dmul (C : (bm_Ctx dC dI ad cI cJ A X fm p R s m args c cells slots M)) (hf : bm_fact M pc .dmul) {x y : Int32} (hct : Nat.ble (bm_cat S) 8 = true) (k : (bm_Wg l dC dI ad cI cJ A fm p e R s m args below meth c cells slots Q M (pc + 1) (L) (.int (bm_max x y) :: S) (σ))) : (bm_Wg l dC dI ad cI cJ A fm p e R s m args below meth c cells slots Q M (pc) (L) (.int y :: .int x :: S) (σ)) := by
  obtain ⟨hx, hb, hml, hown, hts, hK, hD, hRO, hfm, hR1, hR2, hR3, hR4⟩ := C
  obtain ⟨hd, hr⟩ := hf
  simp only [bm_rel, Bool.and_eq_true, Bool.or_eq_true, decide_eq_true_eq] at hr
  obtain ⟨⟨⟨hn, h2⟩, h3⟩, hp⟩ := hr
  obtain ⟨i, hi, h1⟩ := bm_prim_in hp
  intro H locs ls hP hS hL
  have k := k H locs ls hP hS hL
  rw [hn] at k
  have hct : ((S.map (bm_cz ad fm)).map fun v => v.category).sum ≤ 8 := by rw [bm_cat_eq hfm]; exact Nat.le_of_ble_eq_true hct
  exact va_mmax hx hb (hml.trans hL.1.symm) hown (hts _ hi) (hts _ bm_max_st) (hts _ bm_math_ini) (hts _ bm_max_co) (by omega) (by omega) hR3 hR4 (bm_dec hd h1 h2) k
theorem bs_dadd (C : (bm_Ctx dC dI ad cI cJ A X fm p R s m args c cells slots M)) (hf : bm_fact M pc .dadd) {x y : Int32} (hct : Nat.ble (bm_cat S) 8 = true) (k : (bm_Wg l dC dI ad cI cJ A fm p e R s m args below meth c cells slots Q M (pc + 1) (L) (.int (bm_min x y) :: S) (σ))) : (bm_Wg l dC dI ad cI cJ A fm p e R s m args below meth c cells slots Q M (pc) (L) (.int y :: .int x :: S) (σ)) := by
  obtain ⟨hx, hb, hml, hown, hts, hK, hD, hRO, hfm, hR1, hR2, hR3, hR4⟩ := C
  obtain ⟨hd, hr⟩ := hf
  simp only [bm_rel, Bool.and_eq_true, Bool.or_eq_true, decide_eq_true_eq] at hr
  obtain ⟨⟨⟨hn, h2⟩, h3⟩, hp⟩ := hr
  obtain ⟨i, hi, h1⟩ := bm_prim_in hp
  intro H locs ls hP hS hL
  have k := k H locs ls hP hS hL
  rw [hn] at k
  have hct : ((S.map (bm_cz ad fm)).map fun v => v.category).sum ≤ 8 := by rw [bm_cat_eq hfm]; exact Nat.le_of_ble_eq_true hct
  exact va_mmin hx hb (hml.trans hL.1.symm) hown (hts _ hi) (hts _ bm_min_st) (hts _ bm_math_ini) (hts _ bm_min_co) (by omega) (by omega) hR3 hR4 (bm_dec hd h1 h2) k
theorem bs_dastore (C : (bm_Ctx dC dI ad cI cJ A X fm p R s m args c cells slots M)) (hf : bm_fact M pc .dastore) {n dp sp : Int32} {d q : Nat} (hct : Nat.ble (bm_cat S) 8 = true) (hac : bm_ac sp dp n (bm_al q) (bm_al d) = true) (k : (bm_Wg l dC dI ad cI cJ A fm p e R s m args below meth c cells slots Q M (pc + 1) (L) (S) (bm_cp σ q d sp.toNatClampNeg dp.toNatClampNeg n.toNatClampNeg))) : (bm_Wg l dC dI ad cI cJ A fm p e R s m args below meth c cells slots Q M (pc) (L) (.int n :: .int dp :: .ref d :: .int sp :: .ref q :: S) (σ)) := by
  obtain ⟨hx, hb, hml, hown, hts, hK, hD, hRO, hfm, hR1, hR2, hR3, hR4⟩ := C
  obtain ⟨hd, hr⟩ := hf
  simp only [bm_rel, Bool.and_eq_true, Bool.or_eq_true, decide_eq_true_eq] at hr
  obtain ⟨⟨⟨hn, h2⟩, h3⟩, hp⟩ := hr
  obtain ⟨i, hi, h1⟩ := bm_prim_in hp
  intro H locs ls hP hS hL
  have hct : ((S.map (bm_cz ad fm)).map fun v => v.category).sum ≤ 8 := by rw [bm_cat_eq hfm]; exact Nat.le_of_ble_eq_true hct
  simp only [bm_ac, Bool.and_eq_true, Bool.not_eq_true', decide_eq_false_iff_not, decide_eq_true_eq] at hac
  obtain ⟨⟨⟨⟨⟨⟨z1, z2⟩, a1⟩, a2⟩, a3⟩, a4⟩, a5⟩ := hac
  refine va_copyi (ty := .int) hx hb (hml.trans hL.1.symm) hown (hts _ hi) (hts _ bm_ac_na) (hts _ bm_ac_st) (hts _ bm_sys_ini) hK hP (hD σ) hS q d 0 0 (by rw [bm_ws_at (bm_al_in z1).1, bm_cell_arr z1]) (by rw [bm_ws_at (bm_al_in z2).1, bm_cell_arr z2]) rfl rfl rfl a1 a2 a3 a4 a5 (fun _ _ => rfl) (by omega) ?_ (bm_dec hd h1 h2) (fun H1 locs1 hP1 _ hS1 => ?_)
  · have : nativeFrameWords "java/lang/System" "arraycopy" 5 = 7 := by decide +kernel
    rw [this]
    omega
  · rw [bm_ws_set (τ := bm_cp σ q d sp.toNatClampNeg dp.toNatClampNeg n.toNatClampNeg) (by rw [bm_cell_arr z2]; simp [bm_cp]) (fun j hj => by simp [bm_cp, hj])] at hP1
    have k := k H1 locs1 ls hP1 hS1 hL
    rw [hn] at k
    exact k
/-- where a switch goes -/
def bm_tg (x : Int32) (d : Nat) : List (Int × Int) → Nat
  | [] => d
  | (v, t) :: l => if x = nI v.toNat then t.toNat else bm_tg x d l
theorem bm_sw_tg {γ : Nat → List Value → bm_M → bm_R} {κ : Nat → List Value → List Value → bm_M → bm_R} {x : Int32} {d : Nat} : ∀ l : List (Int × Int), bm_pick γ κ (bm_sw x d L S σ l) = κ (bm_tg x d l) L S σ
  | [] => rfl
  | (v, t) :: l => by
    show cond (decide (x = nI v.toNat)) (κ t.toNat L S σ) (bm_pick γ κ (bm_sw x d L S σ l)) = κ (if x = nI v.toNat then t.toNat else bm_tg x d l) L S σ
    rw [bm_sw_tg l]
    by_cases h : x = nI v.toNat
    · rw [if_pos h, decide_eq_true h]; rfl
    · rw [if_neg h, decide_eq_false h]; rfl
theorem bm_nI_iff {x : Int32} {v : Int} (h0 : 0 ≤ v) (h1 : v < 2147483648) : x = nI v.toNat ↔ x.toInt = v := by
  have h2 : (nI v.toNat).toInt = v := by
    rw [nI_toInt (by omega)]
    omega
  constructor
  · intro h; rw [h, h2]
  · intro h
    exact Int32.toInt_inj.mp (by rw [h, h2])
theorem bm_tsw_tg {M : Nat} {pc : Int} {x : Int32} {d : Nat} : ∀ (l : List (Int × Int)) (os : List Int) (v : Int), bm_tsw M pc v l os = true → 0 ≤ v → v + l.length ≤ 2147483648 →
    (∃ (j : Nat) (off : Int), j < l.length ∧ x.toInt = v + j ∧ os[j]? = some off ∧ pc + off = (bm_pc M (bm_tg x d l) : Int)) ∨ ((x.toInt < v ∨ v + l.length ≤ x.toInt) ∧ bm_tg x d l = d)
  | [], [], v, _, _, _ => Or.inr ⟨by simp; omega, rfl⟩
  | [], _ :: _, v, h, _, _ => by cases h
  | _ :: _, [], v, h, _, _ => by cases h
  | (a, t) :: l, o :: os, v, h, h0, h1 => by
    simp only [bm_tsw, Bool.and_eq_true, decide_eq_true_eq] at h
    obtain ⟨⟨e1, e2⟩, h⟩ := h
    subst e1
    simp only [List.length_cons] at h1 ⊢
    by_cases hx : x.toInt = a
    · refine Or.inl ⟨0, o, by omega, by omega, rfl, ?_⟩
      rw [e2]
      show _ = ((bm_pc M (if x = nI a.toNat then t.toNat else bm_tg x d l) : Nat) : Int)
      rw [if_pos ((bm_nI_iff h0 (by omega)).mpr hx)]
    · have hn : ¬ x = nI a.toNat := fun q => hx ((bm_nI_iff h0 (by omega)).mp q)
      have ht : bm_tg x d ((a, t) :: l) = bm_tg x d l := if_neg hn
      rw [ht]
      rcases bm_tsw_tg (x := x) (d := d) l os (a + 1) h (by omega) (by omega) with ⟨j, off, g1, g2, g3, g4⟩ | ⟨g1, g2⟩
      · exact Or.inl ⟨j + 1, off, by omega, by omega, by simpa using g3, g4⟩
      · refine Or.inr ⟨?_, g2⟩
        rcases g1 with g1 | g1
        · exact Or.inl (by omega)
        · exact Or.inr (by omega)
theorem bm_lsw_tg {M : Nat} {pc dd : Int} {x : Int32} {d : Nat} (hd : pc + dd = (bm_pc M d : Int)) : ∀ (l os : List (Int × Int)), bm_lsw M pc l os = true → pc + Op.lookupswitch.offset os dd x.toInt = (bm_pc M (bm_tg x d l) : Int)
  | [], [], _ => hd
  | [], _ :: _, h => by cases h
  | _ :: _, [], h => by cases h
  | (a, t) :: l, (b, o) :: os, h => by
    simp only [bm_lsw, Bool.and_eq_true, decide_eq_true_eq] at h
    obtain ⟨⟨⟨⟨e1, e2⟩, e3⟩, e4⟩, h⟩ := h
    subst e1
    rw [Op.lookupswitch.offset_cons]
    by_cases hx : x.toInt = a
    · rw [if_pos hx.symm, e4]
      show _ = ((bm_pc M (if x = nI a.toNat then t.toNat else bm_tg x d l) : Nat) : Int)
      rw [if_pos ((bm_nI_iff e2 e3).mpr hx)]
    · have hn : ¬ x = nI a.toNat := fun q => hx ((bm_nI_iff e2 e3).mp q)
      have ht : bm_tg x d ((a, t) :: l) = bm_tg x d l := if_neg hn
      rw [ht, if_neg (fun q => hx q.symm)]
      exact bm_lsw_tg hd l os h
theorem bs_switch (C : (bm_Ctx dC dI ad cI cJ A X fm p R s m args c cells slots M)) {d : Int} {ps : Array (Int × Int)} (hf : bm_fact M pc (.lookupswitch d ps)) {x : Int32} (k : (bm_Wg l dC dI ad cI cJ A fm p e R s m args below meth c cells slots Q M (bm_tg x d.toNat ps.toList) (L) (S) (σ))) : (bm_Wg l dC dI ad cI cJ A fm p e R s m args below meth c cells slots Q M (pc) (L) (.int x :: S) (σ)) := by
  obtain ⟨hx, hb, hml, hown, hts, hK, hD, hRO, hfm, hR1, hR2, hR3, hR4⟩ := C
  obtain ⟨hd, hr⟩ := hf
  generalize (bm_nthT (bm_rcd M) pc).2 = q at hd hr
  obtain ⟨real, len⟩ := q
  intro H locs ls hP hS hL
  have k := k H locs ls hP hS hL
  simp only [bm_rel] at hr
  split at hr
  · simp only [Bool.and_eq_true, decide_eq_true_eq] at hr
    obtain ⟨⟨⟨⟨e1, e2⟩, e3⟩, e4⟩, e5⟩ := hr
    rcases bm_tsw_tg (x := x) (d := d.toNat) _ _ _ e5 e2 (by omega) with ⟨j, off, g1, g2, g3, g4⟩ | ⟨g1, g2⟩
    · refine lv_tableIn hx hb hd (by omega) (by omega) (off := off) ?_ g4 k
      rw [show (x.toInt - _).toNat = j by omega]
      simpa using g3
    · rw [g2] at k
      exact lv_tableOut hx hb hd (by rcases g1 with g1 | g1; exact Or.inl g1; exact Or.inr (by omega)) e1 k
  · simp only [Bool.and_eq_true, decide_eq_true_eq] at hr
    obtain ⟨⟨e1, e2⟩, e3⟩ := hr
    exact lv_lookup hx hb hd e2 rfl (bm_lsw_tg (x := x) e1 _ _ e3) k
  · cases hr
end BT
end
section
/-! CALLS -/
def bm_rm (d : Nat) : Room := { frames := d, cells := 0, slots := 0, locals := 40 * d }
def bm_ov (ad : Nat → Nat) (fm : Value) : Value → Option Value
  | .null => none
  | v => some (bm_cz ad fm v)
def bm_Pc (dC : Nat → ClassId) (dI : Nat → Nat → Nat) (ad : Nat → Nat) (cI cJ : ClassId) (A : Nat → Prop) (X : bm_X) (fm : Value) (as : List Value) (σ : bm_M) : Array Value → State → Prop := va_Pc (as.map (bm_cz ad fm)) (fun U => va_P (dC, dI) bm_cl (bm_ws ad cI cJ σ) U.heap ∧ va_K (dC, dI) bm_cl [(cI, .int), (cJ, .array .int)] U ∧ bm_RO A ad fm X U)
def bm_Qc (dC : Nat → ClassId) (dI : Nat → Nat → Nat) (ad : Nat → Nat) (cI cJ : ClassId) (A : Nat → Prop) (fm : Value) (r : Value) (τ : bm_M) : Array Value → State → Outcome → State → Prop := fun _ st oc t => (oc = .returned (bm_ov ad fm r) ∧ va_P (dC, dI) bm_cl (bm_ws ad cI cJ τ) t.heap) ∧ va_F A st t
def bm_wsM (M : Nat) : List Cond := Cond.code (bm_y M) (bm_cc M) (bm_nL M) (bm_rt M) :: bm_T
/-- a method's contract: from such a memory it comes to such a value and such a memory -/
def bm_Met (l : Launch) (dC : Nat → ClassId) (dI : Nat → Nat → Nat) (ad : Nat → Nat) (cI cJ : ClassId) (A : Nat → Prop) (X : bm_X) (fm : Value) (M : Nat) (as : List Value) (σ : bm_M) (r : Value) (τ : bm_M) : Prop :=
  Met l (bm_y M) (bm_wsM M) (bm_rm (bm_dp M)) (bm_Pc dC dI ad cI cJ A X fm as σ) (bm_Qc dC dI ad cI cJ A fm r τ) 0 0 A
set_option maxRecDepth 100000 in
theorem bm_meta : ∀ M, M < 211 → ((bm_y M).cls ≠ "java/lang/invoke/MethodHandle" ∧ (bm_y M).cls ≠ "java/lang/invoke/VarHandle" ∧ (parseMethodDescriptor (bm_y M).desc).map (fun d => d.parameters.length) = some (bm_ar M)) ∧ plainName (bm_y M).cls = true ∧ bm_cn (bm_cl0 M) = (bm_y M).cls ∧ bm_pc M 0 = 0 ∧ (bm_sta M = true → M ∈ bm_stats) ∧ (bm_sta M = false → M ∈ bm_insts) ∧ (bm_sta M = false → bm_cl0 M < 4 ∨ bm_cl0 M = 6) ∧ (bm_cl0 M < 4 → bm_RR (bm_cl0 M) = (bm_y M).cls) ∧ (bm_cl0 M = 6 → (bm_y M).cls = "java/lang/String") := by decide +kernel
theorem bm_goodM {M : Nat} (h : M < 211) : GoodIn bm_T (bm_wsM M) := by
  intro w hw
  rcases List.mem_cons.mp hw with rfl | hw
  · exact ⟨bm_code_in M (List.mem_range.mpr h), good_of_word rfl⟩
  · exact ⟨hw, good_of_word (List.mem_filter.mp hw).2⟩
theorem bm_st_ex {b : Nat} (h : bm_st b = true) : ∃ j : Nat, j < 15 ∧ b = 60 + j := by
  simp only [bm_st, Bool.and_eq_true, Nat.ble_eq] at h
  exact ⟨b - 60, by omega, by omega⟩
section BC
variable {l : Launch} {dC : Nat → ClassId} {dI : Nat → Nat → Nat} {ad : Nat → Nat} {cI cJ : ClassId} {A : Nat → Prop} {X : bm_X} {fm : Value} {p : Program} {e : Env} {R : Room} {s : State} {m : MethodId} {args : Array Value} {below : List Frame} {meth : Method} {c : Code} {cells slots : Nat} {Q : State → Prop} {M pc : Nat} {L S : List Value} {σ : bm_M}
theorem bm_blind {as : List Value} : FrameBlind (bm_Pc dC dI ad cI cJ A X fm as σ) := fun a U g mk q => by
  obtain ⟨q0, q1, q2, q3⟩ := q
  exact ⟨q0, q1, va_K.moved (u := U) (U := U.calling g mk a) (Vm.Alike.refl U.vm) q2, bm_RO.go (s := U) (U := U.calling g mk a) q3 (State.WarmedH.refl U) (fun _ _ _ => rfl)⟩
theorem bm_callB {N : Nat} {own : String} {index : Nat} (hN : N < 211) (hts : ∀ w ∈ bm_T, w.before args s = true) (hl : Cond.methodLink own index (bm_y N) ∈ bm_T) (h1 : bm_dp N + 1 ≤ R.frames) (h2 : 8 + (bm_nL N + 11) + 40 * bm_dp N ≤ R.locals) : CallB R s args own index (bm_y N) (bm_cc N) (bm_nL N) (bm_rt N) (bm_wsM N) (bm_rm (bm_dp N)) 0 0 (bm_ar N) :=
  callB_of (bm_ar N) hts (bm_goodM hN) rfl rfl rfl (hts _ (bm_ini_in N (List.mem_range.mpr hN))) (hts _ hl) (bm_meta N hN).1 ⟨h1, h2⟩
theorem bm_callW {r : Value} {τ : bm_M} {rest st0 : List Value} {H : Heap} {locs : List Loc} {ls : Array Slot} {a : Array Value} {pb : Nat} (hr : va_Run p l e R s m args below meth c H locs cells slots 0 0 (F0 m pb ls st0) rest (bm_Qc dC dI ad cI cJ A fm r τ a) A) (hS : va_S A s.heap H locs)
    (kk : ∀ (H1 : Heap) (locs1 : List Loc), va_P (dC, dI) bm_cl (bm_ws ad cI cJ τ) H1 → va_S A s.heap H1 locs1 → W p l e R s m args below meth c H1 locs1 cells slots Q (F0 m (pb + 3) ls ((bm_ov ad fm r).toList ++ rest))) : W p l e R s m args below meth c H locs cells slots Q (F0 m pb ls st0) := by
  intro T hT X
  obtain ⟨v, st₀, t, T', Ls, h0, X', hL, e1, e2, ⟨⟨hv, hp⟩, hz, hk⟩, st⟩ := hr T hT X
  cases hv
  rw [h0] at hz hk
  obtain ⟨t2, a1, b1⟩ := kk T'.heap (locs ++ Ls) (by rw [e1]; exact hp) ⟨Nat.le_trans hS.1 (by rw [e1]; exact hz), fun q h1 h2 => by rw [e1, hk q (Nat.lt_of_lt_of_le h1 hS.1) h2]; exact hS.2.1 q h1 h2, fun q hq => by
      rcases List.mem_append.mp hq with h | h
      · exact hS.2.2 q h
      · exact hL q h⟩ T' rfl X'
  exact ⟨t2, st t2 a1, b1⟩
theorem bm_take_drop : ∀ (n : Nat) (l acc : List Value), (bm_take n l acc).reverse ++ bm_drop n l = acc.reverse ++ l
  | 0, l, acc => rfl
  | n + 1, [], acc => by simp [bm_take, bm_drop]
  | n + 1, a :: l, acc => by
    show (bm_take n l (a :: acc)).reverse ++ bm_drop n l = _
    rw [bm_take_drop n l (a :: acc)]
    simp

theorem bs_invoke (C : (bm_Ctx dC dI ad cI cJ A X fm p R s m args c cells slots M)) {n : Nat} {real : Instr} {as rest S' : List Value} {r : Value} {τ : bm_M} (hn : bm_pc M (pc + 1) = bm_pc M pc + 3) (hdec : decode (bm_cc M) (bm_pc M pc) = .ok (real, 3)) (hinv : bm_inv (bm_cl0 M) M (n / 4096) n real = true) (hg : bm_cg n as rest = true) (hS0 : S = as.reverse ++ rest) (hM : bm_Met l dC dI ad cI cJ A X fm (n / 4096) as σ r τ) (hS' : S'.map (bm_cz ad fm) = (bm_ov ad fm r).toList ++ rest.map (bm_cz ad fm)) (k : (bm_Wg l dC dI ad cI cJ A fm p e R s m args below meth c cells slots Q M (pc + 1) (L) (S') (τ))) : (bm_Wg l dC dI ad cI cJ A fm p e R s m args below meth c cells slots Q M (pc) (L) (S) (σ)) := by
  obtain ⟨hx, hb, hml, hown, hts, hK, hD, hRO, hfm, hR1, hR2, hR3, hR4⟩ := C
  simp only [bm_inv, Bool.and_eq_true, decide_eq_true_eq] at hinv
  obtain ⟨⟨⟨⟨⟨⟨⟨i1, i2⟩, i3⟩, i4⟩, i5⟩, i6⟩, i7⟩, i8⟩ := hinv
  obtain ⟨q, hq, he⟩ := List.any_eq_true.mp i8
  simp only [Bool.and_eq_true, decide_eq_true_eq] at he
  obtain ⟨⟨e1, e2⟩, e3⟩ := he
  have hlk := bm_links_in q hq
  unfold bm_lkC at hlk
  rw [e1, e2] at hlk
  simp only [bm_cg, Bool.and_eq_true, Nat.ble_eq, Nat.beq_eq] at hg
  obtain ⟨c1, c2, c3, c4⟩ := hg
  obtain ⟨m1, m2, m3, m4, m5, m6, m7, m8, m9⟩ := bm_meta _ i1
  have hcb : CallB R s args (bm_cn (bm_cl0 M)) q.2.2 (bm_y (n / 4096)) (bm_cc (n / 4096)) (bm_nL (n / 4096)) (bm_rt (n / 4096)) (bm_wsM (n / 4096)) (bm_rm (bm_dp (n / 4096))) 0 0 (bm_ar (n / 4096)) := bm_callB i1 hts hlk (by omega) (by omega)
  intro H locs ls hP hS hL
  have hcat : ((rest.map (bm_cz ad fm)).map fun v => v.category).sum ≤ 8 := by rw [bm_cat_eq hfm]; exact c1
  have hpre : ∀ U : State, U.heap = H → s.WarmedH U.vm → bm_Pc dC dI ad cI cJ A X fm as σ (as.map (bm_cz ad fm)).toArray U := fun U hU hW => ⟨rfl, by rw [hU]; exact hP, va_K.moved hW.alike hK, hRO.go hW (fun q h1 h2 => by rw [hU]; exact hS.2.1 q h1 h2)⟩
  have kk : ∀ (H1 : Heap) (locs1 : List Loc), va_P (dC, dI) bm_cl (bm_ws ad cI cJ τ) H1 → va_S A s.heap H1 locs1 → W p l e R s m args below meth c H1 locs1 cells slots Q (F0 m (bm_pc M pc + 3) ls ((bm_ov ad fm r).toList ++ rest.map (bm_cz ad fm))) := fun H1 locs1 hP1 hS1 => by
    have k := k H1 locs1 ls hP1 hS1 hL
    rw [hn, hS'] at k
    exact k
  cases hst : bm_sta (n / 4096) with
  | true =>
    rw [hst] at e3 i3
    simp only [if_true, Nat.add_zero] at e3 i3
    subst e3
    exact bm_callW (va_runS ⟨hx, hb, hml, hown, hts⟩ hM ⟨hcb, hts _ (bm_stat_in _ (m5 hst))⟩ ⟨bm_blind, hpre⟩ rfl (by rw [List.length_map, c2, i3]) hL.1 (by show S.map _ = _; rw [hS0, List.map_append, List.map_reverse]) (lv_room hcat) hdec ⟨by omega, by omega⟩) hS kk
  | false =>
    rw [hst] at e3 i3 i7
    simp only [Bool.false_eq_true, if_false] at e3 i3 i7
    subst e3
    have hrec : ∃ (b : Nat) (As : List Value), as = .ref b :: As ∧ ∃ cellB : Cell, H[ad b]? = some cellB ∧ cellB.vm.isStatics = false ∧ s.vm.findClass (bm_y (n / 4096)).cls = some cellB.cls := by
      rcases m7 hst with h4 | h6
      · rw [if_neg (by omega)] at i7
        rw [← i7] at c4
        match as, c4 with
        | .ref b :: As, c4 =>
          have h5 : bm_oc b = bm_cl0 (n / 4096) + 1 := by
            match hcl : bm_cl0 (n / 4096), h4 with
            | 0, _ => rw [hcl] at c4; simp only [bm_rcv, Bool.and_eq_true, Nat.beq_eq] at c4; exact c4.2
            | 1, _ => rw [hcl] at c4; simp only [bm_rcv, Bool.and_eq_true, Nat.beq_eq] at c4; exact c4.2
            | 2, _ => rw [hcl] at c4; simp only [bm_rcv, Bool.and_eq_true, Nat.beq_eq] at c4; exact c4.2
            | 3, _ => rw [hcl] at c4; simp only [bm_rcv, Bool.and_eq_true, Nat.beq_eq] at c4; exact c4.2
          refine ⟨b, As, rfl, ?_⟩
          rw [← m8 h4]
          exact va_recv hK hP (bm_cl_at h4) (q0 := b) (by rw [bm_ws_at (bm_oc_in h5 (by omega)), bm_cell_obj h5 (by omega)]; rfl)
        | [], c4 => exact absurd c4 (by match hcl : bm_cl0 (n / 4096), h4 with | 0, _ => (simp [bm_rcv]) | 1, _ => (simp [bm_rcv]) | 2, _ => (simp [bm_rcv]) | 3, _ => (simp [bm_rcv]))
        | .int _ :: _, c4 => exact absurd c4 (by match hcl : bm_cl0 (n / 4096), h4 with | 0, _ => (simp [bm_rcv]) | 1, _ => (simp [bm_rcv]) | 2, _ => (simp [bm_rcv]) | 3, _ => (simp [bm_rcv]))
        | .long _ :: _, c4 => exact absurd c4 (by match hcl : bm_cl0 (n / 4096), h4 with | 0, _ => (simp [bm_rcv]) | 1, _ => (simp [bm_rcv]) | 2, _ => (simp [bm_rcv]) | 3, _ => (simp [bm_rcv]))
        | .float _ :: _, c4 => exact absurd c4 (by match hcl : bm_cl0 (n / 4096), h4 with | 0, _ => (simp [bm_rcv]) | 1, _ => (simp [bm_rcv]) | 2, _ => (simp [bm_rcv]) | 3, _ => (simp [bm_rcv]))
        | .double _ :: _, c4 => exact absurd c4 (by match hcl : bm_cl0 (n / 4096), h4 with | 0, _ => (simp [bm_rcv]) | 1, _ => (simp [bm_rcv]) | 2, _ => (simp [bm_rcv]) | 3, _ => (simp [bm_rcv]))
        | .null :: _, c4 => exact absurd c4 (by match hcl : bm_cl0 (n / 4096), h4 with | 0, _ => (simp [bm_rcv]) | 1, _ => (simp [bm_rcv]) | 2, _ => (simp [bm_rcv]) | 3, _ => (simp [bm_rcv]))
        | .retAddr _ :: _, c4 => exact absurd c4 (by match hcl : bm_cl0 (n / 4096), h4 with | 0, _ => (simp [bm_rcv]) | 1, _ => (simp [bm_rcv]) | 2, _ => (simp [bm_rcv]) | 3, _ => (simp [bm_rcv]))
      · rw [if_pos h6] at i7
        rw [← i7] at c4
        match as, c4 with
        | .ref b :: As, c4 =>
          simp only [bm_rcv, Bool.and_eq_true] at c4
          obtain ⟨j, hj, rfl⟩ := bm_st_ex c4.2
          refine ⟨60 + j, As, rfl, ?_⟩
          rw [m9 h6]
          exact vk_recv (adK := fun i => ad (60 + i)) (i := j) hRO.2.2.2.2.2.2.1 hj hS
        | [], c4 => exact absurd c4 (by simp [bm_rcv])
        | .int _ :: _, c4 => exact absurd c4 (by simp [bm_rcv])
        | .long _ :: _, c4 => exact absurd c4 (by simp [bm_rcv])
        | .float _ :: _, c4 => exact absurd c4 (by simp [bm_rcv])
        | .double _ :: _, c4 => exact absurd c4 (by simp [bm_rcv])
        | .null :: _, c4 => exact absurd c4 (by simp [bm_rcv])
        | .retAddr _ :: _, c4 => exact absurd c4 (by simp [bm_rcv])
    obtain ⟨b, As, rfl, hcell⟩ := hrec
    exact bm_callW (va_runV (C := (bm_y (n / 4096)).cls) (b := ad b) (As := As.map (bm_cz ad fm)) ⟨hx, hb, hml, hown, hts⟩ hM ⟨hcb, hts _ (bm_instM_in _ (m6 hst)), hts _ (bm_sel_in _ (m6 hst))⟩ ⟨bm_blind, hcell, hpre⟩ rfl (by rw [List.length_map]; simp only [List.length_cons] at c2; omega) hL.1 (by show S.map _ = _; rw [hS0]; simp [bm_cz]) (lv_room hcat) hdec ⟨by omega, by omega⟩) hS kk
end BC
end
section
/-! THE WHOLE: a run of the little machine is one of the machine -/
/-- a return, with what it leaves -/
def bm_fin (ad : Nat → Nat) (M : Nat) (r : Value) (real : Instr) (st : List Value) : Prop :=
  (∃ (x : Int32) (ty : FieldType), r = .int x ∧ real = .ireturn ∧ st = [.int x] ∧ bm_rt M = some ty ∧ narrow ty (.int x) = .int x) ∨ (r = .null ∧ real = .return_ ∧ st = [] ∧ bm_rt M = none) ∨ (∃ x : Int64, r = .long x ∧ real = .lreturn ∧ st = [.long x] ∧ bm_rt M = some .long) ∨ (∃ x : Nat, r = .ref x ∧ real = .areturn ∧ st = [.ref (ad x)] ∧ ∃ t, bm_rt M = some (.array t))
theorem bm_gd_of {b : Bool} {x : bm_R} {r : Value × bm_M} (h : bm_gd b x = some r) : b = true ∧ x = some r := by
  cases b with
  | true => exact ⟨rfl, h⟩
  | false => cases h
theorem bm_sg_of {b : Bool} {x : bm_R} {r : Value × bm_M} (h : bm_sg b x = some r) : b = true ∧ x = some r := by
  cases b with
  | true => exact ⟨rfl, h⟩
  | false => cases h
theorem bm_cond_of {b : Bool} {x y : bm_R} {r : Value × bm_M} (h : cond b x y = some r) : (b = true ∧ x = some r) ∨ (b = false ∧ y = some r) := by
  cases b with
  | true => exact Or.inl ⟨rfl, h⟩
  | false => exact Or.inr ⟨rfl, h⟩
theorem bm_cmp_of {γ : Nat → List Value → bm_M → bm_R} {κ : Nat → List Value → List Value → bm_M → bm_R} {cd : Jvm.ClassFile.Cond} {x y : Int32} {t pc : Nat} {L S : List Value} {σ : bm_M} {r : Value × bm_M} (h : bm_pick γ κ (bm_cmp cd x y t pc L S σ) = some r) : (bm_cnd cd x y → κ t L S σ = some r) ∧ (¬ bm_cnd cd x y → κ (pc + 1) L S σ = some r) := by
  cases cd
  · rcases bm_cond_of (b := decide (x = y)) h with ⟨h1, h2⟩ | ⟨h1, h2⟩
    · exact ⟨fun _ => h2, fun q => absurd (of_decide_eq_true h1) q⟩
    · have h1 := of_decide_eq_false h1
      exact ⟨fun q => absurd q h1, fun _ => h2⟩
  · rcases bm_cond_of (b := decide (x = y)) h with ⟨h1, h2⟩ | ⟨h1, h2⟩
    · exact ⟨fun q => absurd (of_decide_eq_true h1) q, fun _ => h2⟩
    · exact ⟨fun _ => h2, fun q => absurd (of_decide_eq_false h1) q⟩
  · rcases bm_cond_of (b := decide (x < y)) h with ⟨h1, h2⟩ | ⟨h1, h2⟩
    · exact ⟨fun _ => h2, fun q => absurd (of_decide_eq_true h1) q⟩
    · have h1 := of_decide_eq_false h1
      exact ⟨fun q => absurd q h1, fun _ => h2⟩
  · rcases bm_cond_of (b := decide (x < y)) h with ⟨h1, h2⟩ | ⟨h1, h2⟩
    · exact ⟨fun q => absurd (of_decide_eq_true h1) q, fun _ => h2⟩
    · exact ⟨fun _ => h2, fun q => absurd (of_decide_eq_false h1) q⟩
  · rcases bm_cond_of (b := decide (y < x)) h with ⟨h1, h2⟩ | ⟨h1, h2⟩
    · exact ⟨fun _ => h2, fun q => absurd (of_decide_eq_true h1) q⟩
    · have h1 := of_decide_eq_false h1
      exact ⟨fun q => absurd q h1, fun _ => h2⟩
  · rcases bm_cond_of (b := decide (y < x)) h with ⟨h1, h2⟩ | ⟨h1, h2⟩
    · exact ⟨fun q => absurd (of_decide_eq_true h1) q, fun _ => h2⟩
    · exact ⟨fun _ => h2, fun q => absurd (of_decide_eq_false h1) q⟩
/-- what a call may be given -/
def bm_aok (M : Nat) (as : List Value) : Prop := (bm_nol as = true ∨ ((∃ x y z, as = [.long x, .long y, .long z]) ∧ bm_lg M = [0, 2, 4])) ∧ (bm_spread as).length ≤ bm_nL M
section BW
variable {l : Launch} {dC : Nat → ClassId} {dI : Nat → Nat → Nat} {ad : Nat → Nat} {cI cJ : ClassId} {A : Nat → Prop} {X : bm_X} {fm : Value} {p : Program} {e : Env} {R : Room} {s : State} {m : MethodId} {args : Array Value} {below : List Frame} {meth : Method} {c : Code} {cells slots : Nat} {Q : State → Prop} {M pc : Nat} {L S : List Value} {σ : bm_M}
theorem bm_nol_tail {v : Value} {l : List Value} (h : bm_nol (v :: l) = true) : bm_nol l = true := by
  cases v <;> first | exact h | (simp [bm_nol] at h; done)
theorem bm_rcv_aok {rc : Nat} {as : List Value} (h : bm_rcv rc as = true) : (rc ≠ 6 ∧ bm_nol as = true) ∨ (rc = 6 ∧ ∃ x y z, as = [.long x, .long y, .long z]) := by
  unfold bm_rcv at h
  split at h
  · exact Or.inl ⟨by decide, h⟩
  · split at h
    · simp only [Bool.and_eq_true] at h
      exact Or.inl ⟨by decide, h.1⟩
    · cases h
  · split at h
    · exact Or.inr ⟨rfl, _, _, _, rfl⟩
    · cases h
  · split at h
    · simp only [Bool.and_eq_true] at h
      exact Or.inl ⟨by assumption, h.1⟩
    · cases h
theorem bm_callstep (C : (bm_Ctx dC dI ad cI cJ A X fm p R s m args c cells slots M)) {n : Nat} {real : Instr} {γ : Nat → List Value → bm_M → bm_R} {κ : Nat → List Value → List Value → bm_M → bm_R} {r : Value} {τ : bm_M} (hn : bm_pc M (pc + 1) = bm_pc M pc + 3) (hdec : decode (bm_cc M) (bm_pc M pc) = .ok (real, 3)) (hinv : bm_inv (bm_cl0 M) M (n / 4096) n real = true) (hg : bm_cg n (bm_take (n / 32 % 8) S []) (bm_drop (n / 32 % 8) S) = true)
    (hrun : bm_do γ κ (.inr (.inl (n / 4096, n / 8 % 4, bm_pad (n / 256 % 16) (bm_spread (bm_take (n / 32 % 8) S [])), pc + 1, L, bm_drop (n / 32 % 8) S, σ))) = some (r, τ))
    (IHκ : ∀ pc L S σ, κ pc L S σ = some (r, τ) → bm_Wg l dC dI ad cI cJ A fm p e R s m args below meth c cells slots Q M pc L S σ) (IHγ : ∀ N as σ r' τ', N < 211 → bm_aok N as → γ N (bm_pad (bm_nL N) (bm_spread as)) σ = some (r', τ') → bm_Met l dC dI ad cI cJ A X fm N as σ r' τ') : (bm_Wg l dC dI ad cI cJ A fm p e R s m args below meth c cells slots Q M (pc) (L) (S) (σ)) := by
  have hi := hinv
  simp only [bm_inv, Bool.and_eq_true, decide_eq_true_eq] at hi
  obtain ⟨⟨⟨⟨⟨⟨⟨i1, i2⟩, i3⟩, i4⟩, i5⟩, i6⟩, i7⟩, i8⟩ := hi
  have hc := hg
  simp only [bm_cg, Bool.and_eq_true, Nat.ble_eq, Nat.beq_eq] at hc
  obtain ⟨c1, c2, c3, c4⟩ := hc
  have hS0 : S = (bm_take (n / 32 % 8) S []).reverse ++ bm_drop (n / 32 % 8) S := by rw [bm_take_drop]; rfl
  generalize bm_take (n / 32 % 8) S [] = as at *
  generalize bm_drop (n / 32 % 8) S = rest at *
  rw [i4] at hrun c3
  have haok : bm_aok (n / 4096) as := by
    refine ⟨?_, c3⟩
    rcases bm_rcv_aok c4 with ⟨-, h⟩ | ⟨h6, h⟩
    · exact Or.inl h
    · refine Or.inr ⟨h, ?_⟩
      rw [h6] at i7
      by_cases h1 : bm_sta (n / 4096) = true
      · rw [if_pos h1] at i7
        by_cases h2 : bm_lg (n / 4096) = [0, 2, 4]
        · exact h2
        · rw [if_neg h2] at i7; omega
      · rw [if_neg h1] at i7
        have := (bm_meta _ i1).2.2.2.2.2.2.1 (by simpa using h1)
        split at i7 <;> omega
  cases hr : γ (n / 4096) (bm_pad (bm_nL (n / 4096)) (bm_spread as)) σ with
  | none =>
    simp only [bm_do] at hrun
    rw [hr] at hrun
    split at hrun <;> simp [bm_bV, bm_bI, bm_bL, bm_bA] at hrun
  | some q =>
    obtain ⟨r', τ'⟩ := q
    have hM := IHγ _ as σ r' τ' i1 haok hr
    simp only [bm_do] at hrun
    rw [hr] at hrun
    split at hrun
    · cases r' <;> first | (simp [bm_bV] at hrun; done) | exact bs_invoke C hn hdec hinv hg hS0 hM rfl (IHκ _ _ _ _ hrun)
    · cases r' <;> first | (simp [bm_bI] at hrun; done) | exact bs_invoke C hn hdec hinv hg hS0 hM rfl (IHκ _ _ _ _ hrun)
    · cases r' <;> first | (simp [bm_bL] at hrun; done) | exact bs_invoke C hn hdec hinv hg hS0 hM rfl (IHκ _ _ _ _ hrun)
    · cases r' <;> first | (simp [bm_bA] at hrun; done) | exact bs_invoke C hn hdec hinv hg hS0 hM rfl (IHκ _ _ _ _ hrun)
theorem bm_nar_by {x : Int32} (h : bm_by x = true) : narrow .byte (.int x) = .int x := by
  rw [narrow_byte]
  congr 1
  simp only [bm_by, Bool.and_eq_true, Bool.not_eq_true', decide_eq_false_iff_not, decide_eq_true_eq, Int32.lt_iff_toInt_lt] at h
  apply Int32.toInt_inj.mp
  have h1 : (128 : Int32).toInt = 128 := by decide
  have h0 : (0 : Int32).toInt = 0 := by decide
  rw [h0, h1] at h
  rw [Int8.toInt_toInt32, Int32.toInt_toInt8, Int.bmod_eq_of_le (by omega) (by omega)]
theorem bm_nar_ch {x : Int32} (h : bm_ch x = true) : narrow .char (.int x) = .int x := by
  simp only [bm_ch, Bool.and_eq_true, Bool.not_eq_true', decide_eq_false_iff_not, decide_eq_true_eq] at h
  obtain ⟨h0, h1⟩ := h
  obtain ⟨j, hj, rfl⟩ := nI_of h0
  have h2 : j < 65536 := (nI_ltI hj (by decide)).mp (show nI j < nI 65536 from h1)
  have h3 : (UInt32.ofNat j).toUInt16.toUInt32 = UInt32.ofNat j := by
    apply UInt32.toNat_inj.mp
    simp
    omega
  show Value.int ((UInt32.ofNat j).toUInt16.toUInt32.toInt32) = Value.int (nI j)
  rw [h3]
  rfl
set_option maxHeartbeats 4000000 in
theorem bm_step (C : (bm_Ctx dC dI ad cI cJ A X fm p R s m args c cells slots M)) {i : Instr} (hf : bm_fact M pc i) {γ : Nat → List Value → bm_M → bm_R} {κ : Nat → List Value → List Value → bm_M → bm_R} {r : Value} {τ : bm_M} (hrun : bm_pick γ κ (bm_alts X i pc L S σ) = some (r, τ))
    (IHκ : ∀ pc L S σ, κ pc L S σ = some (r, τ) → bm_Wg l dC dI ad cI cJ A fm p e R s m args below meth c cells slots Q M pc L S σ) (IHγ : ∀ N as σ r' τ', N < 211 → bm_aok N as → γ N (bm_pad (bm_nL N) (bm_spread as)) σ = some (r', τ') → bm_Met l dC dI ad cI cJ A X fm N as σ r' τ')
    (hret : (∀ (pcr : Nat) (H : Heap) (locs : List Loc) (ls : Array Slot) (st : List Value) (real : Instr), bm_fin ad M r real st → decode (bm_cc M) pcr = .ok (real, 1) → va_P (dC, dI) bm_cl (bm_ws ad cI cJ τ) H → va_S A s.heap H locs → W p l e R s m args below meth c H locs cells slots Q (F0 m pcr ls st))) : (bm_Wg l dC dI ad cI cJ A fm p e R s m args below meth c cells slots Q M (pc) (L) (S) (σ)) := by
  cases i with
  | iadd =>
    simp only [bm_alts] at hrun
    split at hrun
    · exact bs_iadd C hf (IHκ _ _ _ _ hrun)
    · cases hrun
  | isub =>
    simp only [bm_alts] at hrun
    split at hrun
    · exact bs_isub C hf (IHκ _ _ _ _ hrun)
    · cases hrun
  | imul =>
    simp only [bm_alts] at hrun
    split at hrun
    · exact bs_imul C hf (IHκ _ _ _ _ hrun)
    · cases hrun
  | iand =>
    simp only [bm_alts] at hrun
    split at hrun
    · exact bs_iand C hf (IHκ _ _ _ _ hrun)
    · cases hrun
  | ior =>
    simp only [bm_alts] at hrun
    split at hrun
    · exact bs_ior C hf (IHκ _ _ _ _ hrun)
    · cases hrun
  | ishl =>
    simp only [bm_alts] at hrun
    split at hrun
    · exact bs_ishl C hf (IHκ _ _ _ _ hrun)
    · cases hrun
  | ishr =>
    simp only [bm_alts] at hrun
    split at hrun
    · exact bs_ishr C hf (IHκ _ _ _ _ hrun)
    · cases hrun
  | iushr =>
    simp only [bm_alts] at hrun
    split at hrun
    · exact bs_iushr C hf (IHκ _ _ _ _ hrun)
    · cases hrun
  | ladd =>
    simp only [bm_alts] at hrun
    split at hrun
    · exact bs_ladd C hf (IHκ _ _ _ _ hrun)
    · cases hrun
  | lmul =>
    simp only [bm_alts] at hrun
    split at hrun
    · exact bs_lmul C hf (IHκ _ _ _ _ hrun)
    · cases hrun
  | lcmp =>
    simp only [bm_alts] at hrun
    split at hrun
    · exact bs_lcmp C hf (IHκ _ _ _ _ hrun)
    · cases hrun
  | i2l =>
    simp only [bm_alts] at hrun
    split at hrun
    · exact bs_i2l C hf (IHκ _ _ _ _ hrun)
    · cases hrun
  | i2b =>
    simp only [bm_alts] at hrun
    split at hrun
    · exact bs_i2b C hf (IHκ _ _ _ _ hrun)
    · cases hrun
  | i2s =>
    simp only [bm_alts] at hrun
    split at hrun
    · exact bs_i2s C hf (IHκ _ _ _ _ hrun)
    · cases hrun
  | i2c =>
    simp only [bm_alts] at hrun
    split at hrun
    · exact bs_i2c C hf (IHκ _ _ _ _ hrun)
    · cases hrun
  | dup2 =>
    simp only [bm_alts] at hrun
    split at hrun
    · exact bs_dup2 C hf (IHκ _ _ _ _ hrun)
    · cases hrun
  | pop =>
    simp only [bm_alts] at hrun
    split at hrun
    · exact bs_pop C hf (IHκ _ _ _ _ hrun)
    · cases hrun
  | dup =>
    simp only [bm_alts] at hrun
    split at hrun
    · exact bs_dupI C hf (IHκ _ _ _ _ hrun)
    · exact bs_dupA C hf (IHκ _ _ _ _ hrun)
    · cases hrun
  | ldc n =>
    exact bs_ldc C hf (IHκ _ _ _ _ hrun)
  | ldc_w n =>
    exact bs_ldc_w C hf (IHκ _ _ _ _ hrun)
  | ldc2_w n =>
    exact bs_ldc2_w C hf (IHκ _ _ _ _ hrun)
  | getstatic n =>
    exact bs_getstatic C hf (IHκ _ _ _ _ hrun)
  | anewarray n =>
    exact bs_anewarray C hf (IHκ _ _ _ _ hrun)
  | fconst n =>
    exact bs_fconst C hf (IHκ _ _ _ _ hrun)
  | dconst n =>
    exact bs_dconst C hf (IHκ _ _ _ _ hrun)
  | f2d =>
    exact bs_f2d C hf (IHκ _ _ _ _ hrun)
  | iload j =>
    simp only [bm_alts] at hrun
    split at hrun
    · exact bs_iload C hf (by assumption) (IHκ _ _ _ _ hrun)
    · cases hrun
  | aload j =>
    simp only [bm_alts] at hrun
    split at hrun
    · exact bs_aload C hf (by assumption) (IHκ _ _ _ _ hrun)
    · cases hrun
  | lload j =>
    simp only [bm_alts] at hrun
    split at hrun
    · exact bs_lload C hf (by assumption) (IHκ _ _ _ _ hrun)
    · cases hrun
  | istore j =>
    simp only [bm_alts] at hrun
    split at hrun
    · exact bs_istore C hf (IHκ _ _ _ _ hrun)
    · cases hrun
  | astore j =>
    simp only [bm_alts] at hrun
    split at hrun
    · exact bs_astore C hf (IHκ _ _ _ _ hrun)
    · cases hrun
  | lstore j =>
    simp only [bm_alts] at hrun
    split at hrun
    · exact bs_lstore C hf (IHκ _ _ _ _ hrun)
    · cases hrun
  | iinc j n =>
    simp only [bm_alts] at hrun
    split at hrun
    · cases n with
      | ofNat n => exact bs_iinc C hf (by assumption) rfl (IHκ _ _ _ _ hrun)
      | negSucc n => exact bs_iinc C hf (by assumption) (by rw [Int32.sub_eq_add_neg]; rfl) (IHκ _ _ _ _ hrun)
    · cases hrun
  | idiv =>
    simp only [bm_alts] at hrun
    split at hrun
    · obtain ⟨hg, hrun⟩ := bm_sg_of hrun
      exact bs_idiv C hf hg (IHκ _ _ _ _ hrun)
    · cases hrun
  | irem =>
    simp only [bm_alts] at hrun
    split at hrun
    · obtain ⟨hg, hrun⟩ := bm_sg_of hrun
      exact bs_irem C hf hg (IHκ _ _ _ _ hrun)
    · cases hrun
  | ldiv =>
    simp only [bm_alts] at hrun
    split at hrun
    · obtain ⟨hg, hrun⟩ := bm_gd_of hrun
      exact bs_ldiv C hf hg (IHκ _ _ _ _ hrun)
    · cases hrun
  | lrem =>
    simp only [bm_alts] at hrun
    split at hrun
    · obtain ⟨hg, hrun⟩ := bm_gd_of hrun
      exact bs_lrem C hf hg (IHκ _ _ _ _ hrun)
    · cases hrun
  | dmul =>
    simp only [bm_alts] at hrun
    split at hrun
    · obtain ⟨hg, hrun⟩ := bm_sg_of hrun
      exact bs_dmul C hf hg (IHκ _ _ _ _ hrun)
    · cases hrun
  | dadd =>
    simp only [bm_alts] at hrun
    split at hrun
    · obtain ⟨hg, hrun⟩ := bm_sg_of hrun
      exact bs_dadd C hf hg (IHκ _ _ _ _ hrun)
    · cases hrun
  | goto t =>
    exact bs_goto C hf (IHκ _ _ _ _ hrun)
  | if_icmp cd t =>
    simp only [bm_alts] at hrun
    split at hrun
    · obtain ⟨h1, h2⟩ := bm_cmp_of hrun
      exact bs_if_icmp C hf (fun h => IHκ _ _ _ _ (h1 h)) (fun h => IHκ _ _ _ _ (h2 h))
    · cases hrun
  | ifCond cd t =>
    simp only [bm_alts] at hrun
    split at hrun
    · obtain ⟨h1, h2⟩ := bm_cmp_of hrun
      exact bs_ifCond C hf (fun h => IHκ _ _ _ _ (h1 h)) (fun h => IHκ _ _ _ _ (h2 h))
    · cases hrun
  | lookupswitch d ps =>
    simp only [bm_alts] at hrun
    split at hrun
    · rw [bm_sw_tg] at hrun
      exact bs_switch C hf (IHκ _ _ _ _ hrun)
    · cases hrun
  | getfield n =>
    simp only [bm_alts] at hrun
    split at hrun
    · obtain ⟨hg, hrun⟩ := bm_sg_of hrun
      exact bs_getfield C hf (Nat.eq_of_beq_eq_true hg) (IHκ _ _ _ _ hrun)
    · cases hrun
  | instanceof n =>
    simp only [bm_alts] at hrun
    split at hrun
    · obtain ⟨hg, hrun⟩ := bm_sg_of hrun
      exact bs_instanceof C hf (Nat.eq_of_beq_eq_true hg) (IHκ _ _ _ _ hrun)
    · cases hrun
  | putfield n =>
    simp only [bm_alts] at hrun
    split at hrun
    · obtain ⟨hg, hrun⟩ := bm_sg_of hrun
      exact bs_putfield C hf (Nat.eq_of_beq_eq_true hg) (IHκ _ _ _ _ hrun)
    · cases hrun
  | checkcast n =>
    simp only [bm_alts] at hrun
    split at hrun
    · obtain ⟨hg, hrun⟩ := bm_gd_of hrun
      rw [Bool.and_eq_true] at hg
      exact bs_checkcast C hf (Nat.eq_of_beq_eq_true hg.1) hg.2 (IHκ _ _ _ _ hrun)
    · cases hrun
  | iaload =>
    simp only [bm_alts] at hrun
    split at hrun
    · obtain ⟨hg, hrun⟩ := bm_gd_of hrun
      exact bs_iaload C hf hg (IHκ _ _ _ _ hrun)
    · cases hrun
  | iastore =>
    simp only [bm_alts] at hrun
    split at hrun
    · obtain ⟨hg, hrun⟩ := bm_gd_of hrun
      exact bs_iastore C hf hg (IHκ _ _ _ _ hrun)
    · cases hrun
  | aaload =>
    simp only [bm_alts] at hrun
    split at hrun
    · obtain ⟨hg, hrun2⟩ := bm_gd_of hrun
      clear hrun
      rw [Bool.and_eq_true] at hg
      have h36 := Nat.eq_of_beq_eq_true hg.1
      subst h36
      exact bs_aaload C hf hg.2 (IHκ _ _ _ _ hrun2)
    · cases hrun
  | saload =>
    simp only [bm_alts] at hrun
    split at hrun
    · obtain ⟨hg, hrun⟩ := bm_gd_of hrun
      rw [Bool.and_eq_true] at hg
      exact bs_saload C hf hg.1 hg.2 (IHκ _ _ _ _ hrun)
    · cases hrun
  | baload =>
    simp only [bm_alts] at hrun
    split at hrun
    · obtain ⟨hg, hrun⟩ := bm_gd_of hrun
      rw [Bool.and_eq_true] at hg
      exact bs_baload C hf hg.1 hg.2 (IHκ _ _ _ _ hrun)
    · cases hrun
  | arraylength =>
    simp only [bm_alts] at hrun
    split at hrun
    · obtain ⟨hg, hrun⟩ := bm_sg_of hrun
      exact bs_arraylength C hf hg (IHκ _ _ _ _ hrun)
    · cases hrun
  | fsub =>
    simp only [bm_alts] at hrun
    split at hrun
    · obtain ⟨hg, hrun⟩ := bm_gd_of hrun
      exact bs_fsub C hf hg (IHκ _ _ _ _ hrun)
    · cases hrun
  | f2l =>
    simp only [bm_alts] at hrun
    split at hrun
    · obtain ⟨hg, hrun⟩ := bm_gd_of hrun
      exact bs_f2l C hf hg (IHκ _ _ _ _ hrun)
    · cases hrun
  | fadd =>
    simp only [bm_alts] at hrun
    split at hrun
    · obtain ⟨hg, hrun⟩ := bm_gd_of hrun
      exact bs_fadd C hf hg (IHκ _ _ _ _ hrun)
    · cases hrun
  | dastore =>
    simp only [bm_alts] at hrun
    split at hrun
    · obtain ⟨hg, hrun⟩ := bm_gd_of hrun
      rw [Bool.and_eq_true] at hg
      exact bs_dastore C hf hg.1 hg.2 (IHκ _ _ _ _ hrun)
    · cases hrun
  | invokevirtual n =>
    obtain ⟨hg, hrun⟩ := bm_sg_of hrun
    obtain ⟨hd, hr⟩ := hf
    simp only [bm_rel, Bool.and_eq_true, decide_eq_true_eq] at hr
    exact bm_callstep C hr.1.1 (bm_dec hd rfl hr.1.2) hr.2 hg hrun IHκ IHγ
  | invokespecial n =>
    obtain ⟨hg, hrun⟩ := bm_gd_of hrun
    obtain ⟨hd, hr⟩ := hf
    simp only [bm_rel, Bool.and_eq_true, decide_eq_true_eq] at hr
    exact bm_callstep C hr.1.1 (bm_dec hd rfl hr.1.2) hr.2 hg hrun IHκ IHγ
  | ireturn =>
    simp only [bm_alts] at hrun
    split at hrun
    · obtain ⟨hd, hr⟩ := hf
      simp only [bm_rel, Bool.and_eq_true, decide_eq_true_eq] at hr
      cases hrun
      intro H locs ls hP hS hL
      exact hret _ H locs ls _ _ (Or.inl ⟨_, .int, rfl, rfl, rfl, hr.2, rfl⟩) (bm_dec hd hr.1.1 hr.1.2) hP hS
    · cases hrun
  | freturn =>
    simp only [bm_alts] at hrun
    split at hrun
    · obtain ⟨hd, hr⟩ := hf
      simp only [bm_rel, Bool.and_eq_true, decide_eq_true_eq] at hr
      obtain ⟨hg, hrun⟩ := bm_gd_of hrun
      cases hrun
      intro H locs ls hP hS hL
      exact hret _ H locs ls _ _ (Or.inl ⟨_, .boolean, rfl, rfl, rfl, hr.2, by rcases bm_bo_of hg with rfl | rfl <;> rfl⟩) (bm_dec hd hr.1.1 hr.1.2) hP hS
    · cases hrun
  | d2f =>
    simp only [bm_alts] at hrun
    split at hrun
    · obtain ⟨hd, hr⟩ := hf
      simp only [bm_rel, Bool.and_eq_true, decide_eq_true_eq] at hr
      obtain ⟨hg, hrun⟩ := bm_gd_of hrun
      cases hrun
      intro H locs ls hP hS hL
      exact hret _ H locs ls _ _ (Or.inl ⟨_, .byte, rfl, rfl, rfl, hr.2, bm_nar_by hg⟩) (bm_dec hd hr.1.1 hr.1.2) hP hS
    · cases hrun
  | d2i =>
    simp only [bm_alts] at hrun
    split at hrun
    · obtain ⟨hd, hr⟩ := hf
      simp only [bm_rel, Bool.and_eq_true, decide_eq_true_eq] at hr
      obtain ⟨hg, hrun⟩ := bm_gd_of hrun
      cases hrun
      intro H locs ls hP hS hL
      exact hret _ H locs ls _ _ (Or.inl ⟨_, .char, rfl, rfl, rfl, hr.2, bm_nar_ch hg⟩) (bm_dec hd hr.1.1 hr.1.2) hP hS
    · cases hrun
  | lreturn =>
    simp only [bm_alts] at hrun
    split at hrun
    · obtain ⟨hd, hr⟩ := hf
      simp only [bm_rel, Bool.and_eq_true, decide_eq_true_eq] at hr
      cases hrun
      intro H locs ls hP hS hL
      exact hret _ H locs ls _ _ (Or.inr (Or.inr (Or.inl ⟨_, rfl, rfl, rfl, hr.2⟩))) (bm_dec hd hr.1.1 hr.1.2) hP hS
    · cases hrun
  | areturn =>
    simp only [bm_alts] at hrun
    split at hrun
    · obtain ⟨hd, hr⟩ := hf
      simp only [bm_rel, Bool.and_eq_true, decide_eq_true_eq] at hr
      cases hrun
      intro H locs ls hP hS hL
      exact hret _ H locs ls _ _ (Or.inr (Or.inr (Or.inr ⟨_, rfl, rfl, rfl, _, hr.2⟩))) (bm_dec hd hr.1.1 hr.1.2) hP hS
    · cases hrun
  | return_ =>
    simp only [bm_alts] at hrun
    split at hrun
    · obtain ⟨hd, hr⟩ := hf
      simp only [bm_rel, Bool.and_eq_true, decide_eq_true_eq] at hr
      cases hrun
      intro H locs ls hP hS hL
      exact hret _ H locs ls _ _ (Or.inr (Or.inl ⟨rfl, rfl, rfl, hr.2⟩)) (bm_dec hd hr.1.1 hr.1.2) hP hS
    · cases hrun
  | _ => cases hrun

/-- a run of so many steps, in any frame -/
def bm_Snd (l : Launch) (dC : Nat → ClassId) (dI : Nat → Nat → Nat) (ad : Nat → Nat) (cI cJ : ClassId) (A : Nat → Prop) (X : bm_X) (fm : Value) (n : Nat) : Prop :=
  ∀ (M pc : Nat) (L S : List Value) (σ : bm_M) (r : Value) (τ : bm_M), M < 212 → bm_run bm_code X n M pc L S σ = some (r, τ) → ∀ (p : Program) (e : Env) (R : Room) (s : State) (m : MethodId) (args : Array Value) (below : List Frame) (meth : Method) (c : Code) (cells slots : Nat) (Q : State → Prop), (bm_Ctx dC dI ad cI cJ A X fm p R s m args c cells slots M) → (∀ (pcr : Nat) (H : Heap) (locs : List Loc) (ls : Array Slot) (st : List Value) (real : Instr), bm_fin ad M r real st → decode (bm_cc M) pcr = .ok (real, 1) → va_P (dC, dI) bm_cl (bm_ws ad cI cJ τ) H → va_S A s.heap H locs → W p l e R s m args below meth c H locs cells slots Q (F0 m pcr ls st)) → bm_Wg l dC dI ad cI cJ A fm p e R s m args below meth c cells slots Q M pc L S σ
theorem bm_get_pad : ∀ (n : Nat) (l : List Value) (i : Nat), bm_get (bm_pad n l) i = bm_get l i
  | 0, _, _ => rfl
  | n + 1, [], 0 => rfl
  | n + 1, [], i + 1 => bm_get_pad n [] i
  | n + 1, a :: l, 0 => rfl
  | n + 1, a :: l, i + 1 => bm_get_pad n l i
theorem bm_nol_cat : ∀ {l : List Value}, bm_nol l = true → ∀ v ∈ l, v.category = 1
  | [], _, v, hv => by cases hv
  | a :: l, h, v, hv => by
    rcases List.mem_cons.mp hv with rfl | hv
    · cases v <;> first | rfl | (simp [bm_nol] at h; done)
    · exact bm_nol_cat (bm_nol_tail h) v hv
theorem bm_nol_spread : ∀ {l : List Value}, bm_nol l = true → bm_spread l = l
  | [], _ => rfl
  | a :: l, h => by
    have := bm_nol_spread (bm_nol_tail h)
    cases a <;> first | (simp [bm_spread, this]; done) | (simp [bm_nol] at h; done)
theorem bm_get_mem : ∀ (l : List Value) (i : Nat), bm_get l i ≠ .null → bm_get l i ∈ l
  | [], _, h => absurd rfl h
  | a :: l, 0, _ => List.mem_cons_self
  | a :: l, i + 1, h => List.mem_cons_of_mem _ (bm_get_mem l i h)
theorem bm_entry1 (hfm : fm.category = 1) : ∀ (l : List Value) (off i : Nat), bm_nol l = true → bm_get l i ≠ .null → (off + i, bm_cz ad fm (bm_get l i)) ∈ lv_args off (l.map (bm_cz ad fm))
  | [], _, _, _, h => absurd rfl h
  | a :: l, off, 0, _, _ => List.mem_cons_self
  | a :: l, off, i + 1, hn, h => by
    have h1 := bm_nol_cat hn a List.mem_cons_self
    show _ ∈ (off, bm_cz ad fm a) :: lv_args (if (bm_cz ad fm a).category = 2 then off + 2 else off + 1) (l.map (bm_cz ad fm))
    rw [bm_cz_cat hfm, h1, if_neg (by decide)]
    have := bm_entry1 hfm l (off + 1) i (bm_nol_tail hn) h
    rw [show off + (i + 1) = off + 1 + i by omega]
    exact List.mem_cons_of_mem _ this
theorem bm_sl_len (hfm : fm.category = 1) : ∀ (l : List Value), bm_nol l = true → (lg_sl (l.map (bm_cz ad fm))).length = l.length
  | [], _ => rfl
  | a :: l, h => by
    have h1 := bm_nol_cat h a List.mem_cons_self
    have := bm_sl_len hfm l (bm_nol_tail h)
    simp only [lg_sl, List.map_cons, List.flatMap_cons, List.length_append] at this ⊢
    rw [this, bm_cz_cat hfm, h1]
    simp
    omega
theorem bm_entry (hfm : fm.category = 1) {as : List Value} (ha : bm_aok M as) : bm_LR ad fm M (bm_pad (bm_nL M) (bm_spread as)) ((lg_sl (as.map (bm_cz ad fm)) ++ List.replicate (bm_nL M - (lg_sl (as.map (bm_cz ad fm))).length) Slot.unset).toArray) := by
  obtain ⟨h | ⟨⟨x, y, z, rfl⟩, hlg⟩, hlen⟩ := ha
  · rw [bm_nol_spread h] at hlen ⊢
    have hl := lv_entry (as.map (bm_cz ad fm)) (n := bm_nL M) (by rw [bm_sl_len hfm as h]; exact hlen)
    refine ⟨hl.1, hl.2.1, fun i hi => ?_, fun i hi => ?_⟩
    · rw [bm_get_pad] at hi ⊢
      have := bm_entry1 (ad := ad) hfm as 0 i h hi
      rw [Nat.zero_add] at this
      exact hl.2.2 _ this
    · rw [bm_get_pad] at hi
      have : bm_get as i ≠ .null := fun q => by rw [q] at hi; cases hi
      rw [bm_nol_cat h _ (bm_get_mem as i this)] at hi
      cases hi
  · have hl := lv_entry ([.long x, .long y, .long z] : List Value) (n := bm_nL M) hlen
    refine ⟨hl.1, hl.2.1, fun i hi => ?_, fun i hi => ?_⟩
    · rw [bm_get_pad] at hi ⊢
      match i, hi with
      | 0, _ => exact hl.2.2 (0, .long x) (by simp [lv_args, Value.category])
      | 1, hi => exact absurd rfl hi
      | 2, _ => exact hl.2.2 (2, .long y) (by simp [lv_args, Value.category])
      | 3, hi => exact absurd rfl hi
      | 4, _ => exact hl.2.2 (4, .long z) (by simp [lv_args, Value.category])
      | 5, hi => exact absurd rfl hi
      | n + 6, hi => exact absurd rfl hi
    · rw [bm_get_pad] at hi
      rw [hlg]
      match i, hi with
      | 0, _ => rfl
      | 1, hi => cases hi
      | 2, _ => rfl
      | 3, hi => cases hi
      | 4, _ => rfl
      | 5, hi => cases hi
      | n + 6, hi => cases hi
theorem bm_met_of {n : Nat} (hS : bm_Snd l dC dI ad cI cJ A X fm n) (hD : ∀ σ, va_D A (bm_ws ad cI cJ σ)) (hfm : fm.category = 1) {N : Nat} {as : List Value} {r : Value} {τ : bm_M} (hN : N < 211) (ha : bm_aok N as) (hrun : bm_run bm_code X n N 0 (bm_pad (bm_nL N) (bm_spread as)) [] σ = some (r, τ)) : bm_Met l dC dI ad cI cJ A X fm N as σ r τ := by
  obtain ⟨m1, m2, m3, m4, -⟩ := bm_meta N hN
  refine Met.ofW (cc := bm_cc N) (maxL := bm_nL N) (ret := bm_rt N) m2 rfl ?_
  intro p e s m args below meth c s₁ B hml hv
  obtain ⟨rfl, hP, hK, hRO⟩ := hv
  have hts0 := atoms_spec (ws := bm_wsM N) B.pre
  have hown : s.vm.findClass (bm_y N).cls = some m.cls := findClass_of_methodNamed B.named
  rw [← m3] at hown
  have C : bm_Ctx dC dI ad cI cJ A X fm p (headSpec (bm_wsM N) (bm_rm (bm_dp N))).room s m (as.map (bm_cz ad fm)).toArray c 0 0 N := ⟨B.exec, B.bytes, hml, hown, fun w hw => hts0 w (List.mem_cons_of_mem _ hw), hK, hD, hRO, hfm, Nat.le_refl _, Nat.le_refl _, Nat.le_refl _, Nat.le_refl _⟩
  have h := hS N 0 _ [] σ r τ (by omega) hrun p e _ s m _ below meth c 0 0 (MQ below (bm_Qc dC dI ad cI cJ A fm r τ) (as.map (bm_cz ad fm)).toArray s 0 0 A) C ?_ s.heap [] _ hP va_S.rf (bm_entry hfm ha)
  · rw [m4] at h
    rw [lg_entry_eq]
    exact h
  · intro pcr H locs ls st real hfin hdec hP1 hS1
    have hx := B.exec
    have hb := B.bytes
    have hlocks := B.notSynchronized
    have hrt := B.returns
    rcases hfin with ⟨x, ty, rfl, rfl, rfl, e1, e2⟩ | ⟨rfl, rfl, rfl, e1⟩ | ⟨x, rfl, rfl, rfl, e1⟩ | ⟨x, rfl, rfl, rfl, t, e1⟩
    · exact W.zret hx hb (hrt.trans e1) e2 (fun t ht hW => ⟨⟨rfl, by rw [ht]; exact hP1⟩, hS1.F ht⟩) hS1.2.2 hdec
    · exact W.vret hx hb (hrt.trans e1) (fun t ht hW => ⟨⟨rfl, by rw [ht]; exact hP1⟩, hS1.F ht⟩) hS1.2.2 hdec
    · exact W.lret hx hb (hrt.trans e1) (fun t ht hW => ⟨⟨rfl, by rw [ht]; exact hP1⟩, hS1.F ht⟩) hS1.2.2 hdec
    · exact W.aret hx hb (hrt.trans e1) (Or.inr ⟨t, rfl⟩) (Or.inr ⟨_, rfl⟩) (fun t ht hW => ⟨⟨rfl, by rw [ht]; exact hP1⟩, hS1.F ht⟩) hS1.2.2 hdec
theorem bm_snd (hD : ∀ σ, va_D A (bm_ws ad cI cJ σ)) (hfm : fm.category = 1) (hF : ∀ M j i, M < 212 → bm_nthI (bm_code M) j = some i → bm_fact M j i) : ∀ n, bm_Snd l dC dI ad cI cJ A X fm n
  | 0 => by
    intro M pc L S σ r τ _ h
    cases h
  | n + 1 => by
    intro M pc L S σ r τ hM hrun p e R s m args below meth c cells slots Q C hret
    have ih := bm_snd hD hfm hF n
    have hrun : bm_pick (fun m L τ => bm_run bm_code X n m 0 L [] τ) (fun pc L S τ => bm_run bm_code X n M pc L S τ) (bm_altO X (bm_nthI (bm_code M) pc) pc L S σ) = some (r, τ) := hrun
    cases hi : bm_nthI (bm_code M) pc with
    | none =>
      rw [hi] at hrun
      cases hrun
    | some i =>
      rw [hi] at hrun
      exact bm_step C (hF M pc i hM hi) hrun (fun pc L S σ h => ih M pc L S σ r τ hM h p e R s m args below meth c cells slots Q C hret) (fun N as σ r' τ' hN ha h => bm_met_of ih hD hfm hN ha h) hret
end BW
end
section
theorem bm_chkAll : ∀ M, M < 211 → bm_chkM M = true := fun M h =>
  if h0 : M < 10 then List.all_eq_true.mp bm_ok0 M (by simp; omega) else if h1 : M < 20 then List.all_eq_true.mp bm_ok1 M (by simp; omega) else if h2 : M < 30 then List.all_eq_true.mp bm_ok2 M (by simp; omega) else if h3 : M < 40 then List.all_eq_true.mp bm_ok3 M (by simp; omega) else if h4 : M < 50 then List.all_eq_true.mp bm_ok4 M (by simp; omega) else if h5 : M < 60 then List.all_eq_true.mp bm_ok5 M (by simp; omega) else if h6 : M < 70 then List.all_eq_true.mp bm_ok6 M (by simp; omega) else if h7 : M < 80 then List.all_eq_true.mp bm_ok7 M (by simp; omega) else if h8 : M < 90 then List.all_eq_true.mp bm_ok8 M (by simp; omega) else if h9 : M < 100 then List.all_eq_true.mp bm_ok9 M (by simp; omega) else if h10 : M < 110 then List.all_eq_true.mp bm_ok10 M (by simp; omega) else if h11 : M < 120 then List.all_eq_true.mp bm_ok11 M (by simp; omega) else if h12 : M < 130 then List.all_eq_true.mp bm_ok12 M (by simp; omega) else if h13 : M < 140 then List.all_eq_true.mp bm_ok13 M (by simp; omega) else if h14 : M < 150 then List.all_eq_true.mp bm_ok14 M (by simp; omega) else if h15 : M < 160 then List.all_eq_true.mp bm_ok15 M (by simp; omega) else if h16 : M < 170 then List.all_eq_true.mp bm_ok16 M (by simp; omega) else if h17 : M < 180 then List.all_eq_true.mp bm_ok17 M (by simp; omega) else if h18 : M < 190 then List.all_eq_true.mp bm_ok18 M (by simp; omega) else if h19 : M < 200 then List.all_eq_true.mp bm_ok19 M (by simp; omega) else if h20 : M < 210 then List.all_eq_true.mp bm_ok20 M (by simp; omega) else List.all_eq_true.mp bm_ok21 M (by simp; omega)
theorem bm_nthI_len : ∀ (l : List Instr) (j : Nat) (i : Instr), bm_nthI l j = some i → j < l.length
  | [], _, _, h => by cases h
  | a :: l, 0, _, _ => by simp
  | a :: l, j + 1, i, h => by
    have := bm_nthI_len l j i h
    simp
    exact this
theorem bm_lawlen : (bm_code 211).length = 1048 := by decide +kernel
theorem bm_factL (j : Nat) (i : Instr) (hj : bm_nthI (bm_code 211) j = some i) : bm_fact 211 j i :=
  have hl : j < 1048 := by have := bm_nthI_len _ _ _ hj; rw [bm_lawlen] at this; exact this
  if h0 : j < 60 then bm_fact_S bm_okL0 j i (by omega) (by omega) hj else if h1 : j < 120 then bm_fact_S bm_okL1 j i (by omega) (by omega) hj else if h2 : j < 180 then bm_fact_S bm_okL2 j i (by omega) (by omega) hj else if h3 : j < 240 then bm_fact_S bm_okL3 j i (by omega) (by omega) hj else if h4 : j < 300 then bm_fact_S bm_okL4 j i (by omega) (by omega) hj else if h5 : j < 360 then bm_fact_S bm_okL5 j i (by omega) (by omega) hj else if h6 : j < 420 then bm_fact_S bm_okL6 j i (by omega) (by omega) hj else if h7 : j < 480 then bm_fact_S bm_okL7 j i (by omega) (by omega) hj else if h8 : j < 540 then bm_fact_S bm_okL8 j i (by omega) (by omega) hj else if h9 : j < 600 then bm_fact_S bm_okL9 j i (by omega) (by omega) hj else if h10 : j < 660 then bm_fact_S bm_okL10 j i (by omega) (by omega) hj else if h11 : j < 720 then bm_fact_S bm_okL11 j i (by omega) (by omega) hj else if h12 : j < 780 then bm_fact_S bm_okL12 j i (by omega) (by omega) hj else if h13 : j < 840 then bm_fact_S bm_okL13 j i (by omega) (by omega) hj else if h14 : j < 900 then bm_fact_S bm_okL14 j i (by omega) (by omega) hj else if h15 : j < 960 then bm_fact_S bm_okL15 j i (by omega) (by omega) hj else if h16 : j < 1020 then bm_fact_S bm_okL16 j i (by omega) (by omega) hj else bm_fact_S bm_okL17 j i (by omega) (by omega) hj
theorem bm_facts (M j : Nat) (i : Instr) (h : M < 212) (hj : bm_nthI (bm_code M) j = some i) : bm_fact M j i := by
  rcases Nat.lt_or_ge M 211 with q | q
  · exact bm_fact_M (bm_chkAll M q) j i hj
  · have : M = 211 := by omega
    subst this
    exact bm_factL j i hj
end
section
/-! NUMBERS of the little machine -/
theorem bn_mul (a b : Nat) : nI a * nI b = nI (a * b) := by
  unfold nI
  rw [Int32.ofNat_mul]
theorem bn_add (a b : Nat) : nI a + nI b = nI (a + b) := nI_add a b
theorem bn_sub {a b : Nat} (h : b ≤ a) : nI a - nI b = nI (a - b) := by
  obtain ⟨c, rfl⟩ : ∃ c, a = b + c := ⟨a - b, by omega⟩
  rw [← nI_add, Nat.add_sub_cancel_left]
  rw [Int32.add_comm, Int32.add_sub_cancel]
theorem bn_toInt {a : Nat} (h : a < 2147483648) : (nI a).toInt = (a : Int) := nI_toInt h
theorem bn_lt {a b : Nat} (ha : a < 2147483648) (hb : b < 2147483648) : decide (nI a < nI b) = decide (a < b) := by
  simp [nI_ltI ha hb]
theorem bn_eq {a b : Nat} (ha : a < 2147483648) (hb : b < 2147483648) : decide (nI a = nI b) = decide (a = b) := by
  simp [nI_eq ha hb]
theorem bn_lt0 {a : Nat} (ha : a < 2147483648) : decide (nI a < 0) = false := by
  simp [nI_pos ha]
theorem bn_eq0 {a : Nat} (ha : a < 2147483648) : decide (nI a = 0) = decide (a = 0) := by
  have := bn_eq (b := 0) ha (by decide)
  exact this
theorem bn_clamp {a : Nat} (h : a < 2147483648) : (nI a).toNatClampNeg = a := nI_clamp h
theorem bn_in {a n : Nat} (h : a < 2147483648) : bm_in (nI a) n = decide (a < n) := by
  unfold bm_in
  rw [bn_lt0 h, bn_clamp h]
  rfl
theorem bn_div {a b : Nat} (ha : a < 2147483648) (hb : b < 2147483648) : nI a / nI b = nI (a / b) := by
  apply Int32.toInt_inj.mp
  have hd : a / b < 2147483648 := Nat.lt_of_le_of_lt (Nat.div_le_self a b) ha
  rw [Int32.toInt_div, bn_toInt ha, bn_toInt hb, bn_toInt hd, Int.bmod_eq_of_le]
  · rfl
  · have : (0 : Int) ≤ (a : Int).tdiv (b : Int) := by exact Int.ofNat_nonneg _
    omega
  · have : (a : Int).tdiv (b : Int) = ((a / b : Nat) : Int) := rfl
    omega
theorem bn_rem {a b : Nat} (ha : a < 2147483648) (hb : b < 2147483648) : bm_rem (nI a) (nI b) = nI (a % b) := by
  unfold bm_rem
  rw [bn_div ha hb, bn_mul, bn_sub (Nat.div_mul_le_self a b)]
  congr 1
  have := Nat.div_add_mod a b
  rw [Nat.mul_comm] at this
  omega
theorem bn_max {a b : Nat} (ha : a < 2147483648) (hb : b < 2147483648) : bm_max (nI a) (nI b) = nI (max a b) := by
  unfold bm_max
  by_cases h : a < b
  · rw [if_pos ((nI_ltI ha hb).mpr h), Nat.max_eq_right (Nat.le_of_lt h)]
  · rw [if_neg (fun q => h ((nI_ltI ha hb).mp q)), Nat.max_eq_left (Nat.le_of_not_lt h)]
theorem bn_min {a b : Nat} (ha : a < 2147483648) (hb : b < 2147483648) : bm_min (nI a) (nI b) = nI (min a b) := by
  unfold bm_min
  by_cases h : b < a
  · rw [if_pos ((nI_ltI hb ha).mpr h), Nat.min_eq_right (Nat.le_of_lt h)]
  · rw [if_neg (fun q => h ((nI_ltI hb ha).mp q)), Nat.min_eq_left (Nat.le_of_not_lt h)]
theorem bn_sub_toInt {a b : Nat} (ha : a < 1073741824) (hb : b < 1073741824) : (nI a - nI b).toInt = (a : Int) - b := by
  rw [Int32.toInt_sub, bn_toInt (by omega), bn_toInt (by omega), Int.bmod_eq_of_le] <;> omega
/-- a difference, 0 at least -/
theorem bn_max0 {a b : Nat} (ha : a < 1073741824) (hb : b < 1073741824) : bm_max (nI 0) (nI a - nI b) = nI (a - b) := by
  rcases Nat.lt_or_ge a b with h | h
  · unfold bm_max
    rw [if_neg, Nat.sub_eq_zero_of_le (Nat.le_of_lt h)]
    intro q
    rw [Int32.lt_iff_toInt_lt, bn_sub_toInt ha hb, bn_toInt (by decide)] at q
    omega
  · rw [bn_sub h, bn_max (by decide) (by omega), Nat.max_eq_right (Nat.zero_le _)]
theorem bn_sub_lt0 {a b : Nat} (ha : a < 1073741824) (hb : b < 1073741824) : decide (nI a - nI b < 0) = decide (a < b) := by
  apply decide_eq_decide.mpr
  rw [Int32.lt_iff_toInt_lt, bn_sub_toInt ha hb]
  have : (0 : Int32).toInt = 0 := by decide
  rw [this]
  omega
/-- the number of a truth -/
def bm_bi (b : Bool) : Int32 := cond b (nI 1) (nI 0)
theorem bm_bi_eq0 (b : Bool) : decide (bm_bi b = 0) = !b := by cases b <;> decide
theorem bm_bo_bi (b : Bool) : bm_bo (bm_bi b) = true := by cases b <;> decide
theorem bm_bo_0 : bm_bo (nI 0) = true := by decide
theorem bm_bo_1 : bm_bo (nI 1) = true := by decide
theorem bm_gd_t (x : bm_R) : bm_gd true x = x := rfl
theorem bm_bI_some (x : Int32) (τ : bm_M) (k : Int32 → bm_M → bm_R) : bm_bI (some (.int x, τ)) k = k x τ := rfl
theorem bm_bV_some (τ : bm_M) (k : bm_M → bm_R) : bm_bV (some (.null, τ)) k = k τ := rfl
theorem bm_bL_some (x : Int64) (τ : bm_M) (k : Int64 → bm_M → bm_R) : bm_bL (some (.long x, τ)) k = k x τ := rfl
theorem bm_bA_some (x : Nat) (τ : bm_M) (k : Nat → bm_M → bm_R) : bm_bA (some (.ref x, τ)) k = k x τ := rfl
theorem bm_cond_not (b : Bool) (x y : bm_R) : cond (!b) x y = cond b y x := by cases b <;> rfl
/-- within bounds -/
def bm_rg (x : Int32) (lo hi : Int) : Bool := decide (lo ≤ x.toInt) && decide (x.toInt ≤ hi)
theorem bm_rg_ex {x : Int32} {n : Nat} (h : bm_rg x 0 n = true) : ∃ j : Nat, j ≤ n ∧ j < 2147483648 ∧ x = nI j := by
  simp only [bm_rg, Bool.and_eq_true, decide_eq_true_eq] at h
  have hx : ¬ x < 0 := by
    rw [Int32.lt_iff_toInt_lt]
    have : (0 : Int32).toInt = 0 := by decide
    omega
  obtain ⟨j, hj, rfl⟩ := nI_of hx
  rw [nI_toInt hj] at h
  exact ⟨j, by omega, hj, rfl⟩
theorem bm_rg_nI {j : Nat} {n : Int} (hj : j < 2147483648) : bm_rg (nI j) 0 n = decide ((j : Int) ≤ n) := by
  simp [bm_rg, bn_toInt hj]
theorem bm_lt_toInt (x y : Int32) : decide (x < y) = decide (x.toInt < y.toInt) := by
  apply decide_eq_decide.mpr
  exact Int32.lt_iff_toInt_lt
theorem bm_i2l (x : Int32) : x.toInt64.toInt = x.toInt := Int32.toInt_toInt64 x
theorem bm_lcmp_lt (x y : Int64) : decide (lg_cmp x y < 0) = decide (x.toInt < y.toInt) := by
  apply decide_eq_decide.mpr
  rw [← Int64.lt_iff_toInt_lt]
  unfold lg_cmp
  by_cases h1 : x > y
  · rw [if_pos h1]
    constructor
    · intro q; exact absurd q (by decide)
    · intro q
      exact absurd (Int64.lt_iff_toInt_lt.mp q) (by have := Int64.lt_iff_toInt_lt.mp h1; omega)
  · rw [if_neg h1]
    by_cases h2 : x = y
    · rw [if_pos h2]
      subst h2
      constructor
      · intro q; exact absurd q (by decide)
      · intro q; exact absurd (Int64.lt_iff_toInt_lt.mp q) (by omega)
    · rw [if_neg h2]
      constructor
      · intro _
        rw [Int64.lt_iff_toInt_lt]
        have e1 : ¬ y.toInt < x.toInt := fun q => h1 (Int64.lt_iff_toInt_lt.mpr q)
        have e2 : ¬ x.toInt = y.toInt := fun q => h2 (Int64.toInt_inj.mp q)
        omega
      · intro _; decide
theorem bm_lcmp_gt (x y : Int64) : decide (0 < lg_cmp x y) = decide (y.toInt < x.toInt) := by
  apply decide_eq_decide.mpr
  rw [← Int64.lt_iff_toInt_lt]
  unfold lg_cmp
  by_cases h1 : x > y
  · rw [if_pos h1]
    exact ⟨fun _ => h1, fun _ => by decide⟩
  · rw [if_neg h1]
    by_cases h2 : x = y
    · rw [if_pos h2]
      subst h2
      exact ⟨fun q => absurd q (by decide), fun q => absurd q h1⟩
    · rw [if_neg h2]
      exact ⟨fun q => absurd q (by decide), fun q => absurd q h1⟩
theorem bl_toInt {n : Nat} (h : n < 2147483648) : (lN n).toInt = (n : Int) := lN_toInt h
/-- the reference's in -/
theorem bs_in (X : bm_X) (σ : bm_M) (x y z : Int64) : bm_ev X 32 0 [.long x, .null, .long y, .null, .long z, .null] [] σ = some (.int (bm_bi (decide (y.toInt ≤ x.toInt) && decide (x.toInt ≤ z.toInt))), σ) := by
  rw [bb_32_0]
  simp only [bm_lcmp_lt, bm_lcmp_gt, bm_bo_0, bm_bo_1, bm_gd_t]
  by_cases h1 : x.toInt < y.toInt
  · have : ¬ y.toInt ≤ x.toInt := by omega
    simp [h1, this, bm_bi]
  · have e1 : y.toInt ≤ x.toInt := by omega
    by_cases h2 : z.toInt < x.toInt
    · have : ¬ x.toInt ≤ z.toInt := by omega
      simp [h1, h2, e1, this, bm_bi]
    · have : x.toInt ≤ z.toInt := by omega
      simp [h1, h2, e1, this, bm_bi]
theorem bs_upTo (X : bm_X) (σ : bm_M) (x y : Int32) : bm_ev X 24 0 [.int x, .int y] [] σ = some (.int (bm_bi (bm_rg x 0 y.toInt)), σ) := by
  rw [bb_24_0]
  have h0 : (0 : Int32).toInt = 0 := by decide
  simp only [bm_lt_toInt, h0, bm_bo_0, bm_bo_1, bm_gd_t]
  by_cases h1 : x.toInt < 0
  · have : ¬ 0 ≤ x.toInt := by omega
    simp [h1, this, bm_bi, bm_rg]
  · have e1 : 0 ≤ x.toInt := by omega
    by_cases h2 : y.toInt < x.toInt
    · have : ¬ x.toInt ≤ y.toInt := by omega
      simp [h1, h2, e1, this, bm_bi, bm_rg]
    · have : x.toInt ≤ y.toInt := by omega
      simp [h1, h2, e1, this, bm_bi, bm_rg]
end
section
/-! THE HERD as numbers: a column (0 scalars, 1 grass, 2 pails, 3 spots, 4 kind, 5 place, 6 tone, 7 swings, 8 wear, 9 rung, 10 muffled) and a place in it -/
abbrev ab_T : Type := Nat → Nat → Nat
def ab_wd (c i : Nat) : Bool := match c with
  | 0 => decide (3 ≤ i) && decide (i ≤ 7)
  | 1 => decide (i < 12)
  | 2 => decide (i < 12)
  | 3 => decide (i < 10)
  | c => decide (c ≤ 10) && decide (i < 8)
def ab_ly (c i : Nat) : Nat := match c with
  | 0 => match i with
    | 3 => 3
    | 4 => 4
    | 5 => 0
    | 6 => 1
    | _ => 2
  | 1 => 5 + i
  | 2 => 17 + i
  | 3 => 85 + i
  | c => 29 + 7 * i + (c - 4)
def ab_set (a : ab_T) (c i v : Nat) : ab_T := fun c' i' => if c' = c ∧ i' = i then v else a c' i'
def ab_H (o : Nat) (σ : bm_M) (a : ab_T) : Prop := ∀ c i, ab_wd c i = true → σ (o + c) i = nI (a c i)
def ab_S (q : Nat) (σ : bm_M) (a : ab_T) : Prop := ∀ c i, ab_wd c i = true → σ q (ab_ly c i) = nI (a c i)
theorem ab_wd_lt {c i : Nat} (h : ab_wd c i = true) : c < 11 ∧ i < 12 := by
  unfold ab_wd at h
  split at h
  · simp only [Bool.and_eq_true, decide_eq_true_eq] at h; omega
  · simp only [decide_eq_true_eq] at h; omega
  · simp only [decide_eq_true_eq] at h; omega
  · simp only [decide_eq_true_eq] at h; omega
  · simp only [Bool.and_eq_true, decide_eq_true_eq] at h; omega
/-- where a place of the reference's row lies -/
def ab_iy (n : Nat) : Nat × Nat := if n < 5 then (0, match n with | 0 => 5 | 1 => 6 | 2 => 7 | n => n) else if n < 17 then (1, n - 5) else if n < 29 then (2, n - 17) else if n < 85 then ((n - 29) % 7 + 4, (n - 29) / 7) else (3, n - 85)
theorem ab_iy_ly : ∀ c, c < 11 → ∀ i, i < 12 → ab_wd c i = true → ab_iy (ab_ly c i) = (c, i) ∧ ab_ly c i < 95 := by decide
theorem ab_ly_inj {c i c' i' : Nat} (h : ab_wd c i = true) (h' : ab_wd c' i' = true) (e : ab_ly c i = ab_ly c' i') : c = c' ∧ i = i' := by
  obtain ⟨h1, h2⟩ := ab_wd_lt h
  obtain ⟨h3, h4⟩ := ab_wd_lt h'
  have e1 := (ab_iy_ly c h1 i h2 h).1
  have e2 := (ab_iy_ly c' h3 i' h4 h').1
  rw [e, e2] at e1
  cases e1
  exact ⟨rfl, rfl⟩
theorem ab_ly_iy : ∀ n, n < 95 → ab_wd (ab_iy n).1 (ab_iy n).2 = true ∧ ab_ly (ab_iy n).1 (ab_iy n).2 = n := by decide
theorem ab_set_self (a : ab_T) (c i v : Nat) : ab_set a c i v c i = v := by simp [ab_set]
theorem ab_set_ne (a : ab_T) {c i c' i' : Nat} (v : Nat) (h : ¬ (c' = c ∧ i' = i)) : ab_set a c i v c' i' = a c' i' := by simp [ab_set, h]
theorem ab_set_nc (a : ab_T) {c i c' i' : Nat} (v : Nat) (h : c' ≠ c) : ab_set a c i v c' i' = a c' i' := ab_set_ne a v (fun q => h q.1)
theorem ab_set_ni (a : ab_T) {c i i' : Nat} (v : Nat) (h : i' ≠ i) : ab_set a c i v c i' = a c i' := ab_set_ne a v (fun q => h q.2)
theorem bm_up_at (σ : bm_M) (k i : Nat) (v : Int32) : bm_up σ k i v k i = v := by simp [bm_up, upd]
theorem bm_up_ni (σ : bm_M) {k i i' : Nat} (v : Int32) (h : i' ≠ i) : bm_up σ k i v k i' = σ k i' := by simp [bm_up, upd, h]
theorem bm_up_nk (σ : bm_M) {k k' i i' : Nat} (v : Int32) (h : k' ≠ k) : bm_up σ k i v k' i' = σ k' i' := by simp [bm_up, h]
theorem ab_H.up {o : Nat} {σ : bm_M} {a : ab_T} (h : ab_H o σ a) (c i v : Nat) : ab_H o (bm_up σ (o + c) i (nI v)) (ab_set a c i v) := by
  intro c' i' hw
  by_cases e : c' = c
  · subst e
    by_cases e2 : i' = i
    · subst e2
      rw [bm_up_at, ab_set_self]
    · rw [bm_up_ni σ _ e2, ab_set_ni a _ e2]
      exact h c' i' hw
  · rw [bm_up_nk σ _ (by omega), ab_set_nc a _ e]
    exact h c' i' hw
theorem ab_H.fr {o : Nat} {σ τ : bm_M} {a : ab_T} (h : ab_H o σ a) (ht : ∀ k, o ≤ k → k ≤ o + 10 → τ k = σ k) : ab_H o τ a := by
  intro c i hw
  have := ab_wd_lt hw
  rw [ht (o + c) (by omega) (by omega)]
  exact h c i hw
theorem ab_H.ne {o : Nat} {σ : bm_M} {a : ab_T} (h : ab_H o σ a) {k : Nat} (i : Nat) (v : Int32) (hk : k < o ∨ o + 10 < k) : ab_H o (bm_up σ k i v) a :=
  h.fr (fun q h1 h2 => bm_up_ne σ i v (by omega))
theorem ab_S.up {q : Nat} {σ : bm_M} {a : ab_T} (h : ab_S q σ a) {c i : Nat} (v : Nat) (hw : ab_wd c i = true) : ab_S q (bm_up σ q (ab_ly c i) (nI v)) (ab_set a c i v) := by
  intro c' i' hw'
  by_cases e : c' = c ∧ i' = i
  · obtain ⟨rfl, rfl⟩ := e
    rw [bm_up_at, ab_set_self]
  · rw [ab_set_ne a v e, bm_up_ni σ _ (fun q => e (ab_ly_inj hw' hw q))]
    exact h c' i' hw'
theorem ab_S.fr {q : Nat} {σ τ : bm_M} {a : ab_T} (h : ab_S q σ a) (ht : τ q = σ q) : ab_S q τ a := by
  intro c i hw
  rw [ht]
  exact h c i hw
theorem ab_S.ne {q : Nat} {σ : bm_M} {a : ab_T} (h : ab_S q σ a) {k : Nat} (i : Nat) (v : Int32) (hk : q ≠ k) : ab_S q (bm_up σ k i v) a := h.fr (bm_up_ne σ i v hk)
/-- the bounds that a herd keeps -/
def ab_G (a : ab_T) : Prop := a 0 3 ≤ 20 ∧ a 0 4 ≤ 99 ∧ a 0 7 ≤ 8 ∧ (∀ i, i < 12 → a 1 i ≤ 99) ∧ (∀ i, i < 12 → a 2 i ≤ 99999) ∧ (∀ i, i < 8 → a 4 i ≤ 6 ∧ a 5 i ≤ 11 ∧ a 6 i ≤ 11 ∧ a 7 i ≤ 9 ∧ a 8 i ≤ 999 ∧ a 9 i ≤ 9999 ∧ a 10 i ≤ 1)
theorem bn_inT {a n : Nat} (h : a < n) (hn : n < 2147483648) : bm_in (nI a) n = true := by
  rw [bn_in (by omega)]
  exact decide_eq_true h
/-- how many of the first n stand where k does -/
def ab_cnt (a : ab_T) (k : Nat) : Nat → Nat
  | 0 => 0
  | n + 1 => ab_cnt a k n + (if a 5 n = a 5 k then 1 else 0)
/-- how many others of the first n do -/
def ab_oth (a : ab_T) (k : Nat) : Nat → Nat
  | 0 => 0
  | n + 1 => ab_oth a k n + (if n = k then 0 else if a 5 n = a 5 k then 1 else 0)
theorem ab_cnt_le (a : ab_T) (k : Nat) : ∀ n, ab_cnt a k n ≤ n
  | 0 => Nat.le_refl 0
  | n + 1 => by
    have := ab_cnt_le a k n
    simp only [ab_cnt]
    split <;> omega
theorem ab_oth_le (a : ab_T) (k : Nat) : ∀ n, ab_oth a k n ≤ n
  | 0 => Nat.le_refl 0
  | n + 1 => by
    have := ab_oth_le a k n
    simp only [ab_oth]
    split
    · omega
    · split <;> omega
theorem ab_cnt_oth (a : ab_T) (k : Nat) : ∀ n, ab_cnt a k n = ab_oth a k n + (if k < n then 1 else 0)
  | 0 => rfl
  | n + 1 => by
    have := ab_cnt_oth a k n
    simp only [ab_cnt, ab_oth]
    rw [this]
    by_cases e : n = k
    · subst e
      simp
    · simp only [if_neg e]
      by_cases h : k < n
      · simp [h, show k < n + 1 by omega]; omega
      · simp [h, show ¬ k < n + 1 by omega]
/-- the first of n that stands there with another tone, or n -/
def ab_bes (a : ab_T) (k : Nat) : Nat → Nat → Nat
  | j, 0 => j
  | j, n + 1 => if a 5 j = a 5 k ∧ ¬ a 6 j = a 6 k then j else ab_bes a k (j + 1) n
def ab_plain (a : ab_T) (k : Nat) : Nat := a 7 k + a 1 (a 5 k) / 10
def ab_rings (a : ab_T) (k : Nat) : Nat :=
  if a 4 k = 1 then ab_plain a k / 2 else if a 4 k = 2 then ab_plain a k + 2 else if a 4 k = 3 then ab_plain a k + 2 - ab_oth a k (a 0 7) else if a 4 k = 4 then ab_plain a k + 2 - ab_oth a k (a 0 7) + a 0 4 / 10 else if a 4 k = 5 then ab_plain a k - a 8 k / 100 else if a 4 k = 6 then ab_plain a k / 2 + 1 else ab_plain a k
def ab_eats (a : ab_T) (k : Nat) : Nat := if a 4 k = 1 then 2 else if a 4 k = 3 then 3 else if a 4 k = 4 then 0 else if a 4 k = 6 then 2 else 5
def ab_gives (a : ab_T) (k : Nat) : Nat :=
  if a 4 k = 1 then a 9 k / 4 / 2 else if a 4 k = 2 then a 9 k / 4 + a 9 k / 8 else if a 4 k = 3 then a 9 k / 4 + a 9 k / 8 - 3 else if a 4 k = 4 then a 9 k / 4 + a 9 k / 8 - 3 + 5 else if a 4 k = 5 then a 9 k / 4 / 2 else if a 4 k = 6 then a 9 k / 4 / 2 else a 9 k / 4
theorem bn_sa (x y z : Int32) : x - y + z = x + z - y := by
  rw [Int32.sub_eq_add_neg, Int32.sub_eq_add_neg, Int32.add_assoc, Int32.add_assoc, Int32.add_comm (-y) z]
theorem ab_w8 {c i : Nat} (h4 : 4 ≤ c) (h : c ≤ 10) (hi : i < 8) : ab_wd c i = true := by
  unfold ab_wd
  split <;> first | omega | (simp; omega)
theorem ab_w1 {i : Nat} (hi : i < 12) : ab_wd 1 i = true := decide_eq_true hi
theorem ab_w2 {i : Nat} (hi : i < 12) : ab_wd 2 i = true := decide_eq_true hi
set_option maxHeartbeats 1000000 in
theorem hc_others (X : bm_X) {o : Nat} (ho : bm_isH o) {σ : bm_M} {a : ab_T} (hH : ab_H o σ a) (hG : ab_G a) {k : Nat} (hk : k < 8) : ∀ (n j : Nat), j + n = a 0 7 → bm_ev X 2 4 [.ref o, .int (nI k), .int (nI (ab_cnt a k j) - nI 1), .int (nI j)] [] σ = some (.int (nI (ab_cnt a k (a 0 7)) - nI 1), σ) := by
  intro n
  induction n with
  | zero =>
    intro j hj
    rw [bb_2_4 _ _ _ ho]
    have h7 := hH 0 7 rfl
    rw [Nat.add_zero] at h7
    have := hG.2.2.1
    simp (disch := omega) only [h7, bn_lt]
    rw [show j = a 0 7 by omega]
    simp
  | succ n ih =>
    intro j hj
    rw [bb_2_4 _ _ _ ho]
    have h7 := hH 0 7 rfl
    rw [Nat.add_zero] at h7
    have hc := hG.2.2.1
    have h5 := hH 5 j (by simp [ab_wd]; omega)
    have h5k := hH 5 k (by simp [ab_wd]; omega)
    have hb := (hG.2.2.2.2.2 j (by omega)).2.1
    have hb' := (hG.2.2.2.2.2 k (by omega)).2.1
    simp (disch := omega) only [h7, bn_lt, bn_inT, bn_clamp, h5, h5k, bm_gd_t, bn_eq, bn_add]
    have hj' : decide (j < a 0 7) = true := decide_eq_true (by omega)
    rw [hj']
    have := ih (j + 1) (by omega)
    simp only [ab_cnt] at this
    by_cases e : a 5 j = a 5 k
    · simp only [e, if_true, decide_true, cond_true] at this ⊢
      rw [← this, bn_sa, bn_add]
    · simp only [e, if_false, decide_false, cond_false, cond_true, Nat.add_zero] at this ⊢
      exact this
end
section
/-! the class's herd: what it tells -/
theorem hc_othersWith (X : bm_X) {o : Nat} (ho : bm_isH o) {σ : bm_M} {a : ab_T} (hH : ab_H o σ a) (hG : ab_G a) {k : Nat} (hk : k < a 0 7) : bm_ev X 2 0 [.ref o, .int (nI k), .null, .null] [] σ = some (.int (nI (ab_oth a k (a 0 7))), σ) := by
  rw [bb_2_0 _ _ _ ho]
  have hc := hG.2.2.1
  have := hc_others X ho hH hG (k := k) (by omega) (a 0 7) 0 (by omega)
  rw [show (-nI 1 : Int32) = nI (ab_cnt a k 0) - nI 1 from rfl, this, ab_cnt_oth, if_pos hk, bn_sub (by omega)]
  rfl
set_option maxHeartbeats 2000000 in
theorem hc_rings (X : bm_X) {o : Nat} (ho : bm_isH o) {σ : bm_M} {a : ab_T} (hH : ab_H o σ a) (hG : ab_G a) {k : Nat} (hk : k < a 0 7) : bm_ev X 53 0 [.ref o, .int (nI k), .null] [] σ = some (.int (nI (ab_rings a k)), σ) := by
  rw [bb_53_0 _ _ _ ho]
  have hc := hG.2.2.1
  have hk8 : k < 8 := by omega
  obtain ⟨b4, b5, b6, b7, b8, b9, b10⟩ := hG.2.2.2.2.2 k hk8
  have h4 := hH 4 k (ab_w8 (by decide) (by decide) hk8)
  have h5 := hH 5 k (ab_w8 (by decide) (by decide) hk8)
  have h7 := hH 7 k (ab_w8 (by decide) (by decide) hk8)
  have h8 := hH 8 k (ab_w8 (by decide) (by decide) hk8)
  have h1 := hH 1 (a 5 k) (ab_w1 (by omega))
  have b1 := hG.2.2.2.1 (a 5 k) (by omega)
  have ht := hH 0 4 rfl
  rw [Nat.add_zero] at ht
  have bt := hG.2.1
  have hoth := hc_othersWith X ho hH hG hk
  have bo := ab_oth_le a k (a 0 7)
  simp (disch := omega) only [bn_inT, bn_clamp, h4, h5, h7, h8, h1, ht, bm_gd_t, bn_eq, bn_div, bn_add, hoth, bm_bI_some, bn_max0]
  rcases (show a 4 k = 0 ∨ a 4 k = 1 ∨ a 4 k = 2 ∨ a 4 k = 3 ∨ a 4 k = 4 ∨ a 4 k = 5 ∨ a 4 k = 6 by omega) with h | h | h | h | h | h | h <;> simp [h, ab_rings, ab_plain]
theorem hc_eats (X : bm_X) {o : Nat} (ho : bm_isH o) {σ : bm_M} {a : ab_T} (hH : ab_H o σ a) (hG : ab_G a) {k : Nat} (hk : k < 8) : bm_ev X 3 0 [.ref o, .int (nI k)] [] σ = some (.int (nI (ab_eats a k)), σ) := by
  rw [bb_3_0 _ _ _ ho]
  obtain ⟨b4, -⟩ := hG.2.2.2.2.2 k hk
  have h4 := hH 4 k (ab_w8 (by decide) (by decide) hk)
  simp (disch := omega) only [bn_inT, bn_clamp, h4, bm_gd_t]
  rcases (show a 4 k = 0 ∨ a 4 k = 1 ∨ a 4 k = 2 ∨ a 4 k = 3 ∨ a 4 k = 4 ∨ a 4 k = 5 ∨ a 4 k = 6 by omega) with h | h | h | h | h | h | h <;> (rw [h, ab_eats, h]; rfl)
set_option maxHeartbeats 2000000 in
theorem hc_gives (X : bm_X) {o : Nat} (ho : bm_isH o) {σ : bm_M} {a : ab_T} (hH : ab_H o σ a) (hG : ab_G a) {k : Nat} (hk : k < 8) : bm_ev X 54 0 [.ref o, .int (nI k), .null, .null] [] σ = some (.int (nI (ab_gives a k)), σ) := by
  rw [bb_54_0 _ _ _ ho]
  obtain ⟨b4, b5, b6, b7, b8, b9, b10⟩ := hG.2.2.2.2.2 k hk
  have h4 := hH 4 k (ab_w8 (by decide) (by decide) hk)
  have h9 := hH 9 k (ab_w8 (by decide) (by decide) hk)
  simp (disch := omega) only [bn_inT, bn_clamp, h4, h9, bm_gd_t, bn_eq, bn_div, bn_add, bn_max0]
  rcases (show a 4 k = 0 ∨ a 4 k = 1 ∨ a 4 k = 2 ∨ a 4 k = 3 ∨ a 4 k = 4 ∨ a 4 k = 5 ∨ a 4 k = 6 by omega) with h | h | h | h | h | h | h <;> simp [h, ab_gives]
/-- who stands beside, as it is told -/
def ab_bv (a : ab_T) (k : Nat) : Int32 := if ab_bes a k 0 (a 0 7) < a 0 7 then nI (ab_bes a k 0 (a 0 7)) else -nI 1
end
section
/-! AN HOUR, as numbers -/
def ab_F (o : Nat) (σ τ : bm_M) : Prop := ∀ q, q < o ∨ o + 10 < q → τ q = σ q
theorem ab_F.rf {o : Nat} {σ : bm_M} : ab_F o σ σ := fun _ _ => rfl
theorem ab_F.tr {o : Nat} {σ τ ρ : bm_M} (h : ab_F o σ τ) (h' : ab_F o τ ρ) : ab_F o σ ρ := fun q hq => (h' q hq).trans (h q hq)
theorem ab_F.up {o : Nat} {σ τ : bm_M} (h : ab_F o σ τ) {c : Nat} (hc : c ≤ 10) (i : Nat) (v : Int32) : ab_F o σ (bm_up τ (o + c) i v) := fun q hq => by
  rw [bm_up_ne τ i v (by omega)]
  exact h q hq
def ab_ok (c i v : Nat) : Prop := match c with
  | 0 => match i with
    | 3 => v ≤ 20
    | 4 => v ≤ 99
    | 7 => v ≤ 8
    | _ => True
  | 1 => v ≤ 99
  | 2 => v ≤ 99999
  | 3 => True
  | 4 => v ≤ 6
  | 5 => v ≤ 11
  | 6 => v ≤ 11
  | 7 => v ≤ 9
  | 8 => v ≤ 999
  | 9 => v ≤ 9999
  | _ => v ≤ 1
theorem ab_G_iff {a : ab_T} : ab_G a ↔ ∀ c i, ab_wd c i = true → ab_ok c i (a c i) := by
  constructor
  · intro h c i hw
    obtain ⟨h1, h2, h3, h4, h5, h6⟩ := h
    obtain ⟨c1, c2⟩ := ab_wd_lt hw
    match c, c1, hw with
    | 0, _, hw =>
      simp only [ab_wd, Bool.and_eq_true, decide_eq_true_eq] at hw
      rcases (show i = 3 ∨ i = 4 ∨ i = 5 ∨ i = 6 ∨ i = 7 by omega) with rfl | rfl | rfl | rfl | rfl
      · exact h1
      · exact h2
      · exact trivial
      · exact trivial
      · exact h3
    | 1, _, hw => exact h4 i (of_decide_eq_true hw)
    | 2, _, hw => exact h5 i (of_decide_eq_true hw)
    | 3, _, hw => exact trivial
    | 4, _, hw => exact (h6 i (by simpa [ab_wd] using hw)).1
    | 5, _, hw => exact (h6 i (by simpa [ab_wd] using hw)).2.1
    | 6, _, hw => exact (h6 i (by simpa [ab_wd] using hw)).2.2.1
    | 7, _, hw => exact (h6 i (by simpa [ab_wd] using hw)).2.2.2.1
    | 8, _, hw => exact (h6 i (by simpa [ab_wd] using hw)).2.2.2.2.1
    | 9, _, hw => exact (h6 i (by simpa [ab_wd] using hw)).2.2.2.2.2.1
    | 10, _, hw => exact (h6 i (by simpa [ab_wd] using hw)).2.2.2.2.2.2
  · intro h
    exact ⟨h 0 3 rfl, h 0 4 rfl, h 0 7 rfl, fun i hi => h 1 i (ab_w1 hi), fun i hi => h 2 i (ab_w2 hi), fun i hi => ⟨h 4 i (ab_w8 (by decide) (by decide) hi), h 5 i (ab_w8 (by decide) (by decide) hi), h 6 i (ab_w8 (by decide) (by decide) hi), h 7 i (ab_w8 (by decide) (by decide) hi), h 8 i (ab_w8 (by decide) (by decide) hi), h 9 i (ab_w8 (by decide) (by decide) hi), h 10 i (ab_w8 (by decide) (by decide) hi)⟩⟩
theorem ab_G.set {a : ab_T} (h : ab_G a) {c i v : Nat} (hv : ab_ok c i v) : ab_G (ab_set a c i v) := by
  rw [ab_G_iff] at h ⊢
  intro c' i' hw
  by_cases e : c' = c ∧ i' = i
  · obtain ⟨rfl, rfl⟩ := e
    rw [ab_set_self]
    exact hv
  · rw [ab_set_ne a v e]
    exact h c' i' hw
/-- a cow rings and eats -/
def ab_sp1 (a : ab_T) (k : Nat) : ab_T := if a 10 k = 0 then ab_set a 9 k (min 9999 (a 9 k + ab_rings a k)) else a
def ab_sp2 (a : ab_T) (k : Nat) : ab_T := ab_set a 1 (a 5 k) (a 1 (a 5 k) - ab_eats a k)
def ab_wan (a : ab_T) (k : Nat) : ab_T := ab_set a 5 k ((a 5 k + 1) % 12)
def ab_wea (a : ab_T) (k : Nat) : ab_T := ab_set a 8 k (min 999 (a 8 k + 1))
/-- there is less than it eats -/
def ab_sh (a : ab_T) (k : Nat) : Bool := decide (a 1 (a 5 k) < ab_eats a k)
def ab_spend (a : ab_T) (k : Nat) : ab_T := ab_wea (if ab_sh a k = true then ab_wan (ab_sp2 (ab_sp1 a k) k) k else ab_sp2 (ab_sp1 a k) k) k
theorem ab_sp1_ne (a : ab_T) (k c i : Nat) (h : c ≠ 9) : ab_sp1 a k c i = a c i := by
  unfold ab_sp1
  split
  · exact ab_set_nc a _ h
  · rfl
theorem ab_eats_sp1 (a : ab_T) (k : Nat) : ab_eats (ab_sp1 a k) k = ab_eats a k := by
  unfold ab_eats
  rw [ab_sp1_ne a k 4 k (by decide)]
theorem ab_eats_le (a : ab_T) (k : Nat) : ab_eats a k ≤ 5 := by
  unfold ab_eats
  repeat' split
  all_goals omega
theorem ab_rings_le {a : ab_T} (hG : ab_G a) {k : Nat} (hk : k < 8) : ab_rings a k ≤ 40 := by
  obtain ⟨b4, b5, b6, b7, b8, b9, b10⟩ := hG.2.2.2.2.2 k hk
  have b1 := hG.2.2.2.1 (a 5 k) (by omega)
  have bt := hG.2.1
  unfold ab_rings ab_plain
  repeat' split
  all_goals omega
theorem ab_gives_le {a : ab_T} (hG : ab_G a) {k : Nat} (hk : k < 8) : ab_gives a k ≤ 3752 := by
  obtain ⟨b4, b5, b6, b7, b8, b9, b10⟩ := hG.2.2.2.2.2 k hk
  unfold ab_gives
  repeat' split
  all_goals omega
theorem ab_G.sp1 {a : ab_T} (h : ab_G a) (k : Nat) : ab_G (ab_sp1 a k) := by
  unfold ab_sp1
  split
  · exact h.set (Nat.min_le_left _ _)
  · exact h
theorem ab_G.sp2 {a : ab_T} (h : ab_G a) {k : Nat} (hk : k < 8) : ab_G (ab_sp2 a k) := by
  have b5 := (h.2.2.2.2.2 k hk).2.1
  have b1 := h.2.2.2.1 (a 5 k) (by omega)
  exact h.set (show _ ≤ 99 by omega)
theorem ab_G.wan {a : ab_T} (h : ab_G a) (k : Nat) : ab_G (ab_wan a k) := h.set (show _ ≤ 11 by omega)
theorem ab_G.wea {a : ab_T} (h : ab_G a) (k : Nat) : ab_G (ab_wea a k) := h.set (Nat.min_le_left _ _)
theorem ab_G.spend {a : ab_T} (h : ab_G a) {k : Nat} (hk : k < 8) : ab_G (ab_spend a k) := by
  unfold ab_spend
  split
  · exact (((h.sp1 k).sp2 hk).wan k).wea k
  · exact ((h.sp1 k).sp2 hk).wea k
theorem ab_spend_0 (a : ab_T) (k i : Nat) : ab_spend a k 0 i = a 0 i := by
  unfold ab_spend ab_wea
  rw [ab_set_nc _ _ (by decide)]
  split
  · unfold ab_wan
    rw [ab_set_nc _ _ (by decide)]
    unfold ab_sp2
    rw [ab_set_nc _ _ (by decide), ab_sp1_ne a k 0 i (by decide)]
  · unfold ab_sp2
    rw [ab_set_nc _ _ (by decide), ab_sp1_ne a k 0 i (by decide)]
/-- the first n of them -/
def ab_sp (a : ab_T) : Nat → ab_T
  | 0 => a
  | n + 1 => ab_spend (ab_sp a n) n
def ab_wn (a : ab_T) : Nat → Bool
  | 0 => false
  | n + 1 => ab_wn a n || ab_sh (ab_sp a n) n
theorem ab_G.sp {a : ab_T} (h : ab_G a) : ∀ n, n ≤ 8 → ab_G (ab_sp a n)
  | 0, _ => h
  | n + 1, hn => (h.sp n (by omega)).spend (by omega)
theorem ab_sp_0 (a : ab_T) (i : Nat) : ∀ n, ab_sp a n 0 i = a 0 i
  | 0 => rfl
  | n + 1 => by rw [ab_sp, ab_spend_0, ab_sp_0 a i n]
/-- grass of the first n grows -/
def ab_gr (a : ab_T) : Nat → ab_T
  | 0 => a
  | n + 1 => ab_set (ab_gr a n) 1 n (min 99 (ab_gr a n 1 n + ab_gr a n 0 3))
theorem ab_G.gr {a : ab_T} (h : ab_G a) : ∀ n, ab_G (ab_gr a n)
  | 0 => h
  | n + 1 => (h.gr n).set (Nat.min_le_left _ _)
theorem ab_gr_ne (a : ab_T) (c i : Nat) (h : c ≠ 1) : ∀ n, ab_gr a n c i = a c i
  | 0 => rfl
  | n + 1 => by rw [ab_gr, ab_set_nc _ _ h, ab_gr_ne a c i h n]
/-- milk comes into a pail -/
def ab_fill (a : ab_T) (t v : Nat) : ab_T := ab_set a 2 t (min 99999 (a 2 t + v))
def ab_left (a : ab_T) (k : Nat) : Nat := ab_gives a k - ab_gives a k * a 0 4 / 100
def ab_b (a : ab_T) (k : Nat) : Nat := ab_bes a k 0 (a 0 7)
def ab_mk1 (a : ab_T) (k : Nat) : ab_T :=
  if ab_b a k < a 0 7 then ab_set (ab_fill (ab_fill a ((a 6 k + a 6 (ab_b a k)) % 12) (ab_left a k / 3)) (a 6 k) (ab_left a k - ab_left a k / 3)) 9 k 0
  else ab_set (ab_fill a (a 6 k) (ab_left a k)) 9 k 0
def ab_mk (a : ab_T) : Nat → ab_T
  | 0 => a
  | n + 1 => ab_mk1 (ab_mk a n) n
theorem ab_G.fill {a : ab_T} (h : ab_G a) (t v : Nat) : ab_G (ab_fill a t v) := h.set (Nat.min_le_left _ _)
theorem ab_G.mk1 {a : ab_T} (h : ab_G a) (k : Nat) : ab_G (ab_mk1 a k) := by
  unfold ab_mk1
  split
  · exact ((h.fill _ _).fill _ _).set (Nat.zero_le _)
  · exact (h.fill _ _).set (Nat.zero_le _)
theorem ab_G.mk {a : ab_T} (h : ab_G a) : ∀ n, ab_G (ab_mk a n)
  | 0 => h
  | n + 1 => (h.mk n).mk1 n
theorem ab_mk1_ne (a : ab_T) (k c i : Nat) (h2 : c ≠ 2) (h9 : c ≠ 9) : ab_mk1 a k c i = a c i := by
  unfold ab_mk1 ab_fill
  split
  · rw [ab_set_nc _ _ h9, ab_set_nc _ _ h2, ab_set_nc _ _ h2]
  · rw [ab_set_nc _ _ h9, ab_set_nc _ _ h2]
theorem ab_mk_ne (a : ab_T) (c i : Nat) (h2 : c ≠ 2) (h9 : c ≠ 9) : ∀ n, ab_mk a n c i = a c i
  | 0 => rfl
  | n + 1 => by rw [ab_mk, ab_mk1_ne _ _ _ _ h2 h9, ab_mk_ne a c i h2 h9 n]
def ab_tick (a : ab_T) : ab_T := ab_set a 0 5 (a 0 5 + 1)
/-- an hour goes by -/
def ab_hr (a : ab_T) : ab_T := if (a 0 5 + 1) % 6 = 0 then ab_mk (ab_tick (ab_gr (ab_sp a (a 0 7)) 12)) (a 0 7) else ab_tick (ab_gr (ab_sp a (a 0 7)) 12)
def ab_wand (a : ab_T) : Bool := ab_wn a (a 0 7)
def ab_hs (a : ab_T) : Nat → ab_T
  | 0 => a
  | n + 1 => ab_hr (ab_hs a n)
theorem ab_G.tick {a : ab_T} (h : ab_G a) : ab_G (ab_tick a) := h.set trivial
theorem ab_G.hr {a : ab_T} (h : ab_G a) : ab_G (ab_hr a) := by
  have hc := h.2.2.1
  unfold ab_hr
  split
  · exact (((h.sp _ hc).gr 12).tick).mk _
  · exact ((h.sp _ hc).gr 12).tick
theorem ab_G.hs {a : ab_T} (h : ab_G a) : ∀ n, ab_G (ab_hs a n)
  | 0 => h
  | n + 1 => (h.hs n).hr
theorem ab_hr_0 (a : ab_T) (i : Nat) : ab_hr a 0 i = if i = 5 then a 0 5 + 1 else a 0 i := by
  have h1 : ab_tick (ab_gr (ab_sp a (a 0 7)) 12) 0 i = if i = 5 then a 0 5 + 1 else a 0 i := by
    unfold ab_tick
    by_cases e : i = 5
    · subst e
      rw [ab_set_self, ab_gr_ne _ _ _ (by decide), ab_sp_0, if_pos rfl]
    · rw [ab_set_ni _ _ e, ab_gr_ne _ _ _ (by decide), ab_sp_0, if_neg e]
  unfold ab_hr
  split
  · rw [ab_mk_ne _ _ _ (by decide) (by decide)]
    exact h1
  · exact h1
theorem ab_hs_hour (a : ab_T) : ∀ n, ab_hs a n 0 5 = a 0 5 + n
  | 0 => rfl
  | n + 1 => by rw [ab_hs, ab_hr_0, if_pos rfl, ab_hs_hour a n]; omega
theorem ab_hs_0 (a : ab_T) {i : Nat} (h : i ≠ 5) : ∀ n, ab_hs a n 0 i = a 0 i
  | 0 => rfl
  | n + 1 => by rw [ab_hs, ab_hr_0, if_neg h, ab_hs_0 a h n]
theorem ab_bes_le (a : ab_T) (k : Nat) : ∀ n j, j ≤ ab_bes a k j n ∧ ab_bes a k j n ≤ j + n := by
  intro n
  induction n with
  | zero => intro j; exact ⟨Nat.le_refl _, Nat.le_refl _⟩
  | succ n ih =>
    intro j
    simp only [ab_bes]
    split
    · omega
    · have := ih (j + 1)
      omega
end
section
/-! AN HOUR of the class's herd -/
theorem hc_bes (X : bm_X) {o : Nat} (ho : bm_isH o) {σ : bm_M} {a : ab_T} (hH : ab_H o σ a) (hG : ab_G a) {k : Nat} (hk : k < 8) : ∀ (n j : Nat), j + n = a 0 7 → bm_ev X 4 2 [.ref o, .int (nI k), .int (nI j)] [] σ = some (.int (if ab_bes a k j n < a 0 7 then nI (ab_bes a k j n) else -nI 1), σ) := by
  intro n
  induction n with
  | zero =>
    intro j hj
    rw [bb_4_2 _ _ _ ho]
    have h7 := hH 0 7 rfl
    rw [Nat.add_zero] at h7
    have hc := hG.2.2.1
    simp (disch := omega) only [h7, bn_lt, ab_bes]
    rw [show j = a 0 7 by omega]
    simp
  | succ n ih =>
    intro j hj
    rw [bb_4_2 _ _ _ ho]
    have h7 := hH 0 7 rfl
    rw [Nat.add_zero] at h7
    have hc := hG.2.2.1
    have hj8 : j < 8 := by omega
    have h5 := hH 5 j (ab_w8 (by decide) (by decide) hj8)
    have h5k := hH 5 k (ab_w8 (by decide) (by decide) hk)
    have h6 := hH 6 j (ab_w8 (by decide) (by decide) hj8)
    have h6k := hH 6 k (ab_w8 (by decide) (by decide) hk)
    obtain ⟨-, b5, b6, -⟩ := hG.2.2.2.2.2 j hj8
    obtain ⟨-, c5, c6, -⟩ := hG.2.2.2.2.2 k hk
    simp (disch := omega) only [h7, bn_lt, bn_inT, bn_clamp, h5, h5k, h6, h6k, bm_gd_t, bn_eq, bn_add]
    have hj' : decide (j < a 0 7) = true := decide_eq_true (by omega)
    rw [hj', ih (j + 1) (by omega)]
    simp only [ab_bes, cond_true]
    by_cases e : a 5 j = a 5 k
    · by_cases e2 : a 6 j = a 6 k
      · simp [e, e2]
      · simp [e, e2, show j < a 0 7 by omega]
    · simp [e]
theorem hc_beside (X : bm_X) {o : Nat} (ho : bm_isH o) {σ : bm_M} {a : ab_T} (hH : ab_H o σ a) (hG : ab_G a) {k : Nat} (hk : k < 8) : bm_ev X 4 0 [.ref o, .int (nI k), .null] [] σ = some (.int (if ab_b a k < a 0 7 then nI (ab_b a k) else -nI 1), σ) := by
  rw [bb_4_0 _ _ _ ho]
  exact hc_bes X ho hH hG hk _ 0 (by omega)
theorem hc_third (X : bm_X) {o : Nat} (ho : bm_isH o) {σ : bm_M} {a : ab_T} (hH : ab_H o σ a) (hG : ab_G a) {k : Nat} {j : Nat} (hk : k < 8) (hj : j < 8) : bm_ev X 5 0 [.ref o, .int (nI k), .int (nI j)] [] σ = some (.int (nI ((a 6 k + a 6 j) % 12)), σ) := by
  rw [bb_5_0 _ _ _ ho]
  have h6 := hH 6 j (ab_w8 (by decide) (by decide) hj)
  have h6k := hH 6 k (ab_w8 (by decide) (by decide) hk)
  obtain ⟨-, b5, b6, -⟩ := hG.2.2.2.2.2 j hj
  obtain ⟨-, c5, c6, -⟩ := hG.2.2.2.2.2 k hk
  simp (disch := omega) only [bn_inT, bn_clamp, h6, h6k, bm_gd_t, bn_add, bn_rem]
theorem hc_wander (X : bm_X) {o : Nat} (ho : bm_isH o) {σ : bm_M} {a : ab_T} (hH : ab_H o σ a) (hG : ab_G a) {k : Nat} (hk : k < 8) : ∃ τ, bm_ev X 6 0 [.ref o, .int (nI k)] [] σ = some (.null, τ) ∧ ab_H o τ (ab_wan a k) ∧ ab_F o σ τ := by
  rw [bb_6_0 _ _ _ ho]
  have h5 := hH 5 k (ab_w8 (by decide) (by decide) hk)
  obtain ⟨-, b5, -⟩ := hG.2.2.2.2.2 k hk
  simp (disch := omega) only [bn_inT, bn_clamp, h5, bm_gd_t, bn_add, bn_rem]
  exact ⟨_, rfl, hH.up 5 k _, ab_F.rf.up (by decide) _ _⟩
theorem hc_fill (X : bm_X) {o : Nat} (ho : bm_isH o) {σ : bm_M} {a : ab_T} (hH : ab_H o σ a) (hG : ab_G a) {k : Nat} {v : Nat} (hk : k < 12) (hv : v < 100000) : ∃ τ, bm_ev X 55 0 [.ref o, .int (nI k), .int (nI v)] [] σ = some (.null, τ) ∧ ab_H o τ (ab_fill a k v) ∧ ab_F o σ τ := by
  rw [bb_55_0 _ _ _ ho]
  have h2 := hH 2 k (ab_w2 hk)
  have b2 := hG.2.2.2.2.1 k hk
  simp (disch := omega) only [bn_inT, bn_clamp, h2, bm_gd_t, bn_add, bn_min]
  exact ⟨_, rfl, hH.up 2 k _, ab_F.rf.up (by decide) _ _⟩
theorem hc_wear (X : bm_X) {o : Nat} (ho : bm_isH o) {σ : bm_M} {a : ab_T} (hH : ab_H o σ a) (hG : ab_G a) {k : Nat} (hk : k < 8) (u : Value) {x3 : Int32} {b : Bool} (hb : decide (x3 < 0) = b) : ∃ τ, bm_ev X 103 45 [.ref o, .int (nI k), u, .int x3] [] σ = some (.int (bm_bi b), τ) ∧ ab_H o τ (ab_wea a k) ∧ ab_F o σ τ := by
  rw [bb_103_45 _ _ _ ho]
  have h8 := hH 8 k (ab_w8 (by decide) (by decide) hk)
  obtain ⟨-, -, -, -, b8, -⟩ := hG.2.2.2.2.2 k hk
  simp (disch := omega) only [bn_inT, bn_clamp, h8, bm_gd_t, bn_add, bn_min, hb, bm_bo_0, bm_bo_1]
  refine ⟨_, ?_, hH.up 8 k _, ab_F.rf.up (by decide) _ _⟩
  cases b <;> rfl
theorem hc_eatgo (X : bm_X) {o : Nat} (ho : bm_isH o) {σ : bm_M} {a : ab_T} (hH : ab_H o σ a) (hG : ab_G a) {k : Nat} (hk : k < 8) (u u' : Value) : ∃ τ, bm_ev X 103 19 [.ref o, .int (nI k), u, u'] [] σ = some (.int (bm_bi (ab_sh a k)), τ) ∧ ab_H o τ (ab_wea (if ab_sh a k = true then ab_wan (ab_sp2 a k) k else ab_sp2 a k) k) ∧ ab_F o σ τ := by
  rw [bb_103_19 _ _ _ ho]
  have h5 := hH 5 k (ab_w8 (by decide) (by decide) hk)
  obtain ⟨-, b5, -⟩ := hG.2.2.2.2.2 k hk
  have h1 := hH 1 (a 5 k) (ab_w1 (by omega))
  have b1 := hG.2.2.2.1 (a 5 k) (by omega)
  have be := ab_eats_le a k
  have he := hc_eats X ho hH hG hk
  simp (disch := omega) only [bn_inT, bn_clamp, h5, h1, bm_gd_t, he, bm_bI_some, bn_sub_lt0, bn_max0]
  have hH2 := hH.up 1 (a 5 k) (a 1 (a 5 k) - ab_eats a k)
  have hG2 := hG.sp2 hk
  have hF2 : ab_F o σ (bm_up σ (o + 1) (a 5 k) (nI (a 1 (a 5 k) - ab_eats a k))) := ab_F.rf.up (by decide) _ _
  have hb : decide (nI (a 1 (a 5 k)) - nI (ab_eats a k) < 0) = ab_sh a k := bn_sub_lt0 (by omega) (by omega)
  by_cases hs : ab_sh a k = true
  · have hs' : decide (a 1 (a 5 k) < ab_eats a k) = true := hs
    obtain ⟨τ, e1, e2, e3⟩ := hc_wander X ho hH2 hG2 hk
    simp only [hs', cond_true, e1, bm_bV_some, hs, if_true]
    obtain ⟨τ2, f1, f2, f3⟩ := hc_wear X ho e2 (hG2.wan k) hk (.int (nI (a 5 k))) hb
    rw [hs] at f1
    exact ⟨τ2, f1, f2, (hF2.tr e3).tr f3⟩
  · have hs' : decide (a 1 (a 5 k) < ab_eats a k) = false := by simpa [ab_sh] using hs
    have hs2 : ab_sh a k = false := by simpa using hs
    simp only [hs', cond_false, hs2, Bool.false_eq_true, if_false]
    obtain ⟨τ2, f1, f2, f3⟩ := hc_wear X ho hH2 hG2 hk (.int (nI (a 5 k))) hb
    rw [hs2] at f1
    exact ⟨τ2, f1, f2, hF2.tr f3⟩
theorem ab_sh_sp1 (a : ab_T) (k : Nat) : ab_sh (ab_sp1 a k) k = ab_sh a k := by
  unfold ab_sh
  rw [ab_eats_sp1, ab_sp1_ne a k 5 k (by decide), ab_sp1_ne a k 1 _ (by decide)]
theorem hc_ringEat (X : bm_X) {o : Nat} (ho : bm_isH o) {σ : bm_M} {a : ab_T} (hH : ab_H o σ a) (hG : ab_G a) {k : Nat} (hk : k < a 0 7) : ∃ τ, bm_ev X 103 0 [.ref o, .int (nI k), .null, .null] [] σ = some (.int (bm_bi (ab_sh a k)), τ) ∧ ab_H o τ (ab_spend a k) ∧ ab_F o σ τ := by
  rw [bb_103_0 _ _ _ ho]
  have hc := hG.2.2.1
  have hk8 : k < 8 := by omega
  have h10 := hH 10 k (ab_w8 (by decide) (by decide) hk8)
  have h9 := hH 9 k (ab_w8 (by decide) (by decide) hk8)
  obtain ⟨-, -, -, -, -, b9, b10⟩ := hG.2.2.2.2.2 k hk8
  have hr := hc_rings X ho hH hG hk
  have br := ab_rings_le hG hk8
  simp (disch := omega) only [bn_inT, bn_clamp, h10, h9, bm_gd_t, hr, bm_bI_some, bn_eq0, bn_add, bn_min]
  by_cases e : a 10 k = 0
  · have hs1 : ab_sp1 a k = ab_set a 9 k (min 9999 (a 9 k + ab_rings a k)) := if_pos e
    simp only [e, decide_true, cond_true]
    have hH2 := hH.up 9 k (min 9999 (a 9 k + ab_rings a k))
    rw [← hs1] at hH2
    obtain ⟨τ, f1, f2, f3⟩ := hc_eatgo X ho hH2 (hG.sp1 k) hk8 .null .null
    rw [ab_sh_sp1] at f1 f2
    exact ⟨τ, f1, f2, (ab_F.rf.up (by decide) _ _).tr f3⟩
  · have hs1 : ab_sp1 a k = a := if_neg e
    simp only [e, decide_false, cond_false]
    obtain ⟨τ, f1, f2, f3⟩ := hc_eatgo X ho hH hG hk8 .null .null
    refine ⟨τ, f1, ?_, f3⟩
    unfold ab_spend
    rw [hs1]
    exact f2
theorem hc_spends (X : bm_X) {o : Nat} (ho : bm_isH o) {a : ab_T} (hG : ab_G a) : ∀ (n j : Nat) (σ : bm_M), j + n = a 0 7 → ab_H o σ (ab_sp a j) → ∃ τ, bm_ev X 141 4 [.ref o, .int (bm_bi (ab_wn a j)), .int (nI j)] [] σ = bm_ev X 141 18 [.ref o, .int (bm_bi (ab_wand a)), .int (nI 0)] [] τ ∧ ab_H o τ (ab_sp a (a 0 7)) ∧ ab_F o σ τ := by
  intro n
  induction n with
  | zero =>
    intro j σ hj hH
    rw [bb_141_4 _ _ _ ho]
    have h7 := hH 0 7 rfl
    rw [Nat.add_zero, ab_sp_0] at h7
    have hc := hG.2.2.1
    simp (disch := omega) only [h7, bn_lt]
    rw [show j = a 0 7 by omega] at hH ⊢
    simp only [Nat.lt_irrefl, decide_false, cond_false]
    exact ⟨σ, rfl, hH, ab_F.rf⟩
  | succ n ih =>
    intro j σ hj hH
    rw [bb_141_4 _ _ _ ho]
    have h7 := hH 0 7 rfl
    rw [Nat.add_zero, ab_sp_0] at h7
    have hc := hG.2.2.1
    obtain ⟨τ, e1, e2, e3⟩ := hc_ringEat X ho hH (hG.sp j (by omega)) (k := j) (by rw [ab_sp_0]; omega)
    simp (disch := omega) only [h7, bn_lt, e1, bm_bI_some, bm_bi_eq0, bn_add]
    have hj' : decide (j < a 0 7) = true := decide_eq_true (by omega)
    obtain ⟨τ2, f1, f2, f3⟩ := ih (j + 1) τ (by omega) e2
    refine ⟨τ2, ?_, f2, e3.tr f3⟩
    rw [hj', ← f1]
    simp only [cond_true, ab_wn]
    cases ab_sh (ab_sp a j) j <;> simp [bm_bi]
theorem hc_milks (X : bm_X) {o : Nat} (ho : bm_isH o) {a : ab_T} (hG : ab_G a) : ∀ (n j : Nat) (σ : bm_M) (u2 u3 u4 u5 : Value), j + n = a 0 7 → ab_H o σ (ab_mk a j) → ∃ τ, bm_ev X 104 2 [.ref o, .int (nI j), u2, u3, u4, u5] [] σ = some (.null, τ) ∧ ab_H o τ (ab_mk a (a 0 7)) ∧ ab_F o σ τ := by
  intro n
  induction n with
  | zero =>
    intro j σ u2 u3 u4 u5 hj hH
    rw [bb_104_2 _ _ _ ho]
    have h7 := hH 0 7 rfl
    rw [Nat.add_zero, ab_mk_ne _ _ _ (by decide) (by decide)] at h7
    have hc := hG.2.2.1
    simp (disch := omega) only [h7, bn_lt]
    rw [show j = a 0 7 by omega] at hH ⊢
    simp only [Nat.lt_irrefl, decide_false, cond_false]
    exact ⟨σ, rfl, hH, ab_F.rf⟩
  | succ n ih =>
    intro j σ u2 u3 u4 u5 hj hH
    rw [bb_104_2 _ _ _ ho]
    have hb := hG.mk j
    have h7 := hH 0 7 rfl
    have h70 : ab_mk a j 0 7 = a 0 7 := ab_mk_ne _ _ _ (by decide) (by decide) j
    rw [Nat.add_zero, h70] at h7
    have ht := hH 0 4 rfl
    rw [Nat.add_zero] at ht
    have hc := hG.2.2.1
    have hj8 : j < 8 := by omega
    have bt := hb.2.1
    have bg := ab_gives_le hb hj8
    have hgm : ab_gives (ab_mk a j) j * ab_mk a j 0 4 ≤ 3752 * 99 := Nat.mul_le_mul bg bt
    have hgl : ab_gives (ab_mk a j) j * ab_mk a j 0 4 / 100 ≤ ab_gives (ab_mk a j) j := by
      have : ab_gives (ab_mk a j) j * ab_mk a j 0 4 ≤ ab_gives (ab_mk a j) j * 100 := Nat.mul_le_mul_left _ (by omega)
      omega
    have hl : ab_left (ab_mk a j) j ≤ 3752 := by unfold ab_left; omega
    have e1 := hc_gives X ho hH hb hj8
    have e2 := hc_beside X ho hH hb hj8
    have hj' : decide (j < a 0 7) = true := decide_eq_true (by omega)
    simp (disch := omega) only [h7, bn_lt, hj', cond_true, e1, e2, bm_bI_some, ht, bn_mul, bn_div, bn_sub]
    have hlw : ab_gives (ab_mk a j) j - ab_gives (ab_mk a j) j * ab_mk a j 0 4 / 100 = ab_left (ab_mk a j) j := rfl
    simp only [hlw]
    obtain ⟨-, c5, c6, -⟩ := hb.2.2.2.2.2 j hj8
    have h6 := hH 6 j (ab_w8 (by decide) (by decide) hj8)
    have hin : bm_in (nI j) 8 = true := bn_inT hj8 (by decide)
    by_cases hbes : ab_b (ab_mk a j) j < ab_mk a j 0 7
    · have hb8 : ab_b (ab_mk a j) j < 8 := by rw [h70] at hbes; omega
      have hne : decide (nI (ab_b (ab_mk a j) j) = -nI 1) = false := by
        apply decide_eq_false
        intro q
        have := congrArg Int32.toInt q
        rw [bn_toInt (by omega)] at this
        have h2 : (-nI 1 : Int32).toInt = -1 := by decide
        omega
      have e3 := hc_third X ho hH hb hj8 hb8
      simp only [hbes, if_true, hne, cond_false, e3, bm_bI_some]
      obtain ⟨τ1, g1, g2, g3⟩ := hc_fill X ho hH hb (k := (ab_mk a j 6 j + ab_mk a j 6 (ab_b (ab_mk a j) j)) % 12) (v := ab_left (ab_mk a j) j / 3) (by omega) (by omega)
      simp only [g1, bm_bV_some]
      rw [bb_104_41 _ _ _ ho]
      have h6' := g2 6 j (ab_w8 (by decide) (by decide) hj8)
      have h6s : ab_fill (ab_mk a j) ((ab_mk a j 6 j + ab_mk a j 6 (ab_b (ab_mk a j) j)) % 12) (ab_left (ab_mk a j) j / 3) 6 j = ab_mk a j 6 j := ab_set_nc _ _ (by decide)
      rw [h6s] at h6'
      obtain ⟨τ2, k1, k2, k3⟩ := hc_fill X ho g2 (hb.fill _ _) (k := ab_mk a j 6 j) (v := ab_left (ab_mk a j) j - ab_left (ab_mk a j) j / 3) (by omega) (by omega)
      simp (disch := omega) only [hin, bm_gd_t, bn_clamp, h6', k1, bm_bV_some, bn_add]
      obtain ⟨τ3, l1, l2, l3⟩ := ih (j + 1) (bm_up τ2 (o + 9) j (nI 0)) _ (.int (nI (ab_left (ab_mk a j) j - ab_left (ab_mk a j) j / 3))) (.int (nI (ab_b (ab_mk a j) j))) _ (by omega) (by
        show ab_H o _ (ab_mk1 (ab_mk a j) j)
        unfold ab_mk1
        rw [if_pos hbes]
        exact k2.up 9 j 0)
      exact ⟨τ3, l1, l2, (((g3.tr k3).up (by decide) _ _).tr l3)⟩
    · have hne : decide ((-nI 1 : Int32) = -nI 1) = true := decide_eq_true rfl
      simp only [hbes, if_false, hne, cond_true]
      rw [bb_104_41 _ _ _ ho]
      obtain ⟨τ2, k1, k2, k3⟩ := hc_fill X ho hH hb (k := ab_mk a j 6 j) (v := ab_left (ab_mk a j) j) (by omega) (by omega)
      simp (disch := omega) only [hin, bm_gd_t, bn_clamp, h6, k1, bm_bV_some, bn_add]
      obtain ⟨τ3, l1, l2, l3⟩ := ih (j + 1) (bm_up τ2 (o + 9) j (nI 0)) _ (.int (nI (ab_left (ab_mk a j) j))) (.int (-nI 1)) _ (by omega) (by
        show ab_H o _ (ab_mk1 (ab_mk a j) j)
        unfold ab_mk1
        rw [if_neg hbes]
        exact k2.up 9 j 0)
      exact ⟨τ3, l1, l2, ((k3.up (by decide) _ _).tr l3)⟩
end
section
/-! AN HOUR of the class's herd, whole -/
theorem bm_bo_bi' (b : Bool) : bm_bo (bm_bi b) = true := bm_bo_bi b
theorem hc_grow (X : bm_X) {o : Nat} (ho : bm_isH o) {a : ab_T} (hG : ab_G a) (x1 : Int32) : ∀ (n j : Nat) (σ : bm_M), j + n = 12 → ab_H o σ (ab_gr a j) → ∃ τ, bm_ev X 141 18 [.ref o, .int x1, .int (nI j)] [] σ = bm_ev X 141 18 [.ref o, .int x1, .int (nI 12)] [] τ ∧ ab_H o τ (ab_gr a 12) ∧ ab_F o σ τ := by
  intro n
  induction n with
  | zero =>
    intro j σ hj hH
    rw [show j = 12 by omega] at hH ⊢
    exact ⟨σ, rfl, hH, ab_F.rf⟩
  | succ n ih =>
    intro j σ hj hH
    rw [bb_141_18 _ _ _ ho]
    have h1 := hH 1 j (ab_w1 (by omega))
    have h3 := hH 0 3 rfl
    rw [Nat.add_zero] at h3
    have b1 := (hG.gr j).2.2.2.1 j (by omega)
    have b3 := (hG.gr j).1
    have hj' : decide (j < 12) = true := decide_eq_true (by omega)
    simp (disch := omega) only [bn_lt, hj', cond_true, bn_inT, bn_clamp, h1, h3, bm_gd_t, bn_add, bn_min]
    obtain ⟨τ, e1, e2, e3⟩ := ih (j + 1) (bm_up σ (o + 1) j (nI (min 99 (ab_gr a j 1 j + ab_gr a j 0 3)))) (by omega) (hH.up 1 j _)
    exact ⟨τ, e1, e2, (ab_F.rf.up (by decide) _ _).tr e3⟩
theorem hc_hour (X : bm_X) {o : Nat} (ho : bm_isH o) {σ : bm_M} {a : ab_T} (hH : ab_H o σ a) (hG : ab_G a) (hh : a 0 5 < 99999) : ∃ τ, bm_ev X 141 0 [.ref o, .null, .null] [] σ = some (.int (bm_bi (ab_wand a)), τ) ∧ ab_H o τ (ab_hr a) ∧ ab_F o σ τ := by
  rw [bb_141_0 _ _ _ ho]
  have hc := hG.2.2.1
  obtain ⟨τ1, e1, e2, e3⟩ := hc_spends X ho hG (a 0 7) 0 σ (by omega) hH
  have e1 : bm_ev X 141 4 [.ref o, .int (nI 0), .int (nI 0)] [] σ = bm_ev X 141 18 [.ref o, .int (bm_bi (ab_wand a)), .int (nI 0)] [] τ1 := e1
  rw [e1]
  have hG1 := hG.sp (a 0 7) hc
  obtain ⟨τ2, f1, f2, f3⟩ := hc_grow X ho hG1 (bm_bi (ab_wand a)) 12 0 τ1 (by omega) e2
  rw [f1, bb_141_18 _ _ _ ho]
  have h5 := f2 0 5 rfl
  rw [Nat.add_zero, ab_gr_ne _ _ _ (by decide), ab_sp_0] at h5
  have hz : decide (nI 12 < nI 12) = false := by decide
  have hH3 := f2.up 0 5 (a 0 5 + 1)
  rw [Nat.add_zero] at hH3
  have ht : ab_set (ab_gr (ab_sp a (a 0 7)) 12) 0 5 (a 0 5 + 1) = ab_tick (ab_gr (ab_sp a (a 0 7)) 12) := by
    unfold ab_tick
    rw [ab_gr_ne _ _ _ (by decide), ab_sp_0]
  rw [ht] at hH3
  have hF3 : ab_F o σ (bm_up τ2 o 5 (nI (a 0 5 + 1))) := by
    have := (e3.tr f3).up (c := 0) (by decide) 5 (nI (a 0 5 + 1))
    rw [Nat.add_zero] at this
    exact this
  have hm : min 99999 (a 0 5 + 1) = a 0 5 + 1 := by omega
  simp (disch := omega) only [hz, cond_false, h5, bn_add, bn_min, hm, bm_up_at, bn_rem, bn_eq0, bm_bo_bi, bm_gd_t]
  by_cases h6 : (a 0 5 + 1) % 6 = 0
  · have h70 : ab_tick (ab_gr (ab_sp a (a 0 7)) 12) 0 7 = a 0 7 := by
      unfold ab_tick
      rw [ab_set_ni _ _ (by decide), ab_gr_ne _ _ _ (by decide), ab_sp_0]
    obtain ⟨τ4, g1, g2, g3⟩ := hc_milks X ho ((hG1.gr 12).tick) (a 0 7) 0 (bm_up τ2 o 5 (nI (a 0 5 + 1))) .null .null .null .null (by rw [h70]; omega) hH3
    rw [bb_104_0 _ _ _ ho, g1]
    simp only [h6, decide_true, cond_true, bm_bV_some]
    refine ⟨τ4, rfl, ?_, hF3.tr g3⟩
    unfold ab_hr
    rw [if_pos h6]
    rw [h70] at g2
    exact g2
  · simp only [h6, decide_false, cond_false]
    refine ⟨_, rfl, ?_, hF3⟩
    unfold ab_hr
    rw [if_neg h6]
    exact hH3
theorem hc_hours (X : bm_X) {o : Nat} (ho : bm_isH o) {a : ab_T} (hG : ab_G a) {m : Nat} (hm : m ≤ 1000) (hh : a 0 5 + m ≤ 99999) : ∀ (n j : Nat) (σ : bm_M), j + n = m → ab_H o σ (ab_hs a j) → ∃ τ, bm_ev X 153 2 [.ref o, .int (nI m), .int (nI j)] [] σ = some (.null, τ) ∧ ab_H o τ (ab_hs a m) ∧ ab_F o σ τ := by
  intro n
  induction n with
  | zero =>
    intro j σ hj hH
    rw [bb_153_2 _ _ _ ho]
    rw [show j = m by omega] at hH ⊢
    simp (disch := omega) only [bn_lt, Nat.lt_irrefl, decide_false, cond_false]
    exact ⟨σ, rfl, hH, ab_F.rf⟩
  | succ n ih =>
    intro j σ hj hH
    rw [bb_153_2 _ _ _ ho]
    obtain ⟨τ, e1, e2, e3⟩ := hc_hour X ho hH (hG.hs j) (by rw [ab_hs_hour]; omega)
    have hj' : decide (j < m) = true := decide_eq_true (by omega)
    simp (disch := omega) only [bn_lt, hj', cond_true, e1, bm_bI_some, bn_add]
    obtain ⟨τ2, f1, f2, f3⟩ := ih (j + 1) τ (by omega) e2
    exact ⟨τ2, f1, f2, e3.tr f3⟩
theorem hc_pass (X : bm_X) {o : Nat} (ho : bm_isH o) {σ : bm_M} {a : ab_T} (hH : ab_H o σ a) (hG : ab_G a) {m : Nat} (hm : m ≤ 1000) (hh : a 0 5 + m ≤ 99999) : ∃ τ, bm_ev X 153 0 [.ref o, .int (nI m), .null] [] σ = some (.null, τ) ∧ ab_H o τ (ab_hs a m) ∧ ab_F o σ τ := by
  rw [bb_153_0 _ _ _ ho]
  exact hc_hours X ho hG hm hh m 0 σ (by omega) hH
end
section
/-! THE REFERENCE's herd -/
def ab_N (σ τ : bm_M) : Prop := ∀ q, q ≠ 46 → τ q = σ q
theorem ab_N.rf {σ : bm_M} : ab_N σ σ := fun _ _ => rfl
theorem ab_N.tr {σ τ ρ : bm_M} (h : ab_N σ τ) (h' : ab_N τ ρ) : ab_N σ ρ := fun q hq => (h' q hq).trans (h q hq)
theorem ab_N.up {σ τ : bm_M} (h : ab_N σ τ) (i : Nat) (v : Int32) : ab_N σ (bm_up τ 46 i v) := fun q hq => by
  rw [bm_up_ne τ i v hq]
  exact h q hq
theorem hm_itsw (X : bm_X) {σ : bm_M} {a : ab_T} (hS : ab_S 46 σ a) (hG : ab_G a) {k : Nat} {w : Nat} (hw : w < 7) (hk : k < 8) : bm_ev X 34 0 [.ref 45, .int (nI k), .int (nI w)] [] σ = some (.int (nI (a (w + 4) k)), σ) := by
  rw [bb_34_0]
  have h := hS (w + 4) k (ab_w8 (by omega) (by omega) hk)
  have hl : ab_ly (w + 4) k = 29 + 7 * k + w := by
    unfold ab_ly
    split <;> omega
  rw [hl] at h
  simp (disch := omega) only [bn_mul, bn_add, bn_inT, bn_clamp, h, bm_gd_t]
theorem hm_it0 (X : bm_X) {σ : bm_M} {a : ab_T} (hS : ab_S 46 σ a) (hG : ab_G a) {k : Nat} (hk : k < 8) : bm_ev X 34 0 [.ref 45, .int (nI k), .int (nI 0)] [] σ = some (.int (nI (a 4 k)), σ) := hm_itsw X hS hG (by decide) hk
theorem hm_it1 (X : bm_X) {σ : bm_M} {a : ab_T} (hS : ab_S 46 σ a) (hG : ab_G a) {k : Nat} (hk : k < 8) : bm_ev X 34 0 [.ref 45, .int (nI k), .int (nI 1)] [] σ = some (.int (nI (a 5 k)), σ) := hm_itsw X hS hG (by decide) hk
theorem hm_it2 (X : bm_X) {σ : bm_M} {a : ab_T} (hS : ab_S 46 σ a) (hG : ab_G a) {k : Nat} (hk : k < 8) : bm_ev X 34 0 [.ref 45, .int (nI k), .int (nI 2)] [] σ = some (.int (nI (a 6 k)), σ) := hm_itsw X hS hG (by decide) hk
theorem hm_it3 (X : bm_X) {σ : bm_M} {a : ab_T} (hS : ab_S 46 σ a) (hG : ab_G a) {k : Nat} (hk : k < 8) : bm_ev X 34 0 [.ref 45, .int (nI k), .int (nI 3)] [] σ = some (.int (nI (a 7 k)), σ) := hm_itsw X hS hG (by decide) hk
theorem hm_it4 (X : bm_X) {σ : bm_M} {a : ab_T} (hS : ab_S 46 σ a) (hG : ab_G a) {k : Nat} (hk : k < 8) : bm_ev X 34 0 [.ref 45, .int (nI k), .int (nI 4)] [] σ = some (.int (nI (a 8 k)), σ) := hm_itsw X hS hG (by decide) hk
theorem hm_it5 (X : bm_X) {σ : bm_M} {a : ab_T} (hS : ab_S 46 σ a) (hG : ab_G a) {k : Nat} (hk : k < 8) : bm_ev X 34 0 [.ref 45, .int (nI k), .int (nI 5)] [] σ = some (.int (nI (a 9 k)), σ) := hm_itsw X hS hG (by decide) hk
theorem hm_it6 (X : bm_X) {σ : bm_M} {a : ab_T} (hS : ab_S 46 σ a) (hG : ab_G a) {k : Nat} (hk : k < 8) : bm_ev X 34 0 [.ref 45, .int (nI k), .int (nI 6)] [] σ = some (.int (nI (a 10 k)), σ) := hm_itsw X hS hG (by decide) hk
theorem hm_setsw (X : bm_X) {σ : bm_M} {a : ab_T} (hS : ab_S 46 σ a) {k w : Nat} (v : Nat) (hw : w < 7) (hk : k < 8) : ∃ τ, bm_ev X 35 0 [.ref 45, .int (nI k), .int (nI w), .int (nI v)] [] σ = some (.null, τ) ∧ ab_S 46 τ (ab_set a (w + 4) k v) ∧ ab_N σ τ := by
  rw [bb_35_0]
  have h := hS.up v (c := w + 4) (i := k) (ab_w8 (by omega) (by omega) hk)
  have hl : ab_ly (w + 4) k = 29 + 7 * k + w := by
    unfold ab_ly
    split <;> omega
  rw [hl] at h
  simp (disch := omega) only [bn_mul, bn_add, bn_inT, bn_clamp, bm_gd_t]
  exact ⟨_, rfl, h, ab_N.rf.up _ _⟩
theorem hm_othl (X : bm_X) {σ : bm_M} {a : ab_T} (hS : ab_S 46 σ a) (hG : ab_G a) {k : Nat} (hk : k < 8) : ∀ (n j : Nat), j + n = a 0 7 → bm_ev X 77 4 [.ref 45, .int (nI k), .int (nI (ab_oth a k j)), .int (nI j)] [] σ = some (.int (nI (ab_oth a k (a 0 7))), σ) := by
  intro n
  induction n with
  | zero =>
    intro j hj
    rw [bb_77_4]
    have h7 : σ 46 2 = nI (a 0 7) := hS 0 7 rfl
    have hc := hG.2.2.1
    rw [show j = a 0 7 by omega]
    simp (disch := omega) only [bn_inT, bn_clamp, h7, bm_gd_t, bn_lt, Nat.lt_irrefl, decide_false, cond_false]
  | succ n ih =>
    intro j hj
    rw [bb_77_4]
    have h7 : σ 46 2 = nI (a 0 7) := hS 0 7 rfl
    have hc := hG.2.2.1
    have hj8 : j < 8 := by omega
    obtain ⟨-, b5, -⟩ := hG.2.2.2.2.2 j hj8
    obtain ⟨-, c5, -⟩ := hG.2.2.2.2.2 k hk
    have hj' : decide (j < a 0 7) = true := decide_eq_true (by omega)
    simp (disch := omega) only [bn_inT, bn_clamp, h7, bm_gd_t, bn_lt, hj', cond_true, hm_it1 X hS hG hj8, hm_it1 X hS hG hk, bm_bI_some, bn_eq, bb_77_25, bb_77_26, bn_add]
    have := ih (j + 1) (by omega)
    simp only [ab_oth] at this
    by_cases e : j = k
    · simp [e] at this ⊢
      exact this
    · by_cases e2 : a 5 j = a 5 k
      · simp [e, e2] at this ⊢
        exact this
      · simp [e, e2] at this ⊢
        exact this
theorem hm_others (X : bm_X) {σ : bm_M} {a : ab_T} (hS : ab_S 46 σ a) (hG : ab_G a) {k : Nat} (hk : k < 8) : bm_ev X 77 0 [.ref 45, .int (nI k), .null, .null] [] σ = some (.int (nI (ab_oth a k (a 0 7))), σ) := by
  rw [bb_77_0]
  exact hm_othl X hS hG hk (a 0 7) 0 (by omega)
set_option maxHeartbeats 2000000 in
theorem hm_rings (X : bm_X) {σ : bm_M} {a : ab_T} (hS : ab_S 46 σ a) (hG : ab_G a) {k : Nat} (hk : k < 8) : bm_ev X 122 0 [.ref 45, .int (nI k), .null, .null] [] σ = some (.int (nI (ab_rings a k)), σ) := by
  rw [bb_122_0]
  have hc := hG.2.2.1
  obtain ⟨b4, b5, b6, b7, b8, b9, b10⟩ := hG.2.2.2.2.2 k hk
  have h1 : σ 46 (5 + a 5 k) = nI (a 1 (a 5 k)) := hS 1 (a 5 k) (ab_w1 (by omega))
  have b1 := hG.2.2.2.1 (a 5 k) (by omega)
  have ht : σ 46 4 = nI (a 0 4) := hS 0 4 rfl
  have bt := hG.2.1
  have bo := ab_oth_le a k (a 0 7)
  simp (disch := omega) only [hm_it0 X hS hG hk, hm_it1 X hS hG hk, hm_it3 X hS hG hk, hm_it4 X hS hG hk, hm_others X hS hG hk, bm_bI_some, bn_add, bn_inT, bn_clamp, h1, ht, bm_gd_t, bn_eq, bn_div, bn_max0]
  rcases (show a 4 k = 0 ∨ a 4 k = 1 ∨ a 4 k = 2 ∨ a 4 k = 3 ∨ a 4 k = 4 ∨ a 4 k = 5 ∨ a 4 k = 6 by omega) with h | h | h | h | h | h | h <;> simp [h, ab_rings, ab_plain]
theorem hm_eats (X : bm_X) {σ : bm_M} {a : ab_T} (hS : ab_S 46 σ a) (hG : ab_G a) {k : Nat} (hk : k < 8) : bm_ev X 78 0 [.ref 45, .int (nI k)] [] σ = some (.int (nI (ab_eats a k)), σ) := by
  rw [bb_78_0]
  obtain ⟨b4, -⟩ := hG.2.2.2.2.2 k hk
  simp (disch := omega) only [hm_it0 X hS hG hk, bm_bI_some, bn_eq]
  rcases (show a 4 k = 0 ∨ a 4 k = 1 ∨ a 4 k = 2 ∨ a 4 k = 3 ∨ a 4 k = 4 ∨ a 4 k = 5 ∨ a 4 k = 6 by omega) with h | h | h | h | h | h | h <;> simp [h, ab_eats]
set_option maxHeartbeats 2000000 in
theorem hm_gives (X : bm_X) {σ : bm_M} {a : ab_T} (hS : ab_S 46 σ a) (hG : ab_G a) {k : Nat} (hk : k < 8) : bm_ev X 79 0 [.ref 45, .int (nI k), .null, .null, .null] [] σ = some (.int (nI (ab_gives a k)), σ) := by
  rw [bb_79_0]
  obtain ⟨b4, b5, b6, b7, b8, b9, b10⟩ := hG.2.2.2.2.2 k hk
  simp (disch := omega) only [hm_it0 X hS hG hk, hm_it5 X hS hG hk, bm_bI_some, bn_eq, bn_div, bn_add, bn_max0]
  rcases (show a 4 k = 0 ∨ a 4 k = 1 ∨ a 4 k = 2 ∨ a 4 k = 3 ∨ a 4 k = 4 ∨ a 4 k = 5 ∨ a 4 k = 6 by omega) with h | h | h | h | h | h | h <;> simp [h, ab_gives]
/-- downwards: what is kept when those from m on are seen -/
def ab_dn (a : ab_T) (k m : Nat) : Int32 := if ab_bes a k m (a 0 7 - m) < a 0 7 then nI (ab_bes a k m (a 0 7 - m)) else -nI 1
theorem hm_besl (X : bm_X) {σ : bm_M} {a : ab_T} (hS : ab_S 46 σ a) (hG : ab_G a) {k : Nat} (hk : k < 8) : ∀ m, m ≤ a 0 7 → bm_ev X 80 9 [.ref 45, .int (nI k), .int (ab_dn a k m), .int (nI m - nI 1)] [] σ = some (.int (ab_dn a k 0), σ) := by
  intro m
  induction m with
  | zero =>
    intro _
    rw [bb_80_9, show (nI 0 - nI 1 : Int32) = -nI 1 from by decide, show decide ((-nI 1 : Int32) < 0) = true from by decide]
    rfl
  | succ m ih =>
    intro hm
    have hc := hG.2.2.1
    have hm8 : m < 8 := by omega
    rw [bb_80_9, bn_sub (by omega), Nat.add_sub_cancel]
    obtain ⟨-, b5, b6, -⟩ := hG.2.2.2.2.2 m hm8
    obtain ⟨-, c5, c6, -⟩ := hG.2.2.2.2.2 k hk
    simp (disch := omega) only [bn_lt0, cond_false, hm_it1 X hS hG hm8, hm_it1 X hS hG hk, hm_it2 X hS hG hm8, hm_it2 X hS hG hk, bm_bI_some, bn_eq, bb_80_31, bb_80_32]
    have := ih (by omega)
    have hd : ab_dn a k m = if a 5 m = a 5 k ∧ ¬ a 6 m = a 6 k then nI m else ab_dn a k (m + 1) := by
      unfold ab_dn
      rw [show a 0 7 - m = (a 0 7 - (m + 1)) + 1 by omega, ab_bes]
      by_cases e : a 5 m = a 5 k ∧ ¬ a 6 m = a 6 k
      · rw [if_pos e, if_pos e, if_pos (by omega)]
      · rw [if_neg e, if_neg e]
    rw [hd] at this
    by_cases e1 : a 5 m = a 5 k
    · by_cases e2 : a 6 m = a 6 k
      · simp [e1, e2] at this ⊢
        exact this
      · simp [e1, e2] at this ⊢
        exact this
    · simp [e1] at this ⊢
      exact this
theorem hm_beside (X : bm_X) {σ : bm_M} {a : ab_T} (hS : ab_S 46 σ a) (hG : ab_G a) {k : Nat} (hk : k < 8) : bm_ev X 80 0 [.ref 45, .int (nI k), .null, .null] [] σ = some (.int (if ab_b a k < a 0 7 then nI (ab_b a k) else -nI 1), σ) := by
  rw [bb_80_0]
  have h7 : σ 46 2 = nI (a 0 7) := hS 0 7 rfl
  have hc := hG.2.2.1
  simp (disch := omega) only [bn_inT, bn_clamp, h7, bm_gd_t]
  have := hm_besl X hS hG hk (a 0 7) (Nat.le_refl _)
  have hd : ab_dn a k (a 0 7) = -nI 1 := by
    unfold ab_dn
    rw [Nat.sub_self, ab_bes, if_neg (by omega)]
  rw [hd] at this
  rw [this]
  rfl
theorem hm_goesOn (X : bm_X) {σ : bm_M} {a : ab_T} (hS : ab_S 46 σ a) (hG : ab_G a) {k : Nat} (hk : k < 8) : ∃ τ, bm_ev X 84 0 [.ref 45, .int (nI k)] [] σ = some (.null, τ) ∧ ab_S 46 τ (ab_wan a k) ∧ ab_N σ τ := by
  rw [bb_84_0]
  obtain ⟨-, b5, -⟩ := hG.2.2.2.2.2 k hk
  obtain ⟨τ, e1, e2, e3⟩ := hm_setsw X hS (k := k) (w := 1) ((a 5 k + 1) % 12) (by decide) hk
  simp (disch := omega) only [hm_it1 X hS hG hk, bm_bI_some, bn_add, bn_rem, e1, bm_bV_some]
  exact ⟨τ, rfl, e2, e3⟩
theorem hm_fills (X : bm_X) {σ : bm_M} {a : ab_T} (hS : ab_S 46 σ a) (hG : ab_G a) {k : Nat} {v : Nat} (hk : k < 12) (hv : v < 100000) : ∃ τ, bm_ev X 85 0 [.ref 45, .int (nI k), .int (nI v)] [] σ = some (.null, τ) ∧ ab_S 46 τ (ab_fill a k v) ∧ ab_N σ τ := by
  rw [bb_85_0]
  have h2 : σ 46 (17 + k) = nI (a 2 k) := hS 2 k (ab_w2 hk)
  have b2 := hG.2.2.2.2.1 k hk
  have hu := hS.up (c := 2) (i := k) (min 99999 (a 2 k + v)) (ab_w2 hk)
  have hu : ab_S 46 (bm_up σ 46 (17 + k) (nI (min 99999 (a 2 k + v)))) (ab_fill a k v) := hu
  simp (disch := omega) only [bn_add, bn_inT, bn_clamp, h2, bm_gd_t, bn_min]
  exact ⟨_, rfl, hu, ab_N.rf.up _ _⟩
end
section
/-! AN HOUR of the reference -/
def ab_E (σ τ : bm_M) : Prop := (∀ q, q ≠ 46 → q ≠ 45 → τ q = σ q) ∧ ∀ i, i ≠ 5 → τ 45 i = σ 45 i
theorem ab_E.rf {σ : bm_M} : ab_E σ σ := ⟨fun _ _ _ => rfl, fun _ _ => rfl⟩
theorem ab_E.tr {σ τ ρ : bm_M} (h : ab_E σ τ) (h' : ab_E τ ρ) : ab_E σ ρ := ⟨fun q h1 h2 => (h'.1 q h1 h2).trans (h.1 q h1 h2), fun i hi => (h'.2 i hi).trans (h.2 i hi)⟩
theorem ab_N.E {σ τ : bm_M} (h : ab_N σ τ) : ab_E σ τ := ⟨fun q h1 _ => h q h1, fun i _ => by rw [h 45 (by decide)]⟩
theorem ab_E.go {σ τ : bm_M} (h : ab_E σ τ) (v : Int32) : ab_E σ (bm_up τ 45 5 v) := ⟨fun q h1 h2 => by rw [bm_up_ne τ 5 v h2]; exact h.1 q h1 h2, fun i hi => by rw [bm_up_ni τ v hi]; exact h.2 i hi⟩
theorem hm_wear (X : bm_X) {σ : bm_M} {a : ab_T} (hS : ab_S 46 σ a) (hG : ab_G a) {k : Nat} (hk : k < 8) (u2 u3 u4 : Value) : ∃ τ, bm_ev X 147 60 [.ref 45, .int (nI k), u2, u3, u4] [] σ = some (.null, τ) ∧ ab_S 46 τ (ab_wea a k) ∧ ab_N σ τ := by
  rw [bb_147_60]
  obtain ⟨-, -, -, -, b8, -⟩ := hG.2.2.2.2.2 k hk
  obtain ⟨τ, e1, e2, e3⟩ := hm_setsw X hS (k := k) (w := 4) (min 999 (a 8 k + 1)) (by decide) hk
  simp (disch := omega) only [hm_it4 X hS hG hk, bm_bI_some, bn_add, bn_min, e1, bm_bV_some]
  exact ⟨τ, rfl, e2, e3⟩
theorem hm_eatgo (X : bm_X) {σ : bm_M} {a : ab_T} (hS : ab_S 46 σ a) (hG : ab_G a) {k : Nat} (hk : k < 8) (u2 u3 u4 : Value) {g : Bool} (hg : σ 45 5 = bm_bi g) : ∃ τ, bm_ev X 147 19 [.ref 45, .int (nI k), u2, u3, u4] [] σ = some (.null, τ) ∧ ab_S 46 τ (ab_wea (if ab_sh a k = true then ab_wan (ab_sp2 a k) k else ab_sp2 a k) k) ∧ ab_E σ τ ∧ τ 45 5 = bm_bi (g || ab_sh a k) := by
  rw [bb_147_19]
  obtain ⟨-, b5, -⟩ := hG.2.2.2.2.2 k hk
  have h1 : σ 46 (5 + a 5 k) = nI (a 1 (a 5 k)) := hS 1 (a 5 k) (ab_w1 (by omega))
  have b1 := hG.2.2.2.1 (a 5 k) (by omega)
  have be := ab_eats_le a k
  have hu : ab_S 46 (bm_up σ 46 (5 + a 5 k) (nI (a 1 (a 5 k) - ab_eats a k))) (ab_sp2 a k) := hS.up (c := 1) (i := a 5 k) (a 1 (a 5 k) - ab_eats a k) (ab_w1 (by omega))
  have hG2 := hG.sp2 hk
  have hz1 : decide (nI 1 = 0) = false := by decide
  have hz0 : decide (nI 0 = 0) = true := by decide
  simp (disch := omega) only [hm_it1 X hS hG hk, hm_eats X hS hG hk, bm_bI_some, bn_add, bn_inT, bn_clamp, h1, bm_gd_t, bn_lt, bb_147_39, bn_max0, hz1, hz0, cond_true, cond_false, bm_bo_1]
  have hF2 : ab_N σ (bm_up σ 46 (5 + a 5 k) (nI (a 1 (a 5 k) - ab_eats a k))) := ab_N.rf.up _ _
  by_cases hs : ab_sh a k = true
  · have hs' : decide (a 1 (a 5 k) < ab_eats a k) = true := hs
    obtain ⟨τ, e1, e2, e3⟩ := hm_goesOn X hu hG2 hk
    simp only [hs', cond_true, e1, bm_bV_some, hs, if_true]
    obtain ⟨τ2, f1, f2, f3⟩ := hm_wear X (e2.ne 5 (nI 1) (show 46 ≠ 45 by decide)) (hG2.wan k) hk (.int (nI (5 + a 5 k))) (.int (nI (ab_eats a k))) (.int (nI 1))
    refine ⟨τ2, f1, f2, (((hF2.tr e3).E).go (nI 1)).tr f3.E, ?_⟩
    rw [f3 45 (by decide), bm_up_at]
    simp [bm_bi]
  · have hs' : decide (a 1 (a 5 k) < ab_eats a k) = false := by simpa [ab_sh] using hs
    have hs2 : ab_sh a k = false := by simpa using hs
    simp only [hs', cond_false, hs2, Bool.false_eq_true, if_false]
    obtain ⟨τ2, f1, f2, f3⟩ := hm_wear X hu hG2 hk (.int (nI (5 + a 5 k))) (.int (nI (ab_eats a k))) (.int (nI 0))
    refine ⟨τ2, f1, f2, (hF2.tr f3).E, ?_⟩
    rw [f3 45 (by decide), hF2 45 (by decide), hg]
    simp
theorem hm_spend1 (X : bm_X) {σ : bm_M} {a : ab_T} (hS : ab_S 46 σ a) (hG : ab_G a) {k : Nat} (hk : k < 8) {g : Bool} (hg : σ 45 5 = bm_bi g) : ∃ τ, bm_ev X 147 0 [.ref 45, .int (nI k), .null, .null, .null] [] σ = some (.null, τ) ∧ ab_S 46 τ (ab_spend a k) ∧ ab_E σ τ ∧ τ 45 5 = bm_bi (g || ab_sh a k) := by
  rw [bb_147_0]
  obtain ⟨-, -, -, -, -, b9, b10⟩ := hG.2.2.2.2.2 k hk
  have br := ab_rings_le hG hk
  by_cases e : a 10 k = 0
  · have hs1 : ab_sp1 a k = ab_set a 9 k (min 9999 (a 9 k + ab_rings a k)) := if_pos e
    obtain ⟨τ, e1, e2, e3⟩ := hm_setsw X hS (k := k) (w := 5) (min 9999 (a 9 k + ab_rings a k)) (by decide) hk
    have e2 : ab_S 46 τ (ab_set a 9 k (min 9999 (a 9 k + ab_rings a k))) := e2
    rw [← hs1] at e2
    simp (disch := omega) only [hm_it6 X hS hG hk, hm_it5 X hS hG hk, hm_rings X hS hG hk, bm_bI_some, bn_eq0, e, decide_true, cond_true, bn_add, bn_min, e1, bm_bV_some]
    obtain ⟨τ2, f1, f2, f3, f4⟩ := hm_eatgo X e2 (hG.sp1 k) hk .null .null .null (g := g) (by rw [e3 45 (by decide)]; exact hg)
    rw [ab_sh_sp1] at f2 f4
    exact ⟨τ2, f1, f2, e3.E.tr f3, f4⟩
  · have hs1 : ab_sp1 a k = a := if_neg e
    simp (disch := omega) only [hm_it6 X hS hG hk, bm_bI_some, bn_eq0, e, decide_false, cond_false]
    obtain ⟨τ2, f1, f2, f3, f4⟩ := hm_eatgo X hS hG hk .null .null .null hg
    refine ⟨τ2, f1, ?_, f3, f4⟩
    unfold ab_spend
    rw [hs1]
    exact f2
theorem hm_spends (X : bm_X) {a : ab_T} (hG : ab_G a) : ∀ (n j : Nat) (σ : bm_M), j + n = a 0 7 → ab_S 46 σ (ab_sp a j) → σ 45 5 = bm_bi (ab_wn a j) → ∃ τ, bm_ev X 160 5 [.ref 45, .int (nI j)] [] σ = bm_ev X 160 18 [.ref 45, .int (nI 0)] [] τ ∧ ab_S 46 τ (ab_sp a (a 0 7)) ∧ ab_E σ τ ∧ τ 45 5 = bm_bi (ab_wand a) := by
  intro n
  induction n with
  | zero =>
    intro j σ hj hS hg
    rw [bb_160_5]
    have h7 : σ 46 2 = nI (ab_sp a j 0 7) := hS 0 7 rfl
    rw [ab_sp_0] at h7
    have hc := hG.2.2.1
    rw [show j = a 0 7 by omega] at hS hg ⊢
    simp (disch := omega) only [bn_inT, bn_clamp, h7, bm_gd_t, bn_lt, Nat.lt_irrefl, decide_false, cond_false]
    exact ⟨σ, rfl, hS, ab_E.rf, hg⟩
  | succ n ih =>
    intro j σ hj hS hg
    rw [bb_160_5]
    have h7 : σ 46 2 = nI (ab_sp a j 0 7) := hS 0 7 rfl
    rw [ab_sp_0] at h7
    have hc := hG.2.2.1
    have hj' : decide (j < a 0 7) = true := decide_eq_true (by omega)
    obtain ⟨τ, e1, e2, e3, e4⟩ := hm_spend1 X hS (hG.sp j (by omega)) (k := j) (by omega) hg
    simp (disch := omega) only [bn_inT, bn_clamp, h7, bm_gd_t, bn_lt, hj', cond_true, e1, bm_bV_some, bn_add]
    obtain ⟨τ2, f1, f2, f3, f4⟩ := ih (j + 1) τ (by omega) e2 e4
    exact ⟨τ2, f1, f2, e3.tr f3, f4⟩
theorem hm_grow (X : bm_X) {a : ab_T} (hG : ab_G a) : ∀ (n j : Nat) (σ : bm_M), j + n = 12 → ab_S 46 σ (ab_gr a j) → ∃ τ, bm_ev X 160 18 [.ref 45, .int (nI j)] [] σ = bm_ev X 160 18 [.ref 45, .int (nI 12)] [] τ ∧ ab_S 46 τ (ab_gr a 12) ∧ ab_N σ τ := by
  intro n
  induction n with
  | zero =>
    intro j σ hj hS
    rw [show j = 12 by omega] at hS ⊢
    exact ⟨σ, rfl, hS, ab_N.rf⟩
  | succ n ih =>
    intro j σ hj hS
    rw [bb_160_18]
    have h1 : σ 46 (5 + j) = nI (ab_gr a j 1 j) := hS 1 j (ab_w1 (by omega))
    have h3 : σ 46 3 = nI (ab_gr a j 0 3) := hS 0 3 rfl
    have b1 := (hG.gr j).2.2.2.1 j (by omega)
    have b3 := (hG.gr j).1
    have hj' : decide (j < 12) = true := decide_eq_true (by omega)
    simp (disch := omega) only [bn_lt, hj', cond_true, bn_add, bn_inT, bn_clamp, h1, h3, bm_gd_t, bn_min]
    obtain ⟨τ, e1, e2, e3⟩ := ih (j + 1) (bm_up σ 46 (5 + j) (nI (min 99 (ab_gr a j 1 j + ab_gr a j 0 3)))) (by omega) (hS.up (c := 1) (i := j) _ (ab_w1 (by omega)))
    exact ⟨τ, e1, e2, (ab_N.rf.up _ _).tr e3⟩
theorem bn_m1_lt : decide ((-nI 1 : Int32) < 0) = true := by decide
theorem hm_milk1 (X : bm_X) {σ : bm_M} {a : ab_T} (hS : ab_S 46 σ a) (hG : ab_G a) {k : Nat} (hk : k < 8) : ∃ τ, bm_ev X 129 0 [.ref 45, .int (nI k), .null, .null, .null, .null] [] σ = some (.null, τ) ∧ ab_S 46 τ (ab_mk1 a k) ∧ ab_N σ τ := by
  rw [bb_129_0]
  have ht : σ 46 4 = nI (a 0 4) := hS 0 4 rfl
  have hc := hG.2.2.1
  have bt := hG.2.1
  have bg := ab_gives_le hG hk
  have hgm : ab_gives a k * a 0 4 ≤ 3752 * 99 := Nat.mul_le_mul bg bt
  have hgl : ab_gives a k * a 0 4 / 100 ≤ ab_gives a k := by
    have : ab_gives a k * a 0 4 ≤ ab_gives a k * 100 := Nat.mul_le_mul_left _ (by omega)
    omega
  have hl : ab_left a k ≤ 3752 := by unfold ab_left; omega
  obtain ⟨-, c5, c6, -⟩ := hG.2.2.2.2.2 k hk
  simp (disch := omega) only [hm_gives X hS hG hk, hm_beside X hS hG hk, bm_bI_some, bn_inT, bn_clamp, bm_gd_t, ht, bn_mul, bn_div, bn_sub]
  have hlw : ab_gives a k - ab_gives a k * a 0 4 / 100 = ab_left a k := rfl
  simp only [hlw]
  by_cases hbes : ab_b a k < a 0 7
  · have hb8 : ab_b a k < 8 := by omega
    obtain ⟨-, d5, d6, -⟩ := hG.2.2.2.2.2 _ hb8
    obtain ⟨τ1, g1, g2, g3⟩ := hm_fills X hS hG (k := (a 6 k + a 6 (ab_b a k)) % 12) (v := ab_left a k / 3) (by omega) (by omega)
    simp (disch := omega) only [hbes, if_true, bn_lt0, cond_false, bb_129_26, hm_it2 X hS hG hk, hm_it2 X hS hG hb8, bm_bI_some, bn_add, bn_rem, g1, bm_bV_some]
    rw [bb_129_43]
    have h6s : ab_fill a ((a 6 k + a 6 (ab_b a k)) % 12) (ab_left a k / 3) 6 k = a 6 k := ab_set_nc _ _ (by decide)
    have i2 := hm_it2 X g2 (hG.fill _ _) hk
    rw [h6s] at i2
    obtain ⟨τ2, k1, k2, k3⟩ := hm_fills X g2 (hG.fill _ _) (k := a 6 k) (v := ab_left a k - ab_left a k / 3) (by omega) (by omega)
    obtain ⟨τ3, l1, l2, l3⟩ := hm_setsw X k2 (k := k) (w := 5) 0 (by decide) hk
    simp (disch := omega) only [i2, bm_bI_some, bn_sub, k1, bm_bV_some, l1]
    refine ⟨τ3, rfl, ?_, (g3.tr k3).tr l3⟩
    unfold ab_mk1
    rw [if_pos hbes]
    exact l2
  · simp (disch := omega) only [hbes, if_false, bn_m1_lt, cond_true, bb_129_26]
    rw [bb_129_43]
    obtain ⟨τ2, k1, k2, k3⟩ := hm_fills X hS hG (k := a 6 k) (v := ab_left a k) (by omega) (by omega)
    obtain ⟨τ3, l1, l2, l3⟩ := hm_setsw X k2 (k := k) (w := 5) 0 (by decide) hk
    simp (disch := omega) only [hm_it2 X hS hG hk, bm_bI_some, bn_sub, Nat.sub_zero, k1, bm_bV_some, l1]
    refine ⟨τ3, rfl, ?_, k3.tr l3⟩
    unfold ab_mk1
    rw [if_neg hbes]
    exact l2
theorem hm_milks (X : bm_X) {a : ab_T} (hG : ab_G a) (h6 : a 0 5 % 6 = 0) (hh : a 0 5 < 1000000) : ∀ (n j : Nat) (σ : bm_M), j + n = a 0 7 → ab_S 46 σ (ab_mk a j) → ∃ τ, bm_ev X 160 52 [.ref 45, .int (nI j)] [] σ = some (.null, τ) ∧ ab_S 46 τ (ab_mk a (a 0 7)) ∧ ab_N σ τ := by
  intro n
  induction n with
  | zero =>
    intro j σ hj hS
    rw [bb_160_52]
    have h7 : σ 46 2 = nI (ab_mk a j 0 7) := hS 0 7 rfl
    rw [ab_mk_ne _ _ _ (by decide) (by decide)] at h7
    have hc := hG.2.2.1
    rw [show j = a 0 7 by omega] at hS ⊢
    simp (disch := omega) only [bn_inT, bn_clamp, h7, bm_gd_t, bn_lt, Nat.lt_irrefl, decide_false, cond_false]
    exact ⟨σ, rfl, hS, ab_N.rf⟩
  | succ n ih =>
    intro j σ hj hS
    rw [bb_160_52]
    have h7 : σ 46 2 = nI (ab_mk a j 0 7) := hS 0 7 rfl
    rw [ab_mk_ne _ _ _ (by decide) (by decide)] at h7
    have h5 : σ 46 0 = nI (ab_mk a j 0 5) := hS 0 5 rfl
    rw [ab_mk_ne _ _ _ (by decide) (by decide)] at h5
    have hc := hG.2.2.1
    have hj' : decide (j < a 0 7) = true := decide_eq_true (by omega)
    obtain ⟨τ, e1, e2, e3⟩ := hm_milk1 X hS (hG.mk j) (k := j) (by omega)
    simp (disch := omega) only [bn_inT, bn_clamp, h7, h5, bm_gd_t, bn_lt, hj', cond_true, bn_rem, bn_eq0, h6, decide_true, e1, bm_bV_some, bn_add]
    obtain ⟨τ2, f1, f2, f3⟩ := ih (j + 1) τ (by omega) e2
    exact ⟨τ2, f1, f2, e3.tr f3⟩
theorem hm_hour (X : bm_X) {σ : bm_M} {a : ab_T} (hS : ab_S 46 σ a) (hG : ab_G a) (hh : a 0 5 < 999999) : ∃ τ, bm_ev X 160 0 [.ref 45, .null] [] σ = some (.null, τ) ∧ ab_S 46 τ (ab_hr a) ∧ ab_E σ τ ∧ τ 45 5 = bm_bi (ab_wand a) := by
  rw [bb_160_0, bm_bo_0, bm_gd_t]
  have hc := hG.2.2.1
  obtain ⟨τ1, e1, e2, e3, e4⟩ := hm_spends X hG (a 0 7) 0 (bm_up σ 45 5 (nI 0)) (by omega) (hS.ne 5 (nI 0) (by decide)) (by rw [bm_up_at]; rfl)
  rw [e1]
  have hG1 := hG.sp (a 0 7) hc
  obtain ⟨τ2, f1, f2, f3⟩ := hm_grow X hG1 12 0 τ1 (by omega) e2
  rw [f1, bb_160_18]
  have h5 : τ2 46 0 = nI (ab_gr (ab_sp a (a 0 7)) 12 0 5) := f2 0 5 rfl
  rw [ab_gr_ne _ _ _ (by decide), ab_sp_0] at h5
  have hz : decide (nI 12 < nI 12) = false := by decide
  have ht : ab_set (ab_gr (ab_sp a (a 0 7)) 12) 0 5 (a 0 5 + 1) = ab_tick (ab_gr (ab_sp a (a 0 7)) 12) := by
    unfold ab_tick
    rw [ab_gr_ne _ _ _ (by decide), ab_sp_0]
  have hS3 : ab_S 46 (bm_up τ2 46 0 (nI (a 0 5 + 1))) (ab_tick (ab_gr (ab_sp a (a 0 7)) 12)) := by
    rw [← ht]
    exact f2.up (c := 0) (i := 5) (a 0 5 + 1) rfl
  have hE3 : ab_E σ (bm_up τ2 46 0 (nI (a 0 5 + 1))) := ((ab_E.rf.go _).tr e3).tr (f3.up _ _).E
  have hg3 : bm_up τ2 46 0 (nI (a 0 5 + 1)) 45 5 = bm_bi (ab_wand a) := by
    rw [bm_up_nk _ _ (by decide), f3 45 (by decide)]
    exact e4
  simp (disch := omega) only [hz, cond_false, bn_inT, bn_clamp, bm_gd_t, h5, bn_add]
  have h50 : ab_tick (ab_gr (ab_sp a (a 0 7)) 12) 0 5 = a 0 5 + 1 := by rw [← ht, ab_set_self]
  have h70 : ab_tick (ab_gr (ab_sp a (a 0 7)) 12) 0 7 = a 0 7 := by
    unfold ab_tick
    rw [ab_set_ni _ _ (by decide), ab_gr_ne _ _ _ (by decide), ab_sp_0]
  by_cases h6 : (a 0 5 + 1) % 6 = 0
  · obtain ⟨τ4, g1, g2, g3⟩ := hm_milks X ((hG1.gr 12).tick) (by rw [h50]; exact h6) (by rw [h50]; omega) (a 0 7) 0 _ (by rw [h70]; omega) hS3
    refine ⟨τ4, g1, ?_, hE3.tr g3.E, by rw [g3 45 (by decide)]; exact hg3⟩
    unfold ab_hr
    rw [if_pos h6]
    rw [h70] at g2
    exact g2
  · refine ⟨_, ?_, ?_, hE3, hg3⟩
    · rw [bb_160_52]
      have h7 : bm_up τ2 46 0 (nI (a 0 5 + 1)) 46 2 = nI (a 0 7) := by
        have := hS3 0 7 rfl
        rw [h70] at this
        exact this
      have h5' : bm_up τ2 46 0 (nI (a 0 5 + 1)) 46 0 = nI (a 0 5 + 1) := bm_up_at _ _ _ _
      simp (disch := omega) only [bn_inT, bn_clamp, h7, h5', bm_gd_t, bn_lt, bn_rem, bn_eq0, h6, decide_false, cond_false]
      cases decide (0 < a 0 7) <;> rfl
    · unfold ab_hr
      rw [if_neg h6]
      exact hS3
theorem hm_hoursl (X : bm_X) {a : ab_T} (hG : ab_G a) {m : Nat} (hm : m ≤ 1000) (hh : a 0 5 + m ≤ 99999) : ∀ (n j : Nat) (σ : bm_M), j + n = m → ab_S 46 σ (ab_hs a j) → ∃ τ, bm_ev X 175 2 [.ref 45, .int (nI m), .int (nI j)] [] σ = some (.null, τ) ∧ ab_S 46 τ (ab_hs a m) ∧ ab_E σ τ := by
  intro n
  induction n with
  | zero =>
    intro j σ hj hS
    rw [bb_175_2]
    rw [show j = m by omega] at hS ⊢
    simp (disch := omega) only [bn_lt, Nat.lt_irrefl, decide_false, cond_false]
    exact ⟨σ, rfl, hS, ab_E.rf⟩
  | succ n ih =>
    intro j σ hj hS
    rw [bb_175_2]
    obtain ⟨τ, e1, e2, e3, -⟩ := hm_hour X hS (hG.hs j) (by rw [ab_hs_hour]; omega)
    have hj' : decide (j < m) = true := decide_eq_true (by omega)
    simp (disch := omega) only [bn_lt, hj', cond_true, e1, bm_bV_some, bn_add]
    obtain ⟨τ2, f1, f2, f3⟩ := ih (j + 1) τ (by omega) e2
    exact ⟨τ2, f1, f2, e3.tr f3⟩
theorem hm_hours (X : bm_X) {σ : bm_M} {a : ab_T} (hS : ab_S 46 σ a) (hG : ab_G a) {m : Nat} (hm : m ≤ 1000) (hh : a 0 5 + m ≤ 99999) : ∃ τ, bm_ev X 175 0 [.ref 45, .int (nI m), .null] [] σ = some (.null, τ) ∧ ab_S 46 τ (ab_hs a m) ∧ ab_E σ τ := by
  rw [bb_175_0]
  exact hm_hoursl X hG hm hh m 0 σ (by omega) hS
end
section
/-! SUMS AND SETS of a herd -/
def ab_sum (g : Nat → Nat) : Nat → Nat
  | 0 => 0
  | n + 1 => ab_sum g n + g n
def ab_or (g : Nat → Int32) : Nat → Int32
  | 0 => nI 0
  | n + 1 => ab_or g n ||| g n
def ab_br (a : ab_T) : Nat → Bool
  | 0 => false
  | n + 1 => ab_br a n || decide (a 1 n = 0)
theorem bn_or0 (x : Int32) : x ||| nI 0 = x := by
  show x ||| 0 = x
  exact Int32.or_zero
def ab_con (a : ab_T) (p c : Nat) : Int32 := if a 5 c = p then bm_shl (nI 1) (nI c) else nI 0
def ab_muf (a : ab_T) (c : Nat) : Int32 := bm_shl (nI (a 10 c)) (nI c)
def ab_grz (a : ab_T) (c : Nat) : Int32 := bm_shl (nI 1) (nI (a 5 c))
def ab_fld (a : ab_T) (t : Nat) : Int32 := if 0 < a 2 t then bm_shl (nI 1) (nI t) else nI 0
theorem bn_0lt {a : Nat} (ha : a < 2147483648) : decide (0 < nI a) = decide (0 < a) := by
  have := bn_lt (a := 0) (b := a) (by decide) ha
  exact this

theorem hc_milk_l (X : bm_X) {o : Nat} (ho : bm_isH o) {σ : bm_M} {a : ab_T} (hH : ab_H o σ a) (hG : ab_G a) {k : Nat} : ∀ (n j : Nat), j + n = 12 → bm_ev X 8 4 [.ref o, .int (nI (ab_sum (a 2) (j))), .int (nI j)] [] σ = some (.int (nI (ab_sum (a 2) (12))), σ) := by
  intro n
  induction n with
  | zero =>
    intro j hj
    rw [bb_8_4 _ _ _ ho]
    rw [show j = 12 by omega]
    simp (disch := omega) only [bn_lt, Nat.lt_irrefl, decide_false, cond_false]
  | succ n ih =>
    intro j hj
    rw [bb_8_4 _ _ _ ho]
    have hj8 : j < 12 := by omega
    have h2 := hH 2 j (ab_w2 hj8)
    have hj' : decide (j < 12) = true := decide_eq_true (by omega)
    have := ih (j + 1) (by omega)
    simp (disch := omega) only [bn_lt, hj', cond_true, bn_inT, bn_clamp, bm_gd_t, bn_add, h2]
    rw [← this]
    rfl
theorem hc_milk (X : bm_X) {o : Nat} (ho : bm_isH o) {σ : bm_M} {a : ab_T} (hH : ab_H o σ a) (hG : ab_G a) {k : Nat} : bm_ev X 8 0 [.ref o, .null, .null] [] σ = some (.int (nI (ab_sum (a 2) (12))), σ) := by
  rw [bb_8_0 _ _ _ ho]
  exact hc_milk_l X ho hH hG (k := k) (12) 0 (by omega)
theorem hc_rungs_l (X : bm_X) {o : Nat} (ho : bm_isH o) {σ : bm_M} {a : ab_T} (hH : ab_H o σ a) (hG : ab_G a) {k : Nat} : ∀ (n j : Nat), j + n = a 0 7 → bm_ev X 9 4 [.ref o, .int (nI (ab_sum (a 9) (j))), .int (nI j)] [] σ = some (.int (nI (ab_sum (a 9) (a 0 7))), σ) := by
  intro n
  induction n with
  | zero =>
    intro j hj
    rw [bb_9_4 _ _ _ ho]
    have h7 := hH 0 7 rfl
    rw [Nat.add_zero] at h7
    have hc := hG.2.2.1
    rw [show j = a 0 7 by omega]
    simp (disch := omega) only [h7, bn_lt, Nat.lt_irrefl, decide_false, cond_false]
  | succ n ih =>
    intro j hj
    rw [bb_9_4 _ _ _ ho]
    have h7 := hH 0 7 rfl
    rw [Nat.add_zero] at h7
    have hc := hG.2.2.1
    have hj8 : j < 8 := by omega
    have h2 := hH 9 j (ab_w8 (by decide) (by decide) hj8)
    have hj' : decide (j < a 0 7) = true := decide_eq_true (by omega)
    have := ih (j + 1) (by omega)
    simp (disch := omega) only [h7, bn_lt, hj', cond_true, bn_inT, bn_clamp, bm_gd_t, bn_add, h2]
    rw [← this]
    rfl
theorem hc_rungs (X : bm_X) {o : Nat} (ho : bm_isH o) {σ : bm_M} {a : ab_T} (hH : ab_H o σ a) (hG : ab_G a) {k : Nat} : bm_ev X 9 0 [.ref o, .null, .null] [] σ = some (.int (nI (ab_sum (a 9) (a 0 7))), σ) := by
  rw [bb_9_0 _ _ _ ho]
  exact hc_rungs_l X ho hH hG (k := k) (a 0 7) 0 (by omega)
theorem hc_green_l (X : bm_X) {o : Nat} (ho : bm_isH o) {σ : bm_M} {a : ab_T} (hH : ab_H o σ a) (hG : ab_G a) {k : Nat} : ∀ (n j : Nat), j + n = 12 → bm_ev X 10 4 [.ref o, .int (nI (ab_sum (a 1) (j))), .int (nI j)] [] σ = some (.int (nI (ab_sum (a 1) (12))), σ) := by
  intro n
  induction n with
  | zero =>
    intro j hj
    rw [bb_10_4 _ _ _ ho]
    rw [show j = 12 by omega]
    simp (disch := omega) only [bn_lt, Nat.lt_irrefl, decide_false, cond_false]
  | succ n ih =>
    intro j hj
    rw [bb_10_4 _ _ _ ho]
    have hj8 : j < 12 := by omega
    have h2 := hH 1 j (ab_w1 hj8)
    have hj' : decide (j < 12) = true := decide_eq_true (by omega)
    have := ih (j + 1) (by omega)
    simp (disch := omega) only [bn_lt, hj', cond_true, bn_inT, bn_clamp, bm_gd_t, bn_add, h2]
    rw [← this]
    rfl
theorem hc_green (X : bm_X) {o : Nat} (ho : bm_isH o) {σ : bm_M} {a : ab_T} (hH : ab_H o σ a) (hG : ab_G a) {k : Nat} : bm_ev X 10 0 [.ref o, .null, .null] [] σ = some (.int (nI (ab_sum (a 1) (12))), σ) := by
  rw [bb_10_0 _ _ _ ho]
  exact hc_green_l X ho hH hG (k := k) (12) 0 (by omega)
theorem hc_cowsOn_l (X : bm_X) {o : Nat} (ho : bm_isH o) {σ : bm_M} {a : ab_T} (hH : ab_H o σ a) (hG : ab_G a) {k : Nat} (hp : k < 12) : ∀ (n j : Nat), j + n = a 0 7 → bm_ev X 11 4 [.ref o, .int (nI k), .int (ab_or (ab_con a k) (j)), .int (nI j)] [] σ = some (.int (ab_or (ab_con a k) (a 0 7)), σ) := by
  intro n
  induction n with
  | zero =>
    intro j hj
    rw [bb_11_4 _ _ _ ho]
    have h7 := hH 0 7 rfl
    rw [Nat.add_zero] at h7
    have hc := hG.2.2.1
    rw [show j = a 0 7 by omega]
    simp (disch := omega) only [h7, bn_lt, Nat.lt_irrefl, decide_false, cond_false]
  | succ n ih =>
    intro j hj
    rw [bb_11_4 _ _ _ ho]
    have h7 := hH 0 7 rfl
    rw [Nat.add_zero] at h7
    have hc := hG.2.2.1
    have hj8 : j < 8 := by omega
    have h2 := hH 5 j (ab_w8 (by decide) (by decide) hj8)
    obtain ⟨-, b5, -⟩ := hG.2.2.2.2.2 j hj8
    have hj' : decide (j < a 0 7) = true := decide_eq_true (by omega)
    have := ih (j + 1) (by omega)
    simp (disch := omega) only [h7, bn_lt, hj', cond_true, bn_inT, bn_clamp, bm_gd_t, bn_add, h2, bn_eq]
    rw [← this]
    by_cases e : a 5 j = k
    · simp [e, ab_or, ab_con]
    · simp [e, ab_or, ab_con, bn_or0]
theorem hc_cowsOn (X : bm_X) {o : Nat} (ho : bm_isH o) {σ : bm_M} {a : ab_T} (hH : ab_H o σ a) (hG : ab_G a) {k : Nat} (hp : k < 12) : bm_ev X 11 0 [.ref o, .int (nI k), .null, .null] [] σ = some (.int (ab_or (ab_con a k) (a 0 7)), σ) := by
  rw [bb_11_0 _ _ _ ho]
  exact hc_cowsOn_l X ho hH hG hp (a 0 7) 0 (by omega)
theorem hc_muffled_l (X : bm_X) {o : Nat} (ho : bm_isH o) {σ : bm_M} {a : ab_T} (hH : ab_H o σ a) (hG : ab_G a) {k : Nat} : ∀ (n j : Nat), j + n = a 0 7 → bm_ev X 12 4 [.ref o, .int (ab_or (ab_muf a) (j)), .int (nI j)] [] σ = some (.int (ab_or (ab_muf a) (a 0 7)), σ) := by
  intro n
  induction n with
  | zero =>
    intro j hj
    rw [bb_12_4 _ _ _ ho]
    have h7 := hH 0 7 rfl
    rw [Nat.add_zero] at h7
    have hc := hG.2.2.1
    rw [show j = a 0 7 by omega]
    simp (disch := omega) only [h7, bn_lt, Nat.lt_irrefl, decide_false, cond_false]
  | succ n ih =>
    intro j hj
    rw [bb_12_4 _ _ _ ho]
    have h7 := hH 0 7 rfl
    rw [Nat.add_zero] at h7
    have hc := hG.2.2.1
    have hj8 : j < 8 := by omega
    have h2 := hH 10 j (ab_w8 (by decide) (by decide) hj8)
    have hj' : decide (j < a 0 7) = true := decide_eq_true (by omega)
    have := ih (j + 1) (by omega)
    simp (disch := omega) only [h7, bn_lt, hj', cond_true, bn_inT, bn_clamp, bm_gd_t, bn_add, h2]
    rw [← this]
    rfl
theorem hc_muffled (X : bm_X) {o : Nat} (ho : bm_isH o) {σ : bm_M} {a : ab_T} (hH : ab_H o σ a) (hG : ab_G a) {k : Nat} : bm_ev X 12 0 [.ref o, .null, .null] [] σ = some (.int (ab_or (ab_muf a) (a 0 7)), σ) := by
  rw [bb_12_0 _ _ _ ho]
  exact hc_muffled_l X ho hH hG (k := k) (a 0 7) 0 (by omega)
theorem hc_grazed_l (X : bm_X) {o : Nat} (ho : bm_isH o) {σ : bm_M} {a : ab_T} (hH : ab_H o σ a) (hG : ab_G a) {k : Nat} : ∀ (n j : Nat), j + n = a 0 7 → bm_ev X 13 4 [.ref o, .int (ab_or (ab_grz a) (j)), .int (nI j)] [] σ = some (.int (ab_or (ab_grz a) (a 0 7)), σ) := by
  intro n
  induction n with
  | zero =>
    intro j hj
    rw [bb_13_4 _ _ _ ho]
    have h7 := hH 0 7 rfl
    rw [Nat.add_zero] at h7
    have hc := hG.2.2.1
    rw [show j = a 0 7 by omega]
    simp (disch := omega) only [h7, bn_lt, Nat.lt_irrefl, decide_false, cond_false]
  | succ n ih =>
    intro j hj
    rw [bb_13_4 _ _ _ ho]
    have h7 := hH 0 7 rfl
    rw [Nat.add_zero] at h7
    have hc := hG.2.2.1
    have hj8 : j < 8 := by omega
    have h2 := hH 5 j (ab_w8 (by decide) (by decide) hj8)
    have hj' : decide (j < a 0 7) = true := decide_eq_true (by omega)
    have := ih (j + 1) (by omega)
    simp (disch := omega) only [h7, bn_lt, hj', cond_true, bn_inT, bn_clamp, bm_gd_t, bn_add, h2]
    rw [← this]
    rfl
theorem hc_grazed (X : bm_X) {o : Nat} (ho : bm_isH o) {σ : bm_M} {a : ab_T} (hH : ab_H o σ a) (hG : ab_G a) {k : Nat} : bm_ev X 13 0 [.ref o, .null, .null] [] σ = some (.int (ab_or (ab_grz a) (a 0 7)), σ) := by
  rw [bb_13_0 _ _ _ ho]
  exact hc_grazed_l X ho hH hG (k := k) (a 0 7) 0 (by omega)
theorem hc_filled_l (X : bm_X) {o : Nat} (ho : bm_isH o) {σ : bm_M} {a : ab_T} (hH : ab_H o σ a) (hG : ab_G a) {k : Nat} : ∀ (n j : Nat), j + n = 12 → bm_ev X 14 4 [.ref o, .int (ab_or (ab_fld a) (j)), .int (nI j)] [] σ = some (.int (ab_or (ab_fld a) (12)), σ) := by
  intro n
  induction n with
  | zero =>
    intro j hj
    rw [bb_14_4 _ _ _ ho]
    rw [show j = 12 by omega]
    simp (disch := omega) only [bn_lt, Nat.lt_irrefl, decide_false, cond_false]
  | succ n ih =>
    intro j hj
    rw [bb_14_4 _ _ _ ho]
    have hj8 : j < 12 := by omega
    have h2 := hH 2 j (ab_w2 hj8)
    have b2 := hG.2.2.2.2.1 j hj8
    have hj' : decide (j < 12) = true := decide_eq_true (by omega)
    have := ih (j + 1) (by omega)
    simp (disch := omega) only [bn_lt, hj', cond_true, bn_inT, bn_clamp, bm_gd_t, bn_add, h2, bn_0lt]
    rw [← this]
    by_cases e : 0 < a 2 j
    · simp [e, ab_or, ab_fld]
    · simp [e, ab_or, ab_fld, bn_or0]
theorem hc_filled (X : bm_X) {o : Nat} (ho : bm_isH o) {σ : bm_M} {a : ab_T} (hH : ab_H o σ a) (hG : ab_G a) {k : Nat} : bm_ev X 14 0 [.ref o, .null, .null] [] σ = some (.int (ab_or (ab_fld a) (12)), σ) := by
  rw [bb_14_0 _ _ _ ho]
  exact hc_filled_l X ho hH hG (k := k) (12) 0 (by omega)
theorem hm_pails_l (X : bm_X) {σ : bm_M} {a : ab_T} (hS : ab_S 46 σ a) (hG : ab_G a) {k : Nat} : ∀ (n j : Nat), j + n = 12 → bm_ev X 39 4 [.ref 45, .int (nI (ab_sum (a 2) (j))), .int (nI j)] [] σ = some (.int (nI (ab_sum (a 2) (12))), σ) := by
  intro n
  induction n with
  | zero =>
    intro j hj
    rw [bb_39_4]
    rw [show j = 12 by omega]
    simp (disch := omega) only [bn_inT, bn_clamp, bm_gd_t, bn_lt, Nat.lt_irrefl, decide_false, cond_false]
  | succ n ih =>
    intro j hj
    rw [bb_39_4]
    have hj8 : j < 12 := by omega
    have h2 : σ 46 (17 + j) = nI (a 2 j) := hS 2 j (ab_w2 hj8)
    have hj' : decide (j < 12) = true := decide_eq_true (by omega)
    have := ih (j + 1) (by omega)
    simp (disch := omega) only [bn_inT, bn_clamp, bm_gd_t, bn_lt, hj', cond_true, bn_add, bm_bI_some, h2]
    rw [← this]
    rfl
theorem hm_pails (X : bm_X) {σ : bm_M} {a : ab_T} (hS : ab_S 46 σ a) (hG : ab_G a) {k : Nat} : bm_ev X 39 0 [.ref 45, .null, .null] [] σ = some (.int (nI (ab_sum (a 2) (12))), σ) := by
  rw [bb_39_0]
  exact hm_pails_l X hS hG (k := k) (12) 0 (by omega)
theorem hm_rungs_l (X : bm_X) {σ : bm_M} {a : ab_T} (hS : ab_S 46 σ a) (hG : ab_G a) {k : Nat} : ∀ (n j : Nat), j + n = a 0 7 → bm_ev X 86 4 [.ref 45, .int (nI (ab_sum (a 9) (j))), .int (nI j)] [] σ = some (.int (nI (ab_sum (a 9) (a 0 7))), σ) := by
  intro n
  induction n with
  | zero =>
    intro j hj
    rw [bb_86_4]
    have h7 : σ 46 2 = nI (a 0 7) := hS 0 7 rfl
    have hc := hG.2.2.1
    rw [show j = a 0 7 by omega]
    simp (disch := omega) only [bn_inT, bn_clamp, bm_gd_t, h7, bn_lt, Nat.lt_irrefl, decide_false, cond_false]
  | succ n ih =>
    intro j hj
    rw [bb_86_4]
    have h7 : σ 46 2 = nI (a 0 7) := hS 0 7 rfl
    have hc := hG.2.2.1
    have hj8 : j < 8 := by omega
    have hj' : decide (j < a 0 7) = true := decide_eq_true (by omega)
    have := ih (j + 1) (by omega)
    simp (disch := omega) only [bn_inT, bn_clamp, bm_gd_t, h7, bn_lt, hj', cond_true, bn_add, bm_bI_some, hm_it5 X hS hG hj8]
    rw [← this]
    rfl
theorem hm_rungs (X : bm_X) {σ : bm_M} {a : ab_T} (hS : ab_S 46 σ a) (hG : ab_G a) {k : Nat} : bm_ev X 86 0 [.ref 45, .null, .null] [] σ = some (.int (nI (ab_sum (a 9) (a 0 7))), σ) := by
  rw [bb_86_0]
  exact hm_rungs_l X hS hG (k := k) (a 0 7) 0 (by omega)
theorem hm_green_l (X : bm_X) {σ : bm_M} {a : ab_T} (hS : ab_S 46 σ a) (hG : ab_G a) {k : Nat} : ∀ (n j : Nat), j + n = 12 → bm_ev X 40 4 [.ref 45, .int (nI (ab_sum (a 1) (j))), .int (nI j)] [] σ = some (.int (nI (ab_sum (a 1) (12))), σ) := by
  intro n
  induction n with
  | zero =>
    intro j hj
    rw [bb_40_4]
    rw [show j = 12 by omega]
    simp (disch := omega) only [bn_inT, bn_clamp, bm_gd_t, bn_lt, Nat.lt_irrefl, decide_false, cond_false]
  | succ n ih =>
    intro j hj
    rw [bb_40_4]
    have hj8 : j < 12 := by omega
    have h2 : σ 46 (5 + j) = nI (a 1 j) := hS 1 j (ab_w1 hj8)
    have hj' : decide (j < 12) = true := decide_eq_true (by omega)
    have := ih (j + 1) (by omega)
    simp (disch := omega) only [bn_inT, bn_clamp, bm_gd_t, bn_lt, hj', cond_true, bn_add, bm_bI_some, h2]
    rw [← this]
    rfl
theorem hm_green (X : bm_X) {σ : bm_M} {a : ab_T} (hS : ab_S 46 σ a) (hG : ab_G a) {k : Nat} : bm_ev X 40 0 [.ref 45, .null, .null] [] σ = some (.int (nI (ab_sum (a 1) (12))), σ) := by
  rw [bb_40_0]
  exact hm_green_l X hS hG (k := k) (12) 0 (by omega)
theorem hm_cowsOn_l (X : bm_X) {σ : bm_M} {a : ab_T} (hS : ab_S 46 σ a) (hG : ab_G a) {k : Nat} (hp : k < 12) : ∀ (n j : Nat), j + n = a 0 7 → bm_ev X 82 4 [.ref 45, .int (nI k), .int (ab_or (ab_con a k) (j)), .int (nI j)] [] σ = some (.int (ab_or (ab_con a k) (a 0 7)), σ) := by
  intro n
  induction n with
  | zero =>
    intro j hj
    rw [bb_82_4]
    have h7 : σ 46 2 = nI (a 0 7) := hS 0 7 rfl
    have hc := hG.2.2.1
    rw [show j = a 0 7 by omega]
    simp (disch := omega) only [bn_inT, bn_clamp, bm_gd_t, h7, bn_lt, Nat.lt_irrefl, decide_false, cond_false]
  | succ n ih =>
    intro j hj
    rw [bb_82_4]
    have h7 : σ 46 2 = nI (a 0 7) := hS 0 7 rfl
    have hc := hG.2.2.1
    have hj8 : j < 8 := by omega
    obtain ⟨-, b5, -⟩ := hG.2.2.2.2.2 j hj8
    have hj' : decide (j < a 0 7) = true := decide_eq_true (by omega)
    have := ih (j + 1) (by omega)
    simp (disch := omega) only [bn_inT, bn_clamp, bm_gd_t, h7, bn_lt, hj', cond_true, bn_add, bm_bI_some, hm_it1 X hS hG hj8, bn_eq, bb_82_22]
    rw [← this]
    by_cases e : a 5 j = k
    · simp [e, ab_or, ab_con]
    · simp [e, ab_or, ab_con]
theorem hm_cowsOn (X : bm_X) {σ : bm_M} {a : ab_T} (hS : ab_S 46 σ a) (hG : ab_G a) {k : Nat} (hp : k < 12) : bm_ev X 82 0 [.ref 45, .int (nI k), .null, .null] [] σ = some (.int (ab_or (ab_con a k) (a 0 7)), σ) := by
  rw [bb_82_0]
  exact hm_cowsOn_l X hS hG hp (a 0 7) 0 (by omega)
theorem hm_muffled_l (X : bm_X) {σ : bm_M} {a : ab_T} (hS : ab_S 46 σ a) (hG : ab_G a) {k : Nat} : ∀ (n j : Nat), j + n = a 0 7 → bm_ev X 87 4 [.ref 45, .int (ab_or (ab_muf a) (j)), .int (nI j)] [] σ = some (.int (ab_or (ab_muf a) (a 0 7)), σ) := by
  intro n
  induction n with
  | zero =>
    intro j hj
    rw [bb_87_4]
    have h7 : σ 46 2 = nI (a 0 7) := hS 0 7 rfl
    have hc := hG.2.2.1
    rw [show j = a 0 7 by omega]
    simp (disch := omega) only [bn_inT, bn_clamp, bm_gd_t, h7, bn_lt, Nat.lt_irrefl, decide_false, cond_false]
  | succ n ih =>
    intro j hj
    rw [bb_87_4]
    have h7 : σ 46 2 = nI (a 0 7) := hS 0 7 rfl
    have hc := hG.2.2.1
    have hj8 : j < 8 := by omega
    have hj' : decide (j < a 0 7) = true := decide_eq_true (by omega)
    have := ih (j + 1) (by omega)
    simp (disch := omega) only [bn_inT, bn_clamp, bm_gd_t, h7, bn_lt, hj', cond_true, bn_add, bm_bI_some, hm_it6 X hS hG hj8]
    rw [← this]
    rfl
theorem hm_muffled (X : bm_X) {σ : bm_M} {a : ab_T} (hS : ab_S 46 σ a) (hG : ab_G a) {k : Nat} : bm_ev X 87 0 [.ref 45, .null, .null] [] σ = some (.int (ab_or (ab_muf a) (a 0 7)), σ) := by
  rw [bb_87_0]
  exact hm_muffled_l X hS hG (k := k) (a 0 7) 0 (by omega)
theorem hm_grazed_l (X : bm_X) {σ : bm_M} {a : ab_T} (hS : ab_S 46 σ a) (hG : ab_G a) {k : Nat} : ∀ (n j : Nat), j + n = a 0 7 → bm_ev X 88 4 [.ref 45, .int (ab_or (ab_grz a) (j)), .int (nI j)] [] σ = some (.int (ab_or (ab_grz a) (a 0 7)), σ) := by
  intro n
  induction n with
  | zero =>
    intro j hj
    rw [bb_88_4]
    have h7 : σ 46 2 = nI (a 0 7) := hS 0 7 rfl
    have hc := hG.2.2.1
    rw [show j = a 0 7 by omega]
    simp (disch := omega) only [bn_inT, bn_clamp, bm_gd_t, h7, bn_lt, Nat.lt_irrefl, decide_false, cond_false]
  | succ n ih =>
    intro j hj
    rw [bb_88_4]
    have h7 : σ 46 2 = nI (a 0 7) := hS 0 7 rfl
    have hc := hG.2.2.1
    have hj8 : j < 8 := by omega
    have hj' : decide (j < a 0 7) = true := decide_eq_true (by omega)
    have := ih (j + 1) (by omega)
    simp (disch := omega) only [bn_inT, bn_clamp, bm_gd_t, h7, bn_lt, hj', cond_true, bn_add, bm_bI_some, hm_it1 X hS hG hj8]
    rw [← this]
    rfl
theorem hm_grazed (X : bm_X) {σ : bm_M} {a : ab_T} (hS : ab_S 46 σ a) (hG : ab_G a) {k : Nat} : bm_ev X 88 0 [.ref 45, .null, .null] [] σ = some (.int (ab_or (ab_grz a) (a 0 7)), σ) := by
  rw [bb_88_0]
  exact hm_grazed_l X hS hG (k := k) (a 0 7) 0 (by omega)
theorem hm_filled_l (X : bm_X) {σ : bm_M} {a : ab_T} (hS : ab_S 46 σ a) (hG : ab_G a) {k : Nat} : ∀ (n j : Nat), j + n = 12 → bm_ev X 41 4 [.ref 45, .int (ab_or (ab_fld a) (j)), .int (nI j)] [] σ = some (.int (ab_or (ab_fld a) (12)), σ) := by
  intro n
  induction n with
  | zero =>
    intro j hj
    rw [bb_41_4]
    rw [show j = 12 by omega]
    simp (disch := omega) only [bn_inT, bn_clamp, bm_gd_t, bn_lt, Nat.lt_irrefl, decide_false, cond_false]
  | succ n ih =>
    intro j hj
    rw [bb_41_4]
    have hj8 : j < 12 := by omega
    have h2 : σ 46 (17 + j) = nI (a 2 j) := hS 2 j (ab_w2 hj8)
    have b2 := hG.2.2.2.2.1 j hj8
    have hj' : decide (j < 12) = true := decide_eq_true (by omega)
    have := ih (j + 1) (by omega)
    simp (disch := omega) only [bn_inT, bn_clamp, bm_gd_t, bn_lt, hj', cond_true, bn_add, bm_bI_some, h2, bn_0lt, bb_41_20]
    rw [← this]
    by_cases e : 0 < a 2 j
    · simp [e, ab_or, ab_fld]
    · simp [e, ab_or, ab_fld]
theorem hm_filled (X : bm_X) {σ : bm_M} {a : ab_T} (hS : ab_S 46 σ a) (hG : ab_G a) {k : Nat} : bm_ev X 41 0 [.ref 45, .null, .null] [] σ = some (.int (ab_or (ab_fld a) (12)), σ) := by
  rw [bb_41_0]
  exact hm_filled_l X hS hG (k := k) (12) 0 (by omega)
theorem hc_bare_l (X : bm_X) {o : Nat} (ho : bm_isH o) {σ : bm_M} {a : ab_T} (hH : ab_H o σ a) (hG : ab_G a) {k : Nat} : ∀ (n j : Nat), j + n = 12 → ab_br a j = false → bm_ev X 15 2 [.ref o, .int (nI j)] [] σ = some (.int (bm_bi (ab_br a 12)), σ) := by
  intro n
  induction n with
  | zero =>
    intro j hj hb
    rw [bb_15_2 _ _ _ ho]
    rw [show j = 12 by omega] at hb ⊢
    simp (disch := omega) only [bn_lt, Nat.lt_irrefl, decide_false, cond_false, bm_bo_0, bm_gd_t, hb]
    rfl
  | succ n ih =>
    intro j hj hb
    rw [bb_15_2 _ _ _ ho]
    have h1 := hH 1 j (ab_w1 (by omega))
    have b1 := hG.2.2.2.1 j (by omega)
    have hj' : decide (j < 12) = true := decide_eq_true (by omega)
    simp (disch := omega) only [bn_lt, hj', cond_true, bn_inT, bn_clamp, bm_gd_t, bn_add, h1, bn_eq0, bm_bo_1]
    by_cases e : a 1 j = 0
    · simp only [e, decide_true, cond_true]
      have : ∀ m, j + 1 ≤ m → ab_br a m = true := by
        intro m hm
        induction hm with
        | refl => simp [ab_br, e]
        | step _ ih => simp [ab_br, ih]
      rw [this 12 (by omega)]
      rfl
    · simp only [e, decide_false, cond_false]
      exact ih (j + 1) (by omega) (by simp [ab_br, hb, e])
theorem hc_bare (X : bm_X) {o : Nat} (ho : bm_isH o) {σ : bm_M} {a : ab_T} (hH : ab_H o σ a) (hG : ab_G a) {k : Nat} : bm_ev X 15 0 [.ref o, .null] [] σ = some (.int (bm_bi (ab_br a 12)), σ) := by
  rw [bb_15_0 _ _ _ ho]
  exact hc_bare_l X ho hH hG (k := k) 12 0 (by omega) rfl
theorem hm_bare_l (X : bm_X) {σ : bm_M} {a : ab_T} (hS : ab_S 46 σ a) (hG : ab_G a) {k : Nat} : ∀ (n j : Nat), j + n = 12 → bm_ev X 42 4 [.ref 45, .int (bm_bi (ab_br a j)), .int (nI j)] [] σ = some (.int (bm_bi (ab_br a 12)), σ) := by
  intro n
  induction n with
  | zero =>
    intro j hj
    rw [bb_42_4]
    rw [show j = 12 by omega]
    simp (disch := omega) only [bn_lt, Nat.lt_irrefl, decide_false, cond_false, bm_bo_bi, bm_gd_t]
  | succ n ih =>
    intro j hj
    rw [bb_42_4]
    have h1 : σ 46 (5 + j) = nI (a 1 j) := hS 1 j (ab_w1 (by omega))
    have b1 := hG.2.2.2.1 j (by omega)
    have hj' : decide (j < 12) = true := decide_eq_true (by omega)
    have := ih (j + 1) (by omega)
    simp (disch := omega) only [bn_lt, hj', cond_true, bn_add, bn_inT, bn_clamp, bm_gd_t, h1, bn_eq0, bm_bi_eq0, bb_42_16, bb_42_19]
    rw [← this]
    cases hb : ab_br a j
    · by_cases e : a 1 j = 0 <;> simp [ab_br, hb, e, bm_bi]
    · simp [ab_br, hb, bm_bi]
theorem hm_bare (X : bm_X) {σ : bm_M} {a : ab_T} (hS : ab_S 46 σ a) (hG : ab_G a) {k : Nat} : bm_ev X 42 0 [.ref 45, .null, .null] [] σ = some (.int (bm_bi (ab_br a 12)), σ) := by
  rw [bb_42_0]
  exact hm_bare_l X hS hG (k := k) 12 0 (by omega)
end
section
/-! SMALL CALLS -/
theorem bs_inI (X : bm_X) (σ : bm_M) (x : Int32) {lo hi : Nat} (hl : lo < 2147483648) (hh : hi < 2147483648) : bm_ev X 32 0 [.long x.toInt64, .null, .long (lN lo), .null, .long (lN hi), .null] [] σ = some (.int (bm_bi (bm_rg x lo hi)), σ) := by
  rw [bs_in, bm_i2l, bl_toInt hl, bl_toInt hh]
  rfl
theorem bs_c65 (X : bm_X) (σ : bm_M) (x : Int32) : bm_ev X 65 0 [.int x] [] σ = some (.int (bm_bi (bm_rg x 0 11)), σ) := by
  rw [bb_65_0, bs_upTo, bm_bI_some, bm_bo_bi, bm_gd_t]; rfl
theorem bs_c66 (X : bm_X) (σ : bm_M) (x : Int32) : bm_ev X 66 0 [.int x] [] σ = some (.int (bm_bi (bm_rg x 0 11)), σ) := by
  rw [bb_66_0, bs_upTo, bm_bI_some, bm_bo_bi, bm_gd_t]; rfl
theorem bs_c67 (X : bm_X) (σ : bm_M) (x : Int32) : bm_ev X 67 0 [.int x] [] σ = some (.int (bm_bi (bm_rg x 0 6)), σ) := by
  rw [bb_67_0, bs_upTo, bm_bI_some, bm_bo_bi, bm_gd_t]; rfl
theorem bs_c68 (X : bm_X) (σ : bm_M) (x : Int32) : bm_ev X 68 0 [.int x] [] σ = some (.int (bm_bi (bm_rg x 0 3)), σ) := by
  rw [bb_68_0, bs_upTo, bm_bI_some, bm_bo_bi, bm_gd_t]; rfl
theorem bs_upN (X : bm_X) (σ : bm_M) (x : Int32) {n : Nat} (h : n < 2147483648) : bm_ev X 24 0 [.int x, .int (nI n)] [] σ = some (.int (bm_bi (bm_rg x 0 n)), σ) := by
  rw [bs_upTo, bn_toInt h]
theorem bs_m73 (X : bm_X) (σ : bm_M) (x : Int32) : bm_ev X 73 0 [.int x] [] σ = some (.int (bm_bi (bm_rg x 0 11)), σ) := by
  rw [bb_73_0, bs_inI X σ x (by decide) (by decide), bm_bI_some, bm_bo_bi, bm_gd_t]; rfl
theorem bs_m74 (X : bm_X) (σ : bm_M) (x : Int32) : bm_ev X 74 0 [.int x] [] σ = some (.int (bm_bi (bm_rg x 0 99)), σ) := by
  rw [bb_74_0, bs_inI X σ x (by decide) (by decide), bm_bI_some, bm_bo_bi, bm_gd_t]; rfl
theorem bs_m76 (X : bm_X) (σ : bm_M) (x : Int32) : bm_ev X 76 0 [.int x] [] σ = some (.int (bm_bi (bm_rg x 0 6)), σ) := by
  rw [bb_76_0, bs_inI X σ x (by decide) (by decide), bm_bI_some, bm_bo_bi, bm_gd_t]; rfl
theorem bs_m89 (X : bm_X) (σ : bm_M) (x : Int32) : bm_ev X 89 0 [.int x] [] σ = some (.int (bm_bi (bm_rg x 0 100)), σ) := by
  rw [bb_89_0, bs_inI X σ x (by decide) (by decide), bm_bI_some, bm_bo_bi, bm_gd_t]; rfl
theorem bs_m90 (X : bm_X) (σ : bm_M) (x : Int32) : bm_ev X 90 0 [.int x] [] σ = some (.int (bm_bi (bm_rg x 0 40)), σ) := by
  rw [bb_90_0, bs_inI X σ x (by decide) (by decide), bm_bI_some, bm_bo_bi, bm_gd_t]; rfl
theorem bs_m96 (X : bm_X) (σ : bm_M) (x : Int32) : bm_ev X 96 0 [.int x] [] σ = some (.int (bm_bi (bm_rg x 0 9)), σ) := by
  rw [bb_96_0, bs_inI X σ x (by decide) (by decide), bm_bI_some, bm_bo_bi, bm_gd_t]; rfl
theorem bs_m97 (X : bm_X) (σ : bm_M) (x : Int32) : bm_ev X 97 0 [.int x] [] σ = some (.int (bm_bi (bm_rg x 0 3)), σ) := by
  rw [bb_97_0, bs_inI X σ x (by decide) (by decide), bm_bI_some, bm_bo_bi, bm_gd_t]; rfl
theorem bs_isCow (X : bm_X) {σ : bm_M} {n : Nat} (h : σ 1 7 = nI n) (hn : n ≤ 8) (x : Int32) : bm_ev X 25 0 [.ref 0, .int x] [] σ = some (.int (bm_bi (bm_rg x 0 ((n : Int) - 1))), σ) := by
  rw [bb_25_0, h]
  have h0 : (0 : Int32).toInt = 0 := by decide
  simp only [bm_lt_toInt, h0, bn_toInt (show n < 2147483648 by omega), bm_bo_0, bm_bo_1, bm_gd_t]
  by_cases h1 : x.toInt < 0
  · have : ¬ 0 ≤ x.toInt := by omega
    simp [h1, this, bm_bi, bm_rg]
  · have e1 : 0 ≤ x.toInt := by omega
    by_cases h2 : x.toInt < n
    · have : x.toInt ≤ (n : Int) - 1 := by omega
      simp [h1, h2, e1, this, bm_bi, bm_rg]
    · have : ¬ x.toInt ≤ (n : Int) - 1 := by omega
      simp [h1, h2, e1, this, bm_bi, bm_rg]
theorem bs_isCowM (X : bm_X) {σ : bm_M} {n : Nat} (h : σ 46 2 = nI n) (hn : n ≤ 8) (x : Int32) : bm_ev X 72 0 [.ref 45, .int x] [] σ = some (.int (bm_bi (bm_rg x 0 ((n : Int) - 1))), σ) := by
  rw [bb_72_0]
  simp (disch := omega) only [bn_inT, bn_clamp, bm_gd_t, h]
  rw [bs_in, bm_i2l, bm_i2l, bl_toInt (by decide), bn_sub_toInt (by omega) (by decide), bm_bI_some, bm_bo_bi, bm_gd_t]
  rfl
/-- a finding is told -/
def bm_lw (k : Nat) : Int32 := -nI 1000001 - nI k
def bm_tl (k : Nat) (σ : bm_M) : bm_M := bm_up σ 43 k (σ 43 k + nI 1)
def bm_fo (k : Nat) (σ : bm_M) : bm_M := bm_up σ 49 k (σ 49 k + nI 1)
theorem bs_tell (X : bm_X) (σ : bm_M) {k : Nat} (hk : k < 7) : bm_ev X 23 0 [.ref 0, .int (nI k)] [] σ = some (.int (bm_lw k), bm_tl k σ) := by
  rw [bb_23_0]
  simp (disch := omega) only [bn_inT, bn_clamp, bm_gd_t]
  rfl
theorem bs_finds (X : bm_X) (σ : bm_M) {k : Nat} (hk : k < 7) : bm_ev X 31 0 [.ref 45, .int (nI k)] [] σ = some (.int (bm_lw k), bm_fo k σ) := by
  rw [bb_31_0]
  simp (disch := omega) only [bn_inT, bn_clamp, bm_gd_t]
  rfl
/-- a herd becomes another -/
theorem bm_cp_at (σ : bm_M) (s d n i : Nat) : bm_cp σ s d 0 0 n d i = if i < n then σ s i else σ d i := by
  simp [bm_cp, va_cpy]
theorem bm_cp_ne (σ : bm_M) {s d k : Nat} (sp dp n : Nat) (h : k ≠ d) : bm_cp σ s d sp dp n k = σ k := by
  simp [bm_cp, h]
set_option maxHeartbeats 4000000 in
theorem hc_become (X : bm_X) (σ : bm_M) {o o2 : Nat} (ho : bm_isH o) (ho2 : bm_isH o2) (hne : o ≠ o2) : ∃ τ, bm_ev X 52 0 [.ref o, .ref o2] [] σ = some (.null, τ) ∧ (∀ c i, ab_wd c i = true → τ (o + c) i = σ (o2 + c) i) ∧ ab_F o σ τ := by
  rw [bb_52_0 _ _ o ho o2 ho2]
  have h12 : bm_ac (nI 0) (nI 0) (nI 12) 12 12 = true := by decide
  have h10 : bm_ac (nI 0) (nI 0) (nI 10) 10 10 = true := by decide
  have h8 : bm_ac (nI 0) (nI 0) (nI 8) 8 8 = true := by decide
  have c0 : (nI 0).toNatClampNeg = 0 := by decide
  have c12 : (nI 12).toNatClampNeg = 12 := by decide
  have c10 : (nI 10).toNatClampNeg = 10 := by decide
  have c8 : (nI 8).toNatClampNeg = 8 := by decide
  simp only [h12, h10, h8, bm_gd_t, c0, c12, c10, c8]
  refine ⟨_, rfl, ?_, ?_⟩
  · intro c i hw
    obtain ⟨h1, h2⟩ := ab_wd_lt hw
    have hgap : ∀ x y : Nat, x ≤ 10 → y ≤ 10 → o2 + x ≠ o + y := by
      intro x y hx hy
      rcases ho with rfl | rfl | rfl <;> rcases ho2 with rfl | rfl | rfl <;> omega
    have hg0 : ∀ y : Nat, y ≤ 10 → o2 ≠ o + y := fun y hy => hgap 0 y (by decide) hy
    have hg1 : ∀ x : Nat, x ≤ 10 → o2 + x ≠ o := fun x hx => hgap x 0 hx (by decide)
    have hg2 : o2 ≠ o := fun q => hne q.symm
    match c, h1, hw with
    | 0, _, hw =>
      simp only [ab_wd, Bool.and_eq_true, decide_eq_true_eq] at hw
      rcases (show i = 3 ∨ i = 4 ∨ i = 5 ∨ i = 6 ∨ i = 7 by omega) with rfl | rfl | rfl | rfl | rfl <;> simp [bm_cp, bm_up, upd, hg0, hg1, hg2]
    | 1, _, hw => simp only [ab_wd, decide_eq_true_eq] at hw; simp [bm_cp, bm_up, upd, va_cpy, hg0, hg1, hg2, hgap, hw]
    | 2, _, hw => simp only [ab_wd, decide_eq_true_eq] at hw; simp [bm_cp, bm_up, upd, va_cpy, hg0, hg1, hg2, hgap, hw]
    | 3, _, hw => simp only [ab_wd, decide_eq_true_eq] at hw; simp [bm_cp, bm_up, upd, va_cpy, hg0, hg1, hg2, hgap, hw]
    | 4, _, hw =>
      have hw : i < 8 := (by simpa [ab_wd] using hw)
      simp [bm_cp, bm_up, upd, va_cpy, hg0, hg1, hg2, hgap, hw]
    | 5, _, hw =>
      have hw : i < 8 := (by simpa [ab_wd] using hw)
      simp [bm_cp, bm_up, upd, va_cpy, hg0, hg1, hg2, hgap, hw]
    | 6, _, hw =>
      have hw : i < 8 := (by simpa [ab_wd] using hw)
      simp [bm_cp, bm_up, upd, va_cpy, hg0, hg1, hg2, hgap, hw]
    | 7, _, hw =>
      have hw : i < 8 := (by simpa [ab_wd] using hw)
      simp [bm_cp, bm_up, upd, va_cpy, hg0, hg1, hg2, hgap, hw]
    | 8, _, hw =>
      have hw : i < 8 := (by simpa [ab_wd] using hw)
      simp [bm_cp, bm_up, upd, va_cpy, hg0, hg1, hg2, hgap, hw]
    | 9, _, hw =>
      have hw : i < 8 := (by simpa [ab_wd] using hw)
      simp [bm_cp, bm_up, upd, va_cpy, hg0, hg1, hg2, hgap, hw]
    | 10, _, hw =>
      have hw : i < 8 := (by simpa [ab_wd] using hw)
      simp [bm_cp, bm_up, upd, va_cpy, hg0, hg1, hg2, hgap, hw]
  · intro q hq
    have hq' : ∀ x : Nat, x ≤ 10 → q ≠ o + x := fun x hx => by omega
    have hq0 : q ≠ o := by omega
    simp [bm_cp, bm_up, hq', hq0]
theorem hc_becomeA (X : bm_X) {σ : bm_M} {o o2 : Nat} {a : ab_T} (ho : bm_isH o) (ho2 : bm_isH o2) (hne : o ≠ o2) (hH : ab_H o2 σ a) : ∃ τ, bm_ev X 52 0 [.ref o, .ref o2] [] σ = some (.null, τ) ∧ ab_H o τ a ∧ ab_F o σ τ := by
  obtain ⟨τ, e1, e2, e3⟩ := hc_become X σ ho ho2 hne
  exact ⟨τ, e1, fun c i hw => by rw [e2 c i hw]; exact hH c i hw, e3⟩
/-- the trial begins -/
theorem hc_begin (X : bm_X) {σ : bm_M} {a : ab_T} (hH : ab_H 1 σ a) : ∃ τ, bm_ev X 121 0 [.ref 0] [] σ = some (.null, τ) ∧ ab_H 12 τ a ∧ ab_F 12 σ τ := by
  obtain ⟨τ, e1, e2, e3⟩ := hc_becomeA X (o := 12) (o2 := 1) (Or.inr (Or.inl rfl)) (Or.inl rfl) (by decide) hH
  rw [bb_121_0, e1, bm_bV_some]
  exact ⟨τ, rfl, e2, e3⟩
/-- the reference's rows -/
theorem hm_becomel (X : bm_X) {r0 r1 : Nat} (h0 : bm_al r0 = 95) (h1 : bm_al r1 = 95) (hne : r0 ≠ r1) (σ0 : bm_M) : ∀ (n j : Nat) (σ : bm_M), j + n = 95 → (∀ q, q ≠ r1 → σ q = σ0 q) → (∀ i, i < j → σ r1 i = σ0 r0 i) → ∃ τ, bm_ev X 33 2 [.ref r0, .ref r1, .int (nI j)] [] σ = some (.null, τ) ∧ (∀ q, q ≠ r1 → τ q = σ0 q) ∧ ∀ i, i < 95 → τ r1 i = σ0 r0 i := by
  intro n
  induction n with
  | zero =>
    intro j σ hj h2 h3
    rw [bb_33_2]
    rw [show j = 95 by omega] at h3 ⊢
    simp (disch := omega) only [bn_lt, Nat.lt_irrefl, decide_false, cond_false]
    exact ⟨σ, rfl, h2, h3⟩
  | succ n ih =>
    intro j σ hj h2 h3
    rw [bb_33_2]
    have hj' : decide (j < 95) = true := decide_eq_true (by omega)
    simp (disch := omega) only [bn_lt, hj', cond_true, h0, h1, bn_inT, bn_clamp, bm_gd_t, bn_add]
    refine ih (j + 1) _ (by omega) (fun q hq => by rw [bm_up_ne _ _ _ hq]; exact h2 q hq) (fun i hi => ?_)
    by_cases e : i = j
    · subst e
      rw [bm_up_at, h2 r0 hne]
    · rw [bm_up_ni _ _ e]
      exact h3 i (by omega)
theorem hm_become (X : bm_X) {r0 r1 : Nat} (h0 : bm_al r0 = 95) (h1 : bm_al r1 = 95) (hne : r0 ≠ r1) {σ : bm_M} {a : ab_T} (hS : ab_S r0 σ a) : ∃ τ, bm_ev X 33 0 [.ref r0, .ref r1, .null] [] σ = some (.null, τ) ∧ ab_S r1 τ a ∧ ∀ q, q ≠ r1 → τ q = σ q := by
  rw [bb_33_0]
  obtain ⟨τ, e1, e2, e3⟩ := hm_becomel X h0 h1 hne σ 95 0 σ (by omega) (fun _ _ => rfl) (fun i hi => absurd hi (Nat.not_lt_zero _))
  refine ⟨τ, e1, fun c i hw => ?_, e2⟩
  obtain ⟨c1, c2⟩ := ab_wd_lt hw
  rw [e3 _ (ab_iy_ly c c1 i c2 hw).2]
  exact hS c i hw
theorem hm_lends (X : bm_X) {σ : bm_M} {a : ab_T} (hS : ab_S 46 σ a) : ∃ τ, bm_ev X 70 0 [.ref 45] [] σ = some (.null, τ) ∧ ab_S 48 τ a ∧ ab_S 46 τ a ∧ ∀ q, q ≠ 48 → τ q = σ q := by
  obtain ⟨τ, e1, e2, e3⟩ := hm_become X (r0 := 46) (r1 := 48) rfl rfl (by decide) hS
  rw [bb_70_0, e1, bm_bV_some]
  exact ⟨τ, rfl, e2, hS.fr (e3 46 (by decide)), e3⟩
theorem hm_laysBack (X : bm_X) {σ : bm_M} {a : ab_T} (hS : ab_S 48 σ a) : ∃ τ, bm_ev X 71 0 [.ref 45] [] σ = some (.null, τ) ∧ ab_S 46 τ a ∧ ab_S 48 τ a ∧ ∀ q, q ≠ 46 → τ q = σ q := by
  obtain ⟨τ, e1, e2, e3⟩ := hm_become X (r0 := 48) (r1 := 46) rfl rfl (by decide) hS
  rw [bb_71_0, e1, bm_bV_some]
  exact ⟨τ, rfl, e2, hS.fr (e3 48 (by decide)), e3⟩
end
section
/-! CLASS AND REFERENCE, side by side -/
/-- spots hold nothing, or one that there is -/
def ab_P (a : ab_T) : Prop := ∀ i, i < 10 → a 3 i = 4294967295 ∨ a 3 i < a 0 7
def ab_CH (a : ab_T) (T : Nat) (σ : bm_M) : Prop := ab_H 1 σ a ∧ ab_S 46 σ a ∧ ab_G a ∧ ab_P a ∧ a 0 5 ≤ T
def ab_CK (ka : ab_T) (kp : Bool) (T : Nat) (σ : bm_M) : Prop := σ 0 3 = bm_bi kp ∧ σ 45 3 = bm_bi kp ∧ (kp = true → ab_H 23 σ ka ∧ ab_S 47 σ ka ∧ ab_G ka ∧ ab_P ka ∧ ka 0 5 ≤ T)
def ab_CT (tl : Nat) (σ : bm_M) : Prop := σ 34 1 = nI tl ∧ σ 45 9 = nI tl ∧ tl ≤ 120 ∧ ∀ i, i < tl → ∃ b, b < 256 ∧ σ 35 i = nI b ∧ σ 50 i = nI b
def ab_CS (σ : bm_M) : Prop := ∀ s, s < 4 → ∃ bits size : Nat, (bits = 0 ∨ bits = 8 ∨ bits = 16 ∨ bits = 32) ∧ size ≤ 40 ∧ σ 42 s = nI bits ∧ σ 51 s = nI bits ∧ σ 41 s = nI size ∧ σ 52 s = nI size ∧ ∀ i, i < 40 → σ (37 + s) i = σ 53 (40 * s + i)
def ab_CF (σ : bm_M) : Prop := ∀ k, k < 7 → σ 43 k = σ 49 k
def ab_R (T : Nat) (σ : bm_M) : Prop := ∃ (a ka : ab_T) (kp : Bool) (tl : Nat), ab_CH a T σ ∧ ab_CK ka kp T σ ∧ ab_CT tl σ ∧ ab_CS σ ∧ ab_CF σ
/-- cells that say nothing -/
def ab_J (q i : Nat) : Prop := (12 ≤ q ∧ q ≤ 22) ∨ q = 36 ∨ q = 44 ∨ q = 48 ∨ q = 54 ∨ 55 ≤ q ∨ (q = 45 ∧ i ≠ 3 ∧ i ≠ 9) ∨ (q = 34 ∧ i ≠ 1) ∨ (q = 0 ∧ i ≠ 3)
/-- all but what may change is kept -/
def ab_K (P : Nat → Nat → Prop) (σ τ : bm_M) : Prop := ∀ q i, ¬ P q i → τ q i = σ q i
theorem ab_K.rf {P : Nat → Nat → Prop} {σ : bm_M} : ab_K P σ σ := fun _ _ _ => rfl
theorem ab_K.tr {P : Nat → Nat → Prop} {σ τ ρ : bm_M} (h : ab_K P σ τ) (h' : ab_K P τ ρ) : ab_K P σ ρ := fun q i hp => (h' q i hp).trans (h q i hp)
theorem ab_K.mono {P P' : Nat → Nat → Prop} {σ τ : bm_M} (h : ab_K P σ τ) (hp : ∀ q i, P q i → P' q i) : ab_K P' σ τ := fun q i hq => h q i (fun z => hq (hp q i z))
theorem ab_K.up {P : Nat → Nat → Prop} {σ τ : bm_M} (h : ab_K P σ τ) {k i : Nat} (v : Int32) (hp : P k i) : ab_K P σ (bm_up τ k i v) := fun q j hq => by
  by_cases e : q = k
  · subst e
    by_cases e2 : j = i
    · subst e2; exact absurd hp hq
    · rw [bm_up_ni _ _ e2]; exact h q j hq
  · rw [bm_up_nk _ _ e]; exact h q j hq
theorem ab_F.K {o : Nat} {σ τ : bm_M} (h : ab_F o σ τ) : ab_K (fun q _ => o ≤ q ∧ q ≤ o + 10) σ τ := fun q i hq => by
  rw [h q (by omega)]
theorem ab_E.K {σ τ : bm_M} (h : ab_E σ τ) : ab_K (fun q i => q = 46 ∨ (q = 45 ∧ i = 5)) σ τ := fun q i hq => by
  by_cases e : q = 45
  · subst e
    exact h.2 i (by omega)
  · rw [h.1 q (by omega) e]
theorem ab_N.K {σ τ : bm_M} (h : ab_N σ τ) : ab_K (fun q _ => q = 46) σ τ := fun q i hq => by
  rw [h q (by omega)]
theorem ab_q.K {r : Nat} {σ τ : bm_M} (h : ∀ q, q ≠ r → τ q = σ q) : ab_K (fun q _ => q = r) σ τ := fun q i hq => by
  rw [h q hq]
theorem ab_H.K {o : Nat} {σ τ : bm_M} {a : ab_T} {P : Nat → Nat → Prop} (h : ab_H o σ a) (hk : ab_K P σ τ) (hp : ∀ q i, o ≤ q → q ≤ o + 10 → ab_wd (q - o) i = true → ¬ P q i) : ab_H o τ a := fun c i hw => by
  have := ab_wd_lt hw
  rw [hk (o + c) i (hp _ _ (by omega) (by omega) (by rw [show o + c - o = c by omega]; exact hw))]
  exact h c i hw
theorem ab_S.K {q : Nat} {σ τ : bm_M} {a : ab_T} {P : Nat → Nat → Prop} (h : ab_S q σ a) (hk : ab_K P σ τ) (hp : ∀ i, ¬ P q i) : ab_S q τ a := fun c i hw => by
  rw [hk q _ (hp _)]
  exact h c i hw
/-- the part that is not of the herds -/
theorem ab_CK.K {ka : ab_T} {kp : Bool} {T T' : Nat} {σ τ : bm_M} {P : Nat → Nat → Prop} (h : ab_CK ka kp T σ) (hT : T ≤ T') (hk : ab_K P σ τ) (hp : ∀ q i, P q i → ab_J q i ∨ (1 ≤ q ∧ q ≤ 11) ∨ q = 46 ∨ q = 34 ∨ q = 35 ∨ (37 ≤ q ∧ q ≤ 43) ∨ (49 ≤ q ∧ q ≤ 53) ∨ (q = 45 ∧ i = 9)) : ab_CK ka kp T' τ := by
  obtain ⟨h1, h2, h3⟩ := h
  have n : ∀ q i, ((q = 0 ∧ i = 3) ∨ (q = 45 ∧ i = 3) ∨ (23 ≤ q ∧ q ≤ 33) ∨ q = 47) → ¬ P q i := by
    intro q i hq hP
    have := hp q i hP
    unfold ab_J at this
    omega
  refine ⟨by rw [hk 0 3 (n _ _ (by omega))]; exact h1, by rw [hk 45 3 (n _ _ (by omega))]; exact h2, fun e => ?_⟩
  obtain ⟨g1, g2, g3, g4, g5⟩ := h3 e
  exact ⟨g1.K hk (fun q i a1 a2 _ => n q i (by omega)), g2.K hk (fun i => n 47 i (by omega)), g3, g4, by omega⟩
theorem ab_CT.K {tl : Nat} {σ τ : bm_M} {P : Nat → Nat → Prop} (h : ab_CT tl σ) (hk : ab_K P σ τ) (hp : ∀ q i, P q i → ab_J q i ∨ (1 ≤ q ∧ q ≤ 11) ∨ q = 46 ∨ (23 ≤ q ∧ q ≤ 33) ∨ q = 47 ∨ (37 ≤ q ∧ q ≤ 43) ∨ q = 49 ∨ (51 ≤ q ∧ q ≤ 53) ∨ (q = 45 ∧ i = 3) ∨ (q = 0 ∧ i = 3)) : ab_CT tl τ := by
  obtain ⟨h1, h2, h3, h4⟩ := h
  have n : ∀ q i, ((q = 34 ∧ i = 1) ∨ (q = 45 ∧ i = 9) ∨ q = 35 ∨ q = 50) → ¬ P q i := by
    intro q i hq hP
    have := hp q i hP
    unfold ab_J at this
    omega
  refine ⟨by rw [hk 34 1 (n _ _ (by omega))]; exact h1, by rw [hk 45 9 (n _ _ (by omega))]; exact h2, h3, fun i hi => ?_⟩
  rw [hk 35 i (n _ _ (by omega)), hk 50 i (n _ _ (by omega))]
  exact h4 i hi
theorem ab_CS.K {σ τ : bm_M} {P : Nat → Nat → Prop} (h : ab_CS σ) (hk : ab_K P σ τ) (hp : ∀ q i, P q i → ab_J q i ∨ (1 ≤ q ∧ q ≤ 11) ∨ q = 46 ∨ (23 ≤ q ∧ q ≤ 33) ∨ q = 47 ∨ q = 34 ∨ q = 35 ∨ q = 43 ∨ q = 49 ∨ q = 50 ∨ q = 45 ∨ q = 0) : ab_CS τ := by
  have n : ∀ q i, ((37 ≤ q ∧ q ≤ 42) ∨ (51 ≤ q ∧ q ≤ 53)) → ¬ P q i := by
    intro q i hq hP
    have := hp q i hP
    unfold ab_J at this
    omega
  intro s hs
  obtain ⟨bits, size, h1, h2, h3, h4, h5, h6, h7⟩ := h s hs
  refine ⟨bits, size, h1, h2, ?_, ?_, ?_, ?_, fun i hi => ?_⟩
  · rw [hk 42 s (n _ _ (by omega))]; exact h3
  · rw [hk 51 s (n _ _ (by omega))]; exact h4
  · rw [hk 41 s (n _ _ (by omega))]; exact h5
  · rw [hk 52 s (n _ _ (by omega))]; exact h6
  · rw [hk (37 + s) i (n _ _ (by omega)), hk 53 _ (n _ _ (by omega))]; exact h7 i hi
theorem ab_CF.K {σ τ : bm_M} {P : Nat → Nat → Prop} (h : ab_CF σ) (hk : ab_K P σ τ) (hp : ∀ q i, P q i → q ≠ 43 ∧ q ≠ 49) : ab_CF τ := fun k hk' => by
  rw [hk 43 k (fun z => (hp _ _ z).1 rfl), hk 49 k (fun z => (hp _ _ z).2 rfl)]
  exact h k hk'
def ab_JH (q i : Nat) : Prop := ab_J q i ∨ (1 ≤ q ∧ q ≤ 11) ∨ q = 46
theorem ab_R.herd {T T' : Nat} {σ τ : bm_M} {a' ka : ab_T} {kp : Bool} {tl : Nat} (h2 : ab_CK ka kp T σ) (h3 : ab_CT tl σ) (h4 : ab_CS σ) (h5 : ab_CF σ) (hT : T ≤ T') (hk : ab_K ab_JH σ τ) (h1 : ab_CH a' T' τ) : ab_R T' τ := by
  refine ⟨a', ka, kp, tl, h1, h2.K hT hk (fun q i z => ?_), h3.K hk (fun q i z => ?_), h4.K hk (fun q i z => ?_), h5.K hk (fun q i z => ?_)⟩
  all_goals (unfold ab_JH at z; first | (unfold ab_J at z ⊢; omega) | (unfold ab_J at z; omega))
theorem ab_CH.K {a : ab_T} {T T' : Nat} {σ τ : bm_M} (h : ab_CH a T σ) (hT : T ≤ T') (hk : ab_K ab_J σ τ) : ab_CH a T' τ := by
  obtain ⟨g1, g2, g3, g4, g5⟩ := h
  refine ⟨g1.K hk (fun q i a1 a2 _ z => ?_), g2.K hk (fun i z => ?_), g3, g4, by omega⟩
  all_goals (unfold ab_J at z; omega)
/-- nothing that is told has changed -/
theorem ab_R.junk {T T' : Nat} {σ τ : bm_M} (h : ab_R T σ) (hT : T ≤ T') (hk : ab_K ab_J σ τ) : ab_R T' τ := by
  obtain ⟨a, ka, kp, tl, h1, h2, h3, h4, h5⟩ := h
  exact ab_R.herd h2 h3 h4 h5 hT (hk.mono (fun q i z => Or.inl z)) (h1.K hT hk)
theorem ab_R.tell {T T' : Nat} {σ : bm_M} (h : ab_R T σ) (hT : T ≤ T') {k : Nat} (hk : k < 7) : ab_R T' (bm_fo k (bm_tl k σ)) := by
  obtain ⟨a, ka, kp, tl, h1, h2, h3, h4, h5⟩ := h
  have hK : ab_K (fun q _ => q = 43 ∨ q = 49) σ (bm_fo k (bm_tl k σ)) := (ab_K.rf.up _ (Or.inl rfl)).up _ (Or.inr rfl)
  obtain ⟨g1, g2, g3, g4, g5⟩ := h1
  refine ⟨a, ka, kp, tl, ⟨g1.K hK (fun q i _ _ _ z => by omega), g2.K hK (fun i z => by omega), g3, g4, by omega⟩, h2.K hT hK (fun q i z => by omega), h3.K hK (fun q i z => by omega), h4.K hK (fun q i z => by omega), fun j hj => ?_⟩
  have h49 : bm_tl k σ 49 = σ 49 := bm_up_ne _ _ _ (by decide)
  unfold bm_fo
  rw [bm_up_ne _ _ _ (show (43 : Nat) ≠ 49 by decide), h49]
  unfold bm_tl
  by_cases e : j = k
  · subst e
    rw [bm_up_at, bm_up_at, h5 j hj]
  · rw [bm_up_ni _ _ e, bm_up_ni _ _ e, bm_up_ne _ _ _ (by decide)]
    exact h5 j hj
/-- a call of the class and one of the reference answer alike, and leave both alike -/
def ab_op (X : bm_X) (c m : Nat) (Lc Lm : List Value) : Prop := ∀ (T : Nat) (σ : bm_M), ab_R T σ → T ≤ 31000 → ∃ (x : Int32) (τ τ' : bm_M), bm_ev X c 0 Lc [] σ = some (.int x, τ) ∧ bm_ev X m 0 Lm [] τ = some (.int x, τ') ∧ ab_R (T + 60) τ'
theorem bm_cond_bi (b : Bool) (x y : bm_R) : cond (decide (bm_bi b = 0)) x y = cond b y x := by
  cases b <;> rfl
end
section
/-! grass, pasture, weather, pail, pour -/
theorem ab_P.set {a : ab_T} (h : ab_P a) {c i : Nat} (v : Nat) (h3 : c ≠ 3) (h7 : ¬ (c = 0 ∧ i = 7)) : ab_P (ab_set a c i v) := fun j hj => by
  rw [ab_set_nc a v (fun q => h3 q.symm), ab_set_ne a v (fun q => h7 ⟨q.1.symm, q.2.symm⟩)]
  exact h j hj
theorem ab_R.set {T T' : Nat} {σ : bm_M} {a ka : ab_T} {kp : Bool} {tl : Nat} (h1 : ab_CH a T σ) (h2 : ab_CK ka kp T σ) (h3 : ab_CT tl σ) (h4 : ab_CS σ) (h5 : ab_CF σ) (hT : T ≤ T') {c i : Nat} (v : Nat) (hw : ab_wd c i = true) (hv : ab_ok c i v) (n3 : c ≠ 3) (n7 : ¬ (c = 0 ∧ i = 7)) (n5 : ¬ (c = 0 ∧ i = 5)) : ab_R T' (bm_up (bm_up σ (1 + c) i (nI v)) 46 (ab_ly c i) (nI v)) := by
  obtain ⟨hH, hS, hG, hP, hh⟩ := h1
  have hc := (ab_wd_lt hw).1
  refine ab_R.herd (a' := ab_set a c i v) h2 h3 h4 h5 hT ((ab_K.rf.up _ (Or.inr (Or.inl (by omega)))).up _ (Or.inr (Or.inr rfl))) ⟨(hH.up c i v).ne _ _ (by omega), ?_, hG.set hv, hP.set v n3 n7, ?_⟩
  · exact (hS.ne _ _ (by omega)).up v hw
  · rw [ab_set_ne a v (fun q => n5 ⟨q.1.symm, q.2.symm⟩)]
    omega
theorem bs_becomes (X : bm_X) (σ : bm_M) {k : Nat} (v : Int32) (hk : k < 95) : bm_ev X 36 0 [.ref 45, .int (nI k), .int v, .null] [] σ = some (.int (σ 46 k), bm_up σ 46 k v) := by
  rw [bb_36_0]
  simp (disch := omega) only [bn_inT, bn_clamp, bm_gd_t]
theorem op_grass (X : bm_X) (p v : Int32) : ab_op X 106 123 [.ref 0, .int p, .int v, .null] [.ref 45, .int p, .int v] := by
  intro T σ hR hT
  obtain ⟨a, ka, kp, tl, h1, h2, h3, h4, h5⟩ := id hR
  obtain ⟨hH, hS, hG, hP, hh⟩ := id h1
  rw [bb_106_0]
  simp only [bb_123_0, bs_c65, bs_m73, bs_m74, bm_bI_some, bm_cond_bi, bs_upN X _ _ (show 99 < 2147483648 by decide), bs_tell X _ (show 0 < 7 by decide), bs_finds X _ (show 0 < 7 by decide)]
  cases g1 : bm_rg p 0 11
  · exact ⟨_, _, _, rfl, rfl, hR.tell (by omega) (by decide)⟩
  · have g2e : bm_rg v 0 ((99 : Nat) : Int) = bm_rg v 0 99 := rfl
    rw [g2e]
    cases g2 : bm_rg v 0 99
    · exact ⟨_, _, _, rfl, rfl, hR.tell (by omega) (by decide)⟩
    · obtain ⟨j, hj, -, rfl⟩ := bm_rg_ex (n := 11) g1
      obtain ⟨w, hw, -, rfl⟩ := bm_rg_ex (n := 99) g2
      have e1 : σ 2 j = nI (a 1 j) := hH 1 j (ab_w1 (by omega))
      have e2 : σ 46 (5 + j) = nI (a 1 j) := hS 1 j (ab_w1 (by omega))
      simp (disch := omega) only [cond_true, bn_inT, bn_clamp, bm_gd_t, bn_add, bs_becomes, bm_bI_some]
      refine ⟨_, _, _, rfl, ?_, ab_R.set h1 h2 h3 h4 h5 (by omega) (c := 1) (i := j) w (ab_w1 (by omega)) hw (by decide) (by omega) (by omega)⟩
      rw [bm_up_nk _ _ (by decide), e1, e2]
      rfl
theorem op_pasture (X : bm_X) (p v : Int32) : ab_op X 107 124 [.ref 0, .int p, .int v] [.ref 45, .int p, .int v] := by
  intro T σ hR hT
  obtain ⟨a, ka, kp, tl, h1, h2, h3, h4, h5⟩ := id hR
  obtain ⟨hH, hS, hG, hP, hh⟩ := id h1
  have i1 : ∀ (x : Int32) (σ : bm_M), bm_ev X 24 0 [.int x, .int (nI 1)] [] σ = some (.int (bm_bi (bm_rg x 0 1)), σ) := fun x σ => bs_upN X σ x (by decide)
  have m1 : ∀ (x : Int32) (σ : bm_M), bm_ev X 32 0 [.long x.toInt64, .null, .long (lN 0), .null, .long (lN 1), .null] [] σ = some (.int (bm_bi (bm_rg x 0 1)), σ) := fun x σ => bs_inI X σ x (by decide) (by decide)
  rw [bb_107_0]
  simp only [bb_124_0, bs_c65, bs_m73, bm_bI_some, bm_cond_bi, i1, m1, bs_tell X _ (show 0 < 7 by decide), bs_finds X _ (show 0 < 7 by decide)]
  cases g1 : bm_rg p 0 11
  · exact ⟨_, _, _, rfl, rfl, hR.tell (by omega) (by decide)⟩
  · cases g2 : bm_rg v 0 1
    · exact ⟨_, _, _, rfl, rfl, hR.tell (by omega) (by decide)⟩
    · obtain ⟨j, hj, -, rfl⟩ := bm_rg_ex (n := 11) g1
      have e1 : σ 2 j = nI (a 1 j) := hH 1 j (ab_w1 (by omega))
      have e2 : σ 46 (5 + j) = nI (a 1 j) := hS 1 j (ab_w1 (by omega))
      have e3 := hc_cowsOn X (Or.inl rfl) hH hG (k := j) (by omega)
      have e4 := hm_cowsOn X hS hG (k := j) (by omega)
      simp only [cond_true]
      by_cases e : v = 0
      · have hv : decide (v = 0) = true := decide_eq_true e
        simp only [hv, cond_true]
        refine ⟨nI (a 1 j), σ, σ, ?_, ?_, hR.junk (by omega) ab_K.rf⟩
        · rw [bn_inT (by omega) (by decide), bn_clamp (by omega), bm_gd_t, e1]
        · rw [bn_add, bn_inT (by omega) (by decide), bn_clamp (by omega), bm_gd_t, e2]
      · have hv : decide (v = 0) = false := decide_eq_false e
        simp only [hv, cond_false]
        refine ⟨ab_or (ab_con a j) (a 0 7), σ, σ, ?_, ?_, hR.junk (by omega) ab_K.rf⟩
        · rw [e3, bm_bI_some]
        · rw [e4, bm_bI_some]
theorem op_weather (X : bm_X) (p v : Int32) : ab_op X 57 83 [.ref 0, .int p, .int v, .null] [.ref 45, .int p, .int v] := by
  intro T σ hR hT
  obtain ⟨a, ka, kp, tl, h1, h2, h3, h4, h5⟩ := id hR
  obtain ⟨hH, hS, hG, hP, hh⟩ := id h1
  have i1 : ∀ (x : Int32) (σ : bm_M), bm_ev X 24 0 [.int x, .int (nI 1)] [] σ = some (.int (bm_bi (bm_rg x 0 1)), σ) := fun x σ => bs_upN X σ x (by decide)
  have i20 : ∀ (x : Int32) (σ : bm_M), bm_ev X 24 0 [.int x, .int (nI 20)] [] σ = some (.int (bm_bi (bm_rg x 0 20)), σ) := fun x σ => bs_upN X σ x (by decide)
  have i99 : ∀ (x : Int32) (σ : bm_M), bm_ev X 24 0 [.int x, .int (nI 99)] [] σ = some (.int (bm_bi (bm_rg x 0 99)), σ) := fun x σ => bs_upN X σ x (by decide)
  have m1 : ∀ (x : Int32) (σ : bm_M), bm_ev X 32 0 [.long x.toInt64, .null, .long (lN 0), .null, .long (lN 1), .null] [] σ = some (.int (bm_bi (bm_rg x 0 1)), σ) := fun x σ => bs_inI X σ x (by decide) (by decide)
  have m20 : ∀ (x : Int32) (σ : bm_M), bm_ev X 32 0 [.long x.toInt64, .null, .long (lN 0), .null, .long (lN 20), .null] [] σ = some (.int (bm_bi (bm_rg x 0 20)), σ) := fun x σ => bs_inI X σ x (by decide) (by decide)
  have m99 : ∀ (x : Int32) (σ : bm_M), bm_ev X 32 0 [.long x.toInt64, .null, .long (lN 0), .null, .long (lN 99), .null] [] σ = some (.int (bm_bi (bm_rg x 0 99)), σ) := fun x σ => bs_inI X σ x (by decide) (by decide)
  rw [bb_57_0]
  simp only [bb_57_10, bb_83_0, bb_83_14, i1, i20, i99, m1, m20, m99, bm_bI_some, bm_cond_bi, bs_tell X _ (show 0 < 7 by decide), bs_finds X _ (show 0 < 7 by decide)]
  cases g1 : bm_rg p 0 1
  · exact ⟨_, _, _, rfl, rfl, hR.tell (by omega) (by decide)⟩
  · simp only [cond_true]
    by_cases e : p = 0
    · subst e
      cases g2 : bm_rg v 0 20
      · exact ⟨_, _, _, rfl, rfl, hR.tell (by omega) (by decide)⟩
      · obtain ⟨w, hw, -, rfl⟩ := bm_rg_ex (n := 20) g2
        refine ⟨_, _, _, rfl, ?_, ab_R.set h1 h2 h3 h4 h5 (by omega) (c := 0) (i := 3) w rfl hw (by decide) (by omega) (by omega)⟩
        have e1 : σ 1 3 = nI (a 0 3) := hH 0 3 rfl
        have e2 : σ 46 3 = nI (a 0 3) := hS 0 3 rfl
        simp (disch := omega) only [decide_true, cond_true, bs_becomes, bm_bI_some]
        rw [bm_up_nk _ _ (by decide), e1, e2]
        rfl
    · have hp : decide (p = 0) = false := decide_eq_false e
      simp only [hp, cond_false]
      cases g2 : bm_rg v 0 99
      · exact ⟨_, _, _, rfl, rfl, hR.tell (by omega) (by decide)⟩
      · obtain ⟨w, hw, -, rfl⟩ := bm_rg_ex (n := 99) g2
        refine ⟨_, _, _, rfl, ?_, ab_R.set h1 h2 h3 h4 h5 (by omega) (c := 0) (i := 4) w rfl hw (by decide) (by omega) (by omega)⟩
        have e1 : σ 1 4 = nI (a 0 4) := hH 0 4 rfl
        have e2 : σ 46 4 = nI (a 0 4) := hS 0 4 rfl
        simp (disch := omega) only [cond_true, bs_becomes, bm_bI_some]
        rw [bm_up_nk _ _ (by decide), e1, e2]
        rfl
theorem op_pail (X : bm_X) (p : Int32) : ab_op X 108 125 [.ref 0, .int p] [.ref 45, .int p] := by
  intro T σ hR hT
  obtain ⟨a, ka, kp, tl, h1, h2, h3, h4, h5⟩ := id hR
  obtain ⟨hH, hS, hG, hP, hh⟩ := id h1
  rw [bb_108_0]
  simp only [bb_125_0, bs_c66, bs_m73, bm_bI_some, bm_cond_bi, bs_tell X _ (show 0 < 7 by decide), bs_finds X _ (show 0 < 7 by decide)]
  cases g1 : bm_rg p 0 11
  · exact ⟨_, _, _, rfl, rfl, hR.tell (by omega) (by decide)⟩
  · obtain ⟨j, hj, -, rfl⟩ := bm_rg_ex (n := 11) g1
    have e1 : σ 3 j = nI (a 2 j) := hH 2 j (ab_w2 (by omega))
    have e2 : σ 46 (17 + j) = nI (a 2 j) := hS 2 j (ab_w2 (by omega))
    simp (disch := omega) only [cond_true, bn_inT, bn_clamp, bm_gd_t, bn_add, e1]
    refine ⟨_, _, _, rfl, ?_, hR.junk (by omega) ab_K.rf⟩
    rw [e2]
theorem op_pour (X : bm_X) (p : Int32) : ab_op X 109 126 [.ref 0, .int p, .null] [.ref 45, .int p] := by
  intro T σ hR hT
  obtain ⟨a, ka, kp, tl, h1, h2, h3, h4, h5⟩ := id hR
  obtain ⟨hH, hS, hG, hP, hh⟩ := id h1
  rw [bb_109_0]
  simp only [bb_126_0, bs_c66, bs_m73, bm_bI_some, bm_cond_bi, bs_tell X _ (show 0 < 7 by decide), bs_finds X _ (show 0 < 7 by decide)]
  cases g1 : bm_rg p 0 11
  · exact ⟨_, _, _, rfl, rfl, hR.tell (by omega) (by decide)⟩
  · obtain ⟨j, hj, -, rfl⟩ := bm_rg_ex (n := 11) g1
    have e1 : σ 3 j = nI (a 2 j) := hH 2 j (ab_w2 (by omega))
    have e2 : σ 46 (17 + j) = nI (a 2 j) := hS 2 j (ab_w2 (by omega))
    simp (disch := omega) only [cond_true, bn_inT, bn_clamp, bm_gd_t, bn_add, bs_becomes, bm_bI_some]
    refine ⟨_, _, _, rfl, ?_, ab_R.set h1 h2 h3 h4 h5 (by omega) (c := 2) (i := j) 0 (ab_w2 (by omega)) (Nat.zero_le _) (by decide) (by omega) (by omega)⟩
    rw [bm_up_nk _ _ (by decide), e1, e2]
    rfl
end
section
/-! cow, of, change, go, now -/
theorem ab_set_comm (a : ab_T) {c i c' i' : Nat} (v v' : Nat) (h : ¬ (c = c' ∧ i = i')) : ab_set (ab_set a c i v) c' i' v' = ab_set (ab_set a c' i' v') c i v := by
  funext x y
  unfold ab_set
  by_cases e1 : x = c ∧ y = i
  · by_cases e2 : x = c' ∧ y = i'
    · exact absurd ⟨e1.1.symm.trans e2.1, e1.2.symm.trans e2.2⟩ h
    · obtain ⟨rfl, rfl⟩ := e1
      simp [e2]
  · by_cases e2 : x = c' ∧ y = i'
    · obtain ⟨rfl, rfl⟩ := e2
      simp [e1]
    · simp only [e1, e2, if_false]
/-- a new one -/
def ab_add (a : ab_T) (kd p : Nat) : ab_T := ab_set (ab_set (ab_set (ab_set (ab_set (ab_set (ab_set (ab_set a 4 (a 0 7) kd) 5 (a 0 7) p) 6 (a 0 7) 0) 7 (a 0 7) 3) 8 (a 0 7) 0) 9 (a 0 7) 0) 10 (a 0 7) 0) 0 7 (a 0 7 + 1)
theorem ab_G.add {a : ab_T} (h : ab_G a) {kd p : Nat} (hk : kd ≤ 6) (hp : p ≤ 11) (hn : a 0 7 < 8) : ab_G (ab_add a kd p) :=
  (((((((h.set (c := 4) hk).set (c := 5) hp).set (c := 6) (Nat.zero_le _)).set (c := 7) (show 3 ≤ 9 by decide)).set (c := 8) (Nat.zero_le _)).set (c := 9) (Nat.zero_le _)).set (c := 10) (Nat.zero_le _)).set (c := 0) (i := 7) (show _ ≤ 8 by omega)
theorem ab_add_3 (a : ab_T) (kd p i : Nat) : ab_add a kd p 3 i = a 3 i := by simp [ab_add, ab_set]
theorem ab_add_7 (a : ab_T) (kd p : Nat) : ab_add a kd p 0 7 = a 0 7 + 1 := by simp [ab_add, ab_set]
theorem ab_add_0 (a : ab_T) (kd p : Nat) {i : Nat} (h : i ≠ 7) : ab_add a kd p 0 i = a 0 i := by simp [ab_add, ab_set, h]
theorem ab_P.add {a : ab_T} (h : ab_P a) (kd p : Nat) : ab_P (ab_add a kd p) := fun i hi => by
  rw [ab_add_3, ab_add_7]
  rcases h i hi with q | q
  · exact Or.inl q
  · exact Or.inr (by omega)
theorem hc_addCow (X : bm_X) {o : Nat} (ho : bm_isH o) {σ : bm_M} {a : ab_T} (hH : ab_H o σ a) (hG : ab_G a) {k : Nat} {kd p : Nat} (hn : a 0 7 < 8) : ∃ τ, bm_ev X 0 0 [.ref o, .int (nI kd), .int (nI p), .null] [] σ = some (.int (nI (a 0 7)), τ) ∧ ab_H o τ (ab_add a kd p) ∧ ab_F o σ τ := by
  rw [bb_0_0 _ _ _ ho]
  have h7 := hH 0 7 rfl
  rw [Nat.add_zero] at h7
  simp (disch := omega) only [h7, bn_inT, bn_clamp, bm_gd_t, bm_up_nk, ne_eq, Nat.left_eq_add, reduceCtorEq, not_false_eq_true, bn_add]
  refine ⟨_, rfl, ?_, ?_⟩
  · have := (((((((hH.up 4 (a 0 7) kd).up 5 (a 0 7) p).up 6 (a 0 7) 0).up 7 (a 0 7) 3).up 8 (a 0 7) 0).up 9 (a 0 7) 0).up 10 (a 0 7) 0).up 0 7 (a 0 7 + 1)
    rw [Nat.add_zero] at this
    exact this
  · have := (((((((ab_F.rf (o := o) (σ := σ)).up (c := 4) (by decide) (a 0 7) (nI kd)).up (c := 5) (by decide) (a 0 7) (nI p)).up (c := 6) (by decide) (a 0 7) (nI 0)).up (c := 7) (by decide) (a 0 7) (nI 3)).up (c := 8) (by decide) (a 0 7) (nI 0)).up (c := 9) (by decide) (a 0 7) (nI 0)).up (c := 10) (by decide) (a 0 7) (nI 0)
    have := this.up (c := 0) (by decide) 7 (nI (a 0 7 + 1))
    rw [Nat.add_zero] at this
    exact this
theorem hm_adds (X : bm_X) {σ : bm_M} {a : ab_T} (hS : ab_S 46 σ a) {kd p : Nat} (hn : a 0 7 < 8) : ∃ τ, bm_ev X 81 0 [.ref 45, .int (nI kd), .int (nI p), .null] [] σ = some (.int (nI (a 0 7)), τ) ∧ ab_S 46 τ (ab_add a kd p) ∧ ab_N σ τ := by
  rw [bb_81_0]
  have h7 : σ 46 2 = nI (a 0 7) := hS 0 7 rfl
  have hS0 : ab_S 46 (bm_up σ 46 2 (nI (a 0 7 + 1))) (ab_set a 0 7 (a 0 7 + 1)) := hS.up (c := 0) (i := 7) _ rfl
  obtain ⟨t1, a1, b1, c1⟩ := hm_setsw X hS0 (k := a 0 7) (w := 0) kd (by decide) hn
  obtain ⟨t2, a2, b2, c2⟩ := hm_setsw X b1 (k := a 0 7) (w := 1) p (by decide) hn
  obtain ⟨t3, a3, b3, c3⟩ := hm_setsw X b2 (k := a 0 7) (w := 2) 0 (by decide) hn
  obtain ⟨t4, a4, b4, c4⟩ := hm_setsw X b3 (k := a 0 7) (w := 3) 3 (by decide) hn
  obtain ⟨t5, a5, b5, c5⟩ := hm_setsw X b4 (k := a 0 7) (w := 4) 0 (by decide) hn
  obtain ⟨t6, a6, b6, c6⟩ := hm_setsw X b5 (k := a 0 7) (w := 5) 0 (by decide) hn
  obtain ⟨t7, a7, b7, c7⟩ := hm_setsw X b6 (k := a 0 7) (w := 6) 0 (by decide) hn
  simp (disch := omega) only [bn_inT, bn_clamp, bm_gd_t, h7, bn_add, a1, a2, a3, a4, a5, a6, a7, bm_bV_some]
  refine ⟨t7, rfl, ?_, (((((((ab_N.rf.up _ _).tr c1).tr c2).tr c3).tr c4).tr c5).tr c6).tr c7⟩
  unfold ab_add
  rw [ab_set_comm _ _ _ (show ¬ (10 = 0 ∧ a 0 7 = 7) by omega), ab_set_comm _ _ _ (show ¬ (9 = 0 ∧ a 0 7 = 7) by omega), ab_set_comm _ _ _ (show ¬ (8 = 0 ∧ a 0 7 = 7) by omega), ab_set_comm _ _ _ (show ¬ (7 = 0 ∧ a 0 7 = 7) by omega), ab_set_comm _ _ _ (show ¬ (6 = 0 ∧ a 0 7 = 7) by omega), ab_set_comm _ _ _ (show ¬ (5 = 0 ∧ a 0 7 = 7) by omega), ab_set_comm _ _ _ (show ¬ (4 = 0 ∧ a 0 7 = 7) by omega)]
  exact b7
/-- the herd of both changed alike -/
theorem ab_R.both {T T' : Nat} {σ τ τ' : bm_M} {a' ka : ab_T} {kp : Bool} {tl : Nat} (h2 : ab_CK ka kp T σ) (h3 : ab_CT tl σ) (h4 : ab_CS σ) (h5 : ab_CF σ) (hT : T ≤ T') (hH : ab_H 1 τ a') (hF : ab_F 1 σ τ) (hS : ab_S 46 τ' a') (hE : ab_E τ τ') (hG : ab_G a') (hP : ab_P a') (hh : a' 0 5 ≤ T') : ab_R T' τ' := by
  have k1 : ab_K ab_JH σ τ := hF.K.mono (fun q i z => Or.inr (Or.inl (by omega)))
  have k2 : ab_K ab_JH τ τ' := hE.K.mono (fun q i z => by
    rcases z with z | z
    · exact Or.inr (Or.inr z)
    · exact Or.inl (by unfold ab_J; omega))
  exact ab_R.herd h2 h3 h4 h5 hT (k1.tr k2) ⟨hH.K hE.K (fun q i _ _ _ z => by omega), hS, hG, hP, hh⟩
theorem op_cow (X : bm_X) (p v : Int32) : ab_op X 110 127 [.ref 0, .int p, .int v] [.ref 45, .int p, .int v] := by
  intro T σ hR hT
  obtain ⟨a, ka, kp, tl, h1, h2, h3, h4, h5⟩ := id hR
  obtain ⟨hH, hS, hG, hP, hh⟩ := id h1
  rw [bb_110_0]
  simp only [bb_127_0, bs_c65, bs_c67, bs_m73, bs_m76, bm_bI_some, bm_cond_bi, bs_tell X _ (show 0 < 7 by decide), bs_finds X _ (show 0 < 7 by decide), bs_tell X _ (show 1 < 7 by decide), bs_finds X _ (show 1 < 7 by decide)]
  cases g1 : bm_rg p 0 6
  · exact ⟨_, _, _, rfl, rfl, hR.tell (by omega) (by decide)⟩
  · cases g2 : bm_rg v 0 11
    · exact ⟨_, _, _, rfl, rfl, hR.tell (by omega) (by decide)⟩
    · obtain ⟨kd, hkd, -, rfl⟩ := bm_rg_ex (n := 6) g1
      obtain ⟨q, hq, -, rfl⟩ := bm_rg_ex (n := 11) g2
      have e1 : σ 1 7 = nI (a 0 7) := hH 0 7 rfl
      have hc := hG.2.2.1
      simp only [cond_true]
      rw [e1, bn_lt (by omega) (by decide)]
      by_cases e : a 0 7 < 8
      · obtain ⟨τ, f1, f2, f3⟩ := hc_addCow X (Or.inl rfl) hH hG (k := 0) (kd := kd) (p := q) e
        obtain ⟨τ', k1, k2, k3⟩ := hm_adds X (hS.fr (f3 46 (by decide))) (kd := kd) (p := q) e
        rw [decide_eq_true e]
        refine ⟨nI (a 0 7), τ, τ', ?_, ?_, ab_R.both h2 h3 h4 h5 (by omega) f2 f3 k2 k3.E (hG.add hkd hq e) (hP.add kd q) (by rw [ab_add_0 a kd q (by decide)]; omega)⟩
        · rw [cond_true, f1, bm_bI_some]
        · have e2 : τ 46 2 = nI (a 0 7) := hS.fr (f3 46 (by decide)) 0 7 rfl
          rw [bn_inT (by decide) (by decide), bm_gd_t, bn_clamp (by decide), e2, bn_eq (by omega) (by decide), decide_eq_false (by omega), cond_false, k1, bm_bI_some]
      · rw [decide_eq_false e]
        refine ⟨bm_lw 1, bm_tl 1 σ, bm_fo 1 (bm_tl 1 σ), rfl, ?_, hR.tell (by omega) (by decide)⟩
        have e2 : bm_tl 1 σ 46 2 = nI (a 0 7) := hS 0 7 rfl
        rw [bn_inT (by decide) (by decide), bm_gd_t, bn_clamp (by decide), e2, bn_eq (by omega) (by decide), decide_eq_true (by omega), cond_true]
theorem ab_spend_ne (a : ab_T) (k c i : Nat) (h1 : c ≠ 1) (h5 : c ≠ 5) (h8 : c ≠ 8) (h9 : c ≠ 9) : ab_spend a k c i = a c i := by
  unfold ab_spend ab_wea
  rw [ab_set_nc _ _ h8]
  split
  · unfold ab_wan ab_sp2
    rw [ab_set_nc _ _ h5, ab_set_nc _ _ h1, ab_sp1_ne a k c i h9]
  · unfold ab_sp2
    rw [ab_set_nc _ _ h1, ab_sp1_ne a k c i h9]
theorem ab_sp_ne (a : ab_T) (c i : Nat) (h1 : c ≠ 1) (h5 : c ≠ 5) (h8 : c ≠ 8) (h9 : c ≠ 9) : ∀ n, ab_sp a n c i = a c i
  | 0 => rfl
  | n + 1 => by rw [ab_sp, ab_spend_ne _ _ _ _ h1 h5 h8 h9, ab_sp_ne a c i h1 h5 h8 h9 n]
/-- kinds, tones, swings, muffles and spots stay -/
theorem ab_hr_ne (a : ab_T) (c i : Nat) (h : c = 3 ∨ c = 4 ∨ c = 6 ∨ c = 7 ∨ c = 10) : ab_hr a c i = a c i := by
  have h1 : ab_tick (ab_gr (ab_sp a (a 0 7)) 12) c i = a c i := by
    unfold ab_tick
    rw [ab_set_nc _ _ (by omega), ab_gr_ne _ _ _ (by omega), ab_sp_ne _ _ _ (by omega) (by omega) (by omega) (by omega)]
  unfold ab_hr
  split
  · rw [ab_mk_ne _ _ _ (by omega) (by omega)]
    exact h1
  · exact h1
theorem ab_hs_ne (a : ab_T) (c i : Nat) (h : c = 3 ∨ c = 4 ∨ c = 6 ∨ c = 7 ∨ c = 10) : ∀ n, ab_hs a n c i = a c i
  | 0 => rfl
  | n + 1 => by rw [ab_hs, ab_hr_ne _ _ _ h, ab_hs_ne a c i h n]
theorem ab_P.hs {a : ab_T} (h : ab_P a) (n : Nat) : ab_P (ab_hs a n) := fun i hi => by
  rw [ab_hs_ne a 3 i (by omega), ab_hs_0 a (by decide)]
  exact h i hi
theorem bm_rg1_ex {x : Int32} {n : Nat} (h : bm_rg x 1 n = true) : ∃ j : Nat, 1 ≤ j ∧ j ≤ n ∧ j < 2147483648 ∧ x = nI j := by
  have h0 : bm_rg x 0 n = true := by
    simp only [bm_rg, Bool.and_eq_true, decide_eq_true_eq] at h ⊢
    omega
  obtain ⟨j, h1, h2, rfl⟩ := bm_rg_ex h0
  simp only [bm_rg, Bool.and_eq_true, decide_eq_true_eq, bn_toInt h2] at h
  exact ⟨j, by omega, h1, h2, rfl⟩
/-- a class's test of 1 to n -/
theorem bm_rg1 (x : Int32) {n : Nat} (hn : n < 2147483648) (A B : bm_R) : cond (decide (x < nI 1)) B (cond (decide (nI n < x)) B A) = cond (bm_rg x 1 n) A B := by
  rw [bm_lt_toInt, bm_lt_toInt, bn_toInt (by decide), bn_toInt hn]
  unfold bm_rg
  by_cases h1 : x.toInt < 1
  · have : ¬ (1 : Int) ≤ x.toInt := by omega
    simp [h1, this]
  · have e1 : (1 : Int) ≤ x.toInt := by omega
    by_cases h2 : (n : Int) < x.toInt
    · have : ¬ x.toInt ≤ (n : Int) := by omega
      simp [h1, h2, e1, this]
    · have : x.toInt ≤ (n : Int) := by omega
      simp [h1, h2, e1, this]
theorem op_go (X : bm_X) (p : Int32) : ab_op X 165 190 [.ref 0, .int p] [.ref 45, .int p] := by
  intro T σ hR hT
  obtain ⟨a, ka, kp, tl, h1, h2, h3, h4, h5⟩ := id hR
  obtain ⟨hH, hS, hG, hP, hh⟩ := id h1
  have m1 : ∀ (x : Int32) (σ : bm_M), bm_ev X 32 0 [.long x.toInt64, .null, .long (lN 1), .null, .long (lN 60), .null] [] σ = some (.int (bm_bi (bm_rg x 1 60)), σ) := fun x σ => bs_inI X σ x (by decide) (by decide)
  have hb : ∀ A B : bm_R, cond (decide (p < nI 1)) B (cond (decide (nI 60 < p)) B A) = cond (bm_rg p 1 60) A B := fun A B => bm_rg1 p (n := 60) (by decide) A B
  rw [bb_165_0]
  simp only [bb_190_0, m1, bm_bI_some, bm_cond_bi, bs_tell X _ (show 0 < 7 by decide), bs_finds X _ (show 0 < 7 by decide), hb]
  cases g1 : bm_rg p 1 60
  · exact ⟨_, _, _, rfl, rfl, hR.tell (by omega) (by decide)⟩
  · obtain ⟨m, hm1, hm, -, rfl⟩ := bm_rg1_ex (n := 60) g1
    have e5 : σ 1 5 = nI (a 0 5) := hH 0 5 rfl
    obtain ⟨τ, f1, f2, f3⟩ := hc_pass X (Or.inl rfl) hH hG (m := m) (by omega) (by omega)
    obtain ⟨τ', k1, k2, k3⟩ := hm_hours X (hS.fr (f3 46 (by decide))) hG (m := m) (by omega) (by omega)
    have e6 : τ 46 0 = nI (a 0 5) := hS.fr (f3 46 (by decide)) 0 5 rfl
    have i1 := hc_milk X (Or.inl rfl) f2 (hG.hs m) (k := 0)
    have i2 := hm_pails X k2 (hG.hs m) (k := 0)
    refine ⟨nI (ab_sum (ab_hs a m 2) 12), τ, τ', ?_, ?_, ab_R.both h2 h3 h4 h5 (by omega) f2 f3 k2 k3 (hG.hs m) (hP.hs m) (by rw [ab_hs_hour]; omega)⟩
    · rw [cond_true, e5, bn_add, bn_lt (by decide) (by omega), decide_eq_false (by omega), cond_false, f1, bm_bV_some, i1, bm_bI_some]
    · rw [cond_true, bn_inT (by decide) (by decide), bm_gd_t, bn_clamp (by decide), e6, bn_add, bn_lt (by decide) (by omega), decide_eq_false (by omega), cond_false, k1, bm_bV_some, i2, bm_bI_some]
end
section
/-! of, change, now, seed, wipe, tear, image, undo, hold -/
theorem bm_rgc_ex {x : Int32} {n : Nat} (h : bm_rg x 0 ((n : Int) - 1) = true) : ∃ k : Nat, k < n ∧ k < 2147483648 ∧ x = nI k := by
  have h0 : bm_rg x 0 n = true := by
    simp only [bm_rg, Bool.and_eq_true, decide_eq_true_eq] at h ⊢
    omega
  obtain ⟨j, h1, h2, rfl⟩ := bm_rg_ex h0
  simp only [bm_rg, Bool.and_eq_true, decide_eq_true_eq, bn_toInt h2] at h
  exact ⟨j, by omega, h2, rfl⟩
theorem hc_trait (X : bm_X) (σ : bm_M) {o w : Nat} (ho : bm_isH o) (hw : w ≤ 6) : bm_ev X 1 0 [.ref o, .int (nI w)] [] σ = some (.ref (o + 4 + w), σ) := by
  rw [bb_1_0 _ _ _ ho]
  rcases (show w = 0 ∨ w = 1 ∨ w = 2 ∨ w = 3 ∨ w = 4 ∨ w = 5 ∨ w = 6 by omega) with rfl | rfl | rfl | rfl | rfl | rfl | rfl <;> rfl
theorem ab_al8 {o w : Nat} (ho : bm_isH o) (hw : w ≤ 6) : bm_al (o + 4 + w) = 8 := by
  rcases ho with rfl | rfl | rfl <;> rcases (show w = 0 ∨ w = 1 ∨ w = 2 ∨ w = 3 ∨ w = 4 ∨ w = 5 ∨ w = 6 by omega) with rfl | rfl | rfl | rfl | rfl | rfl | rfl <;> rfl
theorem ab_H.tr {o : Nat} {σ : bm_M} {a : ab_T} (h : ab_H o σ a) {w k : Nat} (hw : w ≤ 6) (hk : k < 8) : σ (o + 4 + w) k = nI (a (4 + w) k) := by
  have := h (4 + w) k (ab_w8 (by omega) (by omega) hk)
  rw [show o + (4 + w) = o + 4 + w by omega] at this
  exact this
theorem bn_ne {a b : Nat} (ha : a < 2147483648) (hb : b < 2147483648) (h : a ≠ b) : decide (nI a = nI b) = false := by
  rw [bn_eq ha hb]; exact decide_eq_false h
theorem bn_same (x : Int32) : decide (x = x) = true := decide_eq_true rfl
theorem op_of (X : bm_X) (p v : Int32) : ab_op X 111 145 [.ref 0, .int p, .int v] [.ref 45, .int p, .int v] := by
  intro T σ hR hT
  obtain ⟨a, ka, kp, tl, h1, h2, h3, h4, h5⟩ := id hR
  obtain ⟨hH, hS, hG, hP, hh⟩ := id h1
  have e7 : σ 1 7 = nI (a 0 7) := hH 0 7 rfl
  have e7m : σ 46 2 = nI (a 0 7) := hS 0 7 rfl
  have hc := hG.2.2.1
  have i1 : ∀ (x : Int32) (σ : bm_M), bm_ev X 24 0 [.int x, .int (nI 10)] [] σ = some (.int (bm_bi (bm_rg x 0 10)), σ) := fun x σ => bs_upN X σ x (by decide)
  have m1 : ∀ (x : Int32) (σ : bm_M), bm_ev X 32 0 [.long x.toInt64, .null, .long (lN 0), .null, .long (lN 10), .null] [] σ = some (.int (bm_bi (bm_rg x 0 10)), σ) := fun x σ => bs_inI X σ x (by decide) (by decide)
  have bad : (bm_rg p 0 ((a 0 7 : Int) - 1) && bm_rg v 0 10) = false → ∃ (x : Int32) (τ τ' : bm_M), bm_ev X 111 0 [.ref 0, .int p, .int v] [] σ = some (.int x, τ) ∧ bm_ev X 145 0 [.ref 45, .int p, .int v] [] τ = some (.int x, τ') ∧ ab_R (T + 60) τ' := by
    intro hb
    refine ⟨bm_lw 0, bm_tl 0 σ, bm_fo 0 (bm_tl 0 σ), ?_, ?_, hR.tell (by omega) (by decide)⟩
    · rw [bb_111_0, bs_isCow X e7 hc, bm_bI_some, bm_cond_bi, i1, bm_bI_some, bm_cond_bi, bs_tell X _ (show 0 < 7 by decide), bm_bI_some]
      revert hb
      cases bm_rg p 0 ((a 0 7 : Int) - 1) <;> cases bm_rg v 0 10 <;> intro hb <;> first | rfl | cases hb
    · rw [bb_145_0, bs_isCowM X (σ := bm_tl 0 σ) e7m hc, bm_bI_some, bm_cond_bi, m1, bm_bI_some, bm_cond_bi, bs_finds X _ (show 0 < 7 by decide), bm_bI_some]
      revert hb
      cases bm_rg p 0 ((a 0 7 : Int) - 1) <;> cases bm_rg v 0 10 <;> intro hb <;> first | rfl | cases hb
  cases g1 : bm_rg p 0 ((a 0 7 : Int) - 1)
  · exact bad (by rw [g1]; rfl)
  · cases g2 : bm_rg v 0 10
    · exact bad (by rw [g1, g2]; rfl)
    · obtain ⟨k, hk, -, rfl⟩ := bm_rgc_ex g1
      obtain ⟨w, hw, -, rfl⟩ := bm_rg_ex (n := 10) g2
      have hk8 : k < 8 := by omega
      have cl : ∀ y : bm_R, bm_ev X 111 0 [.ref 0, .int (nI k), .int (nI w)] [] σ = y ↔ (bif decide (nI w = nI 7) then bm_bI (bm_ev X 53 0 [.ref 1, .int (nI k), .null] [] σ) (fun v8 t7 => some (.int v8, t7)) else bif decide (nI w = nI 8) then bm_bI (bm_ev X 3 0 [.ref 1, .int (nI k)] [] σ) (fun v10 t9 => some (.int v10, t9)) else bif decide (nI w = nI 9) then bm_bI (bm_ev X 54 0 [.ref 1, .int (nI k), .null, .null] [] σ) (fun v12 t11 => some (.int v12, t11)) else bif decide (nI w = nI 10) then bm_bI (bm_ev X 4 0 [.ref 1, .int (nI k), .null] [] σ) (fun v14 t13 => some (.int v14, t13)) else bm_bA (bm_ev X 1 0 [.ref 1, .int (nI w)] [] σ) (fun v16 t15 => bm_gd (bm_in (nI k) (bm_al v16)) (some (.int (t15 v16 (nI k).toNatClampNeg), t15)))) = y := by
        intro y
        rw [bb_111_0, bs_isCow X e7 hc, bm_bI_some, bm_cond_bi, g1, cond_true, i1, bm_bI_some, bm_cond_bi, g2, cond_true]
      have ml : ∀ y : bm_R, bm_ev X 145 0 [.ref 45, .int (nI k), .int (nI w)] [] σ = y ↔ (bif decide (nI w = nI 7) then bm_bI (bm_ev X 122 0 [.ref 45, .int (nI k), .null, .null] [] σ) (fun v8 t7 => some (.int v8, t7)) else bif decide (nI w = nI 8) then bm_bI (bm_ev X 78 0 [.ref 45, .int (nI k)] [] σ) (fun v10 t9 => some (.int v10, t9)) else bif decide (nI w = nI 9) then bm_bI (bm_ev X 79 0 [.ref 45, .int (nI k), .null, .null, .null] [] σ) (fun v12 t11 => some (.int v12, t11)) else bif decide (nI w = nI 10) then bm_bI (bm_ev X 80 0 [.ref 45, .int (nI k), .null, .null] [] σ) (fun v14 t13 => some (.int v14, t13)) else bm_bI (bm_ev X 34 0 [.ref 45, .int (nI k), .int (nI w)] [] σ) (fun v16 t15 => some (.int v16, t15))) = y := by
        intro y
        rw [bb_145_0, bs_isCowM X e7m hc, bm_bI_some, bm_cond_bi, g1, cond_true, m1, bm_bI_some, bm_cond_bi, g2, cond_true]
      have fin : ∀ x : Int32, bm_ev X 111 0 [.ref 0, .int (nI k), .int (nI w)] [] σ = some (.int x, σ) → bm_ev X 145 0 [.ref 45, .int (nI k), .int (nI w)] [] σ = some (.int x, σ) → ∃ (x : Int32) (τ τ' : bm_M), bm_ev X 111 0 [.ref 0, .int (nI k), .int (nI w)] [] σ = some (.int x, τ) ∧ bm_ev X 145 0 [.ref 45, .int (nI k), .int (nI w)] [] τ = some (.int x, τ') ∧ ab_R (T + 60) τ' := fun x q1 q2 => ⟨x, σ, σ, q1, q2, hR.junk (by omega) ab_K.rf⟩
      by_cases w6 : w ≤ 6
      · refine fin (nI (a (w + 4) k)) ((cl _).mpr ?_) ((ml _).mpr ?_)
        · rw [bn_ne (by omega) (by decide) (by omega), cond_false, bn_ne (by omega) (by decide) (by omega), cond_false, bn_ne (by omega) (by decide) (by omega), cond_false, bn_ne (by omega) (by decide) (by omega), cond_false, hc_trait X σ (Or.inl rfl) w6, bm_bA_some, ab_al8 (Or.inl rfl) w6, bn_inT hk8 (by decide), bm_gd_t, bn_clamp (by omega), hH.tr w6 hk8, Nat.add_comm 4 w]
        · rw [bn_ne (by omega) (by decide) (by omega), cond_false, bn_ne (by omega) (by decide) (by omega), cond_false, bn_ne (by omega) (by decide) (by omega), cond_false, bn_ne (by omega) (by decide) (by omega), cond_false, hm_itsw X hS hG (by omega) hk8, bm_bI_some]
      · rcases (show w = 7 ∨ w = 8 ∨ w = 9 ∨ w = 10 by omega) with rfl | rfl | rfl | rfl
        · refine fin (nI (ab_rings a k)) ((cl _).mpr ?_) ((ml _).mpr ?_)
          · rw [bn_same, cond_true, hc_rings X (Or.inl rfl) hH hG hk, bm_bI_some]
          · rw [bn_same, cond_true, hm_rings X hS hG hk8, bm_bI_some]
        · refine fin (nI (ab_eats a k)) ((cl _).mpr ?_) ((ml _).mpr ?_)
          · rw [bn_ne (by decide) (by decide) (by decide), cond_false, bn_same, cond_true, hc_eats X (Or.inl rfl) hH hG hk8, bm_bI_some]
          · rw [bn_ne (by decide) (by decide) (by decide), cond_false, bn_same, cond_true, hm_eats X hS hG hk8, bm_bI_some]
        · refine fin (nI (ab_gives a k)) ((cl _).mpr ?_) ((ml _).mpr ?_)
          · rw [bn_ne (by decide) (by decide) (by decide), cond_false, bn_ne (by decide) (by decide) (by decide), cond_false, bn_same, cond_true, hc_gives X (Or.inl rfl) hH hG hk8, bm_bI_some]
          · rw [bn_ne (by decide) (by decide) (by decide), cond_false, bn_ne (by decide) (by decide) (by decide), cond_false, bn_same, cond_true, hm_gives X hS hG hk8, bm_bI_some]
        · refine fin (if ab_b a k < a 0 7 then nI (ab_b a k) else -nI 1) ((cl _).mpr ?_) ((ml _).mpr ?_)
          · rw [bn_ne (by decide) (by decide) (by decide), cond_false, bn_ne (by decide) (by decide) (by decide), cond_false, bn_ne (by decide) (by decide) (by decide), cond_false, bn_same, cond_true, hc_beside X (Or.inl rfl) hH hG hk8, bm_bI_some]
          · rw [bn_ne (by decide) (by decide) (by decide), cond_false, bn_ne (by decide) (by decide) (by decide), cond_false, bn_ne (by decide) (by decide) (by decide), cond_false, bn_same, cond_true, hm_beside X hS hG hk8, bm_bI_some]
theorem bn_all (v : Int32) : ∃ n : Nat, v = nI n := ⟨v.toUInt32.toNat, by
  show v = Int32.ofNat v.toUInt32.toNat
  apply Int32.toBitVec_inj.mp
  simp⟩
theorem op_seed (X : bm_X) (p : Int32) : ab_op X 20 93 [.ref 0, .int p, .null] [.ref 45, .int p] := by
  intro T σ hR hT
  obtain ⟨a, ka, kp, tl, h1, h2, h3, h4, h5⟩ := id hR
  obtain ⟨hH, hS, hG, hP, hh⟩ := id h1
  obtain ⟨n, rfl⟩ := bn_all p
  have e1 : σ 1 6 = nI (a 0 6) := hH 0 6 rfl
  have e2 : σ 46 1 = nI (a 0 6) := hS 0 6 rfl
  refine ⟨nI (a 0 6), bm_up σ 1 6 (nI n), _, ?_, ?_, ab_R.set h1 h2 h3 h4 h5 (by omega) (c := 0) (i := 6) n rfl trivial (by decide) (by omega) (by omega)⟩
  · rw [bb_20_0, e1]
  · rw [bb_93_0, bs_becomes X _ _ (by decide), bm_bI_some, bm_up_nk _ _ (by decide), e2]
    rfl
theorem op_wipe (X : bm_X) : ab_op X 21 45 [.ref 0, .null] [.ref 45, .null] := by
  intro T σ hR hT
  obtain ⟨a, ka, kp, tl, ⟨g1, g2, g3, g4, g5⟩, h2, ⟨t1, t2, t3, t4⟩, h4, h5⟩ := id hR
  refine ⟨nI tl, bm_up σ 34 1 (nI 0), bm_up (bm_up σ 34 1 (nI 0)) 45 9 (nI 0), ?_, ?_, ?_⟩
  · rw [bb_21_0, t1]
  · rw [bb_45_0, bm_up_nk _ _ (by decide), t2]
  · have hK : ab_K (fun q i => (q = 34 ∧ i = 1) ∨ (q = 45 ∧ i = 9)) σ (bm_up (bm_up σ 34 1 (nI 0)) 45 9 (nI 0)) := (ab_K.rf.up _ (Or.inl ⟨rfl, rfl⟩)).up _ (Or.inr ⟨rfl, rfl⟩)
    refine ⟨a, ka, kp, 0, ⟨g1.K hK (fun q i _ _ _ z => by omega), g2.K hK (fun i z => by omega), g3, g4, by omega⟩, h2.K (by omega) hK (fun q i z => by omega), ⟨?_, bm_up_at _ _ _ _, by omega, fun i hi => absurd hi (Nat.not_lt_zero _)⟩, h4.K hK (fun q i z => by omega), h5.K hK (fun q i z => by omega)⟩
    rw [bm_up_nk _ _ (by decide), bm_up_at]
theorem op_tear (X : bm_X) : ab_op X 22 46 [.ref 0, .null] [.ref 45, .null] := by
  intro T σ hR hT
  obtain ⟨a, ka, kp, tl, ⟨g1, g2, g3, g4, g5⟩, ⟨k1, k2, k3⟩, h3, h4, h5⟩ := id hR
  refine ⟨bm_bi kp, bm_up σ 0 3 (nI 0), bm_up (bm_up σ 0 3 (nI 0)) 45 3 (nI 0), ?_, ?_, ?_⟩
  · rw [bb_22_0, k1, bm_cond_bi, bm_bo_0, bm_gd_t, bm_gd_t]
    cases kp <;> rfl
  · rw [bb_46_0, bm_up_nk _ _ (by decide), k2, bm_cond_bi, bm_bo_0, bm_gd_t, bm_gd_t]
    cases kp <;> rfl
  · have hK : ab_K (fun q i => (q = 0 ∧ i = 3) ∨ (q = 45 ∧ i = 3)) σ (bm_up (bm_up σ 0 3 (nI 0)) 45 3 (nI 0)) := (ab_K.rf.up _ (Or.inl ⟨rfl, rfl⟩)).up _ (Or.inr ⟨rfl, rfl⟩)
    refine ⟨a, ka, false, tl, ⟨g1.K hK (fun q i _ _ _ z => by omega), g2.K hK (fun i z => by omega), g3, g4, by omega⟩, ⟨?_, bm_up_at _ _ _ _, fun e => by cases e⟩, h3.K hK (fun q i z => by omega), h4.K hK (fun q i z => by omega), h5.K hK (fun q i z => by omega)⟩
    rw [bm_up_nk _ _ (by decide), bm_up_at]
    rfl
theorem op_image (X : bm_X) : ab_op X 119 98 [.ref 0] [.ref 45] := by
  intro T σ hR hT
  obtain ⟨a, ka, kp, tl, ⟨g1, g2, g3, g4, g5⟩, h2, h3, h4, h5⟩ := id hR
  obtain ⟨τ, f1, f2, f3⟩ := hc_becomeA X (o := 23) (o2 := 1) (Or.inr (Or.inr rfl)) (Or.inl rfl) (by decide) g1
  have s1 : ab_S 46 (bm_up τ 0 3 (nI 1)) a := (g2.fr (f3 46 (by decide))).ne _ _ (by decide)
  obtain ⟨τ', m1, m2, m3⟩ := hm_become X (r0 := 46) (r1 := 47) rfl rfl (by decide) s1
  refine ⟨nI 1, bm_up τ 0 3 (nI 1), bm_up τ' 45 3 (nI 1), ?_, ?_, ?_⟩
  · rw [bb_119_0, f1, bm_bV_some, bm_bo_1, bm_gd_t]
  · rw [bb_98_0, m1, bm_bV_some, bm_bo_1, bm_gd_t]
  · have hK : ab_K (fun q i => (23 ≤ q ∧ q ≤ 33) ∨ q = 47 ∨ (q = 0 ∧ i = 3) ∨ (q = 45 ∧ i = 3)) σ (bm_up τ' 45 3 (nI 1)) := by
      have k1 := f3.K.mono (P' := fun q i => (23 ≤ q ∧ q ≤ 33) ∨ q = 47 ∨ (q = 0 ∧ i = 3) ∨ (q = 45 ∧ i = 3)) (fun q i z => by omega)
      have k2 := (ab_q.K m3).mono (P' := fun q i => (23 ≤ q ∧ q ≤ 33) ∨ q = 47 ∨ (q = 0 ∧ i = 3) ∨ (q = 45 ∧ i = 3)) (fun q i z => by omega)
      exact (((k1.up _ (by omega)).tr k2).up _ (by omega))
    refine ⟨a, a, true, tl, ⟨g1.K hK (fun q i _ _ _ z => by omega), g2.K hK (fun i z => by omega), g3, g4, by omega⟩, ⟨?_, bm_up_at _ _ _ _, fun _ => ⟨?_, ?_, g3, g4, by omega⟩⟩, h3.K hK (fun q i z => by omega), h4.K hK (fun q i z => by omega), h5.K hK (fun q i z => by omega)⟩
    · rw [bm_up_nk _ _ (by decide), m3 0 (by decide), bm_up_at]
      rfl
    · exact (f2.ne (k := 0) 3 (nI 1) (by decide)).fr (fun q c1 c2 => by rw [bm_up_ne _ _ _ (by omega), m3 q (by omega)])
    · exact m2.ne _ _ (by decide)
theorem op_undo (X : bm_X) : ab_op X 120 99 [.ref 0] [.ref 45] := by
  intro T σ hR hT
  obtain ⟨a, ka, kp, tl, ⟨g1, g2, g3, g4, g5⟩, h2, h3, h4, h5⟩ := id hR
  obtain ⟨k1, k2, k3⟩ := id h2
  cases kp
  · refine ⟨bm_lw 3, bm_tl 3 σ, bm_fo 3 (bm_tl 3 σ), ?_, ?_, hR.tell (by omega) (by decide)⟩
    · rw [bb_120_0, k1, bm_cond_bi, cond_false, bs_tell X _ (by decide), bm_bI_some]
    · have : bm_tl 3 σ 45 3 = bm_bi false := k2
      rw [bb_99_0, this, bm_cond_bi, cond_false, bs_finds X _ (by decide), bm_bI_some]
  · obtain ⟨c1, c2, c3, c4, c5⟩ := k3 rfl
    obtain ⟨τ, f1, f2, f3⟩ := hc_becomeA X (o := 1) (o2 := 23) (Or.inl rfl) (Or.inr (Or.inr rfl)) (by decide) c1
    obtain ⟨τ', m1, m2, m3⟩ := hm_become X (r0 := 47) (r1 := 46) rfl rfl (by decide) (c2.fr (f3 47 (by decide)))
    refine ⟨nI (ka 0 5), τ, τ', ?_, ?_, ab_R.both h2 h3 h4 h5 (by omega) f2 f3 m2 (ab_N.E m3) c3 c4 (by omega)⟩
    · have e5 : τ 1 5 = nI (ka 0 5) := f2 0 5 rfl
      rw [bb_120_0, k1, bm_cond_bi, cond_true, f1, bm_bV_some, e5]
    · have e5 : τ' 46 0 = nI (ka 0 5) := m2 0 5 rfl
      have : τ 45 3 = bm_bi true := by rw [f3 45 (by decide)]; exact k2
      rw [bb_99_0, this, bm_cond_bi, cond_true, m1, bm_bV_some, bn_inT (by decide) (by decide), bm_gd_t, bn_clamp (by decide), e5]
end
section
/-! change, now, hold, as, status, count, pair -/
/-- the most that a trait may be -/
def ab_mo (w : Nat) : Nat := match w with
  | 0 => 6
  | 1 => 11
  | 2 => 11
  | 3 => 9
  | 4 => 999
  | 5 => 9999
  | _ => 1
theorem ab_rv58 (X : bm_X) {w : Nat} (hw : w ≤ 6) : bm_rv X 58 w = nI (ab_mo w) := by
  rcases (show w = 0 ∨ w = 1 ∨ w = 2 ∨ w = 3 ∨ w = 4 ∨ w = 5 ∨ w = 6 by omega) with rfl | rfl | rfl | rfl | rfl | rfl | rfl <;> rfl
theorem ab_mo_lt (w : Nat) : ab_mo w < 10000 := by
  unfold ab_mo
  split <;> decide
theorem ab_mo_ok {w v : Nat} (hw : w ≤ 6) (i : Nat) (h : v ≤ ab_mo w) : ab_ok (4 + w) i v := by
  rcases (show w = 0 ∨ w = 1 ∨ w = 2 ∨ w = 3 ∨ w = 4 ∨ w = 5 ∨ w = 6 by omega) with rfl | rfl | rfl | rfl | rfl | rfl | rfl <;> exact h
theorem bs_mayBe (X : bm_X) (σ : bm_M) (p v : Int32) : bm_ev X 128 0 [.int p, .int v] [] σ = some (.int (bm_bi (bm_rg p 0 6 && bm_rg v 0 (ab_mo p.toNatClampNeg))), σ) := by
  have m9 : ∀ (x : Int32) (σ : bm_M), bm_ev X 32 0 [.long x.toInt64, .null, .long (lN 0), .null, .long (lN 9), .null] [] σ = some (.int (bm_bi (bm_rg x 0 9)), σ) := fun x σ => bs_inI X σ x (by decide) (by decide)
  have m999 : ∀ (x : Int32) (σ : bm_M), bm_ev X 32 0 [.long x.toInt64, .null, .long (lN 0), .null, .long (lN 999), .null] [] σ = some (.int (bm_bi (bm_rg x 0 999)), σ) := fun x σ => bs_inI X σ x (by decide) (by decide)
  have m9999 : ∀ (x : Int32) (σ : bm_M), bm_ev X 32 0 [.long x.toInt64, .null, .long (lN 0), .null, .long (lN 9999), .null] [] σ = some (.int (bm_bi (bm_rg x 0 9999)), σ) := fun x σ => bs_inI X σ x (by decide) (by decide)
  have m1 : ∀ (x : Int32) (σ : bm_M), bm_ev X 32 0 [.long x.toInt64, .null, .long (lN 0), .null, .long (lN 1), .null] [] σ = some (.int (bm_bi (bm_rg x 0 1)), σ) := fun x σ => bs_inI X σ x (by decide) (by decide)
  rw [bb_128_0]
  simp only [bs_m76, bs_m73, m9, m999, m9999, m1, bm_bI_some, bm_bo_bi, bm_gd_t, bm_cond_bi, bm_bo_0, bm_bo_1]
  cases g : bm_rg p 0 6
  · have hne : ∀ w : Nat, w ≤ 6 → decide (p = nI w) = false := by
      intro w hw
      apply decide_eq_false
      rintro rfl
      rw [bm_rg_nI (by omega)] at g
      have := of_decide_eq_false g
      omega
    rw [hne 0 (by decide), hne 1 (by decide), hne 2 (by decide), hne 3 (by decide), hne 4 (by decide), hne 5 (by decide), hne 6 (by decide)]
    rfl
  · obtain ⟨w, hw, hw2, rfl⟩ := bm_rg_ex (n := 6) g
    rw [bn_clamp hw2]
    rcases (show w = 0 ∨ w = 1 ∨ w = 2 ∨ w = 3 ∨ w = 4 ∨ w = 5 ∨ w = 6 by omega) with rfl | rfl | rfl | rfl | rfl | rfl | rfl
    · rw [bn_same]; rfl
    · rw [bn_ne (by decide) (by decide) (by decide), bn_same]; rfl
    · rw [bn_ne (by decide) (by decide) (by decide), bn_ne (by decide) (by decide) (by decide), bn_same]; rfl
    · rw [bn_ne (by decide) (by decide) (by decide), bn_ne (by decide) (by decide) (by decide), bn_ne (by decide) (by decide) (by decide), bn_same]; rfl
    · rw [bn_ne (by decide) (by decide) (by decide), bn_ne (by decide) (by decide) (by decide), bn_ne (by decide) (by decide) (by decide), bn_ne (by decide) (by decide) (by decide), bn_same]; rfl
    · rw [bn_ne (by decide) (by decide) (by decide), bn_ne (by decide) (by decide) (by decide), bn_ne (by decide) (by decide) (by decide), bn_ne (by decide) (by decide) (by decide), bn_ne (by decide) (by decide) (by decide), bn_same]; rfl
    · rw [bn_ne (by decide) (by decide) (by decide), bn_ne (by decide) (by decide) (by decide), bn_ne (by decide) (by decide) (by decide), bn_ne (by decide) (by decide) (by decide), bn_ne (by decide) (by decide) (by decide), bn_ne (by decide) (by decide) (by decide), bn_same]
      have e : bm_rg v 0 ((ab_mo 6 : Nat) : Int) = bm_rg v 0 1 := rfl
      rw [e]
      cases bm_rg v 0 1 <;> rfl
/-- a class's test of 0 to n - 1 -/
theorem bm_rg0 (x : Int32) {n : Nat} (hn : n < 2147483647) (A B : bm_R) : cond (decide (x < 0)) B (cond (decide (x < nI (n + 1))) A B) = cond (bm_rg x 0 n) A B := by
  have h0 : (0 : Int32).toInt = 0 := by decide
  rw [bm_lt_toInt, bm_lt_toInt, h0, bn_toInt (show n + 1 < 2147483648 by omega)]
  unfold bm_rg
  by_cases h1 : x.toInt < 0
  · have : ¬ (0 : Int) ≤ x.toInt := by omega
    simp [h1, this]
  · have e1 : (0 : Int) ≤ x.toInt := by omega
    by_cases h2 : x.toInt ≤ (n : Int)
    · have : x.toInt < (n : Int) + 1 := by omega
      simp [h1, h2, e1, this]
    · have : ¬ x.toInt < (n : Int) + 1 := by omega
      simp [h1, h2, e1, this]
theorem op_change (X : bm_X) (p w v : Int32) : ab_op X 58 146 [.ref 0, .int p, .int w, .int v, .null, .null] [.ref 45, .int p, .int w, .int v] := by
  intro T σ hR hT
  obtain ⟨a, ka, kp, tl, h1, h2, h3, h4, h5⟩ := id hR
  obtain ⟨hH, hS, hG, hP, hh⟩ := id h1
  have e7 : σ 1 7 = nI (a 0 7) := hH 0 7 rfl
  have e7m : σ 46 2 = nI (a 0 7) := hS 0 7 rfl
  have hc := hG.2.2.1
  have hb : ∀ A B : bm_R, cond (decide (w < 0)) B (cond (decide (w < nI (bm_rl X 58))) A B) = cond (bm_rg w 0 6) A B := fun A B => bm_rg0 w (n := 6) (by decide) A B
  have mt : bm_ev X 146 0 [.ref 45, .int p, .int w, .int v] [] (bm_tl 0 σ) = cond (bm_rg p 0 ((a 0 7 : Int) - 1)) (cond (bm_rg w 0 6 && bm_rg v 0 (ab_mo w.toNatClampNeg)) (bm_bI (bm_ev X 36 0 [.ref 45, .int (nI 29 + nI 7 * p + w), .int v, .null] [] (bm_tl 0 σ)) (fun v10 t9 => some (.int v10, t9))) (some (.int (bm_lw 0), bm_fo 0 (bm_tl 0 σ)))) (some (.int (bm_lw 0), bm_fo 0 (bm_tl 0 σ))) := by
    rw [bb_146_0, bs_isCowM X (σ := bm_tl 0 σ) e7m hc, bm_bI_some, bm_cond_bi, bs_mayBe, bm_bI_some, bm_cond_bi, bs_finds X _ (show 0 < 7 by decide), bm_bI_some]
  rw [bb_58_0]
  simp only [bs_isCow X e7 hc, bm_bI_some, bm_cond_bi, bs_tell X _ (show 0 < 7 by decide), hb]
  cases g1 : bm_rg p 0 ((a 0 7 : Int) - 1)
  · rw [g1, cond_false] at mt
    exact ⟨_, _, _, rfl, mt, hR.tell (by omega) (by decide)⟩
  · rw [g1, cond_true] at mt
    cases g2 : bm_rg w 0 6
    · rw [g2, Bool.false_and, cond_false] at mt
      exact ⟨_, _, _, rfl, mt, hR.tell (by omega) (by decide)⟩
    · obtain ⟨k, hk, -, rfl⟩ := bm_rgc_ex g1
      obtain ⟨x, hx, hx2, rfl⟩ := bm_rg_ex (n := 6) g2
      have hk8 : k < 8 := by omega
      have mo := ab_mo_lt x
      rw [g2, Bool.true_and, bn_clamp hx2] at mt
      simp only [cond_true]
      rw [show bm_rl X 58 = 7 from rfl, bn_inT (by omega) (by decide), bm_gd_t, bn_clamp hx2, ab_rv58 X hx, bs_upN X _ _ (by omega), bm_bI_some, bm_cond_bi]
      cases g3 : bm_rg v 0 (ab_mo x)
      · rw [g3, cond_false] at mt
        exact ⟨_, _, _, rfl, mt, hR.tell (by omega) (by decide)⟩
      · obtain ⟨y, hy, -, rfl⟩ := bm_rg_ex (n := ab_mo x) g3
        have hwd : ab_wd (4 + x) k = true := ab_w8 (by omega) (by omega) hk8
        have hly : ab_ly (4 + x) k = 29 + 7 * k + x := by
          unfold ab_ly
          split <;> omega
        have sR := ab_R.set h1 h2 h3 h4 h5 (T' := T + 60) (by omega) (c := 4 + x) (i := k) y hwd (ab_mo_ok hx k hy) (by omega) (by omega) (by omega)
        rw [hly, show 1 + (4 + x) = 1 + 4 + x by omega] at sR
        refine ⟨nI (a (4 + x) k), bm_up σ (1 + 4 + x) k (nI y), _, ?_, ?_, sR⟩
        · rw [cond_true, hc_trait X σ (Or.inl rfl) hx, bm_bA_some, ab_al8 (Or.inl rfl) hx, bn_inT hk8 (by decide), bm_gd_t, bm_gd_t, bn_clamp (by omega), hH.tr hx hk8]
        · have e8 : bm_up σ (1 + 4 + x) k (nI y) 46 2 = nI (a 0 7) := by rw [bm_up_nk _ _ (by omega)]; exact e7m
          rw [bb_146_0, bs_isCowM X e8 hc, bm_bI_some, bm_cond_bi, g1, cond_true, bs_mayBe, bm_bI_some, bm_cond_bi, g2, bn_clamp hx2, g3, Bool.true_and, cond_true, bn_mul, bn_add, bn_add, bs_becomes X _ _ (by omega), bm_bI_some, bm_up_nk _ _ (by omega)]
          have := hS (4 + x) k hwd
          rw [hly] at this
          rw [this]
theorem op_now (X : bm_X) (p : Int32) : ab_op X 59 130 [.ref 0, .int p] [.ref 45, .int p] := by
  intro T σ hR hT
  obtain ⟨a, ka, kp, tl, h1, h2, h3, h4, h5⟩ := id hR
  obtain ⟨hH, hS, hG, hP, hh⟩ := id h1
  have e5 : σ 1 5 = nI (a 0 5) := hH 0 5 rfl
  have e5m : σ 46 0 = nI (a 0 5) := hS 0 5 rfl
  have fin : ∀ x : Int32, bm_ev X 59 0 [.ref 0, .int p] [] σ = some (.int x, σ) → bm_ev X 130 0 [.ref 45, .int p] [] σ = some (.int x, σ) → ∃ (x : Int32) (τ τ' : bm_M), bm_ev X 59 0 [.ref 0, .int p] [] σ = some (.int x, τ) ∧ bm_ev X 130 0 [.ref 45, .int p] [] τ = some (.int x, τ') ∧ ab_R (T + 60) τ' := fun x q1 q2 => ⟨x, σ, σ, q1, q2, hR.junk (by omega) ab_K.rf⟩
  by_cases c0 : p = nI 0
  · refine fin (nI (a 0 5)) ?_ ?_
    · rw [bb_59_0, decide_eq_true c0, cond_true, e5]
    · rw [bb_130_0, decide_eq_true c0, cond_true, bn_inT (by decide) (by decide), bm_gd_t, bn_clamp (by decide), e5m]
  by_cases c1 : p = nI 1
  · refine fin (nI (ab_sum (a 2) 12)) ?_ ?_
    · rw [bb_59_0, decide_eq_false c0, cond_false, decide_eq_true c1, cond_true, hc_milk X (Or.inl rfl) hH hG (k := 0), bm_bI_some]
    · rw [bb_130_0, decide_eq_false c0, cond_false, decide_eq_true c1, cond_true, hm_pails X hS hG (k := 0), bm_bI_some]
  by_cases c2 : p = nI 2
  · refine fin (nI (ab_sum (a 9) (a 0 7))) ?_ ?_
    · rw [bb_59_0, decide_eq_false c0, cond_false, decide_eq_false c1, cond_false, decide_eq_true c2, cond_true, hc_rungs X (Or.inl rfl) hH hG (k := 0), bm_bI_some]
    · rw [bb_130_0, decide_eq_false c0, cond_false, decide_eq_false c1, cond_false, decide_eq_true c2, cond_true, hm_rungs X hS hG (k := 0), bm_bI_some]
  by_cases c3 : p = nI 3
  · refine fin (ab_or (ab_muf a) (a 0 7)) ?_ ?_
    · rw [bb_59_0, decide_eq_false c0, cond_false, decide_eq_false c1, cond_false, decide_eq_false c2, cond_false, decide_eq_true c3, cond_true, hc_muffled X (Or.inl rfl) hH hG (k := 0), bm_bI_some]
    · rw [bb_130_0, decide_eq_false c0, cond_false, decide_eq_false c1, cond_false, decide_eq_false c2, cond_false, decide_eq_true c3, cond_true, hm_muffled X hS hG (k := 0), bm_bI_some]
  by_cases c4 : p = nI 4
  · refine fin (nI (ab_sum (a 1) 12)) ?_ ?_
    · rw [bb_59_0, decide_eq_false c0, cond_false, decide_eq_false c1, cond_false, decide_eq_false c2, cond_false, decide_eq_false c3, cond_false, decide_eq_true c4, cond_true, hc_green X (Or.inl rfl) hH hG (k := 0), bm_bI_some]
    · rw [bb_130_0, decide_eq_false c0, cond_false, decide_eq_false c1, cond_false, decide_eq_false c2, cond_false, decide_eq_false c3, cond_false, decide_eq_true c4, cond_true, hm_green X hS hG (k := 0), bm_bI_some]
  by_cases c5 : p = nI 5
  · refine fin (ab_or (ab_grz a) (a 0 7)) ?_ ?_
    · rw [bb_59_0, decide_eq_false c0, cond_false, decide_eq_false c1, cond_false, decide_eq_false c2, cond_false, decide_eq_false c3, cond_false, decide_eq_false c4, cond_false, decide_eq_true c5, cond_true, hc_grazed X (Or.inl rfl) hH hG (k := 0), bm_bI_some]
    · rw [bb_130_0, decide_eq_false c0, cond_false, decide_eq_false c1, cond_false, decide_eq_false c2, cond_false, decide_eq_false c3, cond_false, decide_eq_false c4, cond_false, decide_eq_true c5, cond_true, hm_grazed X hS hG (k := 0), bm_bI_some]
  by_cases c6 : p = nI 6
  · refine fin (ab_or (ab_fld a) 12) ?_ ?_
    · rw [bb_59_0, decide_eq_false c0, cond_false, decide_eq_false c1, cond_false, decide_eq_false c2, cond_false, decide_eq_false c3, cond_false, decide_eq_false c4, cond_false, decide_eq_false c5, cond_false, decide_eq_true c6, cond_true, hc_filled X (Or.inl rfl) hH hG (k := 0), bm_bI_some]
    · rw [bb_130_0, decide_eq_false c0, cond_false, decide_eq_false c1, cond_false, decide_eq_false c2, cond_false, decide_eq_false c3, cond_false, decide_eq_false c4, cond_false, decide_eq_false c5, cond_false, decide_eq_true c6, cond_true, hm_filled X hS hG (k := 0), bm_bI_some]
  refine ⟨bm_lw 0, bm_tl 0 σ, bm_fo 0 (bm_tl 0 σ), ?_, ?_, hR.tell (by omega) (by decide)⟩
  · rw [bb_59_0, decide_eq_false c0, cond_false, decide_eq_false c1, cond_false, decide_eq_false c2, cond_false, decide_eq_false c3, cond_false, decide_eq_false c4, cond_false, decide_eq_false c5, cond_false, decide_eq_false c6, cond_false, bs_tell X _ (by decide), bm_bI_some]
  · rw [bb_130_0, decide_eq_false c0, cond_false, decide_eq_false c1, cond_false, decide_eq_false c2, cond_false, decide_eq_false c3, cond_false, decide_eq_false c4, cond_false, decide_eq_false c5, cond_false, decide_eq_false c6, cond_false, bs_finds X _ (by decide), bm_bI_some]
end
section
/-! hold, as -/
theorem bn_m1 : (-nI 1 : Int32) = nI 4294967295 := by decide
theorem ab_R.setS {T T' : Nat} {σ : bm_M} {a ka : ab_T} {kp : Bool} {tl : Nat} (h1 : ab_CH a T σ) (h2 : ab_CK ka kp T σ) (h3 : ab_CT tl σ) (h4 : ab_CS σ) (h5 : ab_CF σ) (hT : T ≤ T') {i : Nat} (v : Nat) (hi : i < 10) (hv : v = 4294967295 ∨ v < a 0 7) : ab_R T' (bm_up (bm_up σ 4 i (nI v)) 46 (85 + i) (nI v)) := by
  obtain ⟨hH, hS, hG, hP, hh⟩ := h1
  have hw : ab_wd 3 i = true := decide_eq_true hi
  refine ab_R.herd (a' := ab_set a 3 i v) h2 h3 h4 h5 hT ((ab_K.rf.up _ (Or.inr (Or.inl (by omega)))).up _ (Or.inr (Or.inr rfl))) ⟨(hH.up 3 i v).ne _ _ (by omega), ?_, hG.set trivial, ?_, ?_⟩
  · exact (hS.ne _ _ (by omega)).up (c := 3) (i := i) v hw
  · intro j hj
    rw [ab_set_nc a v (show 0 ≠ 3 by decide)]
    by_cases e : j = i
    · subst e
      rw [ab_set_self]
      exact hv
    · rw [ab_set_ni a v e]
      exact hP j hj
  · rw [ab_set_nc a v (by decide)]
    omega
theorem op_hold (X : bm_X) (p v : Int32) : ab_op X 62 134 [.ref 0, .int p, .int v] [.ref 45, .int p, .int v] := by
  intro T σ hR hT
  obtain ⟨a, ka, kp, tl, h1, h2, h3, h4, h5⟩ := id hR
  obtain ⟨hH, hS, hG, hP, hh⟩ := id h1
  have e7 : σ 1 7 = nI (a 0 7) := hH 0 7 rfl
  have e7m : σ 46 2 = nI (a 0 7) := hS 0 7 rfl
  have hc := hG.2.2.1
  have i1 : ∀ (x : Int32) (σ : bm_M), bm_ev X 24 0 [.int x, .int (nI 9)] [] σ = some (.int (bm_bi (bm_rg x 0 9)), σ) := fun x σ => bs_upN X σ x (by decide)
  cases g1 : bm_rg p 0 9
  · refine ⟨bm_lw 0, bm_tl 0 σ, bm_fo 0 (bm_tl 0 σ), ?_, ?_, hR.tell (by omega) (by decide)⟩
    · rw [bb_62_0, i1, bm_bI_some, bm_cond_bi, g1, cond_false, bs_tell X _ (by decide), bm_bI_some]
    · rw [bb_134_0, bs_m96, bm_bI_some, bm_cond_bi, g1, cond_false, bs_finds X _ (by decide), bm_bI_some]
  · obtain ⟨j, hj, -, rfl⟩ := bm_rg_ex (n := 9) g1
    have go : ∀ n : Nat, v = nI n → (n = 4294967295 ∨ n < a 0 7) → (v = -nI 1 ∨ bm_rg v 0 ((a 0 7 : Int) - 1) = true) → ∃ (x : Int32) (τ τ' : bm_M), bm_ev X 62 0 [.ref 0, .int (nI j), .int v] [] σ = some (.int x, τ) ∧ bm_ev X 134 0 [.ref 45, .int (nI j), .int v] [] τ = some (.int x, τ') ∧ ab_R (T + 60) τ' := by
      intro n hn hv hq
      subst hn
      refine ⟨nI 1, bm_up σ 4 j (nI n), _, ?_, ?_, ab_R.setS h1 h2 h3 h4 h5 (by omega) (i := j) n (by omega) hv⟩
      · rw [bb_62_0, i1, bm_bI_some, bm_cond_bi, g1, cond_true]
        by_cases e : nI n = -nI 1
        · rw [decide_eq_true e, cond_true, bb_62_15, bn_inT (by omega) (by decide), bm_gd_t, bn_clamp (by omega)]
        · rw [decide_eq_false e, cond_false, bs_isCow X e7 hc, bm_bI_some, bm_cond_bi, hq.resolve_left e, cond_true, bb_62_15, bn_inT (by omega) (by decide), bm_gd_t, bn_clamp (by omega)]
      · have e8 : bm_up σ 4 j (nI n) 46 2 = nI (a 0 7) := by rw [bm_up_nk _ _ (by decide)]; exact e7m
        rw [bb_134_0, bs_m96, bm_bI_some, bm_cond_bi, g1, cond_true]
        by_cases e : nI n = -nI 1
        · rw [decide_eq_true e, cond_true, bb_134_14, bn_add, bn_inT (by omega) (by decide), bm_gd_t, bn_clamp (by omega)]
        · rw [decide_eq_false e, cond_false, bs_isCowM X e8 hc, bm_bI_some, bm_cond_bi, hq.resolve_left e, cond_true, bb_134_14, bn_add, bn_inT (by omega) (by decide), bm_gd_t, bn_clamp (by omega)]
    by_cases e : v = -nI 1
    · exact go 4294967295 (by rw [e]; exact bn_m1) (Or.inl rfl) (Or.inl e)
    · cases g2 : bm_rg v 0 ((a 0 7 : Int) - 1)
      · refine ⟨bm_lw 0, bm_tl 0 σ, bm_fo 0 (bm_tl 0 σ), ?_, ?_, hR.tell (by omega) (by decide)⟩
        · rw [bb_62_0, i1, bm_bI_some, bm_cond_bi, g1, cond_true, decide_eq_false e, cond_false, bs_isCow X e7 hc, bm_bI_some, bm_cond_bi, g2, cond_false, bs_tell X _ (by decide), bm_bI_some]
        · rw [bb_134_0, bs_m96, bm_bI_some, bm_cond_bi, g1, cond_true, decide_eq_false e, cond_false, bs_isCowM X (σ := bm_tl 0 σ) e7m hc, bm_bI_some, bm_cond_bi, g2, cond_false, bs_finds X _ (by decide), bm_bI_some]
      · obtain ⟨n, hn, -, hv⟩ := bm_rgc_ex g2
        exact go n hv (Or.inr hn) (Or.inr g2)
/-- a kind is the other, or under it -/
def ab_und (k o : Nat) : Bool := match k with
  | 0 => decide (0 = o)
  | 1 => decide (1 = o) || decide (0 = o)
  | 2 => decide (2 = o) || decide (0 = o)
  | 3 => decide (3 = o) || (decide (2 = o) || decide (0 = o))
  | 4 => decide (4 = o) || (decide (3 = o) || (decide (2 = o) || decide (0 = o)))
  | 5 => decide (5 = o) || decide (0 = o)
  | _ => decide (6 = o) || (decide (1 = o) || decide (0 = o))
theorem hu_c (X : bm_X) (σ : bm_M) (u : Value) {o k j : Nat} (ho : o ≤ 6) (hk : k ≤ 6) (hj : j < 7) : bm_ev X 26 4 [u, .int (nI o), .int (nI k), .int (nI j)] [] σ = cond (decide (k = o)) (some (.int (bm_bi true), σ)) (bm_ev X 26 4 [u, .int (nI o), .int (bm_rv X 57 k), .int (nI (j + 1))] [] σ) := by
  have hne : decide (nI k = -nI 1) = false := by
    apply decide_eq_false
    intro q
    have := congrArg Int32.toInt q
    rw [bn_toInt (by omega)] at this
    have h2 : (-nI 1 : Int32).toInt = -1 := by decide
    omega
  rw [bb_26_4, bn_lt (by omega) (by decide), decide_eq_true hj, cond_true, hne, cond_false, bn_eq (by omega) (by omega), bm_bo_1, bm_gd_t, show bm_rl X 57 = 7 from rfl, bn_inT (by omega) (by decide), bm_gd_t, bn_clamp (by omega), bn_add]
  rfl
theorem hu_c0 (X : bm_X) (σ : bm_M) (u : Value) {o j : Nat} (ho : o ≤ 6) (hj : j < 6) : bm_ev X 26 4 [u, .int (nI o), .int (nI 0), .int (nI j)] [] σ = some (.int (bm_bi (decide (0 = o))), σ) := by
  have e : bm_ev X 26 4 [u, .int (nI o), .int (-nI 1), .int (nI (j + 1))] [] σ = some (.int (bm_bi false), σ) := by
    rw [bb_26_4, bn_lt (by omega) (by decide), decide_eq_true (show j + 1 < 7 by omega), cond_true, bn_same, cond_true, bm_bo_0, bm_gd_t]
    rfl
  rw [hu_c X σ u ho (by decide) (by omega), show bm_rv X 57 0 = -nI 1 from rfl, e]
  cases decide (0 = o) <;> rfl
theorem hu_c1 (X : bm_X) (σ : bm_M) (u : Value) {o j : Nat} (ho : o ≤ 6) (hj : j < 5) : bm_ev X 26 4 [u, .int (nI o), .int (nI 1), .int (nI j)] [] σ = some (.int (bm_bi (decide (1 = o) || decide (0 = o))), σ) := by
  rw [hu_c X σ u ho (by decide) (by omega), show bm_rv X 57 1 = nI 0 from rfl, hu_c0 X σ u ho (by omega)]
  cases decide (1 = o) <;> rfl
theorem hu_c2 (X : bm_X) (σ : bm_M) (u : Value) {o j : Nat} (ho : o ≤ 6) (hj : j < 5) : bm_ev X 26 4 [u, .int (nI o), .int (nI 2), .int (nI j)] [] σ = some (.int (bm_bi (decide (2 = o) || decide (0 = o))), σ) := by
  rw [hu_c X σ u ho (by decide) (by omega), show bm_rv X 57 2 = nI 0 from rfl, hu_c0 X σ u ho (by omega)]
  cases decide (2 = o) <;> rfl
theorem hu_c3 (X : bm_X) (σ : bm_M) (u : Value) {o j : Nat} (ho : o ≤ 6) (hj : j < 4) : bm_ev X 26 4 [u, .int (nI o), .int (nI 3), .int (nI j)] [] σ = some (.int (bm_bi (decide (3 = o) || (decide (2 = o) || decide (0 = o)))), σ) := by
  rw [hu_c X σ u ho (by decide) (by omega), show bm_rv X 57 3 = nI 2 from rfl, hu_c2 X σ u ho (by omega)]
  cases decide (3 = o) <;> rfl
theorem hu_class (X : bm_X) (σ : bm_M) {o k : Nat} (ho : o ≤ 6) (hk : k ≤ 6) : bm_ev X 26 0 [.int (nI k), .int (nI o), .null, .null] [] σ = some (.int (bm_bi (ab_und k o)), σ) := by
  rw [bb_26_0]
  rcases (show k = 0 ∨ k = 1 ∨ k = 2 ∨ k = 3 ∨ k = 4 ∨ k = 5 ∨ k = 6 by omega) with rfl | rfl | rfl | rfl | rfl | rfl | rfl
  · exact hu_c0 X σ _ ho (by decide)
  · exact hu_c1 X σ _ ho (by decide)
  · exact hu_c2 X σ _ ho (by decide)
  · exact hu_c3 X σ _ ho (by decide)
  · rw [hu_c X σ _ ho (by decide) (by decide), show bm_rv X 57 4 = nI 3 from rfl, hu_c3 X σ _ ho (by decide)]
    unfold ab_und
    cases decide (4 = o) <;> rfl
  · rw [hu_c X σ _ ho (by decide) (by decide), show bm_rv X 57 5 = nI 0 from rfl, hu_c0 X σ _ ho (by decide)]
    unfold ab_und
    cases decide (5 = o) <;> rfl
  · rw [hu_c X σ _ ho (by decide) (by decide), show bm_rv X 57 6 = nI 1 from rfl, hu_c1 X σ _ ho (by decide)]
    unfold ab_und
    cases decide (6 = o) <;> rfl
theorem hu_m11 (X : bm_X) (σ : bm_M) (u : Value) {o k : Nat} (ho : o ≤ 6) (hk : k ≤ 6) : bm_ev X 75 11 [u, .int (nI o), .int (nI k)] [] σ = some (.int (bm_bi (decide (k = o))), σ) := by
  rw [bb_75_11, bn_eq (by omega) (by omega), bm_bo_1, bm_bo_0, bm_gd_t, bm_gd_t]
  cases decide (k = o) <;> rfl
theorem hu_m (X : bm_X) (σ : bm_M) (u : Value) {o k : Nat} (ho : o ≤ 6) (hk : k ≤ 6) (hk0 : k ≠ 0) : bm_ev X 75 2 [u, .int (nI o), .int (nI k)] [] σ = cond (decide (k = o)) (some (.int (bm_bi true), σ)) (bm_ev X 75 2 [u, .int (nI o), .int (if k = 3 then nI 2 else if k = 4 then nI 3 else if k = 6 then nI 1 else nI 0)] [] σ) := by
  have e38 : bm_ev X 38 0 [.int (nI k)] [] σ = some (.int (if k = 3 then nI 2 else if k = 4 then nI 3 else if k = 6 then nI 1 else nI 0), σ) := by
    rw [bb_38_0, bn_eq (by omega) (by decide), bn_eq (by omega) (by decide), bn_eq (by omega) (by decide)]
    by_cases c3 : k = 3
    · simp [c3]
    · by_cases c4 : k = 4
      · simp [c4]
      · by_cases c6 : k = 6
        · simp [c6]
        · simp [c3, c4, c6]
  rw [bb_75_2, bn_eq0 (by omega), decide_eq_false hk0, cond_false, bn_eq (by omega) (by omega), hu_m11 X σ u ho hk, e38, bm_bI_some]
  cases h : decide (k = o) <;> rfl
theorem hu_m0 (X : bm_X) (σ : bm_M) (u : Value) {o : Nat} (ho : o ≤ 6) : bm_ev X 75 2 [u, .int (nI o), .int (nI 0)] [] σ = some (.int (bm_bi (decide (0 = o))), σ) := by
  rw [bb_75_2, bn_eq0 (by decide), decide_eq_true rfl, cond_true, hu_m11 X σ u ho (by decide)]
theorem hu_m1 (X : bm_X) (σ : bm_M) (u : Value) {o : Nat} (ho : o ≤ 6) : bm_ev X 75 2 [u, .int (nI o), .int (nI 1)] [] σ = some (.int (bm_bi (decide (1 = o) || decide (0 = o))), σ) := by
  rw [hu_m X σ u ho (by decide) (by decide), if_neg (by decide), if_neg (by decide), if_neg (by decide), hu_m0 X σ u ho]
  cases decide (1 = o) <;> rfl
theorem hu_m2 (X : bm_X) (σ : bm_M) (u : Value) {o : Nat} (ho : o ≤ 6) : bm_ev X 75 2 [u, .int (nI o), .int (nI 2)] [] σ = some (.int (bm_bi (decide (2 = o) || decide (0 = o))), σ) := by
  rw [hu_m X σ u ho (by decide) (by decide), if_neg (by decide), if_neg (by decide), if_neg (by decide), hu_m0 X σ u ho]
  cases decide (2 = o) <;> rfl
theorem hu_m3 (X : bm_X) (σ : bm_M) (u : Value) {o : Nat} (ho : o ≤ 6) : bm_ev X 75 2 [u, .int (nI o), .int (nI 3)] [] σ = some (.int (bm_bi (decide (3 = o) || (decide (2 = o) || decide (0 = o)))), σ) := by
  rw [hu_m X σ u ho (by decide) (by decide), if_pos rfl, hu_m2 X σ u ho]
  cases decide (3 = o) <;> rfl
theorem hu_ref (X : bm_X) (σ : bm_M) {o k : Nat} (ho : o ≤ 6) (hk : k ≤ 6) : bm_ev X 75 0 [.int (nI k), .int (nI o), .null] [] σ = some (.int (bm_bi (ab_und k o)), σ) := by
  rw [bb_75_0]
  rcases (show k = 0 ∨ k = 1 ∨ k = 2 ∨ k = 3 ∨ k = 4 ∨ k = 5 ∨ k = 6 by omega) with rfl | rfl | rfl | rfl | rfl | rfl | rfl
  · exact hu_m0 X σ _ ho
  · exact hu_m1 X σ _ ho
  · exact hu_m2 X σ _ ho
  · exact hu_m3 X σ _ ho
  · rw [hu_m X σ _ ho (by decide) (by decide), if_neg (by decide), if_pos rfl, hu_m3 X σ _ ho]
    unfold ab_und
    cases decide (4 = o) <;> rfl
  · rw [hu_m X σ _ ho (by decide) (by decide), if_neg (by decide), if_neg (by decide), if_neg (by decide), hu_m0 X σ _ ho]
    unfold ab_und
    cases decide (5 = o) <;> rfl
  · rw [hu_m X σ _ ho (by decide) (by decide), if_neg (by decide), if_neg (by decide), if_pos rfl, hu_m1 X σ _ ho]
    unfold ab_und
    cases decide (6 = o) <;> rfl
theorem op_as (X : bm_X) (p v : Int32) : ab_op X 113 135 [.ref 0, .int p, .int v, .null] [.ref 45, .int p, .int v, .null] := by
  intro T σ hR hT
  obtain ⟨a, ka, kp, tl, h1, h2, h3, h4, h5⟩ := id hR
  obtain ⟨hH, hS, hG, hP, hh⟩ := id h1
  have hc := hG.2.2.1
  have i1 : ∀ (x : Int32) (σ : bm_M), bm_ev X 24 0 [.int x, .int (nI 9)] [] σ = some (.int (bm_bi (bm_rg x 0 9)), σ) := fun x σ => bs_upN X σ x (by decide)
  cases g1 : bm_rg p 0 9
  · refine ⟨bm_lw 0, bm_tl 0 σ, bm_fo 0 (bm_tl 0 σ), ?_, ?_, hR.tell (by omega) (by decide)⟩
    · rw [bb_113_0, i1, bm_bI_some, bm_cond_bi, g1, cond_false, bs_tell X _ (by decide), bm_bI_some]
    · rw [bb_135_0, bs_m96, bm_bI_some, bm_cond_bi, g1, cond_false, bs_finds X _ (by decide), bm_bI_some]
  cases g2 : bm_rg v 0 6
  · refine ⟨bm_lw 0, bm_tl 0 σ, bm_fo 0 (bm_tl 0 σ), ?_, ?_, hR.tell (by omega) (by decide)⟩
    · rw [bb_113_0, i1, bm_bI_some, bm_cond_bi, g1, cond_true, bs_c67, bm_bI_some, bm_cond_bi, g2, cond_false, bs_tell X _ (by decide), bm_bI_some]
    · rw [bb_135_0, bs_m96, bm_bI_some, bm_cond_bi, g1, cond_true, bs_m76, bm_bI_some, bm_cond_bi, g2, cond_false, bs_finds X _ (by decide), bm_bI_some]
  obtain ⟨j, hj, -, rfl⟩ := bm_rg_ex (n := 9) g1
  obtain ⟨o, ho, -, rfl⟩ := bm_rg_ex (n := 6) g2
  have hw3 : ab_wd 3 j = true := decide_eq_true (by omega)
  have e3 : σ 4 j = nI (a 3 j) := hH 3 j hw3
  have e3m : σ 46 (85 + j) = nI (a 3 j) := hS 3 j hw3
  rcases hP j (by omega) with q | q
  · refine ⟨bm_lw 5, bm_tl 5 σ, bm_fo 5 (bm_tl 5 σ), ?_, ?_, hR.tell (by omega) (by decide)⟩
    · rw [bb_113_0, i1, bm_bI_some, bm_cond_bi, g1, cond_true, bs_c67, bm_bI_some, bm_cond_bi, g2, cond_true, bn_inT (by omega) (by decide), bm_gd_t, bn_clamp (by omega), e3, q, ← bn_m1, bn_same, cond_true, bs_tell X _ (by decide), bm_bI_some]
    · have e3t : bm_tl 5 σ 46 (85 + j) = nI (a 3 j) := e3m
      rw [bb_135_0, bs_m96, bm_bI_some, bm_cond_bi, g1, cond_true, bs_m76, bm_bI_some, bm_cond_bi, g2, cond_true, bn_add, bn_inT (by omega) (by decide), bm_gd_t, bn_clamp (by omega), e3t, q, ← bn_m1, bn_m1_lt, cond_true, bs_finds X _ (by decide), bm_bI_some]
  · have hk8 : a 3 j < 8 := by omega
    have hne : decide (nI (a 3 j) = -nI 1) = false := by
      apply decide_eq_false
      intro q
      have := congrArg Int32.toInt q
      rw [bn_toInt (by omega)] at this
      have h2 : (-nI 1 : Int32).toInt = -1 := by decide
      omega
    obtain ⟨b4, -⟩ := hG.2.2.2.2.2 _ hk8
    have e4 : σ 5 (a 3 j) = nI (a 4 (a 3 j)) := hH 4 _ (ab_w8 (by decide) (by decide) hk8)
    have cl : bm_ev X 113 0 [.ref 0, .int (nI j), .int (nI o), .null] [] σ = cond (ab_und (a 4 (a 3 j)) o) (some (.int (nI (a 3 j)), σ)) (some (.int (bm_lw 2), bm_tl 2 σ)) := by
      rw [bb_113_0, i1, bm_bI_some, bm_cond_bi, g1, cond_true, bs_c67, bm_bI_some, bm_cond_bi, g2, cond_true, bn_inT (by omega) (by decide), bm_gd_t, bn_clamp (by omega), e3, hne, cond_false, bn_inT hk8 (by decide), bm_gd_t, bn_clamp (by omega), e4, hu_class X σ ho b4, bm_bI_some, bm_cond_bi, bs_tell X _ (by decide), bm_bI_some]
    have ml : ∀ ρ : bm_M, ρ 46 = σ 46 → bm_ev X 135 0 [.ref 45, .int (nI j), .int (nI o), .null] [] ρ = cond (ab_und (a 4 (a 3 j)) o) (some (.int (nI (a 3 j)), ρ)) (some (.int (bm_lw 2), bm_fo 2 ρ)) := by
      intro ρ hρ
      have e3r : ρ 46 (85 + j) = nI (a 3 j) := by rw [hρ]; exact e3m
      rw [bb_135_0, bs_m96, bm_bI_some, bm_cond_bi, g1, cond_true, bs_m76, bm_bI_some, bm_cond_bi, g2, cond_true, bn_add, bn_inT (by omega) (by decide), bm_gd_t, bn_clamp (by omega), e3r, bn_lt0 (by omega), cond_false, hm_it0 X (hS.fr hρ) hG hk8, bm_bI_some, hu_ref X ρ ho b4, bm_bI_some, bm_cond_bi, bs_finds X _ (by decide), bm_bI_some]
    cases hu : ab_und (a 4 (a 3 j)) o
    · rw [hu, cond_false] at cl
      have := ml (bm_tl 2 σ) (bm_up_ne _ _ _ (by decide))
      rw [hu, cond_false] at this
      exact ⟨_, _, _, cl, this, hR.tell (by omega) (by decide)⟩
    · rw [hu, cond_true] at cl
      have := ml σ rfl
      rw [hu, cond_true] at this
      exact ⟨_, _, _, cl, this, hR.junk (by omega) ab_K.rf⟩
end
section
/-! status, count, pair -/
def ab_sumI (f : Nat → Int32) : Nat → Int32
  | 0 => nI 0
  | n + 1 => ab_sumI f n + f n
theorem bn_add0 (x : Int32) : x + nI 0 = x := by
  show x + 0 = x
  exact Int32.add_zero x
theorem bn_0add (x : Int32) : nI 0 + x = x := by
  show 0 + x = x
  exact Int32.zero_add x
theorem ab_sumI_one (f : Nat → Int32) (w : Nat) : ∀ n, ab_sumI (fun k => if k = w then f k else nI 0) n = if w < n then f w else nI 0
  | 0 => rfl
  | n + 1 => by
    rw [ab_sumI, ab_sumI_one f w n]
    by_cases e : n = w
    · subst e
      simp [bn_0add]
    · by_cases h : w < n
      · simp [e, h, show w < n + 1 by omega, bn_add0]
      · simp [e, h, show ¬ w < n + 1 by omega, bn_add0]
theorem hs_c (X : bm_X) (σ : bm_M) (u : Value) : ∀ (n j : Nat), j + n = 7 → bm_ev X 64 21 [.ref 0, u, .int (ab_sumI (σ 43) j), .int (nI j)] [] σ = some (.int (ab_sumI (σ 43) 7), σ) := by
  intro n
  induction n with
  | zero =>
    intro j hj
    rw [bb_64_21]
    rw [show j = 7 by omega]
    rfl
  | succ n ih =>
    intro j hj
    rw [bb_64_21, bn_lt (by omega) (by decide), decide_eq_true (by omega), cond_true, bn_inT (by omega) (by decide), bm_gd_t, bn_clamp (by omega), bn_add]
    exact ih (j + 1) (by omega)
theorem hs_m (X : bm_X) (σ : bm_M) (p : Int32) (g : Nat → Int32) (hg : ∀ k, k < 7 → g k = if p < 0 ∨ p = nI k then σ 49 k else nI 0) : ∀ (n j : Nat), j + n = 7 → bm_ev X 100 14 [.ref 45, .int p, .int (ab_sumI g j), .int (nI j)] [] σ = some (.int (ab_sumI g 7), σ) := by
  intro n
  induction n with
  | zero =>
    intro j hj
    rw [bb_100_14]
    rw [show j = 7 by omega]
    rfl
  | succ n ih =>
    intro j hj
    have := ih (j + 1) (by omega)
    rw [ab_sumI, hg j (by omega)] at this
    rw [bb_100_14, bn_lt (by omega) (by decide), decide_eq_true (by omega), cond_true, bb_100_23, bn_inT (by omega) (by decide), bm_gd_t, bn_clamp (by omega), bb_100_29, bb_100_29, bn_add]
    by_cases e1 : p < 0
    · rw [if_pos (Or.inl e1)] at this
      rw [decide_eq_true e1, cond_true]
      exact this
    · rw [decide_eq_false e1, cond_false]
      by_cases e2 : p = nI j
      · rw [if_pos (Or.inr e2)] at this
        rw [decide_eq_true e2, cond_true]
        exact this
      · rw [if_neg (fun q => q.elim e1 e2)] at this
        rw [decide_eq_false e2, cond_false]
        exact this
theorem ab_sumI_eq {f g : Nat → Int32} : ∀ n, (∀ k, k < n → f k = g k) → ab_sumI f n = ab_sumI g n
  | 0, _ => rfl
  | n + 1, h => by rw [ab_sumI, ab_sumI, ab_sumI_eq n (fun k hk => h k (by omega)), h n (by omega)]
theorem op_status (X : bm_X) (p : Int32) : ab_op X 64 100 [.ref 0, .int p, .null, .null] [.ref 45, .int p, .null, .null] := by
  intro T σ hR hT
  obtain ⟨a, ka, kp, tl, h1, h2, h3, h4, h5⟩ := id hR
  have m1 : ∀ ρ : bm_M, bm_ev X 32 0 [.long p.toInt64, .null, .long (-1), .null, .long (lN 6), .null] [] ρ = some (.int (bm_bi (bm_rg p (-1) 6)), ρ) := by
    intro ρ
    rw [bs_in, bm_i2l, bl_toInt (by decide)]
    rfl
  have hm1 : (-nI 1 : Int32).toInt = -1 := by decide
  have h7 : (nI 7 : Int32).toInt = 7 := by decide
  have h0 : (0 : Int32).toInt = 0 := by decide
  by_cases g1 : bm_rg p (-1) 6 = true
  · have g1' := g1
    simp only [bm_rg, Bool.and_eq_true, decide_eq_true_eq] at g1'
    have c1 : decide (p < -nI 1) = false := by rw [bm_lt_toInt, hm1]; exact decide_eq_false (by omega)
    have c2 : decide (p < nI 7) = true := by rw [bm_lt_toInt, h7]; exact decide_eq_true (by omega)
    by_cases e : p < 0
    · refine ⟨ab_sumI (σ 43) 7, σ, σ, ?_, ?_, hR.junk (by omega) ab_K.rf⟩
      · rw [bb_64_0, c1, cond_false, c2, cond_true, decide_eq_true e, cond_true]
        exact hs_c X σ _ 7 0 (by omega)
      · rw [bb_100_0, m1, bm_bI_some, bm_cond_bi, g1, cond_true, ab_sumI_eq (g := σ 49) 7 (fun k hk => h5 k hk)]
        exact hs_m X σ p (σ 49) (fun k hk => by rw [if_pos (Or.inl e)]) 7 0 (by omega)
    · have c3 : 0 ≤ p.toInt := by
        have : ¬ p.toInt < 0 := fun q => e (Int32.lt_iff_toInt_lt.mpr (by rw [h0]; exact q))
        omega
      have g0 : bm_rg p 0 6 = true := by
        simp only [bm_rg, Bool.and_eq_true, decide_eq_true_eq]
        exact ⟨c3, g1'.2⟩
      obtain ⟨w, hw, hw2, rfl⟩ := bm_rg_ex (n := 6) g0
      refine ⟨σ 43 w, σ, σ, ?_, ?_, hR.junk (by omega) ab_K.rf⟩
      · rw [bb_64_0, c1, cond_false, c2, cond_true, decide_eq_false e, cond_false, bn_inT (by omega) (by decide), bm_gd_t, bn_clamp hw2]
      · rw [bb_100_0, m1, bm_bI_some, bm_cond_bi, g1, cond_true]
        have := hs_m X σ (nI w) (fun k => if k = w then σ 49 k else nI 0) (fun k hk => by
          by_cases ek : k = w
          · subst ek
            rw [if_pos rfl, if_pos (Or.inr rfl)]
          · rw [if_neg ek, if_neg]
            rintro (q | q)
            · exact e q
            · exact ek ((nI_eq hw2 (by omega)).mp q).symm) 7 0 (by omega)
        rw [ab_sumI_one (σ 49) w 7, if_pos (show w < 7 by omega)] at this
        rw [h5 w (by omega)]
        exact this
  · have g1 : bm_rg p (-1) 6 = false := by simpa using g1
    refine ⟨bm_lw 0, bm_tl 0 σ, bm_fo 0 (bm_tl 0 σ), ?_, ?_, hR.tell (by omega) (by decide)⟩
    · rw [bb_64_0, bs_tell X _ (by decide), bm_bI_some]
      by_cases c1 : p < -nI 1
      · rw [decide_eq_true c1, cond_true]
      · have c2 : decide (p < nI 7) = false := by
          rw [bm_lt_toInt, h7]
          apply decide_eq_false
          intro q
          have c1' : ¬ p.toInt < -1 := fun z => c1 (Int32.lt_iff_toInt_lt.mpr (by rw [hm1]; exact z))
          have : bm_rg p (-1) 6 = true := by
            simp only [bm_rg, Bool.and_eq_true, decide_eq_true_eq]
            omega
          rw [g1] at this
          cases this
        rw [decide_eq_false c1, cond_false, c2, cond_false]
    · rw [bb_100_0, m1, bm_bI_some, bm_cond_bi, g1, cond_false, bs_finds X _ (by decide), bm_bI_some]
/-- how many of the twelve lowest bits are set -/
def ab_on (m : Nat) : Nat → Nat
  | 0 => 0
  | n + 1 => ab_on m n + m / 2 ^ n % 2
theorem bn_bit : ∀ m, m < 256 → ∀ j, j < 12 → (bm_shr (nI m) (nI j) &&& nI 1) = nI (m / 2 ^ j % 2) := by decide +kernel
theorem bn_put : ∀ n, n < 8 → ∀ m, m < 2 ^ n → ∀ b, b < 2 → (nI m ||| bm_shl (nI b) (nI n)) = nI (m + b * 2 ^ n) := by decide +kernel
theorem ho_ones (X : bm_X) (σ : bm_M) {m : Nat} (hm : m < 256) : ∀ (n j : Nat), j + n = 12 → bm_ev X 37 4 [.int (nI m), .int (nI (ab_on m j)), .int (nI j)] [] σ = some (.int (nI (ab_on m 12)), σ) := by
  intro n
  induction n with
  | zero =>
    intro j hj
    rw [bb_37_4]
    rw [show j = 12 by omega, bn_lt (by decide) (by decide), decide_eq_false (by decide), cond_false]
  | succ n ih =>
    intro j hj
    rw [bb_37_4, bn_lt (by omega) (by decide), decide_eq_true (by omega), cond_true, bn_bit m hm j (by omega), bn_add, bn_add]
    exact ih (j + 1) (by omega)
theorem hm_ones (X : bm_X) (σ : bm_M) {m : Nat} (hm : m < 256) : bm_ev X 37 0 [.int (nI m), .null, .null] [] σ = some (.int (nI (ab_on m 12)), σ) := by
  rw [bb_37_0]
  exact ho_ones X σ hm 12 0 (by omega)
def ab_bc (p0 : Int32) : Int32 := ((((((((p0 - ((bm_ushr p0 (nI 1)) &&& (nI 1431655765))) &&& (nI 858993459)) + ((bm_ushr (p0 - ((bm_ushr p0 (nI 1)) &&& (nI 1431655765))) (nI 2)) &&& (nI 858993459))) + (bm_ushr (((p0 - ((bm_ushr p0 (nI 1)) &&& (nI 1431655765))) &&& (nI 858993459)) + ((bm_ushr (p0 - ((bm_ushr p0 (nI 1)) &&& (nI 1431655765))) (nI 2)) &&& (nI 858993459))) (nI 4))) &&& (nI 252645135)) + (bm_ushr (((((p0 - ((bm_ushr p0 (nI 1)) &&& (nI 1431655765))) &&& (nI 858993459)) + ((bm_ushr (p0 - ((bm_ushr p0 (nI 1)) &&& (nI 1431655765))) (nI 2)) &&& (nI 858993459))) + (bm_ushr (((p0 - ((bm_ushr p0 (nI 1)) &&& (nI 1431655765))) &&& (nI 858993459)) + ((bm_ushr (p0 - ((bm_ushr p0 (nI 1)) &&& (nI 1431655765))) (nI 2)) &&& (nI 858993459))) (nI 4))) &&& (nI 252645135)) (nI 8))) + (bm_ushr ((((((p0 - ((bm_ushr p0 (nI 1)) &&& (nI 1431655765))) &&& (nI 858993459)) + ((bm_ushr (p0 - ((bm_ushr p0 (nI 1)) &&& (nI 1431655765))) (nI 2)) &&& (nI 858993459))) + (bm_ushr (((p0 - ((bm_ushr p0 (nI 1)) &&& (nI 1431655765))) &&& (nI 858993459)) + ((bm_ushr (p0 - ((bm_ushr p0 (nI 1)) &&& (nI 1431655765))) (nI 2)) &&& (nI 858993459))) (nI 4))) &&& (nI 252645135)) + (bm_ushr (((((p0 - ((bm_ushr p0 (nI 1)) &&& (nI 1431655765))) &&& (nI 858993459)) + ((bm_ushr (p0 - ((bm_ushr p0 (nI 1)) &&& (nI 1431655765))) (nI 2)) &&& (nI 858993459))) + (bm_ushr (((p0 - ((bm_ushr p0 (nI 1)) &&& (nI 1431655765))) &&& (nI 858993459)) + ((bm_ushr (p0 - ((bm_ushr p0 (nI 1)) &&& (nI 1431655765))) (nI 2)) &&& (nI 858993459))) (nI 4))) &&& (nI 252645135)) (nI 8))) (nI 16))) &&& (nI 63))
theorem bn_bc : ∀ m, m < 256 → ab_bc (nI m) = nI (ab_on m 12) := by decide +kernel
theorem hc_bits (X : bm_X) (σ : bm_M) {m : Nat} (hm : m < 256) : bm_ev X 48 0 [.int (nI m)] [] σ = some (.int (nI (ab_on m 12)), σ) := by
  rw [bb_48_0]
  show some (Value.int (ab_bc (nI m)), σ) = _
  rw [bn_bc m hm]
theorem ab_muf_ex {a : ab_T} (hG : ab_G a) : ∀ n, n ≤ 8 → ∃ m, m < 2 ^ n ∧ ab_or (ab_muf a) n = nI m
  | 0, _ => ⟨0, by decide, rfl⟩
  | n + 1, hn => by
    obtain ⟨m, hm, e⟩ := ab_muf_ex hG n (by omega)
    obtain ⟨-, -, -, -, -, -, b⟩ := hG.2.2.2.2.2 n (by omega)
    refine ⟨m + a 10 n * 2 ^ n, ?_, ?_⟩
    · have : a 10 n * 2 ^ n ≤ 1 * 2 ^ n := Nat.mul_le_mul_right _ b
      rw [Nat.pow_succ]
      omega
    · rw [ab_or, e]
      exact bn_put n (by omega) m hm (a 10 n) (by omega)
theorem ab_muf256 {a : ab_T} (hG : ab_G a) : ∃ m, m < 256 ∧ ab_or (ab_muf a) (a 0 7) = nI m := by
  obtain ⟨m, h1, h2⟩ := ab_muf_ex hG (a 0 7) hG.2.2.1
  have : 2 ^ a 0 7 ≤ 2 ^ 8 := Nat.pow_le_pow_right (by decide) hG.2.2.1
  exact ⟨m, by omega, h2⟩
/-- spots that hold something -/
def ab_hd (a : ab_T) : Nat → Nat
  | 0 => 0
  | n + 1 => ab_hd a n + (if a 3 n = 4294967295 then 0 else 1)
theorem hc_held (X : bm_X) {o : Nat} (ho : bm_isH o) {σ : bm_M} {a : ab_T} (hH : ab_H o σ a) (hG : ab_G a) {k : Nat} (hP : ab_P a) : ∀ (n j : Nat), j + n = 10 → bm_ev X 16 4 [.ref o, .int (nI (ab_hd a j)), .int (nI j)] [] σ = some (.int (nI (ab_hd a 10)), σ) := by
  intro n
  induction n with
  | zero =>
    intro j hj
    rw [bb_16_4 _ _ _ ho]
    rw [show j = 10 by omega, bn_lt (by decide) (by decide), decide_eq_false (by decide), cond_false]
  | succ n ih =>
    intro j hj
    have e3 := hH 3 j (decide_eq_true (by omega))
    have := ih (j + 1) (by omega)
    have hc := hG.2.2.1
    rw [bb_16_4 _ _ _ ho, bn_lt (by omega) (by decide), decide_eq_true (by omega), cond_true, bn_inT (by omega) (by decide), bm_gd_t, bn_clamp (by omega), e3, bn_add, bn_add]
    rcases hP j (by omega) with q | q
    · rw [q, ← bn_m1, bn_same, cond_true]
      rw [ab_hd, if_pos q] at this
      exact this
    · have hne : decide (nI (a 3 j) = -nI 1) = false := by
        apply decide_eq_false
        intro z
        have := congrArg Int32.toInt z
        rw [bn_toInt (by omega)] at this
        have h2 : (-nI 1 : Int32).toInt = -1 := by decide
        omega
      rw [hne, cond_false]
      rw [ab_hd, if_neg (by omega)] at this
      exact this
theorem hm_held (X : bm_X) {σ : bm_M} {a : ab_T} (hS : ab_S 46 σ a) (hG : ab_G a) {k : Nat} (hP : ab_P a) : ∀ (n j : Nat), j + n = 10 → bm_ev X 47 4 [.ref 45, .int (nI (ab_hd a j)), .int (nI j)] [] σ = some (.int (nI (ab_hd a 10)), σ) := by
  intro n
  induction n with
  | zero =>
    intro j hj
    rw [bb_47_4]
    rw [show j = 10 by omega, bn_lt (by decide) (by decide), decide_eq_false (by decide), cond_false]
  | succ n ih =>
    intro j hj
    have e3 : σ 46 (85 + j) = nI (a 3 j) := hS 3 j (decide_eq_true (by omega))
    have := ih (j + 1) (by omega)
    have hc := hG.2.2.1
    rw [bb_47_4, bn_lt (by omega) (by decide), decide_eq_true (by omega), cond_true, bn_add, bn_inT (by omega) (by decide), bm_gd_t, bn_clamp (by omega), e3, bb_47_18, bb_47_18, bn_add, bn_add, bn_add]
    rcases hP j (by omega) with q | q
    · rw [q, ← bn_m1, bn_m1_lt, cond_true]
      rw [ab_hd, if_pos q] at this
      exact this
    · rw [bn_lt0 (by omega), cond_false]
      rw [ab_hd, if_neg (by omega)] at this
      exact this
theorem op_count (X : bm_X) (p : Int32) : ab_op X 63 139 [.ref 0, .int p] [.ref 45, .int p] := by
  intro T σ hR hT
  obtain ⟨a, ka, kp, tl, h1, h2, h3, h4, h5⟩ := id hR
  obtain ⟨hH, hS, hG, hP, hh⟩ := id h1
  obtain ⟨t1, t2, -⟩ := id h3
  have e5 : σ 1 5 = nI (a 0 5) := hH 0 5 rfl
  have e5m : σ 46 0 = nI (a 0 5) := hS 0 5 rfl
  have e6 : σ 1 6 = nI (a 0 6) := hH 0 6 rfl
  have e6m : σ 46 1 = nI (a 0 6) := hS 0 6 rfl
  have e7 : σ 1 7 = nI (a 0 7) := hH 0 7 rfl
  have e7m : σ 46 2 = nI (a 0 7) := hS 0 7 rfl
  obtain ⟨m, hm, em⟩ := ab_muf256 hG
  have fin : ∀ x : Int32, bm_ev X 63 0 [.ref 0, .int p] [] σ = some (.int x, σ) → bm_ev X 139 0 [.ref 45, .int p] [] σ = some (.int x, σ) → ∃ (x : Int32) (τ τ' : bm_M), bm_ev X 63 0 [.ref 0, .int p] [] σ = some (.int x, τ) ∧ bm_ev X 139 0 [.ref 45, .int p] [] τ = some (.int x, τ') ∧ ab_R (T + 60) τ' := fun x q1 q2 => ⟨x, σ, σ, q1, q2, hR.junk (by omega) ab_K.rf⟩
  by_cases c0 : p = nI 0
  · refine fin (nI (a 0 5)) ?_ ?_
    · rw [bb_63_0, decide_eq_true c0, cond_true, e5]
    · rw [bb_139_0, decide_eq_true c0, cond_true, bn_inT (by decide) (by decide), bm_gd_t, bn_clamp (by decide), e5m]
  by_cases c1 : p = nI 1
  · refine fin (nI (a 0 7)) ?_ ?_
    · rw [bb_63_0, decide_eq_false c0, cond_false, decide_eq_true c1, cond_true, e7]
    · rw [bb_139_0, decide_eq_false c0, cond_false, decide_eq_true c1, cond_true, bn_inT (by decide) (by decide), bm_gd_t, bn_clamp (by decide), e7m]
  by_cases c2 : p = nI 2
  · refine fin (nI (ab_on m 12)) ?_ ?_
    · rw [bb_63_0, decide_eq_false c0, cond_false, decide_eq_false c1, cond_false, decide_eq_true c2, cond_true, hc_muffled X (Or.inl rfl) hH hG (k := 0), bm_bI_some, em, hc_bits X σ hm, bm_bI_some]
    · rw [bb_139_0, decide_eq_false c0, cond_false, decide_eq_false c1, cond_false, decide_eq_true c2, cond_true, hm_muffled X hS hG (k := 0), bm_bI_some, em, hm_ones X σ hm, bm_bI_some]
  by_cases c3 : p = nI 3
  · refine fin (nI (ab_sum (a 9) (a 0 7))) ?_ ?_
    · rw [bb_63_0, decide_eq_false c0, cond_false, decide_eq_false c1, cond_false, decide_eq_false c2, cond_false, decide_eq_true c3, cond_true, hc_rungs X (Or.inl rfl) hH hG (k := 0), bm_bI_some]
    · rw [bb_139_0, decide_eq_false c0, cond_false, decide_eq_false c1, cond_false, decide_eq_false c2, cond_false, decide_eq_true c3, cond_true, hm_rungs X hS hG (k := 0), bm_bI_some]
  by_cases c4 : p = nI 4
  · refine fin (nI (ab_sum (a 2) 12)) ?_ ?_
    · rw [bb_63_0, decide_eq_false c0, cond_false, decide_eq_false c1, cond_false, decide_eq_false c2, cond_false, decide_eq_false c3, cond_false, decide_eq_true c4, cond_true, hc_milk X (Or.inl rfl) hH hG (k := 0), bm_bI_some]
    · rw [bb_139_0, decide_eq_false c0, cond_false, decide_eq_false c1, cond_false, decide_eq_false c2, cond_false, decide_eq_false c3, cond_false, decide_eq_true c4, cond_true, hm_pails X hS hG (k := 0), bm_bI_some]
  by_cases c5 : p = nI 5
  · refine fin (nI tl) ?_ ?_
    · rw [bb_63_0, decide_eq_false c0, cond_false, decide_eq_false c1, cond_false, decide_eq_false c2, cond_false, decide_eq_false c3, cond_false, decide_eq_false c4, cond_false, decide_eq_true c5, cond_true, t1]
    · rw [bb_139_0, decide_eq_false c0, cond_false, decide_eq_false c1, cond_false, decide_eq_false c2, cond_false, decide_eq_false c3, cond_false, decide_eq_false c4, cond_false, decide_eq_true c5, cond_true, t2]
  by_cases c6 : p = nI 6
  · refine fin (nI (a 0 6)) ?_ ?_
    · rw [bb_63_0, decide_eq_false c0, cond_false, decide_eq_false c1, cond_false, decide_eq_false c2, cond_false, decide_eq_false c3, cond_false, decide_eq_false c4, cond_false, decide_eq_false c5, cond_false, decide_eq_true c6, cond_true, e6]
    · rw [bb_139_0, decide_eq_false c0, cond_false, decide_eq_false c1, cond_false, decide_eq_false c2, cond_false, decide_eq_false c3, cond_false, decide_eq_false c4, cond_false, decide_eq_false c5, cond_false, decide_eq_true c6, cond_true, bn_inT (by decide) (by decide), bm_gd_t, bn_clamp (by decide), e6m]
  by_cases c7 : p = nI 7
  · refine fin (nI (ab_hd a 10)) ?_ ?_
    · rw [bb_63_0, decide_eq_false c0, cond_false, decide_eq_false c1, cond_false, decide_eq_false c2, cond_false, decide_eq_false c3, cond_false, decide_eq_false c4, cond_false, decide_eq_false c5, cond_false, decide_eq_false c6, cond_false, decide_eq_true c7, cond_true, bb_16_0 _ _ _ (Or.inl rfl)]
      have := hc_held X (Or.inl rfl) hH hG (k := 0) hP 10 0 (by omega)
      rw [show nI (ab_hd a 0) = nI 0 from rfl] at this
      rw [this, bm_bI_some]
    · rw [bb_139_0, decide_eq_false c0, cond_false, decide_eq_false c1, cond_false, decide_eq_false c2, cond_false, decide_eq_false c3, cond_false, decide_eq_false c4, cond_false, decide_eq_false c5, cond_false, decide_eq_false c6, cond_false, decide_eq_true c7, cond_true, bb_47_0]
      have := hm_held X hS hG (k := 0) hP 10 0 (by omega)
      rw [show nI (ab_hd a 0) = nI 0 from rfl] at this
      rw [this, bm_bI_some]
  refine ⟨bm_lw 0, bm_tl 0 σ, bm_fo 0 (bm_tl 0 σ), ?_, ?_, hR.tell (by omega) (by decide)⟩
  · rw [bb_63_0, decide_eq_false c0, cond_false, decide_eq_false c1, cond_false, decide_eq_false c2, cond_false, decide_eq_false c3, cond_false, decide_eq_false c4, cond_false, decide_eq_false c5, cond_false, decide_eq_false c6, cond_false, decide_eq_false c7, cond_false, bs_tell X _ (by decide), bm_bI_some]
  · rw [bb_139_0, decide_eq_false c0, cond_false, decide_eq_false c1, cond_false, decide_eq_false c2, cond_false, decide_eq_false c3, cond_false, decide_eq_false c4, cond_false, decide_eq_false c5, cond_false, decide_eq_false c6, cond_false, decide_eq_false c7, cond_false, bs_finds X _ (by decide), bm_bI_some]
end
section
/-! WHAT WILL BE: ahead, where, when, meet, bare -/
def ab_JM (q i : Nat) : Prop := ab_J q i ∨ q = 46
theorem ab_fin0 {T T' : Nat} {σ τ ρ : bm_M} {a ka : ab_T} {kp : Bool} {tl : Nat} (h1 : ab_CH a T σ) (h2 : ab_CK ka kp T σ) (h3 : ab_CT tl σ) (h4 : ab_CS σ) (h5 : ab_CF σ) (hT : T ≤ T') (k1 : ab_K ab_J σ τ) (k2 : ab_K ab_JM τ ρ) (hS : ab_S 46 ρ a) : ab_R T' ρ := by
  obtain ⟨g1, g2, g3, g4, g5⟩ := h1
  have kk : ab_K ab_JM σ ρ := (k1.mono (fun q i z => Or.inl z)).tr k2
  refine ab_R.herd h2 h3 h4 h5 hT (kk.mono (fun q i z => ?_)) ⟨g1.K kk (fun q i c1 c2 _ z => ?_), hS, g3, g4, by omega⟩
  · rcases z with z | z
    · exact Or.inl z
    · exact Or.inr (Or.inr z)
  · unfold ab_JM ab_J at z; omega
theorem ab_finK {T T' : Nat} {σ τ ρ : bm_M} {a ka : ab_T} {kp : Bool} {tl k : Nat} (h1 : ab_CH a T σ) (h2 : ab_CK ka kp T σ) (h3 : ab_CT tl σ) (h4 : ab_CS σ) (h5 : ab_CF σ) (hT : T ≤ T') (hk : k < 7) (k1 : ab_K ab_J σ τ) (k2 : ab_K ab_JM (bm_tl k τ) ρ) (hS : ab_S 46 ρ a) : ab_R T' (bm_fo k ρ) := by
  obtain ⟨g1, g2, g3, g4, g5⟩ := h1
  have kk : ab_K (fun q i => ab_JM q i ∨ q = 43 ∨ q = 49) σ (bm_fo k ρ) := by
    have a1 : ab_K (fun q i => ab_JM q i ∨ q = 43 ∨ q = 49) σ (bm_tl k τ) := (k1.mono (fun q i z => Or.inl (Or.inl z))).up _ (Or.inr (Or.inl rfl))
    exact (a1.tr (k2.mono (fun q i z => Or.inl z))).up _ (Or.inr (Or.inr rfl))
  refine ⟨a, ka, kp, tl, ⟨g1.K kk (fun q i c1 c2 _ z => ?_), hS.ne _ _ (by decide), g3, g4, by omega⟩, h2.K hT kk (fun q i z => ?_), h3.K kk (fun q i z => ?_), h4.K kk (fun q i z => ?_), fun j hj => ?_⟩
  · unfold ab_JM ab_J at z; omega
  · unfold ab_JM at z; unfold ab_J at z ⊢; omega
  · unfold ab_JM at z; unfold ab_J at z ⊢; omega
  · unfold ab_JM at z; unfold ab_J at z ⊢; omega
  · have n43 : ∀ i, ¬ ab_JM 43 i := fun i z => by unfold ab_JM ab_J at z; omega
    have n49 : ∀ i, ¬ ab_JM 49 i := fun i z => by unfold ab_JM ab_J at z; omega
    have m43 : ∀ i, ¬ ab_J 43 i := fun i z => by unfold ab_J at z; omega
    have m49 : ∀ i, ¬ ab_J 49 i := fun i z => by unfold ab_J at z; omega
    have e49 : ∀ i, ρ 49 i = σ 49 i := fun i => by
      rw [k2 49 i (n49 i)]
      unfold bm_tl
      rw [bm_up_nk _ _ (by decide), k1 49 i (m49 i)]
    unfold bm_fo
    rw [bm_up_nk _ _ (by decide), k2 43 j (n43 j)]
    unfold bm_tl
    by_cases e : j = k
    · subst e
      rw [bm_up_at, bm_up_at, k1 43 j (m43 j), e49, h5 j hj]
    · rw [bm_up_ni _ _ e, bm_up_ni _ _ e, k1 43 j (m43 j), e49, h5 j hj]
theorem ab_F.J {σ τ : bm_M} (h : ab_F 12 σ τ) : ab_K ab_J σ τ := h.K.mono (fun q i z => Or.inl (by omega))
theorem ab_E.M {σ τ : bm_M} (h : ab_E σ τ) : ab_K ab_JM σ τ := h.K.mono (fun q i z => by unfold ab_JM ab_J; omega)
theorem ab_N.M {σ τ : bm_M} (h : ∀ q, q ≠ 46 → τ q = σ q) : ab_K ab_JM σ τ := (ab_q.K h).mono (fun q i z => Or.inr z)
theorem ab_48.M {σ τ : bm_M} (h : ∀ q, q ≠ 48 → τ q = σ q) : ab_K ab_JM σ τ := (ab_q.K h).mono (fun q i z => by unfold ab_JM ab_J; omega)
theorem ab_ly_lt {c i : Nat} (hw : ab_wd c i = true) : ab_ly c i < 95 := by
  obtain ⟨c1, c2⟩ := ab_wd_lt hw
  exact (ab_iy_ly c c1 i c2 hw).2
theorem hm_seen (X : bm_X) {σ : bm_M} {a b : ab_T} (hS : ab_S 46 σ b) (hA : ab_S 48 σ a) (hG : ab_G b) {n c i : Nat} (hn : n ≤ 1000) (hh : b 0 5 + n ≤ 99999) (hw : ab_wd c i = true) : ∃ τ, bm_ev X 191 0 [.ref 45, .int (nI (ab_ly c i)), .int (nI n), .null] [] σ = some (.int (nI (ab_hs b n c i)), τ) ∧ ab_S 46 τ a ∧ ab_S 48 τ a ∧ ab_K ab_JM σ τ := by
  obtain ⟨t1, e1, e2, e3⟩ := hm_hours X hS hG hn hh
  obtain ⟨t2, f1, f2, f3, f4⟩ := hm_laysBack X (hA.fr (e3.1 48 (by decide) (by decide)))
  have hl := ab_ly_lt hw
  refine ⟨t2, ?_, f2, f3, e3.M.tr (ab_N.M f4)⟩
  rw [bb_191_0, e1, bm_bV_some, bn_inT hl (by decide), bm_gd_t, f1, bm_bV_some, bn_clamp (by omega), e2 c i hw]
theorem hm_pailsIn (X : bm_X) {σ : bm_M} {a b : ab_T} (hS : ab_S 46 σ b) (hA : ab_S 48 σ a) (hG : ab_G b) {n : Nat} (hn : n ≤ 1000) (hh : b 0 5 + n ≤ 99999) : ∃ τ, bm_ev X 192 0 [.ref 45, .int (nI n), .null] [] σ = some (.int (nI (ab_sum (ab_hs b n 2) 12)), τ) ∧ ab_S 46 τ a ∧ ab_S 48 τ a ∧ ab_K ab_JM σ τ := by
  obtain ⟨t1, e1, e2, e3⟩ := hm_hours X hS hG hn hh
  obtain ⟨t2, f1, f2, f3, f4⟩ := hm_laysBack X (hA.fr (e3.1 48 (by decide) (by decide)))
  refine ⟨t2, ?_, f2, f3, e3.M.tr (ab_N.M f4)⟩
  rw [bb_192_0, e1, bm_bV_some, hm_pails X e2 (hG.hs n) (k := 0), bm_bI_some, f1, bm_bV_some]
theorem op_ahead (X : bm_X) (p v : Int32) : ab_op X 166 197 [.ref 0, .int p, .int v] [.ref 45, .int p, .int v] := by
  intro T σ hR hT
  obtain ⟨a, ka, kp, tl, h1, h2, h3, h4, h5⟩ := id hR
  obtain ⟨hH, hS, hG, hP, hh⟩ := id h1
  have i1 : ∀ (x : Int32) (σ : bm_M), bm_ev X 24 0 [.int x, .int (nI 100)] [] σ = some (.int (bm_bi (bm_rg x 0 100)), σ) := fun x σ => bs_upN X σ x (by decide)
  cases g1 : bm_rg p 0 11
  · refine ⟨bm_lw 0, bm_tl 0 σ, bm_fo 0 (bm_tl 0 σ), ?_, ?_, hR.tell (by omega) (by decide)⟩
    · rw [bb_166_0, bs_c66, bm_bI_some, bm_cond_bi, g1, cond_false, bs_tell X _ (by decide), bm_bI_some]
    · rw [bb_197_0, bs_m73, bm_bI_some, bm_cond_bi, g1, cond_false, bs_finds X _ (by decide), bm_bI_some]
  cases g2 : bm_rg v 0 100
  · refine ⟨bm_lw 0, bm_tl 0 σ, bm_fo 0 (bm_tl 0 σ), ?_, ?_, hR.tell (by omega) (by decide)⟩
    · rw [bb_166_0, bs_c66, bm_bI_some, bm_cond_bi, g1, cond_true, i1, bm_bI_some, bm_cond_bi, g2, cond_false, bs_tell X _ (by decide), bm_bI_some]
    · rw [bb_197_0, bs_m73, bm_bI_some, bm_cond_bi, g1, cond_true, bs_m89, bm_bI_some, bm_cond_bi, g2, cond_false, bs_finds X _ (by decide), bm_bI_some]
  obtain ⟨t, ht, -, rfl⟩ := bm_rg_ex (n := 11) g1
  obtain ⟨n, hn, -, rfl⟩ := bm_rg_ex (n := 100) g2
  obtain ⟨τ1, e1, e2, e3⟩ := hc_begin X hH
  obtain ⟨τ2, f1, f2, f3⟩ := hc_pass X (Or.inr (Or.inl rfl)) e2 hG (m := n) (by omega) (by omega)
  have kc : ab_K ab_J σ τ2 := (e3.tr f3).J
  have s2 : ab_S 46 τ2 a := hS.fr ((e3.tr f3) 46 (by decide))
  obtain ⟨τ3, l1, l2, l3, l4⟩ := hm_lends X s2
  obtain ⟨τ4, m1, m2, m3, m4⟩ := hm_seen X l3 l2 hG (n := n) (c := 2) (i := t) (by omega) (by omega) (ab_w2 (by omega))
  have m1 : bm_ev X 191 0 [.ref 45, .int (nI (17 + t)), .int (nI n), .null] [] τ3 = some (.int (nI (ab_hs a n 2 t)), τ4) := m1
  refine ⟨nI (ab_hs a n 2 t), τ2, τ4, ?_, ?_, ab_fin0 h1 h2 h3 h4 h5 (by omega) kc ((ab_48.M l4).tr m4) m2⟩
  · have e14 : τ2 14 t = nI (ab_hs a n 2 t) := f2 2 t (ab_w2 (by omega))
    rw [bb_166_0, bs_c66, bm_bI_some, bm_cond_bi, g1, cond_true, i1, bm_bI_some, bm_cond_bi, g2, cond_true, e1, bm_bV_some, f1, bm_bV_some, bn_inT (by omega) (by decide), bm_gd_t, bn_clamp (by omega), e14]
  · rw [bb_197_0, bs_m73, bm_bI_some, bm_cond_bi, g1, cond_true, bs_m89, bm_bI_some, bm_cond_bi, g2, cond_true, l1, bm_bV_some, bn_add, m1, bm_bI_some]
theorem op_where (X : bm_X) (p w v : Int32) : ab_op X 167 198 [.ref 0, .int p, .int w, .int v] [.ref 45, .int p, .int w, .int v] := by
  intro T σ hR hT
  obtain ⟨a, ka, kp, tl, h1, h2, h3, h4, h5⟩ := id hR
  obtain ⟨hH, hS, hG, hP, hh⟩ := id h1
  have e7 : σ 1 7 = nI (a 0 7) := hH 0 7 rfl
  have e7m : σ 46 2 = nI (a 0 7) := hS 0 7 rfl
  have hc := hG.2.2.1
  have i1 : ∀ (x : Int32) (σ : bm_M), bm_ev X 24 0 [.int x, .int (nI 100)] [] σ = some (.int (bm_bi (bm_rg x 0 100)), σ) := fun x σ => bs_upN X σ x (by decide)
  cases g1 : bm_rg p 0 ((a 0 7 : Int) - 1)
  · refine ⟨bm_lw 0, bm_tl 0 σ, bm_fo 0 (bm_tl 0 σ), ?_, ?_, hR.tell (by omega) (by decide)⟩
    · rw [bb_167_0, bs_isCow X e7 hc, bm_bI_some, bm_cond_bi, g1, cond_false, bs_tell X _ (by decide), bm_bI_some]
    · rw [bb_198_0, bs_isCowM X (σ := bm_tl 0 σ) e7m hc, bm_bI_some, bm_cond_bi, g1, cond_false, bs_finds X _ (by decide), bm_bI_some]
  have cl : ∀ x : Nat, (x = 1 ∨ x = 5) → w = nI x → bm_ev X 167 0 [.ref 0, .int p, .int w, .int v] [] σ = bm_ev X 167 10 [.ref 0, .int p, .int w, .int v] [] σ := by
    intro x hx hw
    subst hw
    rw [bb_167_0, bs_isCow X e7 hc, bm_bI_some, bm_cond_bi, g1, cond_true]
    rcases hx with rfl | rfl
    · rw [bn_same, cond_true]
    · rw [bn_ne (by decide) (by decide) (by decide), cond_false, bn_same, cond_true]
  have ml : ∀ (x : Nat) (ρ : bm_M), ρ 46 2 = nI (a 0 7) → (x = 1 ∨ x = 5) → w = nI x → bm_ev X 198 0 [.ref 45, .int p, .int w, .int v] [] ρ = bm_ev X 198 10 [.ref 45, .int p, .int w, .int v] [] ρ := by
    intro x ρ hρ hx hw
    subst hw
    rw [bb_198_0, bs_isCowM X hρ hc, bm_bI_some, bm_cond_bi, g1, cond_true]
    rcases hx with rfl | rfl
    · rw [bn_same, cond_true]
    · rw [bn_ne (by decide) (by decide) (by decide), cond_false, bn_same, cond_true]
  by_cases hx : w = nI 1 ∨ w = nI 5
  · obtain ⟨x, hx, hwx⟩ : ∃ x : Nat, (x = 1 ∨ x = 5) ∧ w = nI x := by
      rcases hx with h | h
      · exact ⟨1, Or.inl rfl, h⟩
      · exact ⟨5, Or.inr rfl, h⟩
    cases g2 : bm_rg v 0 100
    · refine ⟨bm_lw 0, bm_tl 0 σ, bm_fo 0 (bm_tl 0 σ), ?_, ?_, hR.tell (by omega) (by decide)⟩
      · rw [cl x hx hwx, bb_167_10, i1, bm_bI_some, bm_cond_bi, g2, cond_false, bs_tell X _ (by decide), bm_bI_some]
      · rw [ml x (bm_tl 0 σ) e7m hx hwx, bb_198_10, bs_m89, bm_bI_some, bm_cond_bi, g2, cond_false, bs_finds X _ (by decide), bm_bI_some]
    · obtain ⟨k, hk, -, rfl⟩ := bm_rgc_ex g1
      obtain ⟨n, hn, -, rfl⟩ := bm_rg_ex (n := 100) g2
      have hk8 : k < 8 := by omega
      have hx6 : x ≤ 6 := by omega
      obtain ⟨τ1, e1, e2, e3⟩ := hc_begin X hH
      obtain ⟨τ2, f1, f2, f3⟩ := hc_pass X (Or.inr (Or.inl rfl)) e2 hG (m := n) (by omega) (by omega)
      have kc : ab_K ab_J σ τ2 := (e3.tr f3).J
      have s2 : ab_S 46 τ2 a := hS.fr ((e3.tr f3) 46 (by decide))
      obtain ⟨τ3, l1, l2, l3, l4⟩ := hm_lends X s2
      have hwd : ab_wd (4 + x) k = true := ab_w8 (by omega) (by omega) hk8
      have hly : ab_ly (4 + x) k = 29 + 7 * k + x := by
        unfold ab_ly
        split <;> omega
      obtain ⟨τ4, m1, m2, m3, m4⟩ := hm_seen X l3 l2 hG (n := n) (c := 4 + x) (i := k) (by omega) (by omega) hwd
      rw [hly] at m1
      refine ⟨nI (ab_hs a n (4 + x) k), τ2, τ4, ?_, ?_, ab_fin0 h1 h2 h3 h4 h5 (by omega) kc ((ab_48.M l4).tr m4) m2⟩
      · rw [cl x hx hwx, bb_167_10, i1, bm_bI_some, bm_cond_bi, g2, cond_true, e1, bm_bV_some, f1, bm_bV_some, hwx, hc_trait X τ2 (Or.inr (Or.inl rfl)) hx6, bm_bA_some, ab_al8 (Or.inr (Or.inl rfl)) hx6, bn_inT hk8 (by decide), bm_gd_t, bn_clamp (by omega), f2.tr hx6 hk8]
      · have e8 : τ2 46 2 = nI (a 0 7) := s2 0 7 rfl
        rw [ml x τ2 e8 hx hwx, bb_198_10, bs_m89, bm_bI_some, bm_cond_bi, g2, cond_true, l1, bm_bV_some, hwx, bn_mul, bn_add, bn_add, m1, bm_bI_some]
  · have n1 : ¬ w = nI 1 := fun q => hx (Or.inl q)
    have n5 : ¬ w = nI 5 := fun q => hx (Or.inr q)
    refine ⟨bm_lw 0, bm_tl 0 σ, bm_fo 0 (bm_tl 0 σ), ?_, ?_, hR.tell (by omega) (by decide)⟩
    · rw [bb_167_0, bs_isCow X e7 hc, bm_bI_some, bm_cond_bi, g1, cond_true, decide_eq_false n1, cond_false, decide_eq_false n5, cond_false, bs_tell X _ (by decide), bm_bI_some]
    · rw [bb_198_0, bs_isCowM X (σ := bm_tl 0 σ) e7m hc, bm_bI_some, bm_cond_bi, g1, cond_true, decide_eq_false n1, cond_false, decide_eq_false n5, cond_false, bs_finds X _ (by decide), bm_bI_some]
end
