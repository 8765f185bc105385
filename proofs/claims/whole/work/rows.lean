section
-- ===== PART A: goes FIRST, ahead of the names: the tables' words, and 'selects' of the private methods out of them =====
/-- a private method of a class that the tables say can be made, by its rows of tables_1 -/
def lw_okq (q : MethodName × Nat) : Prop := (q.1.cls ≠ "java/lang/invoke/MethodHandle" ∧ q.1.cls ≠ "java/lang/invoke/VarHandle") ∧ Cond.instantiable q.1.cls q.2 ∈ tables_1 ∧ Cond.privateMethod q.1 ∈ tables_1 ∧ Cond.instanceMethod q.1 ∈ tables_1
theorem lw_p0 : lw_okq (⟨"BellMilk", "tell", "(I)I"⟩, 10) := ⟨⟨by decide +kernel, by decide +kernel⟩, List.mem_of_getElem? (i := 13) (by decide +kernel), List.mem_of_getElem? (i := 170) (by decide +kernel), List.mem_of_getElem? (i := 171) (by decide +kernel)⟩
theorem lw_p1 : lw_okq (⟨"BellMilk", "isCow", "(I)Z"⟩, 10) := ⟨⟨by decide +kernel, by decide +kernel⟩, List.mem_of_getElem? (i := 13) (by decide +kernel), List.mem_of_getElem? (i := 213) (by decide +kernel), List.mem_of_getElem? (i := 214) (by decide +kernel)⟩
theorem lw_p2 : lw_okq (⟨"BellMilk$Herd", "othersWith", "(I)I"⟩, 15) := ⟨⟨by decide +kernel, by decide +kernel⟩, List.mem_of_getElem? (i := 21) (by decide +kernel), List.mem_of_getElem? (i := 221) (by decide +kernel), List.mem_of_getElem? (i := 222) (by decide +kernel)⟩
theorem lw_p3 : lw_okq (⟨"BellMilk$Herd", "ringAndEat", "(I)Z"⟩, 15) := ⟨⟨by decide +kernel, by decide +kernel⟩, List.mem_of_getElem? (i := 21) (by decide +kernel), List.mem_of_getElem? (i := 265) (by decide +kernel), List.mem_of_getElem? (i := 266) (by decide +kernel)⟩
theorem lw_p4 : lw_okq (⟨"BellMilk$Herd", "milkAll", "()V"⟩, 15) := ⟨⟨by decide +kernel, by decide +kernel⟩, List.mem_of_getElem? (i := 21) (by decide +kernel), List.mem_of_getElem? (i := 279) (by decide +kernel), List.mem_of_getElem? (i := 280) (by decide +kernel)⟩
theorem lw_p5 : lw_okq (⟨"BellMilk$Herd", "fill", "(II)V"⟩, 15) := ⟨⟨by decide +kernel, by decide +kernel⟩, List.mem_of_getElem? (i := 21) (by decide +kernel), List.mem_of_getElem? (i := 289) (by decide +kernel), List.mem_of_getElem? (i := 290) (by decide +kernel)⟩
theorem lw_p6 : lw_okq (⟨"BellMilk", "beginTrial", "()V"⟩, 10) := ⟨⟨by decide +kernel, by decide +kernel⟩, List.mem_of_getElem? (i := 13) (by decide +kernel), List.mem_of_getElem? (i := 325) (by decide +kernel), List.mem_of_getElem? (i := 326) (by decide +kernel)⟩
theorem lw_p7 : lw_okq (⟨"BellMilk", "traitForMostMilk", "(III)I"⟩, 10) := ⟨⟨by decide +kernel, by decide +kernel⟩, List.mem_of_getElem? (i := 13) (by decide +kernel), List.mem_of_getElem? (i := 361) (by decide +kernel), List.mem_of_getElem? (i := 362) (by decide +kernel)⟩
theorem lw_p8 : lw_okq (⟨"BellMilk", "allStay", "(II)Z"⟩, 10) := ⟨⟨by decide +kernel, by decide +kernel⟩, List.mem_of_getElem? (i := 13) (by decide +kernel), List.mem_of_getElem? (i := 381) (by decide +kernel), List.mem_of_getElem? (i := 382) (by decide +kernel)⟩
theorem lw_p9 : lw_okq (⟨"BellMilk", "milkUnder", "(II)I"⟩, 10) := ⟨⟨by decide +kernel, by decide +kernel⟩, List.mem_of_getElem? (i := 13) (by decide +kernel), List.mem_of_getElem? (i := 389) (by decide +kernel), List.mem_of_getElem? (i := 390) (by decide +kernel)⟩
theorem lw_p10 : lw_okq (⟨"BellMilk", "gainedWithout", "(III)I"⟩, 10) := ⟨⟨by decide +kernel, by decide +kernel⟩, List.mem_of_getElem? (i := 13) (by decide +kernel), List.mem_of_getElem? (i := 402) (by decide +kernel), List.mem_of_getElem? (i := 403) (by decide +kernel)⟩
theorem lw_p11 : lw_okq (⟨"BellMilk", "fewestSaving", "(I)I"⟩, 10) := ⟨⟨by decide +kernel, by decide +kernel⟩, List.mem_of_getElem? (i := 13) (by decide +kernel), List.mem_of_getElem? (i := 406) (by decide +kernel), List.mem_of_getElem? (i := 407) (by decide +kernel)⟩
theorem lw_p12 : lw_okq (⟨"BellMilk", "savedBy", "(I)I"⟩, 10) := ⟨⟨by decide +kernel, by decide +kernel⟩, List.mem_of_getElem? (i := 13) (by decide +kernel), List.mem_of_getElem? (i := 416) (by decide +kernel), List.mem_of_getElem? (i := 417) (by decide +kernel)⟩
theorem lw_p13 : lw_okq (⟨"BellMilk", "trialGoesAsTold", "(I[III)Z"⟩, 10) := ⟨⟨by decide +kernel, by decide +kernel⟩, List.mem_of_getElem? (i := 13) (by decide +kernel), List.mem_of_getElem? (i := 427) (by decide +kernel), List.mem_of_getElem? (i := 428) (by decide +kernel)⟩
theorem lw_p14 : lw_okq (⟨"BellMilk$Tape", "next", "()V"⟩, 7) := ⟨⟨by decide +kernel, by decide +kernel⟩, List.mem_of_getElem? (i := 96) (by decide +kernel), List.mem_of_getElem? (i := 476) (by decide +kernel), List.mem_of_getElem? (i := 477) (by decide +kernel)⟩
theorem lw_p15 : lw_okq (⟨"BellMilk$Tape", "readItem", "(LBellMilk$Herd;)Z"⟩, 7) := ⟨⟨by decide +kernel, by decide +kernel⟩, List.mem_of_getElem? (i := 96) (by decide +kernel), List.mem_of_getElem? (i := 487) (by decide +kernel), List.mem_of_getElem? (i := 488) (by decide +kernel)⟩
def lw_privs_1 : List (MethodName × Nat) := [(⟨"BellMilk", "tell", "(I)I"⟩, 10), (⟨"BellMilk", "isCow", "(I)Z"⟩, 10), (⟨"BellMilk$Herd", "othersWith", "(I)I"⟩, 15), (⟨"BellMilk$Herd", "ringAndEat", "(I)Z"⟩, 15), (⟨"BellMilk$Herd", "milkAll", "()V"⟩, 15), (⟨"BellMilk$Herd", "fill", "(II)V"⟩, 15), (⟨"BellMilk", "beginTrial", "()V"⟩, 10), (⟨"BellMilk", "traitForMostMilk", "(III)I"⟩, 10), (⟨"BellMilk", "allStay", "(II)Z"⟩, 10), (⟨"BellMilk", "milkUnder", "(II)I"⟩, 10), (⟨"BellMilk", "gainedWithout", "(III)I"⟩, 10), (⟨"BellMilk", "fewestSaving", "(I)I"⟩, 10), (⟨"BellMilk", "savedBy", "(I)I"⟩, 10), (⟨"BellMilk", "trialGoesAsTold", "(I[III)Z"⟩, 10), (⟨"BellMilk$Tape", "next", "()V"⟩, 7), (⟨"BellMilk$Tape", "readItem", "(LBellMilk$Herd;)Z"⟩, 7)]
theorem lw_r1 : ∀ q ∈ lw_privs_1, lw_okq q := List.forall_mem_cons.mpr ⟨lw_p0, List.forall_mem_cons.mpr ⟨lw_p1, List.forall_mem_cons.mpr ⟨lw_p2, List.forall_mem_cons.mpr ⟨lw_p3, List.forall_mem_cons.mpr ⟨lw_p4, List.forall_mem_cons.mpr ⟨lw_p5, List.forall_mem_cons.mpr ⟨lw_p6, List.forall_mem_cons.mpr ⟨lw_p7, List.forall_mem_cons.mpr ⟨lw_p8, List.forall_mem_cons.mpr ⟨lw_p9, List.forall_mem_cons.mpr ⟨lw_p10, List.forall_mem_cons.mpr ⟨lw_p11, List.forall_mem_cons.mpr ⟨lw_p12, List.forall_mem_cons.mpr ⟨lw_p13, List.forall_mem_cons.mpr ⟨lw_p14, List.forall_mem_cons.mpr ⟨lw_p15, fun _ h => absurd h List.not_mem_nil⟩⟩⟩⟩⟩⟩⟩⟩⟩⟩⟩⟩⟩⟩⟩⟩
theorem lw_p16 : lw_okq (⟨"BellMilk$Tape", "kindOfWord", "()I"⟩, 7) := ⟨⟨by decide +kernel, by decide +kernel⟩, List.mem_of_getElem? (i := 96) (by decide +kernel), List.mem_of_getElem? (i := 491) (by decide +kernel), List.mem_of_getElem? (i := 492) (by decide +kernel)⟩
theorem lw_p17 : lw_okq (⟨"BellMilk$Tape", "isWord", "(Ljava/lang/String;)Z"⟩, 7) := ⟨⟨by decide +kernel, by decide +kernel⟩, List.mem_of_getElem? (i := 96) (by decide +kernel), List.mem_of_getElem? (i := 496) (by decide +kernel), List.mem_of_getElem? (i := 497) (by decide +kernel)⟩
theorem lw_p18 : lw_okq (⟨"BellMilk$Tape", "readCow", "(LBellMilk$Herd;I)Z"⟩, 7) := ⟨⟨by decide +kernel, by decide +kernel⟩, List.mem_of_getElem? (i := 96) (by decide +kernel), List.mem_of_getElem? (i := 554) (by decide +kernel), List.mem_of_getElem? (i := 555) (by decide +kernel)⟩
theorem lw_p19 : lw_okq (⟨"BellMilk$Tape", "readTrait", "(Ljava/lang/String;[III)Z"⟩, 7) := ⟨⟨by decide +kernel, by decide +kernel⟩, List.mem_of_getElem? (i := 96) (by decide +kernel), List.mem_of_getElem? (i := 560) (by decide +kernel), List.mem_of_getElem? (i := 561) (by decide +kernel)⟩
theorem lw_p20 : lw_okq (⟨"BellMilk$Tape", "nextIsNumber", "(I)Z"⟩, 7) := ⟨⟨by decide +kernel, by decide +kernel⟩, List.mem_of_getElem? (i := 96) (by decide +kernel), List.mem_of_getElem? (i := 564) (by decide +kernel), List.mem_of_getElem? (i := 565) (by decide +kernel)⟩
theorem lw_p21 : lw_okq (⟨"BellMilk$Tape", "readGrass", "(LBellMilk$Herd;)Z"⟩, 7) := ⟨⟨by decide +kernel, by decide +kernel⟩, List.mem_of_getElem? (i := 96) (by decide +kernel), List.mem_of_getElem? (i := 572) (by decide +kernel), List.mem_of_getElem? (i := 573) (by decide +kernel)⟩
theorem lw_p22 : lw_okq (⟨"BellMilk$Tape", "readGrows", "(LBellMilk$Herd;)Z"⟩, 7) := ⟨⟨by decide +kernel, by decide +kernel⟩, List.mem_of_getElem? (i := 96) (by decide +kernel), List.mem_of_getElem? (i := 577) (by decide +kernel), List.mem_of_getElem? (i := 578) (by decide +kernel)⟩
theorem lw_p23 : lw_okq (⟨"BellMilk$Tape", "readThunder", "(LBellMilk$Herd;)Z"⟩, 7) := ⟨⟨by decide +kernel, by decide +kernel⟩, List.mem_of_getElem? (i := 96) (by decide +kernel), List.mem_of_getElem? (i := 582) (by decide +kernel), List.mem_of_getElem? (i := 583) (by decide +kernel)⟩
theorem lw_p24 : lw_okq (⟨"BellMilk", "hasNumbers", "(III)Z"⟩, 10) := ⟨⟨by decide +kernel, by decide +kernel⟩, List.mem_of_getElem? (i := 13) (by decide +kernel), List.mem_of_getElem? (i := 615) (by decide +kernel), List.mem_of_getElem? (i := 616) (by decide +kernel)⟩
theorem lw_p25 : lw_okq (⟨"BellMilkModel", "becomes", "(II)I"⟩, 17) := ⟨⟨by decide +kernel, by decide +kernel⟩, List.mem_of_getElem? (i := 652) (by decide +kernel), List.mem_of_getElem? (i := 725) (by decide +kernel), List.mem_of_getElem? (i := 726) (by decide +kernel)⟩
theorem lw_p26 : lw_okq (⟨"BellMilkModel", "finds", "(I)I"⟩, 17) := ⟨⟨by decide +kernel, by decide +kernel⟩, List.mem_of_getElem? (i := 652) (by decide +kernel), List.mem_of_getElem? (i := 729) (by decide +kernel), List.mem_of_getElem? (i := 730) (by decide +kernel)⟩
theorem lw_p27 : lw_okq (⟨"BellMilkModel", "cowsOn", "(I)I"⟩, 17) := ⟨⟨by decide +kernel, by decide +kernel⟩, List.mem_of_getElem? (i := 652) (by decide +kernel), List.mem_of_getElem? (i := 738) (by decide +kernel), List.mem_of_getElem? (i := 739) (by decide +kernel)⟩
theorem lw_p28 : lw_okq (⟨"BellMilkModel", "its", "(II)I"⟩, 17) := ⟨⟨by decide +kernel, by decide +kernel⟩, List.mem_of_getElem? (i := 652) (by decide +kernel), List.mem_of_getElem? (i := 742) (by decide +kernel), List.mem_of_getElem? (i := 743) (by decide +kernel)⟩
theorem lw_p29 : lw_okq (⟨"BellMilkModel", "adds", "(II)I"⟩, 17) := ⟨⟨by decide +kernel, by decide +kernel⟩, List.mem_of_getElem? (i := 652) (by decide +kernel), List.mem_of_getElem? (i := 767) (by decide +kernel), List.mem_of_getElem? (i := 768) (by decide +kernel)⟩
theorem lw_p30 : lw_okq (⟨"BellMilkModel", "sets", "(III)V"⟩, 17) := ⟨⟨by decide +kernel, by decide +kernel⟩, List.mem_of_getElem? (i := 652) (by decide +kernel), List.mem_of_getElem? (i := 771) (by decide +kernel), List.mem_of_getElem? (i := 772) (by decide +kernel)⟩
theorem lw_p31 : lw_okq (⟨"BellMilkModel", "isCow", "(I)Z"⟩, 17) := ⟨⟨by decide +kernel, by decide +kernel⟩, List.mem_of_getElem? (i := 652) (by decide +kernel), List.mem_of_getElem? (i := 779) (by decide +kernel), List.mem_of_getElem? (i := 780) (by decide +kernel)⟩
def lw_privs_2 : List (MethodName × Nat) := [(⟨"BellMilk$Tape", "kindOfWord", "()I"⟩, 7), (⟨"BellMilk$Tape", "isWord", "(Ljava/lang/String;)Z"⟩, 7), (⟨"BellMilk$Tape", "readCow", "(LBellMilk$Herd;I)Z"⟩, 7), (⟨"BellMilk$Tape", "readTrait", "(Ljava/lang/String;[III)Z"⟩, 7), (⟨"BellMilk$Tape", "nextIsNumber", "(I)Z"⟩, 7), (⟨"BellMilk$Tape", "readGrass", "(LBellMilk$Herd;)Z"⟩, 7), (⟨"BellMilk$Tape", "readGrows", "(LBellMilk$Herd;)Z"⟩, 7), (⟨"BellMilk$Tape", "readThunder", "(LBellMilk$Herd;)Z"⟩, 7), (⟨"BellMilk", "hasNumbers", "(III)Z"⟩, 10), (⟨"BellMilkModel", "becomes", "(II)I"⟩, 17), (⟨"BellMilkModel", "finds", "(I)I"⟩, 17), (⟨"BellMilkModel", "cowsOn", "(I)I"⟩, 17), (⟨"BellMilkModel", "its", "(II)I"⟩, 17), (⟨"BellMilkModel", "adds", "(II)I"⟩, 17), (⟨"BellMilkModel", "sets", "(III)V"⟩, 17), (⟨"BellMilkModel", "isCow", "(I)Z"⟩, 17)]
theorem lw_r2 : ∀ q ∈ lw_privs_2, lw_okq q := List.forall_mem_cons.mpr ⟨lw_p16, List.forall_mem_cons.mpr ⟨lw_p17, List.forall_mem_cons.mpr ⟨lw_p18, List.forall_mem_cons.mpr ⟨lw_p19, List.forall_mem_cons.mpr ⟨lw_p20, List.forall_mem_cons.mpr ⟨lw_p21, List.forall_mem_cons.mpr ⟨lw_p22, List.forall_mem_cons.mpr ⟨lw_p23, List.forall_mem_cons.mpr ⟨lw_p24, List.forall_mem_cons.mpr ⟨lw_p25, List.forall_mem_cons.mpr ⟨lw_p26, List.forall_mem_cons.mpr ⟨lw_p27, List.forall_mem_cons.mpr ⟨lw_p28, List.forall_mem_cons.mpr ⟨lw_p29, List.forall_mem_cons.mpr ⟨lw_p30, List.forall_mem_cons.mpr ⟨lw_p31, fun _ h => absurd h List.not_mem_nil⟩⟩⟩⟩⟩⟩⟩⟩⟩⟩⟩⟩⟩⟩⟩⟩
theorem lw_p32 : lw_okq (⟨"BellMilkModel", "rings", "(I)I"⟩, 17) := ⟨⟨by decide +kernel, by decide +kernel⟩, List.mem_of_getElem? (i := 652) (by decide +kernel), List.mem_of_getElem? (i := 784) (by decide +kernel), List.mem_of_getElem? (i := 785) (by decide +kernel)⟩
theorem lw_p33 : lw_okq (⟨"BellMilkModel", "others", "(I)I"⟩, 17) := ⟨⟨by decide +kernel, by decide +kernel⟩, List.mem_of_getElem? (i := 652) (by decide +kernel), List.mem_of_getElem? (i := 788) (by decide +kernel), List.mem_of_getElem? (i := 789) (by decide +kernel)⟩
theorem lw_p34 : lw_okq (⟨"BellMilkModel", "eats", "(I)I"⟩, 17) := ⟨⟨by decide +kernel, by decide +kernel⟩, List.mem_of_getElem? (i := 652) (by decide +kernel), List.mem_of_getElem? (i := 793) (by decide +kernel), List.mem_of_getElem? (i := 794) (by decide +kernel)⟩
theorem lw_p35 : lw_okq (⟨"BellMilkModel", "gives", "(I)I"⟩, 17) := ⟨⟨by decide +kernel, by decide +kernel⟩, List.mem_of_getElem? (i := 652) (by decide +kernel), List.mem_of_getElem? (i := 797) (by decide +kernel), List.mem_of_getElem? (i := 798) (by decide +kernel)⟩
theorem lw_p36 : lw_okq (⟨"BellMilkModel", "besideOf", "(I)I"⟩, 17) := ⟨⟨by decide +kernel, by decide +kernel⟩, List.mem_of_getElem? (i := 652) (by decide +kernel), List.mem_of_getElem? (i := 801) (by decide +kernel), List.mem_of_getElem? (i := 802) (by decide +kernel)⟩
theorem lw_p37 : lw_okq (⟨"BellMilkModel", "hours", "(I)V"⟩, 17) := ⟨⟨by decide +kernel, by decide +kernel⟩, List.mem_of_getElem? (i := 652) (by decide +kernel), List.mem_of_getElem? (i := 821) (by decide +kernel), List.mem_of_getElem? (i := 822) (by decide +kernel)⟩
theorem lw_p38 : lw_okq (⟨"BellMilkModel", "anHour", "()V"⟩, 17) := ⟨⟨by decide +kernel, by decide +kernel⟩, List.mem_of_getElem? (i := 652) (by decide +kernel), List.mem_of_getElem? (i := 825) (by decide +kernel), List.mem_of_getElem? (i := 826) (by decide +kernel)⟩
theorem lw_p39 : lw_okq (⟨"BellMilkModel", "spends", "(I)V"⟩, 17) := ⟨⟨by decide +kernel, by decide +kernel⟩, List.mem_of_getElem? (i := 652) (by decide +kernel), List.mem_of_getElem? (i := 829) (by decide +kernel), List.mem_of_getElem? (i := 830) (by decide +kernel)⟩
theorem lw_p40 : lw_okq (⟨"BellMilkModel", "goesOn", "(I)V"⟩, 17) := ⟨⟨by decide +kernel, by decide +kernel⟩, List.mem_of_getElem? (i := 652) (by decide +kernel), List.mem_of_getElem? (i := 834) (by decide +kernel), List.mem_of_getElem? (i := 835) (by decide +kernel)⟩
theorem lw_p41 : lw_okq (⟨"BellMilkModel", "isMilked", "(I)V"⟩, 17) := ⟨⟨by decide +kernel, by decide +kernel⟩, List.mem_of_getElem? (i := 652) (by decide +kernel), List.mem_of_getElem? (i := 838) (by decide +kernel), List.mem_of_getElem? (i := 839) (by decide +kernel)⟩
theorem lw_p42 : lw_okq (⟨"BellMilkModel", "fills", "(II)V"⟩, 17) := ⟨⟨by decide +kernel, by decide +kernel⟩, List.mem_of_getElem? (i := 652) (by decide +kernel), List.mem_of_getElem? (i := 842) (by decide +kernel), List.mem_of_getElem? (i := 843) (by decide +kernel)⟩
theorem lw_p43 : lw_okq (⟨"BellMilkModel", "pails", "()I"⟩, 17) := ⟨⟨by decide +kernel, by decide +kernel⟩, List.mem_of_getElem? (i := 652) (by decide +kernel), List.mem_of_getElem? (i := 846) (by decide +kernel), List.mem_of_getElem? (i := 847) (by decide +kernel)⟩
theorem lw_p44 : lw_okq (⟨"BellMilkModel", "rungs", "()I"⟩, 17) := ⟨⟨by decide +kernel, by decide +kernel⟩, List.mem_of_getElem? (i := 652) (by decide +kernel), List.mem_of_getElem? (i := 854) (by decide +kernel), List.mem_of_getElem? (i := 855) (by decide +kernel)⟩
theorem lw_p45 : lw_okq (⟨"BellMilkModel", "muffledSet", "()I"⟩, 17) := ⟨⟨by decide +kernel, by decide +kernel⟩, List.mem_of_getElem? (i := 652) (by decide +kernel), List.mem_of_getElem? (i := 858) (by decide +kernel), List.mem_of_getElem? (i := 859) (by decide +kernel)⟩
theorem lw_p46 : lw_okq (⟨"BellMilkModel", "green", "()I"⟩, 17) := ⟨⟨by decide +kernel, by decide +kernel⟩, List.mem_of_getElem? (i := 652) (by decide +kernel), List.mem_of_getElem? (i := 862) (by decide +kernel), List.mem_of_getElem? (i := 863) (by decide +kernel)⟩
theorem lw_p47 : lw_okq (⟨"BellMilkModel", "grazed", "()I"⟩, 17) := ⟨⟨by decide +kernel, by decide +kernel⟩, List.mem_of_getElem? (i := 652) (by decide +kernel), List.mem_of_getElem? (i := 866) (by decide +kernel), List.mem_of_getElem? (i := 867) (by decide +kernel)⟩
def lw_privs_3 : List (MethodName × Nat) := [(⟨"BellMilkModel", "rings", "(I)I"⟩, 17), (⟨"BellMilkModel", "others", "(I)I"⟩, 17), (⟨"BellMilkModel", "eats", "(I)I"⟩, 17), (⟨"BellMilkModel", "gives", "(I)I"⟩, 17), (⟨"BellMilkModel", "besideOf", "(I)I"⟩, 17), (⟨"BellMilkModel", "hours", "(I)V"⟩, 17), (⟨"BellMilkModel", "anHour", "()V"⟩, 17), (⟨"BellMilkModel", "spends", "(I)V"⟩, 17), (⟨"BellMilkModel", "goesOn", "(I)V"⟩, 17), (⟨"BellMilkModel", "isMilked", "(I)V"⟩, 17), (⟨"BellMilkModel", "fills", "(II)V"⟩, 17), (⟨"BellMilkModel", "pails", "()I"⟩, 17), (⟨"BellMilkModel", "rungs", "()I"⟩, 17), (⟨"BellMilkModel", "muffledSet", "()I"⟩, 17), (⟨"BellMilkModel", "green", "()I"⟩, 17), (⟨"BellMilkModel", "grazed", "()I"⟩, 17)]
theorem lw_r3 : ∀ q ∈ lw_privs_3, lw_okq q := List.forall_mem_cons.mpr ⟨lw_p32, List.forall_mem_cons.mpr ⟨lw_p33, List.forall_mem_cons.mpr ⟨lw_p34, List.forall_mem_cons.mpr ⟨lw_p35, List.forall_mem_cons.mpr ⟨lw_p36, List.forall_mem_cons.mpr ⟨lw_p37, List.forall_mem_cons.mpr ⟨lw_p38, List.forall_mem_cons.mpr ⟨lw_p39, List.forall_mem_cons.mpr ⟨lw_p40, List.forall_mem_cons.mpr ⟨lw_p41, List.forall_mem_cons.mpr ⟨lw_p42, List.forall_mem_cons.mpr ⟨lw_p43, List.forall_mem_cons.mpr ⟨lw_p44, List.forall_mem_cons.mpr ⟨lw_p45, List.forall_mem_cons.mpr ⟨lw_p46, List.forall_mem_cons.mpr ⟨lw_p47, fun _ h => absurd h List.not_mem_nil⟩⟩⟩⟩⟩⟩⟩⟩⟩⟩⟩⟩⟩⟩⟩⟩
theorem lw_p48 : lw_okq (⟨"BellMilkModel", "filled", "()I"⟩, 17) := ⟨⟨by decide +kernel, by decide +kernel⟩, List.mem_of_getElem? (i := 652) (by decide +kernel), List.mem_of_getElem? (i := 870) (by decide +kernel), List.mem_of_getElem? (i := 871) (by decide +kernel)⟩
theorem lw_p49 : lw_okq (⟨"BellMilkModel", "lends", "()V"⟩, 17) := ⟨⟨by decide +kernel, by decide +kernel⟩, List.mem_of_getElem? (i := 652) (by decide +kernel), List.mem_of_getElem? (i := 882) (by decide +kernel), List.mem_of_getElem? (i := 883) (by decide +kernel)⟩
theorem lw_p50 : lw_okq (⟨"BellMilkModel", "seenIn", "(II)I"⟩, 17) := ⟨⟨by decide +kernel, by decide +kernel⟩, List.mem_of_getElem? (i := 652) (by decide +kernel), List.mem_of_getElem? (i := 889) (by decide +kernel), List.mem_of_getElem? (i := 890) (by decide +kernel)⟩
theorem lw_p51 : lw_okq (⟨"BellMilkModel", "laysBack", "()V"⟩, 17) := ⟨⟨by decide +kernel, by decide +kernel⟩, List.mem_of_getElem? (i := 652) (by decide +kernel), List.mem_of_getElem? (i := 893) (by decide +kernel), List.mem_of_getElem? (i := 894) (by decide +kernel)⟩
theorem lw_p52 : lw_okq (⟨"BellMilkModel", "orNone", "(II)I"⟩, 17) := ⟨⟨by decide +kernel, by decide +kernel⟩, List.mem_of_getElem? (i := 652) (by decide +kernel), List.mem_of_getElem? (i := 906) (by decide +kernel), List.mem_of_getElem? (i := 907) (by decide +kernel)⟩
theorem lw_p53 : lw_okq (⟨"BellMilkModel", "isBare", "()Z"⟩, 17) := ⟨⟨by decide +kernel, by decide +kernel⟩, List.mem_of_getElem? (i := 652) (by decide +kernel), List.mem_of_getElem? (i := 918) (by decide +kernel), List.mem_of_getElem? (i := 919) (by decide +kernel)⟩
theorem lw_p54 : lw_okq (⟨"BellMilkModel", "begins", "()V"⟩, 17) := ⟨⟨by decide +kernel, by decide +kernel⟩, List.mem_of_getElem? (i := 652) (by decide +kernel), List.mem_of_getElem? (i := 930) (by decide +kernel), List.mem_of_getElem? (i := 931) (by decide +kernel)⟩
theorem lw_p55 : lw_okq (⟨"BellMilkModel", "pailsIn", "(I)I"⟩, 17) := ⟨⟨by decide +kernel, by decide +kernel⟩, List.mem_of_getElem? (i := 652) (by decide +kernel), List.mem_of_getElem? (i := 934) (by decide +kernel), List.mem_of_getElem? (i := 935) (by decide +kernel)⟩
theorem lw_p56 : lw_okq (⟨"BellMilkModel", "tries", "(II)V"⟩, 17) := ⟨⟨by decide +kernel, by decide +kernel⟩, List.mem_of_getElem? (i := 652) (by decide +kernel), List.mem_of_getElem? (i := 938) (by decide +kernel), List.mem_of_getElem? (i := 939) (by decide +kernel)⟩
theorem lw_p57 : lw_okq (⟨"BellMilkModel", "allStay", "(I)Z"⟩, 17) := ⟨⟨by decide +kernel, by decide +kernel⟩, List.mem_of_getElem? (i := 652) (by decide +kernel), List.mem_of_getElem? (i := 958) (by decide +kernel), List.mem_of_getElem? (i := 959) (by decide +kernel)⟩
theorem lw_p58 : lw_okq (⟨"BellMilkModel", "lacks", "(I)I"⟩, 17) := ⟨⟨by decide +kernel, by decide +kernel⟩, List.mem_of_getElem? (i := 652) (by decide +kernel), List.mem_of_getElem? (i := 982) (by decide +kernel), List.mem_of_getElem? (i := 983) (by decide +kernel)⟩
theorem lw_p59 : lw_okq (⟨"BellMilkModel", "isSo", "(III)Z"⟩, 17) := ⟨⟨by decide +kernel, by decide +kernel⟩, List.mem_of_getElem? (i := 652) (by decide +kernel), List.mem_of_getElem? (i := 990) (by decide +kernel), List.mem_of_getElem? (i := 991) (by decide +kernel)⟩
theorem lw_p60 : lw_okq (⟨"BellMilkModel", "draw", "()I"⟩, 17) := ⟨⟨by decide +kernel, by decide +kernel⟩, List.mem_of_getElem? (i := 652) (by decide +kernel), List.mem_of_getElem? (i := 1002) (by decide +kernel), List.mem_of_getElem? (i := 1003) (by decide +kernel)⟩
theorem lw_p61 : lw_okq (⟨"BellMilkModel", "next", "()V"⟩, 17) := ⟨⟨by decide +kernel, by decide +kernel⟩, List.mem_of_getElem? (i := 652) (by decide +kernel), List.mem_of_getElem? (i := 1029) (by decide +kernel), List.mem_of_getElem? (i := 1030) (by decide +kernel)⟩
theorem lw_p62 : lw_okq (⟨"BellMilkModel", "isByte", "(III)Z"⟩, 17) := ⟨⟨by decide +kernel, by decide +kernel⟩, List.mem_of_getElem? (i := 652) (by decide +kernel), List.mem_of_getElem? (i := 1033) (by decide +kernel), List.mem_of_getElem? (i := 1034) (by decide +kernel)⟩
theorem lw_p63 : lw_okq (⟨"BellMilkModel", "item", "()V"⟩, 17) := ⟨⟨by decide +kernel, by decide +kernel⟩, List.mem_of_getElem? (i := 652) (by decide +kernel), List.mem_of_getElem? (i := 1037) (by decide +kernel), List.mem_of_getElem? (i := 1038) (by decide +kernel)⟩
def lw_privs_4 : List (MethodName × Nat) := [(⟨"BellMilkModel", "filled", "()I"⟩, 17), (⟨"BellMilkModel", "lends", "()V"⟩, 17), (⟨"BellMilkModel", "seenIn", "(II)I"⟩, 17), (⟨"BellMilkModel", "laysBack", "()V"⟩, 17), (⟨"BellMilkModel", "orNone", "(II)I"⟩, 17), (⟨"BellMilkModel", "isBare", "()Z"⟩, 17), (⟨"BellMilkModel", "begins", "()V"⟩, 17), (⟨"BellMilkModel", "pailsIn", "(I)I"⟩, 17), (⟨"BellMilkModel", "tries", "(II)V"⟩, 17), (⟨"BellMilkModel", "allStay", "(I)Z"⟩, 17), (⟨"BellMilkModel", "lacks", "(I)I"⟩, 17), (⟨"BellMilkModel", "isSo", "(III)Z"⟩, 17), (⟨"BellMilkModel", "draw", "()I"⟩, 17), (⟨"BellMilkModel", "next", "()V"⟩, 17), (⟨"BellMilkModel", "isByte", "(III)Z"⟩, 17), (⟨"BellMilkModel", "item", "()V"⟩, 17)]
theorem lw_r4 : ∀ q ∈ lw_privs_4, lw_okq q := List.forall_mem_cons.mpr ⟨lw_p48, List.forall_mem_cons.mpr ⟨lw_p49, List.forall_mem_cons.mpr ⟨lw_p50, List.forall_mem_cons.mpr ⟨lw_p51, List.forall_mem_cons.mpr ⟨lw_p52, List.forall_mem_cons.mpr ⟨lw_p53, List.forall_mem_cons.mpr ⟨lw_p54, List.forall_mem_cons.mpr ⟨lw_p55, List.forall_mem_cons.mpr ⟨lw_p56, List.forall_mem_cons.mpr ⟨lw_p57, List.forall_mem_cons.mpr ⟨lw_p58, List.forall_mem_cons.mpr ⟨lw_p59, List.forall_mem_cons.mpr ⟨lw_p60, List.forall_mem_cons.mpr ⟨lw_p61, List.forall_mem_cons.mpr ⟨lw_p62, List.forall_mem_cons.mpr ⟨lw_p63, fun _ h => absurd h List.not_mem_nil⟩⟩⟩⟩⟩⟩⟩⟩⟩⟩⟩⟩⟩⟩⟩⟩
theorem lw_p64 : lw_okq (⟨"BellMilkModel", "kindHere", "()I"⟩, 17) := ⟨⟨by decide +kernel, by decide +kernel⟩, List.mem_of_getElem? (i := 652) (by decide +kernel), List.mem_of_getElem? (i := 1041) (by decide +kernel), List.mem_of_getElem? (i := 1042) (by decide +kernel)⟩
theorem lw_p65 : lw_okq (⟨"BellMilkModel", "isWord", "(Ljava/lang/String;)Z"⟩, 17) := ⟨⟨by decide +kernel, by decide +kernel⟩, List.mem_of_getElem? (i := 652) (by decide +kernel), List.mem_of_getElem? (i := 1046) (by decide +kernel), List.mem_of_getElem? (i := 1047) (by decide +kernel)⟩
theorem lw_p66 : lw_okq (⟨"BellMilkModel", "cowTold", "(I)V"⟩, 17) := ⟨⟨by decide +kernel, by decide +kernel⟩, List.mem_of_getElem? (i := 652) (by decide +kernel), List.mem_of_getElem? (i := 1058) (by decide +kernel), List.mem_of_getElem? (i := 1059) (by decide +kernel)⟩
theorem lw_p67 : lw_okq (⟨"BellMilkModel", "must", "(Z)V"⟩, 17) := ⟨⟨by decide +kernel, by decide +kernel⟩, List.mem_of_getElem? (i := 652) (by decide +kernel), List.mem_of_getElem? (i := 1062) (by decide +kernel), List.mem_of_getElem? (i := 1063) (by decide +kernel)⟩
theorem lw_p68 : lw_okq (⟨"BellMilkModel", "takes", "(Ljava/lang/String;)Z"⟩, 17) := ⟨⟨by decide +kernel, by decide +kernel⟩, List.mem_of_getElem? (i := 652) (by decide +kernel), List.mem_of_getElem? (i := 1067) (by decide +kernel), List.mem_of_getElem? (i := 1068) (by decide +kernel)⟩
theorem lw_p69 : lw_okq (⟨"BellMilkModel", "numberRead", "(II)I"⟩, 17) := ⟨⟨by decide +kernel, by decide +kernel⟩, List.mem_of_getElem? (i := 652) (by decide +kernel), List.mem_of_getElem? (i := 1071) (by decide +kernel), List.mem_of_getElem? (i := 1072) (by decide +kernel)⟩
theorem lw_p70 : lw_okq (⟨"BellMilkModel", "held", "()I"⟩, 17) := ⟨⟨by decide +kernel, by decide +kernel⟩, List.mem_of_getElem? (i := 652) (by decide +kernel), List.mem_of_getElem? (i := 1135) (by decide +kernel), List.mem_of_getElem? (i := 1136) (by decide +kernel)⟩
def lw_privs_5 : List (MethodName × Nat) := [(⟨"BellMilkModel", "kindHere", "()I"⟩, 17), (⟨"BellMilkModel", "isWord", "(Ljava/lang/String;)Z"⟩, 17), (⟨"BellMilkModel", "cowTold", "(I)V"⟩, 17), (⟨"BellMilkModel", "must", "(Z)V"⟩, 17), (⟨"BellMilkModel", "takes", "(Ljava/lang/String;)Z"⟩, 17), (⟨"BellMilkModel", "numberRead", "(II)I"⟩, 17), (⟨"BellMilkModel", "held", "()I"⟩, 17)]
theorem lw_r5 : ∀ q ∈ lw_privs_5, lw_okq q := List.forall_mem_cons.mpr ⟨lw_p64, List.forall_mem_cons.mpr ⟨lw_p65, List.forall_mem_cons.mpr ⟨lw_p66, List.forall_mem_cons.mpr ⟨lw_p67, List.forall_mem_cons.mpr ⟨lw_p68, List.forall_mem_cons.mpr ⟨lw_p69, List.forall_mem_cons.mpr ⟨lw_p70, fun _ h => absurd h List.not_mem_nil⟩⟩⟩⟩⟩⟩⟩
def lw_privs : List (MethodName × Nat) := lw_privs_1 ++ (lw_privs_2 ++ (lw_privs_3 ++ (lw_privs_4 ++ (lw_privs_5))))
def lw_tbl : List Cond := k2_sels lw_privs ++ tables_1
theorem lw_privs_ok : ∀ q ∈ lw_privs, lw_okq q := by
  show ∀ q ∈ lw_privs_1 ++ (lw_privs_2 ++ (lw_privs_3 ++ (lw_privs_4 ++ (lw_privs_5)))), lw_okq q
  exact List.forall_mem_append.mpr ⟨lw_r1, List.forall_mem_append.mpr ⟨lw_r2, List.forall_mem_append.mpr ⟨lw_r3, List.forall_mem_append.mpr ⟨lw_r4, lw_r5⟩⟩⟩⟩
end
section
/-! THE LITTLE MACHINE: the bytecode of the system over one memory of numbered places. A place is a cell of the world (0 to 54), or of what is only read. -/
abbrev bm_M : Type := Nat → Nat → Int32
abbrev bm_R : Type := Option (Value × bm_M)
abbrev bm_A : Type := (Nat × List Value × List Value × bm_M) ⊕ ((Nat × Nat × List Value × Nat × List Value × List Value × bm_M) ⊕ (Value × bm_M))
def bm_up (σ : bm_M) (k i : Nat) (v : Int32) : bm_M := fun k' => if k' = k then upd (σ k) i v else σ k'
def bm_cp (σ : bm_M) (s d sp dp n : Nat) : bm_M := fun k' => if k' = d then va_cpy (σ s) (σ d) sp dp n else σ k'
def bm_nth : List Nat → Nat → Nat
  | [], _ => 0
  | a :: _, 0 => a
  | _ :: l, n + 1 => bm_nth l n
def bm_nthI : List Instr → Nat → Option Instr
  | [], _ => none
  | a :: _, 0 => some a
  | _ :: l, n + 1 => bm_nthI l n
def bm_get : List Value → Nat → Value
  | [], _ => .null
  | a :: _, 0 => a
  | _ :: l, n + 1 => bm_get l n
/-- a store into the locals; a long whose second half is overwritten is gone -/
def bm_put : List Value → Nat → Value → List Value
  | [], _, _ => []
  | _ :: l, 0, v => v :: l
  | .long _ :: _ :: l, 1, v => .null :: v :: l
  | a :: l, n + 1, v => a :: bm_put l n v
def bm_has : List Nat → Nat → Bool
  | [], _ => false
  | a :: l, n => match Nat.beq a n with
    | true => true
    | false => bm_has l n
/-- how many a place holds, if it is an array of ints that may be written -/
def bm_al (k : Nat) : Nat := bm_nth [0, 0, 12, 12, 10, 8, 8, 8, 8, 8, 8, 8, 0, 12, 12, 10, 8, 8, 8, 8, 8, 8, 8, 0, 12, 12, 10, 8, 8, 8, 8, 8, 8, 8, 0, 120, 0, 40, 40, 40, 40, 4, 4, 7, 8, 0, 95, 95, 95, 7, 120, 4, 4, 160, 40] k
/-- one more than the number of the class, if a place is an object -/
def bm_oc (k : Nat) : Nat := bm_nth [3, 1, 0, 0, 0, 0, 0, 0, 0, 0, 0, 0, 1, 0, 0, 0, 0, 0, 0, 0, 0, 0, 0, 1, 0, 0, 0, 0, 0, 0, 0, 0, 0, 0, 2, 0, 0, 0, 0, 0, 0, 0, 0, 0, 0, 4, 0, 0, 0, 0, 0, 0, 0, 0, 0] k
def bm_in (i : Int32) (n : Nat) : Bool := !(decide (i < 0)) && decide (i.toNatClampNeg < n)
def bm_nz (i : Int32) : Bool := !(decide (i = 0))
def bm_nzl (i : Int64) : Bool := !(decide (i = 0))
def bm_bo (i : Int32) : Bool := decide (i = 0) || decide (i = 1)
def bm_ch (i : Int32) : Bool := !(decide (i < 0)) && decide (i < 65536)
def bm_by (i : Int32) : Bool := !(decide (i < 0)) && decide (i < 128)
def bm_max (x y : Int32) : Int32 := if x < y then y else x
def bm_min (x y : Int32) : Int32 := if y < x then y else x
def bm_rem (x y : Int32) : Int32 := x - x / y * y
def bm_lrem (x y : Int64) : Int64 := x - x / y * y
def bm_shl (x y : Int32) : Int32 := x <<< (y &&& 31)
def bm_shr (x y : Int32) : Int32 := x >>> (y &&& 31)
def bm_ushr (x y : Int32) : Int32 := (x.toUInt32 >>> (y.toUInt32 &&& Int32.toUInt32 31)).toInt32
abbrev bm_X : Type := Nat × (Nat → Int32)
/-- lengths of what is only read: the script, three tables, the bytes of the texts -/
def bm_rls : List Nat := [0, 0, 0, 0, 0, 0, 0, 0, 0, 0, 0, 0, 0, 0, 0, 0, 0, 0, 0, 0, 0, 0, 0, 0, 0, 0, 0, 0, 0, 0, 0, 0, 0, 0, 0, 0, 0, 0, 0, 0, 0, 0, 0, 0, 0, 0, 0, 0, 0, 0, 0, 0, 0, 0, 0, 0, 7, 7, 7, 0, 0, 0, 0, 0, 0, 0, 0, 0, 0, 0, 0, 0, 0, 0, 0, 0, 0, 0, 0, 0, 3, 4, 4, 5, 4, 7, 3, 2, 4, 6, 7, 5, 5, 7, 1]
def bm_rl (X : bm_X) (k : Nat) : Nat := match k with
  | 55 => X.1
  | k => bm_nth bm_rls k
def bm_rvs : List (List Int32) := [[], [], [], [], [], [], [], [], [], [], [], [], [], [], [], [], [], [], [], [], [], [], [], [], [], [], [], [], [], [], [], [], [], [], [], [], [], [], [], [], [], [], [], [], [], [], [], [], [], [], [], [], [], [], [], [], [5, 2, 5, 3, 0, 5, 2], [-1, 0, 0, 2, 3, 0, 1], [6, 11, 11, 9, 999, 9999, 1], [], [], [], [], [], [], [], [], [], [], [], [], [], [], [], [], [], [], [], [], [], [99, 111, 119], [99, 97, 108, 102], [97, 108, 116, 111], [98, 114, 105, 100, 101], [112, 97, 115, 115], [99, 114, 97, 99, 107, 101, 100], [107, 105, 100], [111, 110], [116, 111, 110, 101], [115, 119, 105, 110, 103, 115], [109, 117, 102, 102, 108, 101, 100], [103, 114, 97, 115, 115], [103, 114, 111, 119, 115], [116, 104, 117, 110, 100, 101, 114], [59]]
def bm_nthL : List (List Int32) → Nat → List Int32
  | [], _ => []
  | a :: _, 0 => a
  | _ :: l, n + 1 => bm_nthL l n
def bm_nth32 : List Int32 → Nat → Int32
  | [], _ => 0
  | a :: _, 0 => a
  | _ :: l, n + 1 => bm_nth32 l n
def bm_rv (X : bm_X) (k i : Nat) : Int32 := match k with
  | 55 => X.2 i
  | k => bm_nth32 (bm_nthL bm_rvs k) i
def bm_st (k : Nat) : Bool := Nat.ble 60 k && Nat.ble k 74
def bm_bV (o : bm_R) (k : bm_M → bm_R) : bm_R := match o with
  | some (.null, τ) => k τ
  | _ => none
def bm_bI (o : bm_R) (k : Int32 → bm_M → bm_R) : bm_R := match o with
  | some (.int x, τ) => k x τ
  | _ => none
def bm_bL (o : bm_R) (k : Int64 → bm_M → bm_R) : bm_R := match o with
  | some (.long x, τ) => k x τ
  | _ => none
def bm_bA (o : bm_R) (k : Nat → bm_M → bm_R) : bm_R := match o with
  | some (.ref x, τ) => k x τ
  | _ => none
/-- what an action does: go on, call, return -/
def bm_do (γ : Nat → List Value → bm_M → bm_R) (κ : Nat → List Value → List Value → bm_M → bm_R) : bm_A → bm_R
  | .inl (pc, L, S, σ) => κ pc L S σ
  | .inr (.inl (m, rt, as, pc, L, S, σ)) => match rt with
    | 0 => bm_bV (γ m as σ) (fun τ => κ pc L S τ)
    | 1 => bm_bI (γ m as σ) (fun x τ => κ pc L (.int x :: S) τ)
    | 2 => bm_bL (γ m as σ) (fun x τ => κ pc L (.long x :: S) τ)
    | _ => bm_bA (γ m as σ) (fun x τ => κ pc L (.ref x :: S) τ)
  | .inr (.inr (v, σ)) => some (v, σ)
/-- a guard of the place's kind, a guard of an index -/
def bm_sg (b : Bool) (x : bm_R) : bm_R := cond b x none
def bm_gd (b : Bool) (x : bm_R) : bm_R := cond b x none
/-- the first alternative whose guard holds -/
def bm_pick (γ : Nat → List Value → bm_M → bm_R) (κ : Nat → List Value → List Value → bm_M → bm_R) : List (Nat × Bool × bm_A) → bm_R
  | [] => none
  | (t, b, a) :: l => match t with
    | 0 => bm_do γ κ a
    | 1 => cond b (bm_do γ κ a) (bm_pick γ κ l)
    | 2 => bm_sg b (bm_do γ κ a)
    | _ => bm_gd b (bm_do γ κ a)
def bm_nx (pc : Nat) (L S : List Value) (σ : bm_M) : List (Nat × Bool × bm_A) := [(0, true, .inl (pc + 1, L, S, σ))]
def bm_nxs (b : Bool) (pc : Nat) (L S : List Value) (σ : bm_M) : List (Nat × Bool × bm_A) := [(2, b, .inl (pc + 1, L, S, σ))]
def bm_nxg (b : Bool) (pc : Nat) (L S : List Value) (σ : bm_M) : List (Nat × Bool × bm_A) := [(3, b, .inl (pc + 1, L, S, σ))]
def bm_br (b : Bool) (t : Nat) (pc : Nat) (L S : List Value) (σ : bm_M) : List (Nat × Bool × bm_A) := [(1, b, .inl (t, L, S, σ)), (0, true, .inl (pc + 1, L, S, σ))]
def bm_brn (b : Bool) (t : Nat) (pc : Nat) (L S : List Value) (σ : bm_M) : List (Nat × Bool × bm_A) := [(1, b, .inl (pc + 1, L, S, σ)), (0, true, .inl (t, L, S, σ))]
def bm_cmp (c : Jvm.ClassFile.Cond) (x y : Int32) (t pc : Nat) (L S : List Value) (σ : bm_M) : List (Nat × Bool × bm_A) := match c with
  | .eq => bm_br (decide (x = y)) t pc L S σ
  | .ne => bm_brn (decide (x = y)) t pc L S σ
  | .lt => bm_br (decide (x < y)) t pc L S σ
  | .ge => bm_brn (decide (x < y)) t pc L S σ
  | .gt => bm_br (decide (y < x)) t pc L S σ
  | .le => bm_brn (decide (y < x)) t pc L S σ
def bm_sw (x : Int32) (d : Nat) (L S : List Value) (σ : bm_M) : List (Int × Int) → List (Nat × Bool × bm_A)
  | [] => [(0, true, .inl (d, L, S, σ))]
  | (v, t) :: l => (1, decide (x = nI v.toNat), .inl (t.toNat, L, S, σ)) :: bm_sw x d L S σ l
def bm_take : Nat → List Value → List Value → List Value
  | 0, _, acc => acc
  | _ + 1, [], acc => acc
  | n + 1, a :: l, acc => bm_take n l (a :: acc)
def bm_drop : Nat → List Value → List Value
  | 0, l => l
  | _ + 1, [] => []
  | n + 1, _ :: l => bm_drop n l
/-- the locals at a method's entry: a long takes two -/
def bm_spread : List Value → List Value
  | [] => []
  | .long x :: l => .long x :: .null :: bm_spread l
  | v :: l => v :: bm_spread l
def bm_pad : Nat → List Value → List Value
  | 0, l => l
  | n + 1, [] => .null :: bm_pad n []
  | n + 1, a :: l => a :: bm_pad n l
/-- what an instruction of the little machine may do -/
def bm_alts (X : bm_X) (i : Instr) (pc : Nat) (L S : List Value) (σ : bm_M) : List (Nat × Bool × bm_A) := match i with
  | .ldc n => bm_nx pc L (.int (nI n) :: S) σ
  | .ldc_w n => bm_nx pc L (.int (-nI n) :: S) σ
  | .ldc2_w n => bm_nx pc L (.long (lN n) :: S) σ
  | .f2d => bm_nx pc L (.long (-1) :: S) σ
  | .getstatic n => bm_nx pc L (.ref n :: S) σ
  | .anewarray n => bm_nx pc L (.ref n :: S) σ
  | .fconst _ => bm_nx pc L (.int (nI 1) :: S) σ
  | .dconst _ => bm_nx pc L (.retAddr 0 :: S) σ
  | .iload k => match bm_get L k with
    | .int x => bm_nx pc L (.int x :: S) σ
    | _ => []
  | .aload k => match bm_get L k with
    | .ref x => bm_nx pc L (.ref x :: S) σ
    | _ => []
  | .lload k => match bm_get L k with
    | .long x => bm_nx pc L (.long x :: S) σ
    | _ => []
  | .istore k => match S with
    | .int x :: S => bm_nx pc (bm_put L k (.int x)) S σ
    | _ => []
  | .astore k => match S with
    | .ref x :: S => bm_nx pc (bm_put L k (.ref x)) S σ
    | _ => []
  | .lstore k => match S with
    | .long x :: S => bm_nx pc (bm_put (bm_put L (k + 1) .null) k (.long x)) S σ
    | _ => []
  | .iinc k n => match bm_get L k with
    | .int x => match n with
      | .ofNat n => bm_nx pc (bm_put L k (.int (x + nI n))) S σ
      | .negSucc n => bm_nx pc (bm_put L k (.int (x - nI (n + 1)))) S σ
    | _ => []
  | .dup => match S with
    | .int x :: S => bm_nx pc L (.int x :: .int x :: S) σ
    | .ref x :: S => bm_nx pc L (.ref x :: .ref x :: S) σ
    | _ => []
  | .dup2 => match S with
    | .int x :: .ref y :: S => bm_nx pc L (.int x :: .ref y :: .int x :: .ref y :: S) σ
    | _ => []
  | .pop => match S with
    | .int _ :: S => bm_nx pc L S σ
    | _ => []
  | .iadd => match S with
    | .int y :: .int x :: S => bm_nx pc L (.int (x + y) :: S) σ
    | _ => []
  | .isub => match S with
    | .int y :: .int x :: S => bm_nx pc L (.int (x - y) :: S) σ
    | _ => []
  | .imul => match S with
    | .int y :: .int x :: S => bm_nx pc L (.int (x * y) :: S) σ
    | _ => []
  | .iand => match S with
    | .int y :: .int x :: S => bm_nx pc L (.int (x &&& y) :: S) σ
    | _ => []
  | .ior => match S with
    | .int y :: .int x :: S => bm_nx pc L (.int (x ||| y) :: S) σ
    | _ => []
  | .idiv => match S with
    | .int y :: .int x :: S => bm_nxs (bm_nz y) pc L (.int (x / y) :: S) σ
    | _ => []
  | .irem => match S with
    | .int y :: .int x :: S => bm_nxs (bm_nz y) pc L (.int (bm_rem x y) :: S) σ
    | _ => []
  | .ishl => match S with
    | .int y :: .int x :: S => bm_nx pc L (.int (bm_shl x y) :: S) σ
    | _ => []
  | .ishr => match S with
    | .int y :: .int x :: S => bm_nx pc L (.int (bm_shr x y) :: S) σ
    | _ => []
  | .iushr => match S with
    | .int y :: .int x :: S => bm_nx pc L (.int (bm_ushr x y) :: S) σ
    | _ => []
  | .dmul => match S with
    | .int y :: .int x :: S => bm_nx pc L (.int (bm_max x y) :: S) σ
    | _ => []
  | .dadd => match S with
    | .int y :: .int x :: S => bm_nx pc L (.int (bm_min x y) :: S) σ
    | _ => []
  | .ladd => match S with
    | .long y :: .long x :: S => bm_nx pc L (.long (x + y) :: S) σ
    | _ => []
  | .lmul => match S with
    | .long y :: .long x :: S => bm_nx pc L (.long (x * y) :: S) σ
    | _ => []
  | .ldiv => match S with
    | .long y :: .long x :: S => bm_nxg (bm_nzl y) pc L (.long (x / y) :: S) σ
    | _ => []
  | .lrem => match S with
    | .long y :: .long x :: S => bm_nxg (bm_nzl y) pc L (.long (bm_lrem x y) :: S) σ
    | _ => []
  | .lcmp => match S with
    | .long y :: .long x :: S => bm_nx pc L (.int (lg_cmp x y) :: S) σ
    | _ => []
  | .i2l => match S with
    | .int x :: S => bm_nx pc L (.long x.toInt64 :: S) σ
    | _ => []
  | .i2b => match S with
    | .int x :: S => bm_nx pc L (.int x.toInt8.toInt32 :: S) σ
    | _ => []
  | .i2s => match S with
    | .int x :: S => bm_nx pc L (.int x.toInt16.toInt32 :: S) σ
    | _ => []
  | .i2c => match S with
    | .int x :: S => bm_nx pc L (.int (x.toUInt32 % 65536).toInt32 :: S) σ
    | _ => []
  | .goto t => [(0, true, .inl (t.toNat, L, S, σ))]
  | .if_icmp c t => match S with
    | .int y :: .int x :: S => bm_cmp c x y t.toNat pc L S σ
    | _ => []
  | .ifCond c t => match S with
    | .int x :: S => bm_cmp c x 0 t.toNat pc L S σ
    | _ => []
  | .lookupswitch d ps => match S with
    | .int x :: S => bm_sw x d.toNat L S σ ps.toList
    | _ => []
  | .getfield n => match S with
    | .ref k :: S => bm_nxs (Nat.beq (bm_oc k) (n / 32)) pc L (.int (σ k (n % 32)) :: S) σ
    | _ => []
  | .instanceof n => match S with
    | .ref k :: S => bm_nxs (Nat.beq (bm_oc k) (n / 64 / 32)) pc L (.ref (k + n % 64) :: S) σ
    | _ => []
  | .putfield n => match S with
    | .int v :: .ref k :: S => bm_nxs (Nat.beq (bm_oc k) (n / 32)) pc L S (bm_up σ k (n % 32) v)
    | _ => []
  | .checkcast n => match S with
    | .int v :: .ref k :: S => bm_nxg (Nat.beq (bm_oc k) (n / 32) && bm_bo v) pc L S (bm_up σ k (n % 32) v)
    | _ => []
  | .iaload => match S with
    | .int i :: .ref k :: S => bm_nxg (bm_in i (bm_al k)) pc L (.int (σ k i.toNatClampNeg) :: S) σ
    | _ => []
  | .iastore => match S with
    | .int v :: .int i :: .ref k :: S => bm_nxg (bm_in i (bm_al k)) pc L S (bm_up σ k i.toNatClampNeg v)
    | _ => []
  | .aaload => match S with
    | .int i :: .ref k :: S => bm_nxg (Nat.beq k 36 && bm_in i 4) pc L (.ref (37 + i.toNatClampNeg) :: S) σ
    | _ => []
  | .saload => match S with
    | .int i :: .ref k :: S => bm_nxg (Nat.ble 55 k && Nat.ble k 58 && bm_in i (bm_rl X k)) pc L (.int (bm_rv X k i.toNatClampNeg) :: S) σ
    | _ => []
  | .baload => match S with
    | .int i :: .ref k :: S => bm_nxg (Nat.ble 80 k && Nat.ble k 94 && bm_in i (bm_rl X k)) pc L (.int (bm_rv X k i.toNatClampNeg) :: S) σ
    | _ => []
  | .arraylength => match S with
    | .ref k :: S => bm_nxs ((Nat.ble 55 k && Nat.ble k 58) || (Nat.ble 80 k && Nat.ble k 94)) pc L (.int (nI (bm_rl X k)) :: S) σ
    | _ => []
  | .f2l => match S with
    | .ref k :: S => bm_nxg (bm_st k) pc L (.ref (k + 20) :: S) σ
    | _ => []
  | .fadd => match S with
    | .ref k :: S => bm_nxg (bm_st k) pc L (.int (nI 0) :: S) σ
    | _ => []
  | .dastore => match S with
    | .int n :: .int dp :: .ref d :: .int sp :: .ref s :: S => bm_nxg (!(decide (sp < 0)) && !(decide (dp < 0)) && !(decide (n < 0)) && decide (sp.toNatClampNeg + n.toNatClampNeg ≤ bm_al s) && decide (dp.toNatClampNeg + n.toNatClampNeg ≤ bm_al d)) pc L S (bm_cp σ s d sp.toNatClampNeg dp.toNatClampNeg n.toNatClampNeg)
    | _ => []
  | .invokevirtual n => [(2, Nat.ble (bm_drop (n / 4 % 8) S).length 4, .inr (.inl (n / 512, n % 4, bm_pad (n / 32 % 16) (bm_spread (bm_take (n / 4 % 8) S [])), pc + 1, L, bm_drop (n / 4 % 8) S, σ)))]
  | .ireturn => match S with
    | [.int x] => [(0, true, .inr (.inr (.int x, σ)))]
    | _ => []
  | .freturn => match S with
    | [.int x] => [(3, bm_bo x, .inr (.inr (.int x, σ)))]
    | _ => []
  | .d2f => match S with
    | [.int x] => [(3, bm_by x, .inr (.inr (.int x, σ)))]
    | _ => []
  | .d2i => match S with
    | [.int x] => [(3, bm_ch x, .inr (.inr (.int x, σ)))]
    | _ => []
  | .lreturn => match S with
    | [.long x] => [(0, true, .inr (.inr (.long x, σ)))]
    | _ => []
  | .areturn => match S with
    | [.ref x] => [(0, true, .inr (.inr (.ref x, σ)))]
    | _ => []
  | .return_ => match S with
    | [] => [(0, true, .inr (.inr (.null, σ)))]
    | _ => []
  | _ => []
end
section
def bm_altO (X : bm_X) (o : Option Instr) (pc : Nat) (L S : List Value) (σ : bm_M) : List (Nat × Bool × bm_A) := match o with
  | none => []
  | some i => bm_alts X i pc L S σ
def bm_nthC : List (List Instr) → Nat → List Instr
  | [], _ => []
  | a :: _, 0 => a
  | _ :: l, n + 1 => bm_nthC l n
/-- so many steps at most -/
def bm_run (C : Nat → List Instr) (X : bm_X) : Nat → Nat → Nat → List Value → List Value → bm_M → bm_R
  | 0, _, _, _, _, _ => none
  | n + 1, M, pc, L, S, σ => bm_pick (fun m L τ => bm_run C X n m 0 L [] τ) (fun pc L S τ => bm_run C X n M pc L S τ) (bm_altO X (bm_nthI (C M) pc) pc L S σ)
theorem bm_do_mono {γ γ' : Nat → List Value → bm_M → bm_R} {κ κ' : Nat → List Value → List Value → bm_M → bm_R} (hg : ∀ m L σ r, γ m L σ = some r → γ' m L σ = some r) (hk : ∀ pc L S σ r, κ pc L S σ = some r → κ' pc L S σ = some r) (a : bm_A) (r : Value × bm_M) (h : bm_do γ κ a = some r) : bm_do γ' κ' a = some r := by
  match a, h with
  | .inl (pc, L, S, σ), h => exact hk _ _ _ _ _ h
  | .inr (.inr (v, σ)), h => exact h
  | .inr (.inl (m, rt, as, pc, L, S, σ)), h =>
    simp only [bm_do] at h ⊢
    cases hr : γ m as σ with
    | none => rw [hr] at h; split at h <;> simp [bm_bV, bm_bI, bm_bL, bm_bA] at h
    | some q =>
      rw [hr] at h
      rw [hg _ _ _ _ hr]
      obtain ⟨v, τ⟩ := q
      split at h <;> (cases v <;> first | (simp [bm_bV, bm_bI, bm_bL, bm_bA] at h; done) | exact hk _ _ _ _ _ h)
theorem bm_pick_mono {γ γ' : Nat → List Value → bm_M → bm_R} {κ κ' : Nat → List Value → List Value → bm_M → bm_R} (hg : ∀ m L σ r, γ m L σ = some r → γ' m L σ = some r) (hk : ∀ pc L S σ r, κ pc L S σ = some r → κ' pc L S σ = some r) (r : Value × bm_M) : ∀ l, bm_pick γ κ l = some r → bm_pick γ' κ' l = some r
  | [], h => by cases h
  | (t, b, a) :: l, h => by
    match t, h with
    | 0, h => exact bm_do_mono hg hk a r h
    | 1, h =>
      show cond b (bm_do γ' κ' a) (bm_pick γ' κ' l) = some r
      have h : cond b (bm_do γ κ a) (bm_pick γ κ l) = some r := h
      cases b with
      | true => exact bm_do_mono hg hk a r h
      | false => exact bm_pick_mono hg hk r l h
    | 2, h =>
      show cond b (bm_do γ' κ' a) none = some r
      have h : cond b (bm_do γ κ a) none = some r := h
      cases b with
      | true => exact bm_do_mono hg hk a r h
      | false => cases h
    | (n + 3), h =>
      show cond b (bm_do γ' κ' a) none = some r
      have h : cond b (bm_do γ κ a) none = some r := h
      cases b with
      | true => exact bm_do_mono hg hk a r h
      | false => cases h
theorem bm_run_succ (C : Nat → List Instr) (X : bm_X) : ∀ (n M pc : Nat) (L S : List Value) (σ : bm_M) (r : Value × bm_M), bm_run C X n M pc L S σ = some r → bm_run C X (n + 1) M pc L S σ = some r
  | 0, _, _, _, _, _, _, h => by cases h
  | n + 1, M, pc, L, S, σ, r, h => bm_pick_mono (fun m L τ r h => bm_run_succ C X n m 0 L [] τ r h) (fun pc L S τ r h => bm_run_succ C X n M pc L S τ r h) r _ h
theorem bm_run_le {C : Nat → List Instr} {X : bm_X} {n k M pc : Nat} {L S : List Value} {σ : bm_M} {r : Value × bm_M} (hk : n ≤ k) (h : bm_run C X n M pc L S σ = some r) : bm_run C X k M pc L S σ = some r := by
  induction hk with
  | refl => exact h
  | step _ ih => exact bm_run_succ C X _ _ _ _ _ _ _ ih
/-- what it comes to -/
noncomputable def bm_evC (C : Nat → List Instr) (X : bm_X) (M pc : Nat) (L S : List Value) (σ : bm_M) : bm_R := by
  classical
  exact if h : ∃ (n : Nat) (r : Value × bm_M), bm_run C X n M pc L S σ = some r then some (Classical.choose (Classical.choose_spec h)) else none
theorem bm_ev_iff {C : Nat → List Instr} {X : bm_X} {M pc : Nat} {L S : List Value} {σ : bm_M} {r : Value × bm_M} : bm_evC C X M pc L S σ = some r ↔ ∃ n, bm_run C X n M pc L S σ = some r := by
  classical
  unfold bm_evC
  by_cases h : ∃ (n : Nat) (r : Value × bm_M), bm_run C X n M pc L S σ = some r
  · rw [dif_pos h]
    have hs := Classical.choose_spec (Classical.choose_spec h)
    constructor
    · intro e
      rw [Option.some.inj e] at hs
      exact ⟨_, hs⟩
    · rintro ⟨n, hn⟩
      have h1 := bm_run_le (Nat.le_max_left (Classical.choose h) n) hs
      have h2 := bm_run_le (Nat.le_max_right (Classical.choose h) n) hn
      rw [h1] at h2
      exact h2
  · rw [dif_neg h]
    constructor
    · intro e; cases e
    · rintro ⟨n, hn⟩
      exact absurd ⟨n, r, hn⟩ h
theorem bm_do_fin {C : Nat → List Instr} {X : bm_X} {M : Nat} (a : bm_A) (r : Value × bm_M) (h : bm_do (fun m L τ => bm_evC C X m 0 L [] τ) (fun pc L S τ => bm_evC C X M pc L S τ) a = some r) : ∃ n, bm_do (fun m L τ => bm_run C X n m 0 L [] τ) (fun pc L S τ => bm_run C X n M pc L S τ) a = some r := by
  match a, h with
  | .inl (pc, L, S, σ), h => exact bm_ev_iff.mp h
  | .inr (.inr (v, σ)), h => exact ⟨0, h⟩
  | .inr (.inl (m, rt, as, pc, L, S, σ)), h =>
    simp only [bm_do] at h ⊢
    cases hr : bm_evC C X m 0 as [] σ with
    | none => rw [hr] at h; split at h <;> simp [bm_bV, bm_bI, bm_bL, bm_bA] at h
    | some q =>
      rw [hr] at h
      obtain ⟨n1, h1⟩ := bm_ev_iff.mp hr
      obtain ⟨v, τ⟩ := q
      have key : ∀ (S' : List Value), bm_evC C X M pc L S' τ = some r → ∃ n, n1 ≤ n ∧ bm_run C X n M pc L S' τ = some r := fun S' h => by
        obtain ⟨n2, h2⟩ := bm_ev_iff.mp h
        exact ⟨max n1 n2, Nat.le_max_left _ _, bm_run_le (Nat.le_max_right _ _) h2⟩
      split at h <;> (cases v <;> first | (simp [bm_bV, bm_bI, bm_bL, bm_bA] at h; done) | (obtain ⟨n, hn, h2⟩ := key _ h; exact ⟨n, by rw [bm_run_le hn h1]; exact h2⟩))
theorem bm_pick_fin {C : Nat → List Instr} {X : bm_X} {M : Nat} (r : Value × bm_M) : ∀ l, bm_pick (fun m L τ => bm_evC C X m 0 L [] τ) (fun pc L S τ => bm_evC C X M pc L S τ) l = some r → ∃ n, bm_pick (fun m L τ => bm_run C X n m 0 L [] τ) (fun pc L S τ => bm_run C X n M pc L S τ) l = some r
  | [], h => by cases h
  | (t, b, a) :: l, h => by
    match t, h with
    | 0, h => exact bm_do_fin a r h
    | 1, h =>
      cases b with
      | true => exact bm_do_fin a r h
      | false => exact bm_pick_fin r l h
    | 2, h =>
      cases b with
      | true => exact bm_do_fin a r h
      | false => cases h
    | (n + 3), h =>
      cases b with
      | true => exact bm_do_fin a r h
      | false => cases h
theorem bm_ev_eq (C : Nat → List Instr) (X : bm_X) (M pc : Nat) (L S : List Value) (σ : bm_M) : bm_evC C X M pc L S σ = bm_pick (fun m L τ => bm_evC C X m 0 L [] τ) (fun pc L S τ => bm_evC C X M pc L S τ) (bm_altO X (bm_nthI (C M) pc) pc L S σ) := by
  apply Option.ext
  intro r
  constructor
  · intro h
    obtain ⟨n, hn⟩ := bm_ev_iff.mp h
    match n, hn with
    | n + 1, hn => exact bm_pick_mono (fun m L τ r h => bm_ev_iff.mpr ⟨n, h⟩) (fun pc L S τ r h => bm_ev_iff.mpr ⟨n, h⟩) r _ hn
  · intro h
    obtain ⟨n, hn⟩ := bm_pick_fin r _ h
    exact bm_ev_iff.mpr ⟨n + 1, hn⟩
/-- on to the next cut, so many steps at most -/
noncomputable def bm_go (C : Nat → List Instr) (X : bm_X) (M : Nat) (cd : List Instr) (st : List Nat) : Nat → Nat → List Value → List Value → bm_M → bm_R
  | 0, pc, L, S, σ => bm_evC C X M pc L S σ
  | k + 1, pc, L, S, σ => match bm_has st pc with
    | true => bm_evC C X M pc L S σ
    | false => bm_pick (fun m L τ => bm_evC C X m 0 L [] τ) (fun pc L S τ => bm_go C X M cd st k pc L S τ) (bm_altO X (bm_nthI cd pc) pc L S σ)
theorem bm_go_eq {C : Nat → List Instr} {X : bm_X} {M : Nat} {cd : List Instr} (hc : C M = cd) (st : List Nat) : ∀ k, (fun pc L S τ => bm_go C X M cd st k pc L S τ) = (fun pc L S τ => bm_evC C X M pc L S τ)
  | 0 => rfl
  | k + 1 => by
    funext pc L S σ
    show (match bm_has st pc with | true => bm_evC C X M pc L S σ | false => bm_pick (fun m L τ => bm_evC C X m 0 L [] τ) (fun pc L S τ => bm_go C X M cd st k pc L S τ) (bm_altO X (bm_nthI cd pc) pc L S σ)) = bm_evC C X M pc L S σ
    cases bm_has st pc with
    | true => rfl
    | false =>
      show bm_pick _ _ _ = _
      rw [bm_go_eq hc st k, bm_ev_eq C X M pc L S σ, hc]
theorem bm_blkC {C : Nat → List Instr} {X : bm_X} {M : Nat} {cd : List Instr} (hc : C M = cd) (st : List Nat) (k pc : Nat) (L S : List Value) (σ : bm_M) : bm_evC C X M pc L S σ = bm_pick (fun m L τ => bm_evC C X m 0 L [] τ) (fun pc L S τ => bm_go C X M cd st k pc L S τ) (bm_altO X (bm_nthI cd pc) pc L S σ) := by
  rw [bm_go_eq hc st k, bm_ev_eq C X M pc L S σ, hc]
end
