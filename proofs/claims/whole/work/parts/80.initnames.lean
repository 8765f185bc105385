/-! HOW THINGS ARE MADE: words and codes -/
abbrev icX0 : ByteArray := prog_2_method_1_code
def iyX0 : MethodName := ⟨RX0, "<init>", "()V"⟩
def ivX0 : List Cond := .code iyX0 icX0 2 none :: bm_T
abbrev icX1 : ByteArray := prog_3_method_1_code
def iyX1 : MethodName := ⟨RX1, "<init>", "()V"⟩
def ivX1 : List Cond := .code iyX1 icX1 1 none :: bm_T
abbrev icX2 : ByteArray := prog_1_method_1_code
def iyX2 : MethodName := ⟨RX2, "<init>", "()V"⟩
def ivX2 : List Cond := .code iyX2 icX2 1 none :: bm_T
abbrev icX3 : ByteArray := prog_5_method_1_code
def iyX3 : MethodName := ⟨RX3, "<init>", "()V"⟩
def ivX3 : List Cond := .code iyX3 icX3 2 none :: bm_T
theorem idX0_0 : decode icX0 0 = .ok (.aload_n 0, 1) := by decide +kernel
theorem idX0_1 : decode icX0 1 = .ok (.invokespecial 3, 3) := by decide +kernel
theorem idX0_4 : decode icX0 4 = .ok (.aload_n 0, 1) := by decide +kernel
theorem idX0_5 : decode icX0 5 = .ok (.bipush 12, 2) := by decide +kernel
theorem idX0_7 : decode icX0 7 = .ok (.newarray .int, 2) := by decide +kernel
theorem idX0_9 : decode icX0 9 = .ok (.putfield 9, 3) := by decide +kernel
theorem idX0_12 : decode icX0 12 = .ok (.aload_n 0, 1) := by decide +kernel
theorem idX0_13 : decode icX0 13 = .ok (.bipush 12, 2) := by decide +kernel
theorem idX0_15 : decode icX0 15 = .ok (.newarray .int, 2) := by decide +kernel
theorem idX0_17 : decode icX0 17 = .ok (.putfield 15, 3) := by decide +kernel
theorem idX0_20 : decode icX0 20 = .ok (.aload_n 0, 1) := by decide +kernel
theorem idX0_21 : decode icX0 21 = .ok (.bipush 10, 2) := by decide +kernel
theorem idX0_23 : decode icX0 23 = .ok (.newarray .int, 2) := by decide +kernel
theorem idX0_25 : decode icX0 25 = .ok (.putfield 18, 3) := by decide +kernel
theorem idX0_28 : decode icX0 28 = .ok (.aload_n 0, 1) := by decide +kernel
theorem idX0_29 : decode icX0 29 = .ok (.iconst 2, 1) := by decide +kernel
theorem idX0_30 : decode icX0 30 = .ok (.putfield 21, 3) := by decide +kernel
theorem idX0_33 : decode icX0 33 = .ok (.aload_n 0, 1) := by decide +kernel
theorem idX0_34 : decode icX0 34 = .ok (.iconst 0, 1) := by decide +kernel
theorem idX0_35 : decode icX0 35 = .ok (.putfield 25, 3) := by decide +kernel
theorem idX0_38 : decode icX0 38 = .ok (.aload_n 0, 1) := by decide +kernel
theorem idX0_39 : decode icX0 39 = .ok (.iconst 0, 1) := by decide +kernel
theorem idX0_40 : decode icX0 40 = .ok (.putfield 28, 3) := by decide +kernel
theorem idX0_43 : decode icX0 43 = .ok (.aload_n 0, 1) := by decide +kernel
theorem idX0_44 : decode icX0 44 = .ok (.iconst 1, 1) := by decide +kernel
theorem idX0_45 : decode icX0 45 = .ok (.putfield 31, 3) := by decide +kernel
theorem idX0_48 : decode icX0 48 = .ok (.aload_n 0, 1) := by decide +kernel
theorem idX0_49 : decode icX0 49 = .ok (.iconst 0, 1) := by decide +kernel
theorem idX0_50 : decode icX0 50 = .ok (.putfield 34, 3) := by decide +kernel
theorem idX0_53 : decode icX0 53 = .ok (.aload_n 0, 1) := by decide +kernel
theorem idX0_54 : decode icX0 54 = .ok (.bipush 8, 2) := by decide +kernel
theorem idX0_56 : decode icX0 56 = .ok (.newarray .int, 2) := by decide +kernel
theorem idX0_58 : decode icX0 58 = .ok (.putfield 37, 3) := by decide +kernel
theorem idX0_61 : decode icX0 61 = .ok (.aload_n 0, 1) := by decide +kernel
theorem idX0_62 : decode icX0 62 = .ok (.bipush 8, 2) := by decide +kernel
theorem idX0_64 : decode icX0 64 = .ok (.newarray .int, 2) := by decide +kernel
theorem idX0_66 : decode icX0 66 = .ok (.putfield 40, 3) := by decide +kernel
theorem idX0_69 : decode icX0 69 = .ok (.aload_n 0, 1) := by decide +kernel
theorem idX0_70 : decode icX0 70 = .ok (.bipush 8, 2) := by decide +kernel
theorem idX0_72 : decode icX0 72 = .ok (.newarray .int, 2) := by decide +kernel
theorem idX0_74 : decode icX0 74 = .ok (.putfield 43, 3) := by decide +kernel
theorem idX0_77 : decode icX0 77 = .ok (.aload_n 0, 1) := by decide +kernel
theorem idX0_78 : decode icX0 78 = .ok (.bipush 8, 2) := by decide +kernel
theorem idX0_80 : decode icX0 80 = .ok (.newarray .int, 2) := by decide +kernel
theorem idX0_82 : decode icX0 82 = .ok (.putfield 46, 3) := by decide +kernel
theorem idX0_85 : decode icX0 85 = .ok (.aload_n 0, 1) := by decide +kernel
theorem idX0_86 : decode icX0 86 = .ok (.bipush 8, 2) := by decide +kernel
theorem idX0_88 : decode icX0 88 = .ok (.newarray .int, 2) := by decide +kernel
theorem idX0_90 : decode icX0 90 = .ok (.putfield 49, 3) := by decide +kernel
theorem idX0_93 : decode icX0 93 = .ok (.aload_n 0, 1) := by decide +kernel
theorem idX0_94 : decode icX0 94 = .ok (.bipush 8, 2) := by decide +kernel
theorem idX0_96 : decode icX0 96 = .ok (.newarray .int, 2) := by decide +kernel
theorem idX0_98 : decode icX0 98 = .ok (.putfield 52, 3) := by decide +kernel
theorem idX0_101 : decode icX0 101 = .ok (.aload_n 0, 1) := by decide +kernel
theorem idX0_102 : decode icX0 102 = .ok (.bipush 8, 2) := by decide +kernel
theorem idX0_104 : decode icX0 104 = .ok (.newarray .int, 2) := by decide +kernel
theorem idX0_106 : decode icX0 106 = .ok (.putfield 55, 3) := by decide +kernel
theorem idX0_109 : decode icX0 109 = .ok (.iconst 0, 1) := by decide +kernel
theorem idX0_110 : decode icX0 110 = .ok (.istore_n 1, 1) := by decide +kernel
theorem idX0_111 : decode icX0 111 = .ok (.iload_n 1, 1) := by decide +kernel
theorem idX0_112 : decode icX0 112 = .ok (.bipush 12, 2) := by decide +kernel
theorem idX0_114 : decode icX0 114 = .ok (.if_icmp .ge 17, 3) := by decide +kernel
theorem idX0_117 : decode icX0 117 = .ok (.aload_n 0, 1) := by decide +kernel
theorem idX0_118 : decode icX0 118 = .ok (.getfield 9, 3) := by decide +kernel
theorem idX0_121 : decode icX0 121 = .ok (.iload_n 1, 1) := by decide +kernel
theorem idX0_122 : decode icX0 122 = .ok (.bipush 50, 2) := by decide +kernel
theorem idX0_124 : decode icX0 124 = .ok (.iastore, 1) := by decide +kernel
theorem idX0_125 : decode icX0 125 = .ok (.iinc 1 1, 3) := by decide +kernel
theorem idX0_128 : decode icX0 128 = .ok (.goto (-17), 3) := by decide +kernel
theorem idX0_131 : decode icX0 131 = .ok (.iconst 0, 1) := by decide +kernel
theorem idX0_132 : decode icX0 132 = .ok (.istore_n 1, 1) := by decide +kernel
theorem idX0_133 : decode icX0 133 = .ok (.iload_n 1, 1) := by decide +kernel
theorem idX0_134 : decode icX0 134 = .ok (.bipush 10, 2) := by decide +kernel
theorem idX0_136 : decode icX0 136 = .ok (.if_icmp .ge 16, 3) := by decide +kernel
theorem idX0_139 : decode icX0 139 = .ok (.aload_n 0, 1) := by decide +kernel
theorem idX0_140 : decode icX0 140 = .ok (.getfield 18, 3) := by decide +kernel
theorem idX0_143 : decode icX0 143 = .ok (.iload_n 1, 1) := by decide +kernel
theorem idX0_144 : decode icX0 144 = .ok (.iconst (-1), 1) := by decide +kernel
theorem idX0_145 : decode icX0 145 = .ok (.iastore, 1) := by decide +kernel
theorem idX0_146 : decode icX0 146 = .ok (.iinc 1 1, 3) := by decide +kernel
theorem idX0_149 : decode icX0 149 = .ok (.goto (-16), 3) := by decide +kernel
theorem idX0_152 : decode icX0 152 = .ok (.return_, 1) := by decide +kernel
theorem idX1_0 : decode icX1 0 = .ok (.aload_n 0, 1) := by decide +kernel
theorem idX1_1 : decode icX1 1 = .ok (.invokespecial 3, 3) := by decide +kernel
theorem idX1_4 : decode icX1 4 = .ok (.aload_n 0, 1) := by decide +kernel
theorem idX1_5 : decode icX1 5 = .ok (.bipush 120, 2) := by decide +kernel
theorem idX1_7 : decode icX1 7 = .ok (.newarray .int, 2) := by decide +kernel
theorem idX1_9 : decode icX1 9 = .ok (.putfield 9, 3) := by decide +kernel
theorem idX1_12 : decode icX1 12 = .ok (.aload_n 0, 1) := by decide +kernel
theorem idX1_13 : decode icX1 13 = .ok (.iconst 0, 1) := by decide +kernel
theorem idX1_14 : decode icX1 14 = .ok (.putfield 15, 3) := by decide +kernel
theorem idX1_17 : decode icX1 17 = .ok (.aload_n 0, 1) := by decide +kernel
theorem idX1_18 : decode icX1 18 = .ok (.iconst 0, 1) := by decide +kernel
theorem idX1_19 : decode icX1 19 = .ok (.putfield 19, 3) := by decide +kernel
theorem idX1_22 : decode icX1 22 = .ok (.aload_n 0, 1) := by decide +kernel
theorem idX1_23 : decode icX1 23 = .ok (.iconst 0, 1) := by decide +kernel
theorem idX1_24 : decode icX1 24 = .ok (.putfield 22, 3) := by decide +kernel
theorem idX1_27 : decode icX1 27 = .ok (.aload_n 0, 1) := by decide +kernel
theorem idX1_28 : decode icX1 28 = .ok (.iconst 0, 1) := by decide +kernel
theorem idX1_29 : decode icX1 29 = .ok (.putfield 25, 3) := by decide +kernel
theorem idX1_32 : decode icX1 32 = .ok (.aload_n 0, 1) := by decide +kernel
theorem idX1_33 : decode icX1 33 = .ok (.iconst 0, 1) := by decide +kernel
theorem idX1_34 : decode icX1 34 = .ok (.putfield 28, 3) := by decide +kernel
theorem idX1_37 : decode icX1 37 = .ok (.aload_n 0, 1) := by decide +kernel
theorem idX1_38 : decode icX1 38 = .ok (.iconst 0, 1) := by decide +kernel
theorem idX1_39 : decode icX1 39 = .ok (.putfield 31, 3) := by decide +kernel
theorem idX1_42 : decode icX1 42 = .ok (.return_, 1) := by decide +kernel
theorem idX2_0 : decode icX2 0 = .ok (.aload_n 0, 1) := by decide +kernel
theorem idX2_1 : decode icX2 1 = .ok (.invokespecial 1, 3) := by decide +kernel
theorem idX2_4 : decode icX2 4 = .ok (.aload_n 0, 1) := by decide +kernel
theorem idX2_5 : decode icX2 5 = .ok (.new 7, 3) := by decide +kernel
theorem idX2_8 : decode icX2 8 = .ok (.dup, 1) := by decide +kernel
theorem idX2_9 : decode icX2 9 = .ok (.invokespecial 9, 3) := by decide +kernel
theorem idX2_12 : decode icX2 12 = .ok (.putfield 10, 3) := by decide +kernel
theorem idX2_15 : decode icX2 15 = .ok (.aload_n 0, 1) := by decide +kernel
theorem idX2_16 : decode icX2 16 = .ok (.new 7, 3) := by decide +kernel
theorem idX2_19 : decode icX2 19 = .ok (.dup, 1) := by decide +kernel
theorem idX2_20 : decode icX2 20 = .ok (.invokespecial 9, 3) := by decide +kernel
theorem idX2_23 : decode icX2 23 = .ok (.putfield 16, 3) := by decide +kernel
theorem idX2_26 : decode icX2 26 = .ok (.aload_n 0, 1) := by decide +kernel
theorem idX2_27 : decode icX2 27 = .ok (.new 7, 3) := by decide +kernel
theorem idX2_30 : decode icX2 30 = .ok (.dup, 1) := by decide +kernel
theorem idX2_31 : decode icX2 31 = .ok (.invokespecial 9, 3) := by decide +kernel
theorem idX2_34 : decode icX2 34 = .ok (.putfield 19, 3) := by decide +kernel
theorem idX2_37 : decode icX2 37 = .ok (.aload_n 0, 1) := by decide +kernel
theorem idX2_38 : decode icX2 38 = .ok (.new 22, 3) := by decide +kernel
theorem idX2_41 : decode icX2 41 = .ok (.dup, 1) := by decide +kernel
theorem idX2_42 : decode icX2 42 = .ok (.invokespecial 24, 3) := by decide +kernel
theorem idX2_45 : decode icX2 45 = .ok (.putfield 25, 3) := by decide +kernel
theorem idX2_48 : decode icX2 48 = .ok (.aload_n 0, 1) := by decide +kernel
theorem idX2_49 : decode icX2 49 = .ok (.iconst 4, 1) := by decide +kernel
theorem idX2_50 : decode icX2 50 = .ok (.bipush 40, 2) := by decide +kernel
theorem idX2_52 : decode icX2 52 = .ok (.multianewarray 29 2, 4) := by decide +kernel
theorem idX2_56 : decode icX2 56 = .ok (.putfield 31, 3) := by decide +kernel
theorem idX2_59 : decode icX2 59 = .ok (.aload_n 0, 1) := by decide +kernel
theorem idX2_60 : decode icX2 60 = .ok (.iconst 4, 1) := by decide +kernel
theorem idX2_61 : decode icX2 61 = .ok (.newarray .int, 2) := by decide +kernel
theorem idX2_63 : decode icX2 63 = .ok (.putfield 34, 3) := by decide +kernel
theorem idX2_66 : decode icX2 66 = .ok (.aload_n 0, 1) := by decide +kernel
theorem idX2_67 : decode icX2 67 = .ok (.iconst 4, 1) := by decide +kernel
theorem idX2_68 : decode icX2 68 = .ok (.newarray .int, 2) := by decide +kernel
theorem idX2_70 : decode icX2 70 = .ok (.putfield 38, 3) := by decide +kernel
theorem idX2_73 : decode icX2 73 = .ok (.aload_n 0, 1) := by decide +kernel
theorem idX2_74 : decode icX2 74 = .ok (.bipush 7, 2) := by decide +kernel
theorem idX2_76 : decode icX2 76 = .ok (.newarray .int, 2) := by decide +kernel
theorem idX2_78 : decode icX2 78 = .ok (.putfield 41, 3) := by decide +kernel
theorem idX2_81 : decode icX2 81 = .ok (.aload_n 0, 1) := by decide +kernel
theorem idX2_82 : decode icX2 82 = .ok (.bipush 8, 2) := by decide +kernel
theorem idX2_84 : decode icX2 84 = .ok (.newarray .int, 2) := by decide +kernel
theorem idX2_86 : decode icX2 86 = .ok (.putfield 44, 3) := by decide +kernel
theorem idX2_89 : decode icX2 89 = .ok (.return_, 1) := by decide +kernel
theorem idX3_0 : decode icX3 0 = .ok (.aload_n 0, 1) := by decide +kernel
theorem idX3_1 : decode icX3 1 = .ok (.invokespecial 3, 3) := by decide +kernel
theorem idX3_4 : decode icX3 4 = .ok (.aload_n 0, 1) := by decide +kernel
theorem idX3_5 : decode icX3 5 = .ok (.bipush 95, 2) := by decide +kernel
theorem idX3_7 : decode icX3 7 = .ok (.newarray .int, 2) := by decide +kernel
theorem idX3_9 : decode icX3 9 = .ok (.putfield 9, 3) := by decide +kernel
theorem idX3_12 : decode icX3 12 = .ok (.aload_n 0, 1) := by decide +kernel
theorem idX3_13 : decode icX3 13 = .ok (.bipush 95, 2) := by decide +kernel
theorem idX3_15 : decode icX3 15 = .ok (.newarray .int, 2) := by decide +kernel
theorem idX3_17 : decode icX3 17 = .ok (.putfield 13, 3) := by decide +kernel
theorem idX3_20 : decode icX3 20 = .ok (.aload_n 0, 1) := by decide +kernel
theorem idX3_21 : decode icX3 21 = .ok (.bipush 95, 2) := by decide +kernel
theorem idX3_23 : decode icX3 23 = .ok (.newarray .int, 2) := by decide +kernel
theorem idX3_25 : decode icX3 25 = .ok (.putfield 16, 3) := by decide +kernel
theorem idX3_28 : decode icX3 28 = .ok (.aload_n 0, 1) := by decide +kernel
theorem idX3_29 : decode icX3 29 = .ok (.bipush 7, 2) := by decide +kernel
theorem idX3_31 : decode icX3 31 = .ok (.newarray .int, 2) := by decide +kernel
theorem idX3_33 : decode icX3 33 = .ok (.putfield 19, 3) := by decide +kernel
theorem idX3_36 : decode icX3 36 = .ok (.aload_n 0, 1) := by decide +kernel
theorem idX3_37 : decode icX3 37 = .ok (.bipush 120, 2) := by decide +kernel
theorem idX3_39 : decode icX3 39 = .ok (.newarray .int, 2) := by decide +kernel
theorem idX3_41 : decode icX3 41 = .ok (.putfield 22, 3) := by decide +kernel
theorem idX3_44 : decode icX3 44 = .ok (.aload_n 0, 1) := by decide +kernel
theorem idX3_45 : decode icX3 45 = .ok (.iconst 4, 1) := by decide +kernel
theorem idX3_46 : decode icX3 46 = .ok (.newarray .int, 2) := by decide +kernel
theorem idX3_48 : decode icX3 48 = .ok (.putfield 25, 3) := by decide +kernel
theorem idX3_51 : decode icX3 51 = .ok (.aload_n 0, 1) := by decide +kernel
theorem idX3_52 : decode icX3 52 = .ok (.iconst 4, 1) := by decide +kernel
theorem idX3_53 : decode icX3 53 = .ok (.newarray .int, 2) := by decide +kernel
theorem idX3_55 : decode icX3 55 = .ok (.putfield 28, 3) := by decide +kernel
theorem idX3_58 : decode icX3 58 = .ok (.aload_n 0, 1) := by decide +kernel
theorem idX3_59 : decode icX3 59 = .ok (.sipush 160, 3) := by decide +kernel
theorem idX3_62 : decode icX3 62 = .ok (.newarray .int, 2) := by decide +kernel
theorem idX3_64 : decode icX3 64 = .ok (.putfield 31, 3) := by decide +kernel
theorem idX3_67 : decode icX3 67 = .ok (.aload_n 0, 1) := by decide +kernel
theorem idX3_68 : decode icX3 68 = .ok (.bipush 40, 2) := by decide +kernel
theorem idX3_70 : decode icX3 70 = .ok (.newarray .int, 2) := by decide +kernel
theorem idX3_72 : decode icX3 72 = .ok (.putfield 34, 3) := by decide +kernel
theorem idX3_75 : decode icX3 75 = .ok (.aload_n 0, 1) := by decide +kernel
theorem idX3_76 : decode icX3 76 = .ok (.getfield 9, 3) := by decide +kernel
theorem idX3_79 : decode icX3 79 = .ok (.iconst 1, 1) := by decide +kernel
theorem idX3_80 : decode icX3 80 = .ok (.iconst 1, 1) := by decide +kernel
theorem idX3_81 : decode icX3 81 = .ok (.iastore, 1) := by decide +kernel
theorem idX3_82 : decode icX3 82 = .ok (.aload_n 0, 1) := by decide +kernel
theorem idX3_83 : decode icX3 83 = .ok (.getfield 9, 3) := by decide +kernel
theorem idX3_86 : decode icX3 86 = .ok (.iconst 3, 1) := by decide +kernel
theorem idX3_87 : decode icX3 87 = .ok (.iconst 2, 1) := by decide +kernel
theorem idX3_88 : decode icX3 88 = .ok (.iastore, 1) := by decide +kernel
theorem idX3_89 : decode icX3 89 = .ok (.iconst 0, 1) := by decide +kernel
theorem idX3_90 : decode icX3 90 = .ok (.istore_n 1, 1) := by decide +kernel
theorem idX3_91 : decode icX3 91 = .ok (.iload_n 1, 1) := by decide +kernel
theorem idX3_92 : decode icX3 92 = .ok (.bipush 12, 2) := by decide +kernel
theorem idX3_94 : decode icX3 94 = .ok (.if_icmp .ge 19, 3) := by decide +kernel
theorem idX3_97 : decode icX3 97 = .ok (.aload_n 0, 1) := by decide +kernel
theorem idX3_98 : decode icX3 98 = .ok (.getfield 9, 3) := by decide +kernel
theorem idX3_101 : decode icX3 101 = .ok (.iconst 5, 1) := by decide +kernel
theorem idX3_102 : decode icX3 102 = .ok (.iload_n 1, 1) := by decide +kernel
theorem idX3_103 : decode icX3 103 = .ok (.iadd, 1) := by decide +kernel
theorem idX3_104 : decode icX3 104 = .ok (.bipush 50, 2) := by decide +kernel
theorem idX3_106 : decode icX3 106 = .ok (.iastore, 1) := by decide +kernel
theorem idX3_107 : decode icX3 107 = .ok (.iinc 1 1, 3) := by decide +kernel
theorem idX3_110 : decode icX3 110 = .ok (.goto (-19), 3) := by decide +kernel
theorem idX3_113 : decode icX3 113 = .ok (.iconst 0, 1) := by decide +kernel
theorem idX3_114 : decode icX3 114 = .ok (.istore_n 1, 1) := by decide +kernel
theorem idX3_115 : decode icX3 115 = .ok (.iload_n 1, 1) := by decide +kernel
theorem idX3_116 : decode icX3 116 = .ok (.bipush 10, 2) := by decide +kernel
theorem idX3_118 : decode icX3 118 = .ok (.if_icmp .ge 19, 3) := by decide +kernel
theorem idX3_121 : decode icX3 121 = .ok (.aload_n 0, 1) := by decide +kernel
theorem idX3_122 : decode icX3 122 = .ok (.getfield 9, 3) := by decide +kernel
theorem idX3_125 : decode icX3 125 = .ok (.bipush 85, 2) := by decide +kernel
theorem idX3_127 : decode icX3 127 = .ok (.iload_n 1, 1) := by decide +kernel
theorem idX3_128 : decode icX3 128 = .ok (.iadd, 1) := by decide +kernel
theorem idX3_129 : decode icX3 129 = .ok (.iconst (-1), 1) := by decide +kernel
theorem idX3_130 : decode icX3 130 = .ok (.iastore, 1) := by decide +kernel
theorem idX3_131 : decode icX3 131 = .ok (.iinc 1 1, 3) := by decide +kernel
theorem idX3_134 : decode icX3 134 = .ok (.goto (-19), 3) := by decide +kernel
theorem idX3_137 : decode icX3 137 = .ok (.return_, 1) := by decide +kernel
theorem iw_95 : Cond.code iyX0 icX0 2 none ∈ bm_T := bm_one 95 (by decide +kernel) (by decide +kernel)
theorem igX0 : GoodIn bm_T ivX0 := by
  intro w hw
  rcases List.mem_cons.mp hw with rfl | hw
  · exact ⟨iw_95, good_of_word rfl⟩
  · exact ⟨hw, good_of_word (List.mem_filter.mp hw).2⟩
theorem iw_170 : Cond.code iyX1 icX1 1 none ∈ bm_T := bm_one 170 (by decide +kernel) (by decide +kernel)
theorem igX1 : GoodIn bm_T ivX1 := by
  intro w hw
  rcases List.mem_cons.mp hw with rfl | hw
  · exact ⟨iw_170, good_of_word rfl⟩
  · exact ⟨hw, good_of_word (List.mem_filter.mp hw).2⟩
theorem iw_87 : Cond.code iyX2 icX2 1 none ∈ bm_T := bm_one 87 (by decide +kernel) (by decide +kernel)
theorem igX2 : GoodIn bm_T ivX2 := by
  intro w hw
  rcases List.mem_cons.mp hw with rfl | hw
  · exact ⟨iw_87, good_of_word rfl⟩
  · exact ⟨hw, good_of_word (List.mem_filter.mp hw).2⟩
theorem iw_726 : Cond.code iyX3 icX3 2 none ∈ bm_T := bm_one 726 (by decide +kernel) (by decide +kernel)
theorem igX3 : GoodIn bm_T ivX3 := by
  intro w hw
  rcases List.mem_cons.mp hw with rfl | hw
  · exact ⟨iw_726, good_of_word rfl⟩
  · exact ⟨hw, good_of_word (List.mem_filter.mp hw).2⟩
theorem idL_0 : decode code 0 = .ok (.new 7, 3) := by decide +kernel
theorem idL_3 : decode code 3 = .ok (.dup, 1) := by decide +kernel
theorem idL_4 : decode code 4 = .ok (.invokespecial 9, 3) := by decide +kernel
theorem idL_7 : decode code 7 = .ok (.astore_n 1, 1) := by decide +kernel
theorem idL_8 : decode code 8 = .ok (.new 10, 3) := by decide +kernel
theorem idL_11 : decode code 11 = .ok (.dup, 1) := by decide +kernel
theorem idL_12 : decode code 12 = .ok (.invokespecial 12, 3) := by decide +kernel
theorem idL_15 : decode code 15 = .ok (.astore_n 2, 1) := by decide +kernel
theorem iw_165 : Cond.arrayClass .int ∈ bm_T := bm_one 165 (by decide +kernel) (by decide +kernel)
theorem iw_96 : Cond.methodLink RX0 3 objectInit ∈ bm_T := bm_one 96 (by decide +kernel) (by decide +kernel)
theorem iw_89 : Cond.instanceMethod objectInit ∈ bm_T := bm_one 89 (by decide +kernel) (by decide +kernel)
theorem iw_90 : Cond.code objectInit ⟨#[0xb1]⟩ 1 none ∈ bm_T := bm_one 90 (by decide +kernel) (by decide +kernel)
theorem iw_97 : Cond.fieldLink RX0 9 "BellMilk$Herd" "grass" "[I" ∈ bm_T := bm_one 97 (by decide +kernel) (by decide +kernel)
theorem iw_100 : Cond.fieldLink RX0 15 "BellMilk$Herd" "pails" "[I" ∈ bm_T := bm_one 100 (by decide +kernel) (by decide +kernel)
theorem iw_102 : Cond.fieldLink RX0 18 "BellMilk$Herd" "spots" "[I" ∈ bm_T := bm_one 102 (by decide +kernel) (by decide +kernel)
theorem iw_104 : Cond.fieldLink RX0 21 "BellMilk$Herd" "grows" "I" ∈ bm_T := bm_one 104 (by decide +kernel) (by decide +kernel)
theorem iw_107 : Cond.fieldLink RX0 25 "BellMilk$Herd" "thunder" "I" ∈ bm_T := bm_one 107 (by decide +kernel) (by decide +kernel)
theorem iw_110 : Cond.fieldLink RX0 28 "BellMilk$Herd" "hour" "I" ∈ bm_T := bm_one 110 (by decide +kernel) (by decide +kernel)
theorem iw_112 : Cond.fieldLink RX0 31 "BellMilk$Herd" "z" "I" ∈ bm_T := bm_one 112 (by decide +kernel) (by decide +kernel)
theorem iw_114 : Cond.fieldLink RX0 34 "BellMilk$Herd" "cows" "I" ∈ bm_T := bm_one 114 (by decide +kernel) (by decide +kernel)
theorem iw_117 : Cond.fieldLink RX0 37 "BellMilk$Herd" "kind" "[I" ∈ bm_T := bm_one 117 (by decide +kernel) (by decide +kernel)
theorem iw_119 : Cond.fieldLink RX0 40 "BellMilk$Herd" "place" "[I" ∈ bm_T := bm_one 119 (by decide +kernel) (by decide +kernel)
theorem iw_122 : Cond.fieldLink RX0 43 "BellMilk$Herd" "tone" "[I" ∈ bm_T := bm_one 122 (by decide +kernel) (by decide +kernel)
theorem iw_125 : Cond.fieldLink RX0 46 "BellMilk$Herd" "swings" "[I" ∈ bm_T := bm_one 125 (by decide +kernel) (by decide +kernel)
theorem iw_128 : Cond.fieldLink RX0 49 "BellMilk$Herd" "wear" "[I" ∈ bm_T := bm_one 128 (by decide +kernel) (by decide +kernel)
theorem iw_129 : Cond.fieldLink RX0 52 "BellMilk$Herd" "rung" "[I" ∈ bm_T := bm_one 129 (by decide +kernel) (by decide +kernel)
theorem iw_131 : Cond.fieldLink RX0 55 "BellMilk$Herd" "muffled" "[I" ∈ bm_T := bm_one 131 (by decide +kernel) (by decide +kernel)
theorem iw_171 : Cond.methodLink RX1 3 objectInit ∈ bm_T := bm_one 171 (by decide +kernel) (by decide +kernel)
theorem iw_172 : Cond.fieldLink RX1 9 "BellMilk$Tape" "bytes" "[I" ∈ bm_T := bm_one 172 (by decide +kernel) (by decide +kernel)
theorem iw_173 : Cond.fieldLink RX1 15 "BellMilk$Tape" "length" "I" ∈ bm_T := bm_one 173 (by decide +kernel) (by decide +kernel)
theorem iw_175 : Cond.fieldLink RX1 19 "BellMilk$Tape" "token" "I" ∈ bm_T := bm_one 175 (by decide +kernel) (by decide +kernel)
theorem iw_176 : Cond.fieldLink RX1 22 "BellMilk$Tape" "begin" "I" ∈ bm_T := bm_one 176 (by decide +kernel) (by decide +kernel)
theorem iw_178 : Cond.fieldLink RX1 25 "BellMilk$Tape" "end" "I" ∈ bm_T := bm_one 178 (by decide +kernel) (by decide +kernel)
theorem iw_179 : Cond.fieldLink RX1 28 "BellMilk$Tape" "value" "I" ∈ bm_T := bm_one 179 (by decide +kernel) (by decide +kernel)
theorem iw_180 : Cond.fieldLink RX1 31 "BellMilk$Tape" "items" "I" ∈ bm_T := bm_one 180 (by decide +kernel) (by decide +kernel)
theorem iw_727 : Cond.methodLink RX3 3 objectInit ∈ bm_T := bm_one 727 (by decide +kernel) (by decide +kernel)
theorem iw_728 : Cond.fieldLink RX3 9 "BellMilkModel" "s" "[I" ∈ bm_T := bm_one 728 (by decide +kernel) (by decide +kernel)
theorem iw_729 : Cond.fieldLink RX3 13 "BellMilkModel" "kept" "[I" ∈ bm_T := bm_one 729 (by decide +kernel) (by decide +kernel)
theorem iw_730 : Cond.fieldLink RX3 16 "BellMilkModel" "aside" "[I" ∈ bm_T := bm_one 730 (by decide +kernel) (by decide +kernel)
theorem iw_732 : Cond.fieldLink RX3 19 "BellMilkModel" "found" "[I" ∈ bm_T := bm_one 732 (by decide +kernel) (by decide +kernel)
theorem iw_736 : Cond.fieldLink RX3 22 "BellMilkModel" "tape" "[I" ∈ bm_T := bm_one 736 (by decide +kernel) (by decide +kernel)
theorem iw_741 : Cond.fieldLink RX3 25 "BellMilkModel" "bitsOf" "[I" ∈ bm_T := bm_one 741 (by decide +kernel) (by decide +kernel)
theorem iw_742 : Cond.fieldLink RX3 28 "BellMilkModel" "sizeOf" "[I" ∈ bm_T := bm_one 742 (by decide +kernel) (by decide +kernel)
theorem iw_743 : Cond.fieldLink RX3 31 "BellMilkModel" "number" "[I" ∈ bm_T := bm_one 743 (by decide +kernel) (by decide +kernel)
theorem iw_744 : Cond.fieldLink RX3 34 "BellMilkModel" "moved" "[I" ∈ bm_T := bm_one 744 (by decide +kernel) (by decide +kernel)
theorem iw_88 : Cond.methodLink RX2 1 objectInit ∈ bm_T := bm_one 88 (by decide +kernel) (by decide +kernel)
theorem iw_91 : Cond.classLink RX2 7 RX0 ∈ bm_T := bm_one 91 (by decide +kernel) (by decide +kernel)
theorem iw_92 : Cond.instantiable RX0 15 ∈ bm_T := bm_one 92 (by decide +kernel) (by decide +kernel)
theorem iw_73 : Cond.initialized RX0 ∈ bm_T := bm_one 73 (by decide +kernel) (by decide +kernel)
theorem iw_94 : Cond.instanceMethod iyX0 ∈ bm_T := bm_one 94 (by decide +kernel) (by decide +kernel)
theorem iw_93 : Cond.methodLink RX2 9 iyX0 ∈ bm_T := bm_one 93 (by decide +kernel) (by decide +kernel)
theorem iw_199 : Cond.fieldLink RX2 10 "BellMilk" "herd" "LBellMilk$Herd;" ∈ bm_T := bm_one 199 (by decide +kernel) (by decide +kernel)
theorem iw_200 : Cond.fieldLink RX2 16 "BellMilk" "trial" "LBellMilk$Herd;" ∈ bm_T := bm_one 200 (by decide +kernel) (by decide +kernel)
theorem iw_201 : Cond.fieldLink RX2 19 "BellMilk" "kept" "LBellMilk$Herd;" ∈ bm_T := bm_one 201 (by decide +kernel) (by decide +kernel)
theorem iw_166 : Cond.classLink RX2 22 RX1 ∈ bm_T := bm_one 166 (by decide +kernel) (by decide +kernel)
theorem iw_167 : Cond.instantiable RX1 7 ∈ bm_T := bm_one 167 (by decide +kernel) (by decide +kernel)
theorem iw_74 : Cond.initialized RX1 ∈ bm_T := bm_one 74 (by decide +kernel) (by decide +kernel)
theorem iw_169 : Cond.instanceMethod iyX1 ∈ bm_T := bm_one 169 (by decide +kernel) (by decide +kernel)
theorem iw_203 : Cond.fieldLink RX2 25 "BellMilk" "tape" "LBellMilk$Tape;" ∈ bm_T := bm_one 203 (by decide +kernel) (by decide +kernel)
theorem iw_197 : Cond.classLink RX2 29 "[[I" ∈ bm_T := bm_one 197 (by decide +kernel) (by decide +kernel)
theorem iw_204 : Cond.fieldLink RX2 31 "BellMilk" "sheetNumbers" "[[I" ∈ bm_T := bm_one 204 (by decide +kernel) (by decide +kernel)
theorem iw_205 : Cond.fieldLink RX2 34 "BellMilk" "sheetSize" "[I" ∈ bm_T := bm_one 205 (by decide +kernel) (by decide +kernel)
theorem iw_206 : Cond.fieldLink RX2 38 "BellMilk" "sheetBits" "[I" ∈ bm_T := bm_one 206 (by decide +kernel) (by decide +kernel)
theorem iw_207 : Cond.fieldLink RX2 41 "BellMilk" "told" "[I" ∈ bm_T := bm_one 207 (by decide +kernel) (by decide +kernel)
theorem iw_208 : Cond.fieldLink RX2 44 "BellMilk" "saved" "[I" ∈ bm_T := bm_one 208 (by decide +kernel) (by decide +kernel)
