theorem dX6_init_0 : decode cX6_init 0 = .ok (.aload_n 0, 1) := by decide +kernel
theorem dX6_init_1 : decode cX6_init 1 = .ok (.invokespecial 1, 3) := by decide +kernel
theorem dX6_init_4 : decode cX6_init 4 = .ok (.aload_n 0, 1) := by decide +kernel
theorem dX6_init_5 : decode cX6_init 5 = .ok (.sipush 200, 3) := by decide +kernel
theorem dX6_init_8 : decode cX6_init 8 = .ok (.newarray .int, 2) := by decide +kernel
theorem dX6_init_10 : decode cX6_init 10 = .ok (.putfield 7, 3) := by decide +kernel
theorem dX6_init_13 : decode cX6_init 13 = .ok (.aload_n 0, 1) := by decide +kernel
theorem dX6_init_14 : decode cX6_init 14 = .ok (.bipush 7, 2) := by decide +kernel
theorem dX6_init_16 : decode cX6_init 16 = .ok (.newarray .int, 2) := by decide +kernel
theorem dX6_init_18 : decode cX6_init 18 = .ok (.putfield 13, 3) := by decide +kernel
theorem dX6_init_21 : decode cX6_init 21 = .ok (.aload_n 0, 1) := by decide +kernel
theorem dX6_init_22 : decode cX6_init 22 = .ok (.bipush 7, 2) := by decide +kernel
theorem dX6_init_24 : decode cX6_init 24 = .ok (.newarray .int, 2) := by decide +kernel
theorem dX6_init_26 : decode cX6_init 26 = .ok (.putfield 16, 3) := by decide +kernel
theorem dX6_init_29 : decode cX6_init 29 = .ok (.aload_n 0, 1) := by decide +kernel
theorem dX6_init_30 : decode cX6_init 30 = .ok (.bipush 7, 2) := by decide +kernel
theorem dX6_init_32 : decode cX6_init 32 = .ok (.newarray .int, 2) := by decide +kernel
theorem dX6_init_34 : decode cX6_init 34 = .ok (.putfield 19, 3) := by decide +kernel
theorem dX6_init_37 : decode cX6_init 37 = .ok (.aload_n 0, 1) := by decide +kernel
theorem dX6_init_38 : decode cX6_init 38 = .ok (.bipush 7, 2) := by decide +kernel
theorem dX6_init_40 : decode cX6_init 40 = .ok (.newarray .int, 2) := by decide +kernel
theorem dX6_init_42 : decode cX6_init 42 = .ok (.putfield 22, 3) := by decide +kernel
theorem dX6_init_45 : decode cX6_init 45 = .ok (.aload_n 0, 1) := by decide +kernel
theorem dX6_init_46 : decode cX6_init 46 = .ok (.iconst 2, 1) := by decide +kernel
theorem dX6_init_47 : decode cX6_init 47 = .ok (.putfield 25, 3) := by decide +kernel
theorem dX6_init_50 : decode cX6_init 50 = .ok (.aload_n 0, 1) := by decide +kernel
theorem dX6_init_51 : decode cX6_init 51 = .ok (.iconst 5, 1) := by decide +kernel
theorem dX6_init_52 : decode cX6_init 52 = .ok (.putfield 29, 3) := by decide +kernel
theorem dX6_init_55 : decode cX6_init 55 = .ok (.aload_n 0, 1) := by decide +kernel
theorem dX6_init_56 : decode cX6_init 56 = .ok (.bipush 9, 2) := by decide +kernel
theorem dX6_init_58 : decode cX6_init 58 = .ok (.putfield 32, 3) := by decide +kernel
theorem dX6_init_61 : decode cX6_init 61 = .ok (.aload_n 0, 1) := by decide +kernel
theorem dX6_init_62 : decode cX6_init 62 = .ok (.iconst 1, 1) := by decide +kernel
theorem dX6_init_63 : decode cX6_init 63 = .ok (.putfield 35, 3) := by decide +kernel
theorem dX6_init_66 : decode cX6_init 66 = .ok (.aload_n 0, 1) := by decide +kernel
theorem dX6_init_67 : decode cX6_init 67 = .ok (.bipush 20, 2) := by decide +kernel
theorem dX6_init_69 : decode cX6_init 69 = .ok (.newarray .int, 2) := by decide +kernel
theorem dX6_init_71 : decode cX6_init 71 = .ok (.putfield 38, 3) := by decide +kernel
theorem dX6_init_74 : decode cX6_init 74 = .ok (.aload_n 0, 1) := by decide +kernel
theorem dX6_init_75 : decode cX6_init 75 = .ok (.bipush 8, 2) := by decide +kernel
theorem dX6_init_77 : decode cX6_init 77 = .ok (.newarray .int, 2) := by decide +kernel
theorem dX6_init_79 : decode cX6_init 79 = .ok (.putfield 41, 3) := by decide +kernel
theorem dX6_init_82 : decode cX6_init 82 = .ok (.aload_n 0, 1) := by decide +kernel
theorem dX6_init_83 : decode cX6_init 83 = .ok (.bipush 8, 2) := by decide +kernel
theorem dX6_init_85 : decode cX6_init 85 = .ok (.newarray .int, 2) := by decide +kernel
theorem dX6_init_87 : decode cX6_init 87 = .ok (.putfield 44, 3) := by decide +kernel
theorem dX6_init_90 : decode cX6_init 90 = .ok (.aload_n 0, 1) := by decide +kernel
theorem dX6_init_91 : decode cX6_init 91 = .ok (.bipush 8, 2) := by decide +kernel
theorem dX6_init_93 : decode cX6_init 93 = .ok (.newarray .int, 2) := by decide +kernel
theorem dX6_init_95 : decode cX6_init 95 = .ok (.putfield 47, 3) := by decide +kernel
theorem dX6_init_98 : decode cX6_init 98 = .ok (.aload_n 0, 1) := by decide +kernel
theorem dX6_init_99 : decode cX6_init 99 = .ok (.bipush 60, 2) := by decide +kernel
theorem dX6_init_101 : decode cX6_init 101 = .ok (.newarray .int, 2) := by decide +kernel
theorem dX6_init_103 : decode cX6_init 103 = .ok (.putfield 50, 3) := by decide +kernel
theorem dX6_init_106 : decode cX6_init 106 = .ok (.aload_n 0, 1) := by decide +kernel
theorem dX6_init_107 : decode cX6_init 107 = .ok (.bipush 28, 2) := by decide +kernel
theorem dX6_init_109 : decode cX6_init 109 = .ok (.newarray .int, 2) := by decide +kernel
theorem dX6_init_111 : decode cX6_init 111 = .ok (.putfield 53, 3) := by decide +kernel
theorem dX6_init_114 : decode cX6_init 114 = .ok (.aload_n 0, 1) := by decide +kernel
theorem dX6_init_115 : decode cX6_init 115 = .ok (.bipush 7, 2) := by decide +kernel
theorem dX6_init_117 : decode cX6_init 117 = .ok (.newarray .int, 2) := by decide +kernel
theorem dX6_init_119 : decode cX6_init 119 = .ok (.putfield 56, 3) := by decide +kernel
theorem dX6_init_122 : decode cX6_init 122 = .ok (.aload_n 0, 1) := by decide +kernel
theorem dX6_init_123 : decode cX6_init 123 = .ok (.iconst 4, 1) := by decide +kernel
theorem dX6_init_124 : decode cX6_init 124 = .ok (.newarray .int, 2) := by decide +kernel
theorem dX6_init_126 : decode cX6_init 126 = .ok (.putfield 59, 3) := by decide +kernel
theorem dX6_init_129 : decode cX6_init 129 = .ok (.aload_n 0, 1) := by decide +kernel
theorem dX6_init_130 : decode cX6_init 130 = .ok (.sipush 256, 3) := by decide +kernel
theorem dX6_init_133 : decode cX6_init 133 = .ok (.newarray .int, 2) := by decide +kernel
theorem dX6_init_135 : decode cX6_init 135 = .ok (.putfield 62, 3) := by decide +kernel
theorem dX6_init_138 : decode cX6_init 138 = .ok (.aload_n 0, 1) := by decide +kernel
theorem dX6_init_139 : decode cX6_init 139 = .ok (.sipush 256, 3) := by decide +kernel
theorem dX6_init_142 : decode cX6_init 142 = .ok (.newarray .int, 2) := by decide +kernel
theorem dX6_init_144 : decode cX6_init 144 = .ok (.putfield 65, 3) := by decide +kernel
theorem dX6_init_147 : decode cX6_init 147 = .ok (.aload_n 0, 1) := by decide +kernel
theorem dX6_init_148 : decode cX6_init 148 = .ok (.sipush 256, 3) := by decide +kernel
theorem dX6_init_151 : decode cX6_init 151 = .ok (.newarray .boolean, 2) := by decide +kernel
theorem dX6_init_153 : decode cX6_init 153 = .ok (.putfield 68, 3) := by decide +kernel
theorem dX6_init_156 : decode cX6_init 156 = .ok (.aload_n 0, 1) := by decide +kernel
theorem dX6_init_157 : decode cX6_init 157 = .ok (.sipush 256, 3) := by decide +kernel
theorem dX6_init_160 : decode cX6_init 160 = .ok (.newarray .int, 2) := by decide +kernel
theorem dX6_init_162 : decode cX6_init 162 = .ok (.putfield 72, 3) := by decide +kernel
theorem dX6_init_165 : decode cX6_init 165 = .ok (.aload_n 0, 1) := by decide +kernel
theorem dX6_init_166 : decode cX6_init 166 = .ok (.sipush 256, 3) := by decide +kernel
theorem dX6_init_169 : decode cX6_init 169 = .ok (.newarray .long, 2) := by decide +kernel
theorem dX6_init_171 : decode cX6_init 171 = .ok (.putfield 75, 3) := by decide +kernel
theorem dX6_init_174 : decode cX6_init 174 = .ok (.aload_n 0, 1) := by decide +kernel
theorem dX6_init_175 : decode cX6_init 175 = .ok (.sipush 256, 3) := by decide +kernel
theorem dX6_init_178 : decode cX6_init 178 = .ok (.newarray .long, 2) := by decide +kernel
theorem dX6_init_180 : decode cX6_init 180 = .ok (.putfield 79, 3) := by decide +kernel
theorem dX6_init_183 : decode cX6_init 183 = .ok (.return_, 1) := by decide +kernel
theorem dX6_in_0 : decode cX6_in 0 = .ok (.lload_n 0, 1) := by decide +kernel
theorem dX6_in_1 : decode cX6_in 1 = .ok (.lload_n 2, 1) := by decide +kernel
theorem dX6_in_2 : decode cX6_in 2 = .ok (.lcmp, 1) := by decide +kernel
theorem dX6_in_3 : decode cX6_in 3 = .ok (.ifCond .lt 14, 3) := by decide +kernel
theorem dX6_in_6 : decode cX6_in 6 = .ok (.lload_n 0, 1) := by decide +kernel
theorem dX6_in_7 : decode cX6_in 7 = .ok (.lload 4, 2) := by decide +kernel
theorem dX6_in_9 : decode cX6_in 9 = .ok (.lcmp, 1) := by decide +kernel
theorem dX6_in_10 : decode cX6_in 10 = .ok (.ifCond .gt 7, 3) := by decide +kernel
theorem dX6_in_13 : decode cX6_in 13 = .ok (.iconst 1, 1) := by decide +kernel
theorem dX6_in_14 : decode cX6_in 14 = .ok (.goto 4, 3) := by decide +kernel
theorem dX6_in_17 : decode cX6_in 17 = .ok (.iconst 0, 1) := by decide +kernel
theorem dX6_in_18 : decode cX6_in 18 = .ok (.ireturn, 1) := by decide +kernel
theorem dX6_has_0 : decode cX6_has 0 = .ok (.iload_n 0, 1) := by decide +kernel
theorem dX6_has_1 : decode cX6_has 1 = .ok (.iload_n 1, 1) := by decide +kernel
theorem dX6_has_2 : decode cX6_has 2 = .ok (.ishr, 1) := by decide +kernel
theorem dX6_has_3 : decode cX6_has 3 = .ok (.iconst 1, 1) := by decide +kernel
theorem dX6_has_4 : decode cX6_has 4 = .ok (.iand, 1) := by decide +kernel
theorem dX6_has_5 : decode cX6_has 5 = .ok (.iconst 1, 1) := by decide +kernel
theorem dX6_has_6 : decode cX6_has 6 = .ok (.if_icmp .ne 7, 3) := by decide +kernel
theorem dX6_has_9 : decode cX6_has 9 = .ok (.iconst 1, 1) := by decide +kernel
theorem dX6_has_10 : decode cX6_has 10 = .ok (.goto 4, 3) := by decide +kernel
theorem dX6_has_13 : decode cX6_has 13 = .ok (.iconst 0, 1) := by decide +kernel
theorem dX6_has_14 : decode cX6_has 14 = .ok (.ireturn, 1) := by decide +kernel
theorem dX6_bits_0 : decode cX6_bits 0 = .ok (.iconst 0, 1) := by decide +kernel
theorem dX6_bits_1 : decode cX6_bits 1 = .ok (.istore_n 1, 1) := by decide +kernel
theorem dX6_bits_2 : decode cX6_bits 2 = .ok (.iload_n 0, 1) := by decide +kernel
theorem dX6_bits_3 : decode cX6_bits 3 = .ok (.istore_n 2, 1) := by decide +kernel
theorem dX6_bits_4 : decode cX6_bits 4 = .ok (.iload_n 2, 1) := by decide +kernel
theorem dX6_bits_5 : decode cX6_bits 5 = .ok (.ifCond .eq 15, 3) := by decide +kernel
theorem dX6_bits_8 : decode cX6_bits 8 = .ok (.iinc 1 1, 3) := by decide +kernel
theorem dX6_bits_11 : decode cX6_bits 11 = .ok (.iload_n 2, 1) := by decide +kernel
theorem dX6_bits_12 : decode cX6_bits 12 = .ok (.iload_n 2, 1) := by decide +kernel
theorem dX6_bits_13 : decode cX6_bits 13 = .ok (.iconst 1, 1) := by decide +kernel
theorem dX6_bits_14 : decode cX6_bits 14 = .ok (.isub, 1) := by decide +kernel
theorem dX6_bits_15 : decode cX6_bits 15 = .ok (.iand, 1) := by decide +kernel
theorem dX6_bits_16 : decode cX6_bits 16 = .ok (.istore_n 2, 1) := by decide +kernel
theorem dX6_bits_17 : decode cX6_bits 17 = .ok (.goto (-13), 3) := by decide +kernel
theorem dX6_bits_20 : decode cX6_bits 20 = .ok (.iload_n 1, 1) := by decide +kernel
theorem dX6_bits_21 : decode cX6_bits 21 = .ok (.ireturn, 1) := by decide +kernel
theorem dX6_isThing_0 : decode cX6_isThing 0 = .ok (.iload_n 1, 1) := by decide +kernel
theorem dX6_isThing_1 : decode cX6_isThing 1 = .ok (.i2l, 1) := by decide +kernel
theorem dX6_isThing_2 : decode cX6_isThing 2 = .ok (.lconst 0, 1) := by decide +kernel
theorem dX6_isThing_3 : decode cX6_isThing 3 = .ok (.aload_n 0, 1) := by decide +kernel
theorem dX6_isThing_4 : decode cX6_isThing 4 = .ok (.getfield 82, 3) := by decide +kernel
theorem dX6_isThing_7 : decode cX6_isThing 7 = .ok (.iconst 1, 1) := by decide +kernel
theorem dX6_isThing_8 : decode cX6_isThing 8 = .ok (.isub, 1) := by decide +kernel
theorem dX6_isThing_9 : decode cX6_isThing 9 = .ok (.i2l, 1) := by decide +kernel
theorem dX6_isThing_10 : decode cX6_isThing 10 = .ok (.invokestatic 85, 3) := by decide +kernel
theorem dX6_isThing_13 : decode cX6_isThing 13 = .ok (.ireturn, 1) := by decide +kernel
theorem dX6_type_0 : decode cX6_type 0 = .ok (.iload_n 3, 1) := by decide +kernel
theorem dX6_type_1 : decode cX6_type 1 = .ok (.i2l, 1) := by decide +kernel
theorem dX6_type_2 : decode cX6_type 2 = .ok (.lconst 1, 1) := by decide +kernel
theorem dX6_type_3 : decode cX6_type 3 = .ok (.ldc2_w 89, 3) := by decide +kernel
theorem dX6_type_6 : decode cX6_type 6 = .ok (.invokestatic 85, 3) := by decide +kernel
theorem dX6_type_9 : decode cX6_type 9 = .ok (.ifCond .ne 5, 3) := by decide +kernel
theorem dX6_type_12 : decode cX6_type 12 = .ok (.iconst (-1), 1) := by decide +kernel
theorem dX6_type_13 : decode cX6_type 13 = .ok (.ireturn, 1) := by decide +kernel
theorem dX6_type_14 : decode cX6_type 14 = .ok (.aload_n 0, 1) := by decide +kernel
theorem dX6_type_15 : decode cX6_type 15 = .ok (.getfield 91, 3) := by decide +kernel
theorem dX6_type_18 : decode cX6_type 18 = .ok (.iload_n 3, 1) := by decide +kernel
theorem dX6_type_19 : decode cX6_type 19 = .ok (.iadd, 1) := by decide +kernel
theorem dX6_type_20 : decode cX6_type 20 = .ok (.sipush 200, 3) := by decide +kernel
theorem dX6_type_23 : decode cX6_type 23 = .ok (.if_icmp .le 6, 3) := by decide +kernel
theorem dX6_type_26 : decode cX6_type 26 = .ok (.bipush (-3), 2) := by decide +kernel
theorem dX6_type_28 : decode cX6_type 28 = .ok (.ireturn, 1) := by decide +kernel
theorem dX6_type_29 : decode cX6_type 29 = .ok (.iload_n 3, 1) := by decide +kernel
theorem dX6_type_30 : decode cX6_type 30 = .ok (.iconst 1, 1) := by decide +kernel
theorem dX6_type_31 : decode cX6_type 31 = .ok (.isub, 1) := by decide +kernel
theorem dX6_type_32 : decode cX6_type 32 = .ok (.istore 4, 2) := by decide +kernel
theorem dX6_type_34 : decode cX6_type 34 = .ok (.iload 4, 2) := by decide +kernel
theorem dX6_type_36 : decode cX6_type 36 = .ok (.ifCond .lt 40, 3) := by decide +kernel
theorem dX6_type_39 : decode cX6_type 39 = .ok (.aload_n 0, 1) := by decide +kernel
theorem dX6_type_40 : decode cX6_type 40 = .ok (.getfield 7, 3) := by decide +kernel
theorem dX6_type_43 : decode cX6_type 43 = .ok (.aload_n 0, 1) := by decide +kernel
theorem dX6_type_44 : decode cX6_type 44 = .ok (.getfield 91, 3) := by decide +kernel
theorem dX6_type_47 : decode cX6_type 47 = .ok (.lload_n 1, 1) := by decide +kernel
theorem dX6_type_48 : decode cX6_type 48 = .ok (.bipush 8, 2) := by decide +kernel
theorem dX6_type_50 : decode cX6_type 50 = .ok (.iload 4, 2) := by decide +kernel
theorem dX6_type_52 : decode cX6_type 52 = .ok (.imul, 1) := by decide +kernel
theorem dX6_type_53 : decode cX6_type 53 = .ok (.lshr, 1) := by decide +kernel
theorem dX6_type_54 : decode cX6_type 54 = .ok (.ldc2_w 94, 3) := by decide +kernel
theorem dX6_type_57 : decode cX6_type 57 = .ok (.land, 1) := by decide +kernel
theorem dX6_type_58 : decode cX6_type 58 = .ok (.l2i, 1) := by decide +kernel
theorem dX6_type_59 : decode cX6_type 59 = .ok (.iastore, 1) := by decide +kernel
theorem dX6_type_60 : decode cX6_type 60 = .ok (.aload_n 0, 1) := by decide +kernel
theorem dX6_type_61 : decode cX6_type 61 = .ok (.dup, 1) := by decide +kernel
theorem dX6_type_62 : decode cX6_type 62 = .ok (.getfield 91, 3) := by decide +kernel
theorem dX6_type_65 : decode cX6_type 65 = .ok (.iconst 1, 1) := by decide +kernel
theorem dX6_type_66 : decode cX6_type 66 = .ok (.iadd, 1) := by decide +kernel
theorem dX6_type_67 : decode cX6_type 67 = .ok (.putfield 91, 3) := by decide +kernel
theorem dX6_type_70 : decode cX6_type 70 = .ok (.iinc 4 (-1), 3) := by decide +kernel
theorem dX6_type_73 : decode cX6_type 73 = .ok (.goto (-39), 3) := by decide +kernel
theorem dX6_type_76 : decode cX6_type 76 = .ok (.aload_n 0, 1) := by decide +kernel
theorem dX6_type_77 : decode cX6_type 77 = .ok (.getfield 91, 3) := by decide +kernel
theorem dX6_type_80 : decode cX6_type 80 = .ok (.ireturn, 1) := by decide +kernel
theorem dX6_clear_0 : decode cX6_clear 0 = .ok (.aload_n 0, 1) := by decide +kernel
theorem dX6_clear_1 : decode cX6_clear 1 = .ok (.getfield 91, 3) := by decide +kernel
theorem dX6_clear_4 : decode cX6_clear 4 = .ok (.istore_n 1, 1) := by decide +kernel
theorem dX6_clear_5 : decode cX6_clear 5 = .ok (.aload_n 0, 1) := by decide +kernel
theorem dX6_clear_6 : decode cX6_clear 6 = .ok (.iconst 0, 1) := by decide +kernel
theorem dX6_clear_7 : decode cX6_clear 7 = .ok (.putfield 91, 3) := by decide +kernel
theorem dX6_clear_10 : decode cX6_clear 10 = .ok (.iload_n 1, 1) := by decide +kernel
theorem dX6_clear_11 : decode cX6_clear 11 = .ok (.ireturn, 1) := by decide +kernel
theorem dX6_isLetter_0 : decode cX6_isLetter 0 = .ok (.iload_n 0, 1) := by decide +kernel
theorem dX6_isLetter_1 : decode cX6_isLetter 1 = .ok (.bipush 96, 2) := by decide +kernel
theorem dX6_isLetter_3 : decode cX6_isLetter 3 = .ok (.if_icmp .le 13, 3) := by decide +kernel
theorem dX6_isLetter_6 : decode cX6_isLetter 6 = .ok (.iload_n 0, 1) := by decide +kernel
theorem dX6_isLetter_7 : decode cX6_isLetter 7 = .ok (.bipush 123, 2) := by decide +kernel
theorem dX6_isLetter_9 : decode cX6_isLetter 9 = .ok (.if_icmp .ge 7, 3) := by decide +kernel
theorem dX6_isLetter_12 : decode cX6_isLetter 12 = .ok (.iconst 1, 1) := by decide +kernel
theorem dX6_isLetter_13 : decode cX6_isLetter 13 = .ok (.goto 4, 3) := by decide +kernel
theorem dX6_isLetter_16 : decode cX6_isLetter 16 = .ok (.iconst 0, 1) := by decide +kernel
theorem dX6_isLetter_17 : decode cX6_isLetter 17 = .ok (.ireturn, 1) := by decide +kernel
theorem dX6_isFigure_0 : decode cX6_isFigure 0 = .ok (.iload_n 0, 1) := by decide +kernel
theorem dX6_isFigure_1 : decode cX6_isFigure 1 = .ok (.bipush 47, 2) := by decide +kernel
theorem dX6_isFigure_3 : decode cX6_isFigure 3 = .ok (.if_icmp .le 13, 3) := by decide +kernel
theorem dX6_isFigure_6 : decode cX6_isFigure 6 = .ok (.iload_n 0, 1) := by decide +kernel
theorem dX6_isFigure_7 : decode cX6_isFigure 7 = .ok (.bipush 58, 2) := by decide +kernel
theorem dX6_isFigure_9 : decode cX6_isFigure 9 = .ok (.if_icmp .ge 7, 3) := by decide +kernel
theorem dX6_isFigure_12 : decode cX6_isFigure 12 = .ok (.iconst 1, 1) := by decide +kernel
theorem dX6_isFigure_13 : decode cX6_isFigure 13 = .ok (.goto 4, 3) := by decide +kernel
theorem dX6_isFigure_16 : decode cX6_isFigure 16 = .ok (.iconst 0, 1) := by decide +kernel
theorem dX6_isFigure_17 : decode cX6_isFigure 17 = .ok (.ireturn, 1) := by decide +kernel
theorem dX6_next_0 : decode cX6_next 0 = .ok (.aload_n 0, 1) := by decide +kernel
theorem dX6_next_1 : decode cX6_next 1 = .ok (.getfield 96, 3) := by decide +kernel
theorem dX6_next_4 : decode cX6_next 4 = .ok (.aload_n 0, 1) := by decide +kernel
theorem dX6_next_5 : decode cX6_next 5 = .ok (.getfield 91, 3) := by decide +kernel
theorem dX6_next_8 : decode cX6_next 8 = .ok (.if_icmp .ge 30, 3) := by decide +kernel
theorem dX6_next_11 : decode cX6_next 11 = .ok (.aload_n 0, 1) := by decide +kernel
theorem dX6_next_12 : decode cX6_next 12 = .ok (.getfield 7, 3) := by decide +kernel
theorem dX6_next_15 : decode cX6_next 15 = .ok (.aload_n 0, 1) := by decide +kernel
theorem dX6_next_16 : decode cX6_next 16 = .ok (.getfield 96, 3) := by decide +kernel
theorem dX6_next_19 : decode cX6_next 19 = .ok (.iaload, 1) := by decide +kernel
theorem dX6_next_20 : decode cX6_next 20 = .ok (.bipush 32, 2) := by decide +kernel
theorem dX6_next_22 : decode cX6_next 22 = .ok (.if_icmp .ne 16, 3) := by decide +kernel
theorem dX6_next_25 : decode cX6_next 25 = .ok (.aload_n 0, 1) := by decide +kernel
theorem dX6_next_26 : decode cX6_next 26 = .ok (.dup, 1) := by decide +kernel
theorem dX6_next_27 : decode cX6_next 27 = .ok (.getfield 96, 3) := by decide +kernel
theorem dX6_next_30 : decode cX6_next 30 = .ok (.iconst 1, 1) := by decide +kernel
theorem dX6_next_31 : decode cX6_next 31 = .ok (.iadd, 1) := by decide +kernel
theorem dX6_next_32 : decode cX6_next 32 = .ok (.putfield 96, 3) := by decide +kernel
theorem dX6_next_35 : decode cX6_next 35 = .ok (.goto (-35), 3) := by decide +kernel
theorem dX6_next_38 : decode cX6_next 38 = .ok (.aload_n 0, 1) := by decide +kernel
theorem dX6_next_39 : decode cX6_next 39 = .ok (.aload_n 0, 1) := by decide +kernel
theorem dX6_next_40 : decode cX6_next 40 = .ok (.getfield 96, 3) := by decide +kernel
theorem dX6_next_43 : decode cX6_next 43 = .ok (.putfield 99, 3) := by decide +kernel
theorem dX6_next_46 : decode cX6_next 46 = .ok (.aload_n 0, 1) := by decide +kernel
theorem dX6_next_47 : decode cX6_next 47 = .ok (.lconst 0, 1) := by decide +kernel
theorem dX6_next_48 : decode cX6_next 48 = .ok (.putfield 102, 3) := by decide +kernel
theorem dX6_next_51 : decode cX6_next 51 = .ok (.aload_n 0, 1) := by decide +kernel
theorem dX6_next_52 : decode cX6_next 52 = .ok (.getfield 96, 3) := by decide +kernel
theorem dX6_next_55 : decode cX6_next 55 = .ok (.aload_n 0, 1) := by decide +kernel
theorem dX6_next_56 : decode cX6_next 56 = .ok (.getfield 91, 3) := by decide +kernel
theorem dX6_next_59 : decode cX6_next 59 = .ok (.if_icmp .ge 15, 3) := by decide +kernel
theorem dX6_next_62 : decode cX6_next 62 = .ok (.aload_n 0, 1) := by decide +kernel
theorem dX6_next_63 : decode cX6_next 63 = .ok (.getfield 7, 3) := by decide +kernel
theorem dX6_next_66 : decode cX6_next 66 = .ok (.aload_n 0, 1) := by decide +kernel
theorem dX6_next_67 : decode cX6_next 67 = .ok (.getfield 96, 3) := by decide +kernel
theorem dX6_next_70 : decode cX6_next 70 = .ok (.iaload, 1) := by decide +kernel
theorem dX6_next_71 : decode cX6_next 71 = .ok (.goto 4, 3) := by decide +kernel
theorem dX6_next_74 : decode cX6_next 74 = .ok (.iconst (-1), 1) := by decide +kernel
theorem dX6_next_75 : decode cX6_next 75 = .ok (.istore_n 1, 1) := by decide +kernel
theorem dX6_next_76 : decode cX6_next 76 = .ok (.aload_n 0, 1) := by decide +kernel
theorem dX6_next_77 : decode cX6_next 77 = .ok (.iload_n 1, 1) := by decide +kernel
theorem dX6_next_78 : decode cX6_next 78 = .ok (.ifCond .ge 7, 3) := by decide +kernel
theorem dX6_next_81 : decode cX6_next 81 = .ok (.iconst 0, 1) := by decide +kernel
theorem dX6_next_82 : decode cX6_next 82 = .ok (.goto 36, 3) := by decide +kernel
theorem dX6_next_85 : decode cX6_next 85 = .ok (.iload_n 1, 1) := by decide +kernel
theorem dX6_next_86 : decode cX6_next 86 = .ok (.invokestatic 106, 3) := by decide +kernel
theorem dX6_next_89 : decode cX6_next 89 = .ok (.ifCond .eq 7, 3) := by decide +kernel
theorem dX6_next_92 : decode cX6_next 92 = .ok (.iconst 1, 1) := by decide +kernel
theorem dX6_next_93 : decode cX6_next 93 = .ok (.goto 25, 3) := by decide +kernel
theorem dX6_next_96 : decode cX6_next 96 = .ok (.iload_n 1, 1) := by decide +kernel
theorem dX6_next_97 : decode cX6_next 97 = .ok (.invokestatic 110, 3) := by decide +kernel
theorem dX6_next_100 : decode cX6_next 100 = .ok (.ifCond .eq 7, 3) := by decide +kernel
theorem dX6_next_103 : decode cX6_next 103 = .ok (.iconst 2, 1) := by decide +kernel
theorem dX6_next_104 : decode cX6_next 104 = .ok (.goto 14, 3) := by decide +kernel
theorem dX6_next_107 : decode cX6_next 107 = .ok (.iload_n 1, 1) := by decide +kernel
theorem dX6_next_108 : decode cX6_next 108 = .ok (.bipush 59, 2) := by decide +kernel
theorem dX6_next_110 : decode cX6_next 110 = .ok (.if_icmp .ne 7, 3) := by decide +kernel
theorem dX6_next_113 : decode cX6_next 113 = .ok (.iconst 3, 1) := by decide +kernel
theorem dX6_next_114 : decode cX6_next 114 = .ok (.goto 4, 3) := by decide +kernel
theorem dX6_next_117 : decode cX6_next 117 = .ok (.iconst 4, 1) := by decide +kernel
theorem dX6_next_118 : decode cX6_next 118 = .ok (.putfield 113, 3) := by decide +kernel
theorem dX6_next_121 : decode cX6_next 121 = .ok (.aload_n 0, 1) := by decide +kernel
theorem dX6_next_122 : decode cX6_next 122 = .ok (.dup, 1) := by decide +kernel
theorem dX6_next_123 : decode cX6_next 123 = .ok (.getfield 96, 3) := by decide +kernel
theorem dX6_next_126 : decode cX6_next 126 = .ok (.aload_n 0, 1) := by decide +kernel
theorem dX6_next_127 : decode cX6_next 127 = .ok (.getfield 113, 3) := by decide +kernel
theorem dX6_next_130 : decode cX6_next 130 = .ok (.iconst 3, 1) := by decide +kernel
theorem dX6_next_131 : decode cX6_next 131 = .ok (.if_icmp .ne 7, 3) := by decide +kernel
theorem dX6_next_134 : decode cX6_next 134 = .ok (.iconst 1, 1) := by decide +kernel
theorem dX6_next_135 : decode cX6_next 135 = .ok (.goto 4, 3) := by decide +kernel
theorem dX6_next_138 : decode cX6_next 138 = .ok (.iconst 0, 1) := by decide +kernel
theorem dX6_next_139 : decode cX6_next 139 = .ok (.iadd, 1) := by decide +kernel
theorem dX6_next_140 : decode cX6_next 140 = .ok (.putfield 96, 3) := by decide +kernel
theorem dX6_next_143 : decode cX6_next 143 = .ok (.aload_n 0, 1) := by decide +kernel
theorem dX6_next_144 : decode cX6_next 144 = .ok (.getfield 113, 3) := by decide +kernel
theorem dX6_next_147 : decode cX6_next 147 = .ok (.iconst 1, 1) := by decide +kernel
theorem dX6_next_148 : decode cX6_next 148 = .ok (.if_icmp .ne 89, 3) := by decide +kernel
theorem dX6_next_151 : decode cX6_next 151 = .ok (.aload_n 0, 1) := by decide +kernel
theorem dX6_next_152 : decode cX6_next 152 = .ok (.getfield 96, 3) := by decide +kernel
theorem dX6_next_155 : decode cX6_next 155 = .ok (.aload_n 0, 1) := by decide +kernel
theorem dX6_next_156 : decode cX6_next 156 = .ok (.getfield 91, 3) := by decide +kernel
theorem dX6_next_159 : decode cX6_next 159 = .ok (.if_icmp .ge 78, 3) := by decide +kernel
theorem dX6_next_162 : decode cX6_next 162 = .ok (.aload_n 0, 1) := by decide +kernel
theorem dX6_next_163 : decode cX6_next 163 = .ok (.getfield 7, 3) := by decide +kernel
theorem dX6_next_166 : decode cX6_next 166 = .ok (.aload_n 0, 1) := by decide +kernel
theorem dX6_next_167 : decode cX6_next 167 = .ok (.getfield 96, 3) := by decide +kernel
theorem dX6_next_170 : decode cX6_next 170 = .ok (.iaload, 1) := by decide +kernel
theorem dX6_next_171 : decode cX6_next 171 = .ok (.invokestatic 106, 3) := by decide +kernel
theorem dX6_next_174 : decode cX6_next 174 = .ok (.ifCond .eq 63, 3) := by decide +kernel
theorem dX6_next_177 : decode cX6_next 177 = .ok (.aload_n 0, 1) := by decide +kernel
theorem dX6_next_178 : decode cX6_next 178 = .ok (.aload_n 0, 1) := by decide +kernel
theorem dX6_next_179 : decode cX6_next 179 = .ok (.getfield 96, 3) := by decide +kernel
theorem dX6_next_182 : decode cX6_next 182 = .ok (.aload_n 0, 1) := by decide +kernel
theorem dX6_next_183 : decode cX6_next 183 = .ok (.getfield 99, 3) := by decide +kernel
theorem dX6_next_186 : decode cX6_next 186 = .ok (.isub, 1) := by decide +kernel
theorem dX6_next_187 : decode cX6_next 187 = .ok (.bipush 6, 2) := by decide +kernel
theorem dX6_next_189 : decode cX6_next 189 = .ok (.if_icmp .ge 29, 3) := by decide +kernel
theorem dX6_next_192 : decode cX6_next 192 = .ok (.ldc2_w 116, 3) := by decide +kernel
theorem dX6_next_195 : decode cX6_next 195 = .ok (.aload_n 0, 1) := by decide +kernel
theorem dX6_next_196 : decode cX6_next 196 = .ok (.getfield 102, 3) := by decide +kernel
theorem dX6_next_199 : decode cX6_next 199 = .ok (.lmul, 1) := by decide +kernel
theorem dX6_next_200 : decode cX6_next 200 = .ok (.aload_n 0, 1) := by decide +kernel
theorem dX6_next_201 : decode cX6_next 201 = .ok (.getfield 7, 3) := by decide +kernel
theorem dX6_next_204 : decode cX6_next 204 = .ok (.aload_n 0, 1) := by decide +kernel
theorem dX6_next_205 : decode cX6_next 205 = .ok (.getfield 96, 3) := by decide +kernel
theorem dX6_next_208 : decode cX6_next 208 = .ok (.iaload, 1) := by decide +kernel
theorem dX6_next_209 : decode cX6_next 209 = .ok (.i2l, 1) := by decide +kernel
theorem dX6_next_210 : decode cX6_next 210 = .ok (.ladd, 1) := by decide +kernel
theorem dX6_next_211 : decode cX6_next 211 = .ok (.ldc2_w 118, 3) := by decide +kernel
theorem dX6_next_214 : decode cX6_next 214 = .ok (.lsub, 1) := by decide +kernel
theorem dX6_next_215 : decode cX6_next 215 = .ok (.goto 6, 3) := by decide +kernel
theorem dX6_next_218 : decode cX6_next 218 = .ok (.ldc2_w 120, 3) := by decide +kernel
theorem dX6_next_221 : decode cX6_next 221 = .ok (.putfield 102, 3) := by decide +kernel
theorem dX6_next_224 : decode cX6_next 224 = .ok (.aload_n 0, 1) := by decide +kernel
theorem dX6_next_225 : decode cX6_next 225 = .ok (.dup, 1) := by decide +kernel
theorem dX6_next_226 : decode cX6_next 226 = .ok (.getfield 96, 3) := by decide +kernel
theorem dX6_next_229 : decode cX6_next 229 = .ok (.iconst 1, 1) := by decide +kernel
theorem dX6_next_230 : decode cX6_next 230 = .ok (.iadd, 1) := by decide +kernel
theorem dX6_next_231 : decode cX6_next 231 = .ok (.putfield 96, 3) := by decide +kernel
theorem dX6_next_234 : decode cX6_next 234 = .ok (.goto (-91), 3) := by decide +kernel
theorem dX6_next_237 : decode cX6_next 237 = .ok (.aload_n 0, 1) := by decide +kernel
theorem dX6_next_238 : decode cX6_next 238 = .ok (.getfield 113, 3) := by decide +kernel
theorem dX6_next_241 : decode cX6_next 241 = .ok (.iconst 2, 1) := by decide +kernel
theorem dX6_next_242 : decode cX6_next 242 = .ok (.if_icmp .ne 88, 3) := by decide +kernel
theorem dX6_next_245 : decode cX6_next 245 = .ok (.aload_n 0, 1) := by decide +kernel
theorem dX6_next_246 : decode cX6_next 246 = .ok (.getfield 96, 3) := by decide +kernel
theorem dX6_next_249 : decode cX6_next 249 = .ok (.aload_n 0, 1) := by decide +kernel
theorem dX6_next_250 : decode cX6_next 250 = .ok (.getfield 91, 3) := by decide +kernel
theorem dX6_next_253 : decode cX6_next 253 = .ok (.if_icmp .ge 77, 3) := by decide +kernel
theorem dX6_next_256 : decode cX6_next 256 = .ok (.aload_n 0, 1) := by decide +kernel
theorem dX6_next_257 : decode cX6_next 257 = .ok (.getfield 7, 3) := by decide +kernel
theorem dX6_next_260 : decode cX6_next 260 = .ok (.aload_n 0, 1) := by decide +kernel
theorem dX6_next_261 : decode cX6_next 261 = .ok (.getfield 96, 3) := by decide +kernel
theorem dX6_next_264 : decode cX6_next 264 = .ok (.iaload, 1) := by decide +kernel
theorem dX6_next_265 : decode cX6_next 265 = .ok (.invokestatic 110, 3) := by decide +kernel
theorem dX6_next_268 : decode cX6_next 268 = .ok (.ifCond .eq 62, 3) := by decide +kernel
theorem dX6_next_271 : decode cX6_next 271 = .ok (.aload_n 0, 1) := by decide +kernel
theorem dX6_next_272 : decode cX6_next 272 = .ok (.aload_n 0, 1) := by decide +kernel
theorem dX6_next_273 : decode cX6_next 273 = .ok (.getfield 96, 3) := by decide +kernel
theorem dX6_next_276 : decode cX6_next 276 = .ok (.aload_n 0, 1) := by decide +kernel
theorem dX6_next_277 : decode cX6_next 277 = .ok (.getfield 99, 3) := by decide +kernel
theorem dX6_next_280 : decode cX6_next 280 = .ok (.isub, 1) := by decide +kernel
theorem dX6_next_281 : decode cX6_next 281 = .ok (.iconst 2, 1) := by decide +kernel
theorem dX6_next_282 : decode cX6_next 282 = .ok (.if_icmp .ge 29, 3) := by decide +kernel
theorem dX6_next_285 : decode cX6_next 285 = .ok (.ldc2_w 122, 3) := by decide +kernel
theorem dX6_next_288 : decode cX6_next 288 = .ok (.aload_n 0, 1) := by decide +kernel
theorem dX6_next_289 : decode cX6_next 289 = .ok (.getfield 102, 3) := by decide +kernel
theorem dX6_next_292 : decode cX6_next 292 = .ok (.lmul, 1) := by decide +kernel
theorem dX6_next_293 : decode cX6_next 293 = .ok (.aload_n 0, 1) := by decide +kernel
theorem dX6_next_294 : decode cX6_next 294 = .ok (.getfield 7, 3) := by decide +kernel
theorem dX6_next_297 : decode cX6_next 297 = .ok (.aload_n 0, 1) := by decide +kernel
theorem dX6_next_298 : decode cX6_next 298 = .ok (.getfield 96, 3) := by decide +kernel
theorem dX6_next_301 : decode cX6_next 301 = .ok (.iaload, 1) := by decide +kernel
theorem dX6_next_302 : decode cX6_next 302 = .ok (.i2l, 1) := by decide +kernel
theorem dX6_next_303 : decode cX6_next 303 = .ok (.ladd, 1) := by decide +kernel
theorem dX6_next_304 : decode cX6_next 304 = .ok (.ldc2_w 124, 3) := by decide +kernel
theorem dX6_next_307 : decode cX6_next 307 = .ok (.lsub, 1) := by decide +kernel
theorem dX6_next_308 : decode cX6_next 308 = .ok (.goto 6, 3) := by decide +kernel
theorem dX6_next_311 : decode cX6_next 311 = .ok (.ldc2_w 126, 3) := by decide +kernel
theorem dX6_next_314 : decode cX6_next 314 = .ok (.putfield 102, 3) := by decide +kernel
theorem dX6_next_317 : decode cX6_next 317 = .ok (.aload_n 0, 1) := by decide +kernel
theorem dX6_next_318 : decode cX6_next 318 = .ok (.dup, 1) := by decide +kernel
theorem dX6_next_319 : decode cX6_next 319 = .ok (.getfield 96, 3) := by decide +kernel
theorem dX6_next_322 : decode cX6_next 322 = .ok (.iconst 1, 1) := by decide +kernel
theorem dX6_next_323 : decode cX6_next 323 = .ok (.iadd, 1) := by decide +kernel
theorem dX6_next_324 : decode cX6_next 324 = .ok (.putfield 96, 3) := by decide +kernel
theorem dX6_next_327 : decode cX6_next 327 = .ok (.goto (-90), 3) := by decide +kernel
theorem dX6_next_330 : decode cX6_next 330 = .ok (.aload_n 0, 1) := by decide +kernel
theorem dX6_next_331 : decode cX6_next 331 = .ok (.getfield 113, 3) := by decide +kernel
theorem dX6_next_334 : decode cX6_next 334 = .ok (.iconst 2, 1) := by decide +kernel
theorem dX6_next_335 : decode cX6_next 335 = .ok (.if_icmp .ne 35, 3) := by decide +kernel
theorem dX6_next_338 : decode cX6_next 338 = .ok (.aload_n 0, 1) := by decide +kernel
theorem dX6_next_339 : decode cX6_next 339 = .ok (.getfield 7, 3) := by decide +kernel
theorem dX6_next_342 : decode cX6_next 342 = .ok (.aload_n 0, 1) := by decide +kernel
theorem dX6_next_343 : decode cX6_next 343 = .ok (.getfield 99, 3) := by decide +kernel
theorem dX6_next_346 : decode cX6_next 346 = .ok (.iaload, 1) := by decide +kernel
theorem dX6_next_347 : decode cX6_next 347 = .ok (.bipush 48, 2) := by decide +kernel
theorem dX6_next_349 : decode cX6_next 349 = .ok (.if_icmp .ne 21, 3) := by decide +kernel
theorem dX6_next_352 : decode cX6_next 352 = .ok (.aload_n 0, 1) := by decide +kernel
theorem dX6_next_353 : decode cX6_next 353 = .ok (.getfield 96, 3) := by decide +kernel
theorem dX6_next_356 : decode cX6_next 356 = .ok (.aload_n 0, 1) := by decide +kernel
theorem dX6_next_357 : decode cX6_next 357 = .ok (.getfield 99, 3) := by decide +kernel
theorem dX6_next_360 : decode cX6_next 360 = .ok (.isub, 1) := by decide +kernel
theorem dX6_next_361 : decode cX6_next 361 = .ok (.iconst 1, 1) := by decide +kernel
theorem dX6_next_362 : decode cX6_next 362 = .ok (.if_icmp .le 8, 3) := by decide +kernel
theorem dX6_next_365 : decode cX6_next 365 = .ok (.aload_n 0, 1) := by decide +kernel
theorem dX6_next_366 : decode cX6_next 366 = .ok (.iconst 4, 1) := by decide +kernel
theorem dX6_next_367 : decode cX6_next 367 = .ok (.putfield 113, 3) := by decide +kernel
theorem dX6_next_370 : decode cX6_next 370 = .ok (.return_, 1) := by decide +kernel
theorem dX6_takes_0 : decode cX6_takes 0 = .ok (.aload_n 0, 1) := by decide +kernel
theorem dX6_takes_1 : decode cX6_takes 1 = .ok (.invokevirtual 128, 3) := by decide +kernel
theorem dX6_takes_4 : decode cX6_takes 4 = .ok (.aload_n 0, 1) := by decide +kernel
theorem dX6_takes_5 : decode cX6_takes 5 = .ok (.getfield 113, 3) := by decide +kernel
theorem dX6_takes_8 : decode cX6_takes 8 = .ok (.iconst 2, 1) := by decide +kernel
theorem dX6_takes_9 : decode cX6_takes 9 = .ok (.if_icmp .ne 21, 3) := by decide +kernel
theorem dX6_takes_12 : decode cX6_takes 12 = .ok (.aload_n 0, 1) := by decide +kernel
theorem dX6_takes_13 : decode cX6_takes 13 = .ok (.getfield 102, 3) := by decide +kernel
theorem dX6_takes_16 : decode cX6_takes 16 = .ok (.iload_n 1, 1) := by decide +kernel
theorem dX6_takes_17 : decode cX6_takes 17 = .ok (.i2l, 1) := by decide +kernel
theorem dX6_takes_18 : decode cX6_takes 18 = .ok (.iload_n 2, 1) := by decide +kernel
theorem dX6_takes_19 : decode cX6_takes 19 = .ok (.i2l, 1) := by decide +kernel
theorem dX6_takes_20 : decode cX6_takes 20 = .ok (.invokestatic 85, 3) := by decide +kernel
theorem dX6_takes_23 : decode cX6_takes 23 = .ok (.ifCond .eq 7, 3) := by decide +kernel
theorem dX6_takes_26 : decode cX6_takes 26 = .ok (.iconst 1, 1) := by decide +kernel
theorem dX6_takes_27 : decode cX6_takes 27 = .ok (.goto 4, 3) := by decide +kernel
theorem dX6_takes_30 : decode cX6_takes 30 = .ok (.iconst 0, 1) := by decide +kernel
theorem dX6_takes_31 : decode cX6_takes 31 = .ok (.ireturn, 1) := by decide +kernel
theorem dX6_stops_0 : decode cX6_stops 0 = .ok (.aload_n 0, 1) := by decide +kernel
theorem dX6_stops_1 : decode cX6_stops 1 = .ok (.invokevirtual 128, 3) := by decide +kernel
theorem dX6_stops_4 : decode cX6_stops 4 = .ok (.aload_n 0, 1) := by decide +kernel
theorem dX6_stops_5 : decode cX6_stops 5 = .ok (.getfield 113, 3) := by decide +kernel
theorem dX6_stops_8 : decode cX6_stops 8 = .ok (.iconst 3, 1) := by decide +kernel
theorem dX6_stops_9 : decode cX6_stops 9 = .ok (.if_icmp .ne 7, 3) := by decide +kernel
theorem dX6_stops_12 : decode cX6_stops 12 = .ok (.iconst 1, 1) := by decide +kernel
theorem dX6_stops_13 : decode cX6_stops 13 = .ok (.goto 4, 3) := by decide +kernel
theorem dX6_stops_16 : decode cX6_stops 16 = .ok (.iconst 0, 1) := by decide +kernel
theorem dX6_stops_17 : decode cX6_stops 17 = .ok (.ireturn, 1) := by decide +kernel
theorem dX6_takesThing_0 : decode cX6_takesThing 0 = .ok (.aload_n 0, 1) := by decide +kernel
theorem dX6_takesThing_1 : decode cX6_takesThing 1 = .ok (.getfield 131, 3) := by decide +kernel
theorem dX6_takesThing_4 : decode cX6_takesThing 4 = .ok (.bipush 7, 2) := by decide +kernel
theorem dX6_takesThing_6 : decode cX6_takesThing 6 = .ok (.if_icmp .ne 5, 3) := by decide +kernel
theorem dX6_takesThing_9 : decode cX6_takesThing 9 = .ok (.iconst 0, 1) := by decide +kernel
theorem dX6_takesThing_10 : decode cX6_takesThing 10 = .ok (.ireturn, 1) := by decide +kernel
theorem dX6_takesThing_11 : decode cX6_takesThing 11 = .ok (.iconst 0, 1) := by decide +kernel
theorem dX6_takesThing_12 : decode cX6_takesThing 12 = .ok (.istore_n 1, 1) := by decide +kernel
theorem dX6_takesThing_13 : decode cX6_takesThing 13 = .ok (.iload_n 1, 1) := by decide +kernel
theorem dX6_takesThing_14 : decode cX6_takesThing 14 = .ok (.iconst 4, 1) := by decide +kernel
theorem dX6_takesThing_15 : decode cX6_takesThing 15 = .ok (.if_icmp .ge 65, 3) := by decide +kernel
theorem dX6_takesThing_18 : decode cX6_takesThing 18 = .ok (.aload_n 0, 1) := by decide +kernel
theorem dX6_takesThing_19 : decode cX6_takesThing 19 = .ok (.iload_n 1, 1) := by decide +kernel
theorem dX6_takesThing_20 : decode cX6_takesThing 20 = .ok (.iconst 3, 1) := by decide +kernel
theorem dX6_takesThing_21 : decode cX6_takesThing 21 = .ok (.if_icmp .ne 7, 3) := by decide +kernel
theorem dX6_takesThing_24 : decode cX6_takesThing 24 = .ok (.iconst 1, 1) := by decide +kernel
theorem dX6_takesThing_25 : decode cX6_takesThing 25 = .ok (.goto 4, 3) := by decide +kernel
theorem dX6_takesThing_28 : decode cX6_takesThing 28 = .ok (.iconst 0, 1) := by decide +kernel
theorem dX6_takesThing_29 : decode cX6_takesThing 29 = .ok (.iload_n 1, 1) := by decide +kernel
theorem dX6_takesThing_30 : decode cX6_takesThing 30 = .ok (.ifCond .ne 7, 3) := by decide +kernel
theorem dX6_takesThing_33 : decode cX6_takesThing 33 = .ok (.iconst 1, 1) := by decide +kernel
theorem dX6_takesThing_34 : decode cX6_takesThing 34 = .ok (.goto 14, 3) := by decide +kernel
theorem dX6_takesThing_37 : decode cX6_takesThing 37 = .ok (.iload_n 1, 1) := by decide +kernel
theorem dX6_takesThing_38 : decode cX6_takesThing 38 = .ok (.iconst 1, 1) := by decide +kernel
theorem dX6_takesThing_39 : decode cX6_takesThing 39 = .ok (.if_icmp .ne 7, 3) := by decide +kernel
theorem dX6_takesThing_42 : decode cX6_takesThing 42 = .ok (.iconst 2, 1) := by decide +kernel
theorem dX6_takesThing_43 : decode cX6_takesThing 43 = .ok (.goto 5, 3) := by decide +kernel
theorem dX6_takesThing_46 : decode cX6_takesThing 46 = .ok (.bipush 9, 2) := by decide +kernel
theorem dX6_takesThing_48 : decode cX6_takesThing 48 = .ok (.invokevirtual 134, 3) := by decide +kernel
theorem dX6_takesThing_51 : decode cX6_takesThing 51 = .ok (.ifCond .ne 5, 3) := by decide +kernel
theorem dX6_takesThing_54 : decode cX6_takesThing 54 = .ok (.iconst 0, 1) := by decide +kernel
theorem dX6_takesThing_55 : decode cX6_takesThing 55 = .ok (.ireturn, 1) := by decide +kernel
theorem dX6_takesThing_56 : decode cX6_takesThing 56 = .ok (.aload_n 0, 1) := by decide +kernel
theorem dX6_takesThing_57 : decode cX6_takesThing 57 = .ok (.getfield 53, 3) := by decide +kernel
theorem dX6_takesThing_60 : decode cX6_takesThing 60 = .ok (.iconst 4, 1) := by decide +kernel
theorem dX6_takesThing_61 : decode cX6_takesThing 61 = .ok (.aload_n 0, 1) := by decide +kernel
theorem dX6_takesThing_62 : decode cX6_takesThing 62 = .ok (.getfield 131, 3) := by decide +kernel
theorem dX6_takesThing_65 : decode cX6_takesThing 65 = .ok (.imul, 1) := by decide +kernel
theorem dX6_takesThing_66 : decode cX6_takesThing 66 = .ok (.iload_n 1, 1) := by decide +kernel
theorem dX6_takesThing_67 : decode cX6_takesThing 67 = .ok (.iadd, 1) := by decide +kernel
theorem dX6_takesThing_68 : decode cX6_takesThing 68 = .ok (.aload_n 0, 1) := by decide +kernel
theorem dX6_takesThing_69 : decode cX6_takesThing 69 = .ok (.getfield 102, 3) := by decide +kernel
theorem dX6_takesThing_72 : decode cX6_takesThing 72 = .ok (.l2i, 1) := by decide +kernel
theorem dX6_takesThing_73 : decode cX6_takesThing 73 = .ok (.iastore, 1) := by decide +kernel
theorem dX6_takesThing_74 : decode cX6_takesThing 74 = .ok (.iinc 1 1, 3) := by decide +kernel
theorem dX6_takesThing_77 : decode cX6_takesThing 77 = .ok (.goto (-64), 3) := by decide +kernel
theorem dX6_takesThing_80 : decode cX6_takesThing 80 = .ok (.aload_n 0, 1) := by decide +kernel
theorem dX6_takesThing_81 : decode cX6_takesThing 81 = .ok (.getfield 56, 3) := by decide +kernel
theorem dX6_takesThing_84 : decode cX6_takesThing 84 = .ok (.aload_n 0, 1) := by decide +kernel
theorem dX6_takesThing_85 : decode cX6_takesThing 85 = .ok (.getfield 131, 3) := by decide +kernel
theorem dX6_takesThing_88 : decode cX6_takesThing 88 = .ok (.iconst 0, 1) := by decide +kernel
theorem dX6_takesThing_89 : decode cX6_takesThing 89 = .ok (.iastore, 1) := by decide +kernel
theorem dX6_takesThing_90 : decode cX6_takesThing 90 = .ok (.aload_n 0, 1) := by decide +kernel
theorem dX6_takesThing_91 : decode cX6_takesThing 91 = .ok (.dup, 1) := by decide +kernel
theorem dX6_takesThing_92 : decode cX6_takesThing 92 = .ok (.getfield 131, 3) := by decide +kernel
theorem dX6_takesThing_95 : decode cX6_takesThing 95 = .ok (.iconst 1, 1) := by decide +kernel
theorem dX6_takesThing_96 : decode cX6_takesThing 96 = .ok (.iadd, 1) := by decide +kernel
theorem dX6_takesThing_97 : decode cX6_takesThing 97 = .ok (.putfield 131, 3) := by decide +kernel
theorem dX6_takesThing_100 : decode cX6_takesThing 100 = .ok (.aload_n 0, 1) := by decide +kernel
theorem dX6_takesThing_101 : decode cX6_takesThing 101 = .ok (.invokevirtual 138, 3) := by decide +kernel
theorem dX6_takesThing_104 : decode cX6_takesThing 104 = .ok (.ireturn, 1) := by decide +kernel
theorem dX6_takesFears_0 : decode cX6_takesFears 0 = .ok (.aload_n 0, 1) := by decide +kernel
theorem dX6_takesFears_1 : decode cX6_takesFears 1 = .ok (.getfield 142, 3) := by decide +kernel
theorem dX6_takesFears_4 : decode cX6_takesFears 4 = .ok (.bipush 8, 2) := by decide +kernel
theorem dX6_takesFears_6 : decode cX6_takesFears 6 = .ok (.if_icmp .eq 17, 3) := by decide +kernel
theorem dX6_takesFears_9 : decode cX6_takesFears 9 = .ok (.aload_n 0, 1) := by decide +kernel
theorem dX6_takesFears_10 : decode cX6_takesFears 10 = .ok (.iconst 0, 1) := by decide +kernel
theorem dX6_takesFears_11 : decode cX6_takesFears 11 = .ok (.aload_n 0, 1) := by decide +kernel
theorem dX6_takesFears_12 : decode cX6_takesFears 12 = .ok (.getfield 131, 3) := by decide +kernel
theorem dX6_takesFears_15 : decode cX6_takesFears 15 = .ok (.iconst 1, 1) := by decide +kernel
theorem dX6_takesFears_16 : decode cX6_takesFears 16 = .ok (.isub, 1) := by decide +kernel
theorem dX6_takesFears_17 : decode cX6_takesFears 17 = .ok (.invokevirtual 134, 3) := by decide +kernel
theorem dX6_takesFears_20 : decode cX6_takesFears 20 = .ok (.ifCond .ne 5, 3) := by decide +kernel
theorem dX6_takesFears_23 : decode cX6_takesFears 23 = .ok (.iconst 0, 1) := by decide +kernel
theorem dX6_takesFears_24 : decode cX6_takesFears 24 = .ok (.ireturn, 1) := by decide +kernel
theorem dX6_takesFears_25 : decode cX6_takesFears 25 = .ok (.aload_n 0, 1) := by decide +kernel
theorem dX6_takesFears_26 : decode cX6_takesFears 26 = .ok (.getfield 102, 3) := by decide +kernel
theorem dX6_takesFears_29 : decode cX6_takesFears 29 = .ok (.l2i, 1) := by decide +kernel
theorem dX6_takesFears_30 : decode cX6_takesFears 30 = .ok (.istore_n 1, 1) := by decide +kernel
theorem dX6_takesFears_31 : decode cX6_takesFears 31 = .ok (.aload_n 0, 1) := by decide +kernel
theorem dX6_takesFears_32 : decode cX6_takesFears 32 = .ok (.iconst 0, 1) := by decide +kernel
theorem dX6_takesFears_33 : decode cX6_takesFears 33 = .ok (.aload_n 0, 1) := by decide +kernel
theorem dX6_takesFears_34 : decode cX6_takesFears 34 = .ok (.getfield 131, 3) := by decide +kernel
theorem dX6_takesFears_37 : decode cX6_takesFears 37 = .ok (.iconst 1, 1) := by decide +kernel
theorem dX6_takesFears_38 : decode cX6_takesFears 38 = .ok (.isub, 1) := by decide +kernel
theorem dX6_takesFears_39 : decode cX6_takesFears 39 = .ok (.invokevirtual 134, 3) := by decide +kernel
theorem dX6_takesFears_42 : decode cX6_takesFears 42 = .ok (.ifCond .eq 13, 3) := by decide +kernel
theorem dX6_takesFears_45 : decode cX6_takesFears 45 = .ok (.aload_n 0, 1) := by decide +kernel
theorem dX6_takesFears_46 : decode cX6_takesFears 46 = .ok (.getfield 102, 3) := by decide +kernel
theorem dX6_takesFears_49 : decode cX6_takesFears 49 = .ok (.iload_n 1, 1) := by decide +kernel
theorem dX6_takesFears_50 : decode cX6_takesFears 50 = .ok (.i2l, 1) := by decide +kernel
theorem dX6_takesFears_51 : decode cX6_takesFears 51 = .ok (.lcmp, 1) := by decide +kernel
theorem dX6_takesFears_52 : decode cX6_takesFears 52 = .ok (.ifCond .ne 5, 3) := by decide +kernel
theorem dX6_takesFears_55 : decode cX6_takesFears 55 = .ok (.iconst 0, 1) := by decide +kernel
theorem dX6_takesFears_56 : decode cX6_takesFears 56 = .ok (.ireturn, 1) := by decide +kernel
theorem dX6_takesFears_57 : decode cX6_takesFears 57 = .ok (.aload_n 0, 1) := by decide +kernel
theorem dX6_takesFears_58 : decode cX6_takesFears 58 = .ok (.getfield 56, 3) := by decide +kernel
theorem dX6_takesFears_61 : decode cX6_takesFears 61 = .ok (.iload_n 1, 1) := by decide +kernel
theorem dX6_takesFears_62 : decode cX6_takesFears 62 = .ok (.dup2, 1) := by decide +kernel
theorem dX6_takesFears_63 : decode cX6_takesFears 63 = .ok (.iaload, 1) := by decide +kernel
theorem dX6_takesFears_64 : decode cX6_takesFears 64 = .ok (.iconst 1, 1) := by decide +kernel
theorem dX6_takesFears_65 : decode cX6_takesFears 65 = .ok (.aload_n 0, 1) := by decide +kernel
theorem dX6_takesFears_66 : decode cX6_takesFears 66 = .ok (.getfield 102, 3) := by decide +kernel
theorem dX6_takesFears_69 : decode cX6_takesFears 69 = .ok (.l2i, 1) := by decide +kernel
theorem dX6_takesFears_70 : decode cX6_takesFears 70 = .ok (.ishl, 1) := by decide +kernel
theorem dX6_takesFears_71 : decode cX6_takesFears 71 = .ok (.ior, 1) := by decide +kernel
theorem dX6_takesFears_72 : decode cX6_takesFears 72 = .ok (.iastore, 1) := by decide +kernel
theorem dX6_takesFears_73 : decode cX6_takesFears 73 = .ok (.aload_n 0, 1) := by decide +kernel
theorem dX6_takesFears_74 : decode cX6_takesFears 74 = .ok (.getfield 56, 3) := by decide +kernel
theorem dX6_takesFears_77 : decode cX6_takesFears 77 = .ok (.aload_n 0, 1) := by decide +kernel
theorem dX6_takesFears_78 : decode cX6_takesFears 78 = .ok (.getfield 102, 3) := by decide +kernel
theorem dX6_takesFears_81 : decode cX6_takesFears 81 = .ok (.l2i, 1) := by decide +kernel
theorem dX6_takesFears_82 : decode cX6_takesFears 82 = .ok (.dup2, 1) := by decide +kernel
theorem dX6_takesFears_83 : decode cX6_takesFears 83 = .ok (.iaload, 1) := by decide +kernel
theorem dX6_takesFears_84 : decode cX6_takesFears 84 = .ok (.iconst 1, 1) := by decide +kernel
theorem dX6_takesFears_85 : decode cX6_takesFears 85 = .ok (.iload_n 1, 1) := by decide +kernel
theorem dX6_takesFears_86 : decode cX6_takesFears 86 = .ok (.ishl, 1) := by decide +kernel
theorem dX6_takesFears_87 : decode cX6_takesFears 87 = .ok (.ior, 1) := by decide +kernel
theorem dX6_takesFears_88 : decode cX6_takesFears 88 = .ok (.iastore, 1) := by decide +kernel
theorem dX6_takesFears_89 : decode cX6_takesFears 89 = .ok (.aload_n 0, 1) := by decide +kernel
theorem dX6_takesFears_90 : decode cX6_takesFears 90 = .ok (.dup, 1) := by decide +kernel
theorem dX6_takesFears_91 : decode cX6_takesFears 91 = .ok (.getfield 142, 3) := by decide +kernel
theorem dX6_takesFears_94 : decode cX6_takesFears 94 = .ok (.iconst 1, 1) := by decide +kernel
theorem dX6_takesFears_95 : decode cX6_takesFears 95 = .ok (.iadd, 1) := by decide +kernel
theorem dX6_takesFears_96 : decode cX6_takesFears 96 = .ok (.putfield 142, 3) := by decide +kernel
theorem dX6_takesFears_99 : decode cX6_takesFears 99 = .ok (.aload_n 0, 1) := by decide +kernel
theorem dX6_takesFears_100 : decode cX6_takesFears 100 = .ok (.invokevirtual 138, 3) := by decide +kernel
theorem dX6_takesFears_103 : decode cX6_takesFears 103 = .ok (.ireturn, 1) := by decide +kernel
theorem dX6_takesTold_0 : decode cX6_takesTold 0 = .ok (.aload_n 0, 1) := by decide +kernel
theorem dX6_takesTold_1 : decode cX6_takesTold 1 = .ok (.getfield 59, 3) := by decide +kernel
theorem dX6_takesTold_4 : decode cX6_takesTold 4 = .ok (.iload_n 1, 1) := by decide +kernel
theorem dX6_takesTold_5 : decode cX6_takesTold 5 = .ok (.iaload, 1) := by decide +kernel
theorem dX6_takesTold_6 : decode cX6_takesTold 6 = .ok (.ifCond .ge 40, 3) := by decide +kernel
theorem dX6_takesTold_9 : decode cX6_takesTold 9 = .ok (.aload_n 0, 1) := by decide +kernel
theorem dX6_takesTold_10 : decode cX6_takesTold 10 = .ok (.iload_n 1, 1) := by decide +kernel
theorem dX6_takesTold_11 : decode cX6_takesTold 11 = .ok (.iconst 1, 1) := by decide +kernel
theorem dX6_takesTold_12 : decode cX6_takesTold 12 = .ok (.if_icmp .ne 7, 3) := by decide +kernel
theorem dX6_takesTold_15 : decode cX6_takesTold 15 = .ok (.iconst 1, 1) := by decide +kernel
theorem dX6_takesTold_16 : decode cX6_takesTold 16 = .ok (.goto 4, 3) := by decide +kernel
theorem dX6_takesTold_19 : decode cX6_takesTold 19 = .ok (.iconst 0, 1) := by decide +kernel
theorem dX6_takesTold_20 : decode cX6_takesTold 20 = .ok (.iload_n 1, 1) := by decide +kernel
theorem dX6_takesTold_21 : decode cX6_takesTold 21 = .ok (.ifCond .ne 7, 3) := by decide +kernel
theorem dX6_takesTold_24 : decode cX6_takesTold 24 = .ok (.iconst 1, 1) := by decide +kernel
theorem dX6_takesTold_25 : decode cX6_takesTold 25 = .ok (.goto 15, 3) := by decide +kernel
theorem dX6_takesTold_28 : decode cX6_takesTold 28 = .ok (.iload_n 1, 1) := by decide +kernel
theorem dX6_takesTold_29 : decode cX6_takesTold 29 = .ok (.iconst 3, 1) := by decide +kernel
theorem dX6_takesTold_30 : decode cX6_takesTold 30 = .ok (.if_icmp .ne 8, 3) := by decide +kernel
theorem dX6_takesTold_33 : decode cX6_takesTold 33 = .ok (.bipush 9, 2) := by decide +kernel
theorem dX6_takesTold_35 : decode cX6_takesTold 35 = .ok (.goto 5, 3) := by decide +kernel
theorem dX6_takesTold_38 : decode cX6_takesTold 38 = .ok (.bipush 20, 2) := by decide +kernel
theorem dX6_takesTold_40 : decode cX6_takesTold 40 = .ok (.invokevirtual 134, 3) := by decide +kernel
theorem dX6_takesTold_43 : decode cX6_takesTold 43 = .ok (.ifCond .ne 5, 3) := by decide +kernel
theorem dX6_takesTold_46 : decode cX6_takesTold 46 = .ok (.iconst 0, 1) := by decide +kernel
theorem dX6_takesTold_47 : decode cX6_takesTold 47 = .ok (.ireturn, 1) := by decide +kernel
theorem dX6_takesTold_48 : decode cX6_takesTold 48 = .ok (.aload_n 0, 1) := by decide +kernel
theorem dX6_takesTold_49 : decode cX6_takesTold 49 = .ok (.getfield 59, 3) := by decide +kernel
theorem dX6_takesTold_52 : decode cX6_takesTold 52 = .ok (.iload_n 1, 1) := by decide +kernel
theorem dX6_takesTold_53 : decode cX6_takesTold 53 = .ok (.aload_n 0, 1) := by decide +kernel
theorem dX6_takesTold_54 : decode cX6_takesTold 54 = .ok (.getfield 102, 3) := by decide +kernel
theorem dX6_takesTold_57 : decode cX6_takesTold 57 = .ok (.l2i, 1) := by decide +kernel
theorem dX6_takesTold_58 : decode cX6_takesTold 58 = .ok (.iastore, 1) := by decide +kernel
theorem dX6_takesTold_59 : decode cX6_takesTold 59 = .ok (.aload_n 0, 1) := by decide +kernel
theorem dX6_takesTold_60 : decode cX6_takesTold 60 = .ok (.invokevirtual 138, 3) := by decide +kernel
theorem dX6_takesTold_63 : decode cX6_takesTold 63 = .ok (.ireturn, 1) := by decide +kernel
theorem dX6_takesAll_0 : decode cX6_takesAll 0 = .ok (.aload_n 0, 1) := by decide +kernel
theorem dX6_takesAll_1 : decode cX6_takesAll 1 = .ok (.iconst 0, 1) := by decide +kernel
theorem dX6_takesAll_2 : decode cX6_takesAll 2 = .ok (.putfield 96, 3) := by decide +kernel
theorem dX6_takesAll_5 : decode cX6_takesAll 5 = .ok (.aload_n 0, 1) := by decide +kernel
theorem dX6_takesAll_6 : decode cX6_takesAll 6 = .ok (.iconst 0, 1) := by decide +kernel
theorem dX6_takesAll_7 : decode cX6_takesAll 7 = .ok (.putfield 131, 3) := by decide +kernel
theorem dX6_takesAll_10 : decode cX6_takesAll 10 = .ok (.aload_n 0, 1) := by decide +kernel
theorem dX6_takesAll_11 : decode cX6_takesAll 11 = .ok (.iconst 0, 1) := by decide +kernel
theorem dX6_takesAll_12 : decode cX6_takesAll 12 = .ok (.putfield 142, 3) := by decide +kernel
theorem dX6_takesAll_15 : decode cX6_takesAll 15 = .ok (.iconst 0, 1) := by decide +kernel
theorem dX6_takesAll_16 : decode cX6_takesAll 16 = .ok (.istore_n 1, 1) := by decide +kernel
theorem dX6_takesAll_17 : decode cX6_takesAll 17 = .ok (.iload_n 1, 1) := by decide +kernel
theorem dX6_takesAll_18 : decode cX6_takesAll 18 = .ok (.iconst 4, 1) := by decide +kernel
theorem dX6_takesAll_19 : decode cX6_takesAll 19 = .ok (.if_icmp .ge 16, 3) := by decide +kernel
theorem dX6_takesAll_22 : decode cX6_takesAll 22 = .ok (.aload_n 0, 1) := by decide +kernel
theorem dX6_takesAll_23 : decode cX6_takesAll 23 = .ok (.getfield 59, 3) := by decide +kernel
theorem dX6_takesAll_26 : decode cX6_takesAll 26 = .ok (.iload_n 1, 1) := by decide +kernel
theorem dX6_takesAll_27 : decode cX6_takesAll 27 = .ok (.iconst (-1), 1) := by decide +kernel
theorem dX6_takesAll_28 : decode cX6_takesAll 28 = .ok (.iastore, 1) := by decide +kernel
theorem dX6_takesAll_29 : decode cX6_takesAll 29 = .ok (.iinc 1 1, 3) := by decide +kernel
theorem dX6_takesAll_32 : decode cX6_takesAll 32 = .ok (.goto (-15), 3) := by decide +kernel
theorem dX6_takesAll_35 : decode cX6_takesAll 35 = .ok (.iconst 0, 1) := by decide +kernel
theorem dX6_takesAll_36 : decode cX6_takesAll 36 = .ok (.istore_n 1, 1) := by decide +kernel
theorem dX6_takesAll_37 : decode cX6_takesAll 37 = .ok (.aload_n 0, 1) := by decide +kernel
theorem dX6_takesAll_38 : decode cX6_takesAll 38 = .ok (.invokevirtual 128, 3) := by decide +kernel
theorem dX6_takesAll_41 : decode cX6_takesAll 41 = .ok (.aload_n 0, 1) := by decide +kernel
theorem dX6_takesAll_42 : decode cX6_takesAll 42 = .ok (.getfield 113, 3) := by decide +kernel
theorem dX6_takesAll_45 : decode cX6_takesAll 45 = .ok (.ifCond .eq 160, 3) := by decide +kernel
theorem dX6_takesAll_48 : decode cX6_takesAll 48 = .ok (.aload_n 0, 1) := by decide +kernel
theorem dX6_takesAll_49 : decode cX6_takesAll 49 = .ok (.getfield 113, 3) := by decide +kernel
theorem dX6_takesAll_52 : decode cX6_takesAll 52 = .ok (.iconst 1, 1) := by decide +kernel
theorem dX6_takesAll_53 : decode cX6_takesAll 53 = .ok (.if_icmp .ne 134, 3) := by decide +kernel
theorem dX6_takesAll_56 : decode cX6_takesAll 56 = .ok (.aload_n 0, 1) := by decide +kernel
theorem dX6_takesAll_57 : decode cX6_takesAll 57 = .ok (.getfield 102, 3) := by decide +kernel
theorem dX6_takesAll_60 : decode cX6_takesAll 60 = .ok (.ldc2_w 145, 3) := by decide +kernel
theorem dX6_takesAll_63 : decode cX6_takesAll 63 = .ok (.lcmp, 1) := by decide +kernel
theorem dX6_takesAll_64 : decode cX6_takesAll 64 = .ok (.ifCond .ne 13, 3) := by decide +kernel
theorem dX6_takesAll_67 : decode cX6_takesAll 67 = .ok (.aload_n 0, 1) := by decide +kernel
theorem dX6_takesAll_68 : decode cX6_takesAll 68 = .ok (.invokevirtual 147, 3) := by decide +kernel
theorem dX6_takesAll_71 : decode cX6_takesAll 71 = .ok (.ifCond .eq 116, 3) := by decide +kernel
theorem dX6_takesAll_74 : decode cX6_takesAll 74 = .ok (.goto 109, 3) := by decide +kernel
theorem dX6_takesAll_77 : decode cX6_takesAll 77 = .ok (.aload_n 0, 1) := by decide +kernel
theorem dX6_takesAll_78 : decode cX6_takesAll 78 = .ok (.getfield 102, 3) := by decide +kernel
theorem dX6_takesAll_81 : decode cX6_takesAll 81 = .ok (.ldc2_w 150, 3) := by decide +kernel
theorem dX6_takesAll_84 : decode cX6_takesAll 84 = .ok (.lcmp, 1) := by decide +kernel
theorem dX6_takesAll_85 : decode cX6_takesAll 85 = .ok (.ifCond .ne 13, 3) := by decide +kernel
theorem dX6_takesAll_88 : decode cX6_takesAll 88 = .ok (.aload_n 0, 1) := by decide +kernel
theorem dX6_takesAll_89 : decode cX6_takesAll 89 = .ok (.invokevirtual 152, 3) := by decide +kernel
theorem dX6_takesAll_92 : decode cX6_takesAll 92 = .ok (.ifCond .eq 95, 3) := by decide +kernel
theorem dX6_takesAll_95 : decode cX6_takesAll 95 = .ok (.goto 88, 3) := by decide +kernel
theorem dX6_takesAll_98 : decode cX6_takesAll 98 = .ok (.aload_n 0, 1) := by decide +kernel
theorem dX6_takesAll_99 : decode cX6_takesAll 99 = .ok (.getfield 102, 3) := by decide +kernel
theorem dX6_takesAll_102 : decode cX6_takesAll 102 = .ok (.ldc2_w 155, 3) := by decide +kernel
theorem dX6_takesAll_105 : decode cX6_takesAll 105 = .ok (.lcmp, 1) := by decide +kernel
theorem dX6_takesAll_106 : decode cX6_takesAll 106 = .ok (.ifCond .ne 14, 3) := by decide +kernel
theorem dX6_takesAll_109 : decode cX6_takesAll 109 = .ok (.aload_n 0, 1) := by decide +kernel
theorem dX6_takesAll_110 : decode cX6_takesAll 110 = .ok (.iconst 0, 1) := by decide +kernel
theorem dX6_takesAll_111 : decode cX6_takesAll 111 = .ok (.invokevirtual 157, 3) := by decide +kernel
theorem dX6_takesAll_114 : decode cX6_takesAll 114 = .ok (.ifCond .eq 73, 3) := by decide +kernel
theorem dX6_takesAll_117 : decode cX6_takesAll 117 = .ok (.goto 66, 3) := by decide +kernel
theorem dX6_takesAll_120 : decode cX6_takesAll 120 = .ok (.aload_n 0, 1) := by decide +kernel
theorem dX6_takesAll_121 : decode cX6_takesAll 121 = .ok (.getfield 102, 3) := by decide +kernel
theorem dX6_takesAll_124 : decode cX6_takesAll 124 = .ok (.ldc2_w 160, 3) := by decide +kernel
theorem dX6_takesAll_127 : decode cX6_takesAll 127 = .ok (.lcmp, 1) := by decide +kernel
theorem dX6_takesAll_128 : decode cX6_takesAll 128 = .ok (.ifCond .ne 14, 3) := by decide +kernel
theorem dX6_takesAll_131 : decode cX6_takesAll 131 = .ok (.aload_n 0, 1) := by decide +kernel
theorem dX6_takesAll_132 : decode cX6_takesAll 132 = .ok (.iconst 1, 1) := by decide +kernel
theorem dX6_takesAll_133 : decode cX6_takesAll 133 = .ok (.invokevirtual 157, 3) := by decide +kernel
theorem dX6_takesAll_136 : decode cX6_takesAll 136 = .ok (.ifCond .eq 51, 3) := by decide +kernel
theorem dX6_takesAll_139 : decode cX6_takesAll 139 = .ok (.goto 44, 3) := by decide +kernel
theorem dX6_takesAll_142 : decode cX6_takesAll 142 = .ok (.aload_n 0, 1) := by decide +kernel
theorem dX6_takesAll_143 : decode cX6_takesAll 143 = .ok (.getfield 102, 3) := by decide +kernel
theorem dX6_takesAll_146 : decode cX6_takesAll 146 = .ok (.ldc2_w 162, 3) := by decide +kernel
theorem dX6_takesAll_149 : decode cX6_takesAll 149 = .ok (.lcmp, 1) := by decide +kernel
theorem dX6_takesAll_150 : decode cX6_takesAll 150 = .ok (.ifCond .ne 14, 3) := by decide +kernel
theorem dX6_takesAll_153 : decode cX6_takesAll 153 = .ok (.aload_n 0, 1) := by decide +kernel
theorem dX6_takesAll_154 : decode cX6_takesAll 154 = .ok (.iconst 2, 1) := by decide +kernel
theorem dX6_takesAll_155 : decode cX6_takesAll 155 = .ok (.invokevirtual 157, 3) := by decide +kernel
theorem dX6_takesAll_158 : decode cX6_takesAll 158 = .ok (.ifCond .eq 29, 3) := by decide +kernel
theorem dX6_takesAll_161 : decode cX6_takesAll 161 = .ok (.goto 22, 3) := by decide +kernel
theorem dX6_takesAll_164 : decode cX6_takesAll 164 = .ok (.aload_n 0, 1) := by decide +kernel
theorem dX6_takesAll_165 : decode cX6_takesAll 165 = .ok (.getfield 102, 3) := by decide +kernel
theorem dX6_takesAll_168 : decode cX6_takesAll 168 = .ok (.ldc2_w 164, 3) := by decide +kernel
theorem dX6_takesAll_171 : decode cX6_takesAll 171 = .ok (.lcmp, 1) := by decide +kernel
theorem dX6_takesAll_172 : decode cX6_takesAll 172 = .ok (.ifCond .ne 15, 3) := by decide +kernel
theorem dX6_takesAll_175 : decode cX6_takesAll 175 = .ok (.aload_n 0, 1) := by decide +kernel
theorem dX6_takesAll_176 : decode cX6_takesAll 176 = .ok (.iconst 3, 1) := by decide +kernel
theorem dX6_takesAll_177 : decode cX6_takesAll 177 = .ok (.invokevirtual 157, 3) := by decide +kernel
theorem dX6_takesAll_180 : decode cX6_takesAll 180 = .ok (.ifCond .eq 7, 3) := by decide +kernel
theorem dX6_takesAll_183 : decode cX6_takesAll 183 = .ok (.iconst 1, 1) := by decide +kernel
theorem dX6_takesAll_184 : decode cX6_takesAll 184 = .ok (.goto 4, 3) := by decide +kernel
theorem dX6_takesAll_187 : decode cX6_takesAll 187 = .ok (.iconst 0, 1) := by decide +kernel
theorem dX6_takesAll_188 : decode cX6_takesAll 188 = .ok (.istore_n 2, 1) := by decide +kernel
theorem dX6_takesAll_189 : decode cX6_takesAll 189 = .ok (.iload_n 2, 1) := by decide +kernel
theorem dX6_takesAll_190 : decode cX6_takesAll 190 = .ok (.ifCond .ne 5, 3) := by decide +kernel
theorem dX6_takesAll_193 : decode cX6_takesAll 193 = .ok (.iconst (-1), 1) := by decide +kernel
theorem dX6_takesAll_194 : decode cX6_takesAll 194 = .ok (.ireturn, 1) := by decide +kernel
theorem dX6_takesAll_195 : decode cX6_takesAll 195 = .ok (.iinc 1 1, 3) := by decide +kernel
theorem dX6_takesAll_198 : decode cX6_takesAll 198 = .ok (.aload_n 0, 1) := by decide +kernel
theorem dX6_takesAll_199 : decode cX6_takesAll 199 = .ok (.invokevirtual 128, 3) := by decide +kernel
theorem dX6_takesAll_202 : decode cX6_takesAll 202 = .ok (.goto (-161), 3) := by decide +kernel
theorem dX6_takesAll_205 : decode cX6_takesAll 205 = .ok (.iload_n 1, 1) := by decide +kernel
theorem dX6_takesAll_206 : decode cX6_takesAll 206 = .ok (.ireturn, 1) := by decide +kernel
theorem dX6_or_0 : decode cX6_or 0 = .ok (.iload_n 0, 1) := by decide +kernel
theorem dX6_or_1 : decode cX6_or 1 = .ok (.ifCond .ge 7, 3) := by decide +kernel
theorem dX6_or_4 : decode cX6_or 4 = .ok (.iload_n 1, 1) := by decide +kernel
theorem dX6_or_5 : decode cX6_or 5 = .ok (.goto 4, 3) := by decide +kernel
theorem dX6_or_8 : decode cX6_or 8 = .ok (.iload_n 0, 1) := by decide +kernel
theorem dX6_or_9 : decode cX6_or 9 = .ok (.ireturn, 1) := by decide +kernel
theorem dX6_river_0 : decode cX6_river 0 = .ok (.aload_n 0, 1) := by decide +kernel
theorem dX6_river_1 : decode cX6_river 1 = .ok (.invokevirtual 166, 3) := by decide +kernel
theorem dX6_river_4 : decode cX6_river 4 = .ok (.istore_n 1, 1) := by decide +kernel
theorem dX6_river_5 : decode cX6_river 5 = .ok (.iload_n 1, 1) := by decide +kernel
theorem dX6_river_6 : decode cX6_river 6 = .ok (.ifCond .ge 11, 3) := by decide +kernel
theorem dX6_river_9 : decode cX6_river 9 = .ok (.bipush (-10), 2) := by decide +kernel
theorem dX6_river_11 : decode cX6_river 11 = .ok (.aload_n 0, 1) := by decide +kernel
theorem dX6_river_12 : decode cX6_river 12 = .ok (.getfield 99, 3) := by decide +kernel
theorem dX6_river_15 : decode cX6_river 15 = .ok (.isub, 1) := by decide +kernel
theorem dX6_river_16 : decode cX6_river 16 = .ok (.ireturn, 1) := by decide +kernel
theorem dX6_river_17 : decode cX6_river 17 = .ok (.aload_n 0, 1) := by decide +kernel
theorem dX6_river_18 : decode cX6_river 18 = .ok (.aload_n 0, 1) := by decide +kernel
theorem dX6_river_19 : decode cX6_river 19 = .ok (.getfield 131, 3) := by decide +kernel
theorem dX6_river_22 : decode cX6_river 22 = .ok (.putfield 82, 3) := by decide +kernel
theorem dX6_river_25 : decode cX6_river 25 = .ok (.aload_n 0, 1) := by decide +kernel
theorem dX6_river_26 : decode cX6_river 26 = .ok (.aload_n 0, 1) := by decide +kernel
theorem dX6_river_27 : decode cX6_river 27 = .ok (.getfield 142, 3) := by decide +kernel
theorem dX6_river_30 : decode cX6_river 30 = .ok (.putfield 170, 3) := by decide +kernel
theorem dX6_river_33 : decode cX6_river 33 = .ok (.aload_n 0, 1) := by decide +kernel
theorem dX6_river_34 : decode cX6_river 34 = .ok (.aload_n 0, 1) := by decide +kernel
theorem dX6_river_35 : decode cX6_river 35 = .ok (.getfield 59, 3) := by decide +kernel
theorem dX6_river_38 : decode cX6_river 38 = .ok (.iconst 0, 1) := by decide +kernel
theorem dX6_river_39 : decode cX6_river 39 = .ok (.iaload, 1) := by decide +kernel
theorem dX6_river_40 : decode cX6_river 40 = .ok (.iconst 0, 1) := by decide +kernel
theorem dX6_river_41 : decode cX6_river 41 = .ok (.invokestatic 173, 3) := by decide +kernel
theorem dX6_river_44 : decode cX6_river 44 = .ok (.sipush 128, 3) := by decide +kernel
theorem dX6_river_47 : decode cX6_river 47 = .ok (.imul, 1) := by decide +kernel
theorem dX6_river_48 : decode cX6_river 48 = .ok (.putfield 177, 3) := by decide +kernel
theorem dX6_river_51 : decode cX6_river 51 = .ok (.iconst 0, 1) := by decide +kernel
theorem dX6_river_52 : decode cX6_river 52 = .ok (.istore_n 2, 1) := by decide +kernel
theorem dX6_river_53 : decode cX6_river 53 = .ok (.iload_n 2, 1) := by decide +kernel
theorem dX6_river_54 : decode cX6_river 54 = .ok (.aload_n 0, 1) := by decide +kernel
theorem dX6_river_55 : decode cX6_river 55 = .ok (.getfield 82, 3) := by decide +kernel
theorem dX6_river_58 : decode cX6_river 58 = .ok (.if_icmp .ge 88, 3) := by decide +kernel
theorem dX6_river_61 : decode cX6_river 61 = .ok (.aload_n 0, 1) := by decide +kernel
theorem dX6_river_62 : decode cX6_river 62 = .ok (.dup, 1) := by decide +kernel
theorem dX6_river_63 : decode cX6_river 63 = .ok (.getfield 177, 3) := by decide +kernel
theorem dX6_river_66 : decode cX6_river 66 = .ok (.aload_n 0, 1) := by decide +kernel
theorem dX6_river_67 : decode cX6_river 67 = .ok (.getfield 53, 3) := by decide +kernel
theorem dX6_river_70 : decode cX6_river 70 = .ok (.iconst 4, 1) := by decide +kernel
theorem dX6_river_71 : decode cX6_river 71 = .ok (.iload_n 2, 1) := by decide +kernel
theorem dX6_river_72 : decode cX6_river 72 = .ok (.imul, 1) := by decide +kernel
theorem dX6_river_73 : decode cX6_river 73 = .ok (.iaload, 1) := by decide +kernel
theorem dX6_river_74 : decode cX6_river 74 = .ok (.iload_n 2, 1) := by decide +kernel
theorem dX6_river_75 : decode cX6_river 75 = .ok (.ishl, 1) := by decide +kernel
theorem dX6_river_76 : decode cX6_river 76 = .ok (.ior, 1) := by decide +kernel
theorem dX6_river_77 : decode cX6_river 77 = .ok (.putfield 177, 3) := by decide +kernel
theorem dX6_river_80 : decode cX6_river 80 = .ok (.aload_n 0, 1) := by decide +kernel
theorem dX6_river_81 : decode cX6_river 81 = .ok (.getfield 13, 3) := by decide +kernel
theorem dX6_river_84 : decode cX6_river 84 = .ok (.iload_n 2, 1) := by decide +kernel
theorem dX6_river_85 : decode cX6_river 85 = .ok (.aload_n 0, 1) := by decide +kernel
theorem dX6_river_86 : decode cX6_river 86 = .ok (.getfield 53, 3) := by decide +kernel
theorem dX6_river_89 : decode cX6_river 89 = .ok (.iconst 4, 1) := by decide +kernel
theorem dX6_river_90 : decode cX6_river 90 = .ok (.iload_n 2, 1) := by decide +kernel
theorem dX6_river_91 : decode cX6_river 91 = .ok (.imul, 1) := by decide +kernel
theorem dX6_river_92 : decode cX6_river 92 = .ok (.iconst 1, 1) := by decide +kernel
theorem dX6_river_93 : decode cX6_river 93 = .ok (.iadd, 1) := by decide +kernel
theorem dX6_river_94 : decode cX6_river 94 = .ok (.iaload, 1) := by decide +kernel
theorem dX6_river_95 : decode cX6_river 95 = .ok (.iastore, 1) := by decide +kernel
theorem dX6_river_96 : decode cX6_river 96 = .ok (.aload_n 0, 1) := by decide +kernel
theorem dX6_river_97 : decode cX6_river 97 = .ok (.getfield 16, 3) := by decide +kernel
theorem dX6_river_100 : decode cX6_river 100 = .ok (.iload_n 2, 1) := by decide +kernel
theorem dX6_river_101 : decode cX6_river 101 = .ok (.aload_n 0, 1) := by decide +kernel
theorem dX6_river_102 : decode cX6_river 102 = .ok (.getfield 53, 3) := by decide +kernel
theorem dX6_river_105 : decode cX6_river 105 = .ok (.iconst 4, 1) := by decide +kernel
theorem dX6_river_106 : decode cX6_river 106 = .ok (.iload_n 2, 1) := by decide +kernel
theorem dX6_river_107 : decode cX6_river 107 = .ok (.imul, 1) := by decide +kernel
theorem dX6_river_108 : decode cX6_river 108 = .ok (.iconst 2, 1) := by decide +kernel
theorem dX6_river_109 : decode cX6_river 109 = .ok (.iadd, 1) := by decide +kernel
theorem dX6_river_110 : decode cX6_river 110 = .ok (.iaload, 1) := by decide +kernel
theorem dX6_river_111 : decode cX6_river 111 = .ok (.iastore, 1) := by decide +kernel
theorem dX6_river_112 : decode cX6_river 112 = .ok (.aload_n 0, 1) := by decide +kernel
theorem dX6_river_113 : decode cX6_river 113 = .ok (.getfield 19, 3) := by decide +kernel
theorem dX6_river_116 : decode cX6_river 116 = .ok (.iload_n 2, 1) := by decide +kernel
theorem dX6_river_117 : decode cX6_river 117 = .ok (.aload_n 0, 1) := by decide +kernel
theorem dX6_river_118 : decode cX6_river 118 = .ok (.getfield 53, 3) := by decide +kernel
theorem dX6_river_121 : decode cX6_river 121 = .ok (.iconst 4, 1) := by decide +kernel
theorem dX6_river_122 : decode cX6_river 122 = .ok (.iload_n 2, 1) := by decide +kernel
theorem dX6_river_123 : decode cX6_river 123 = .ok (.imul, 1) := by decide +kernel
theorem dX6_river_124 : decode cX6_river 124 = .ok (.iconst 3, 1) := by decide +kernel
theorem dX6_river_125 : decode cX6_river 125 = .ok (.iadd, 1) := by decide +kernel
theorem dX6_river_126 : decode cX6_river 126 = .ok (.iaload, 1) := by decide +kernel
theorem dX6_river_127 : decode cX6_river 127 = .ok (.iastore, 1) := by decide +kernel
theorem dX6_river_128 : decode cX6_river 128 = .ok (.aload_n 0, 1) := by decide +kernel
theorem dX6_river_129 : decode cX6_river 129 = .ok (.getfield 22, 3) := by decide +kernel
theorem dX6_river_132 : decode cX6_river 132 = .ok (.iload_n 2, 1) := by decide +kernel
theorem dX6_river_133 : decode cX6_river 133 = .ok (.aload_n 0, 1) := by decide +kernel
theorem dX6_river_134 : decode cX6_river 134 = .ok (.getfield 56, 3) := by decide +kernel
theorem dX6_river_137 : decode cX6_river 137 = .ok (.iload_n 2, 1) := by decide +kernel
theorem dX6_river_138 : decode cX6_river 138 = .ok (.iaload, 1) := by decide +kernel
theorem dX6_river_139 : decode cX6_river 139 = .ok (.iastore, 1) := by decide +kernel
theorem dX6_river_140 : decode cX6_river 140 = .ok (.iinc 2 1, 3) := by decide +kernel
theorem dX6_river_143 : decode cX6_river 143 = .ok (.goto (-90), 3) := by decide +kernel
theorem dX6_river_146 : decode cX6_river 146 = .ok (.aload_n 0, 1) := by decide +kernel
theorem dX6_river_147 : decode cX6_river 147 = .ok (.aload_n 0, 1) := by decide +kernel
theorem dX6_river_148 : decode cX6_river 148 = .ok (.getfield 59, 3) := by decide +kernel
theorem dX6_river_151 : decode cX6_river 151 = .ok (.iconst 1, 1) := by decide +kernel
theorem dX6_river_152 : decode cX6_river 152 = .ok (.iaload, 1) := by decide +kernel
theorem dX6_river_153 : decode cX6_river 153 = .ok (.iconst 2, 1) := by decide +kernel
theorem dX6_river_154 : decode cX6_river 154 = .ok (.invokestatic 173, 3) := by decide +kernel
theorem dX6_river_157 : decode cX6_river 157 = .ok (.putfield 25, 3) := by decide +kernel
theorem dX6_river_160 : decode cX6_river 160 = .ok (.aload_n 0, 1) := by decide +kernel
theorem dX6_river_161 : decode cX6_river 161 = .ok (.aload_n 0, 1) := by decide +kernel
theorem dX6_river_162 : decode cX6_river 162 = .ok (.getfield 59, 3) := by decide +kernel
theorem dX6_river_165 : decode cX6_river 165 = .ok (.iconst 2, 1) := by decide +kernel
theorem dX6_river_166 : decode cX6_river 166 = .ok (.iaload, 1) := by decide +kernel
theorem dX6_river_167 : decode cX6_river 167 = .ok (.bipush 9, 2) := by decide +kernel
theorem dX6_river_169 : decode cX6_river 169 = .ok (.invokestatic 173, 3) := by decide +kernel
theorem dX6_river_172 : decode cX6_river 172 = .ok (.putfield 32, 3) := by decide +kernel
theorem dX6_river_175 : decode cX6_river 175 = .ok (.aload_n 0, 1) := by decide +kernel
theorem dX6_river_176 : decode cX6_river 176 = .ok (.aload_n 0, 1) := by decide +kernel
theorem dX6_river_177 : decode cX6_river 177 = .ok (.getfield 59, 3) := by decide +kernel
theorem dX6_river_180 : decode cX6_river 180 = .ok (.iconst 3, 1) := by decide +kernel
theorem dX6_river_181 : decode cX6_river 181 = .ok (.iaload, 1) := by decide +kernel
theorem dX6_river_182 : decode cX6_river 182 = .ok (.iconst 5, 1) := by decide +kernel
theorem dX6_river_183 : decode cX6_river 183 = .ok (.invokestatic 173, 3) := by decide +kernel
theorem dX6_river_186 : decode cX6_river 186 = .ok (.putfield 29, 3) := by decide +kernel
theorem dX6_river_189 : decode cX6_river 189 = .ok (.aload_n 0, 1) := by decide +kernel
theorem dX6_river_190 : decode cX6_river 190 = .ok (.aload_n 0, 1) := by decide +kernel
theorem dX6_river_191 : decode cX6_river 191 = .ok (.getfield 177, 3) := by decide +kernel
theorem dX6_river_194 : decode cX6_river 194 = .ok (.putfield 180, 3) := by decide +kernel
theorem dX6_river_197 : decode cX6_river 197 = .ok (.aload_n 0, 1) := by decide +kernel
theorem dX6_river_198 : decode cX6_river 198 = .ok (.iconst 0, 1) := by decide +kernel
theorem dX6_river_199 : decode cX6_river 199 = .ok (.putfield 183, 3) := by decide +kernel
theorem dX6_river_202 : decode cX6_river 202 = .ok (.aload_n 0, 1) := by decide +kernel
theorem dX6_river_203 : decode cX6_river 203 = .ok (.iconst 0, 1) := by decide +kernel
theorem dX6_river_204 : decode cX6_river 204 = .ok (.putfield 186, 3) := by decide +kernel
theorem dX6_river_207 : decode cX6_river 207 = .ok (.aload_n 0, 1) := by decide +kernel
theorem dX6_river_208 : decode cX6_river 208 = .ok (.iconst 0, 1) := by decide +kernel
theorem dX6_river_209 : decode cX6_river 209 = .ok (.putfield 189, 3) := by decide +kernel
theorem dX6_river_212 : decode cX6_river 212 = .ok (.aload_n 0, 1) := by decide +kernel
theorem dX6_river_213 : decode cX6_river 213 = .ok (.getfield 50, 3) := by decide +kernel
theorem dX6_river_216 : decode cX6_river 216 = .ok (.iconst 0, 1) := by decide +kernel
theorem dX6_river_217 : decode cX6_river 217 = .ok (.iconst 0, 1) := by decide +kernel
theorem dX6_river_218 : decode cX6_river 218 = .ok (.iastore, 1) := by decide +kernel
theorem dX6_river_219 : decode cX6_river 219 = .ok (.aload_n 0, 1) := by decide +kernel
theorem dX6_river_220 : decode cX6_river 220 = .ok (.getfield 50, 3) := by decide +kernel
theorem dX6_river_223 : decode cX6_river 223 = .ok (.bipush 30, 2) := by decide +kernel
theorem dX6_river_225 : decode cX6_river 225 = .ok (.iconst 0, 1) := by decide +kernel
theorem dX6_river_226 : decode cX6_river 226 = .ok (.iastore, 1) := by decide +kernel
theorem dX6_river_227 : decode cX6_river 227 = .ok (.aload_n 0, 1) := by decide +kernel
theorem dX6_river_228 : decode cX6_river 228 = .ok (.iconst 0, 1) := by decide +kernel
theorem dX6_river_229 : decode cX6_river 229 = .ok (.putfield 91, 3) := by decide +kernel
theorem dX6_river_232 : decode cX6_river 232 = .ok (.iload_n 1, 1) := by decide +kernel
theorem dX6_river_233 : decode cX6_river 233 = .ok (.ireturn, 1) := by decide +kernel
theorem dX6_ferryOf_0 : decode cX6_ferryOf 0 = .ok (.iload_n 0, 1) := by decide +kernel
theorem dX6_ferryOf_1 : decode cX6_ferryOf 1 = .ok (.sipush 128, 3) := by decide +kernel
theorem dX6_ferryOf_4 : decode cX6_ferryOf 4 = .ok (.idiv, 1) := by decide +kernel
theorem dX6_ferryOf_5 : decode cX6_ferryOf 5 = .ok (.ireturn, 1) := by decide +kernel
theorem dX6_there_0 : decode cX6_there 0 = .ok (.iconst 1, 1) := by decide +kernel
theorem dX6_there_1 : decode cX6_there 1 = .ok (.aload_n 0, 1) := by decide +kernel
theorem dX6_there_2 : decode cX6_there 2 = .ok (.getfield 82, 3) := by decide +kernel
theorem dX6_there_5 : decode cX6_there 5 = .ok (.ishl, 1) := by decide +kernel
theorem dX6_there_6 : decode cX6_there 6 = .ok (.iconst 1, 1) := by decide +kernel
theorem dX6_there_7 : decode cX6_there 7 = .ok (.isub, 1) := by decide +kernel
theorem dX6_there_8 : decode cX6_there 8 = .ok (.istore_n 2, 1) := by decide +kernel
theorem dX6_there_9 : decode cX6_there 9 = .ok (.iload_n 1, 1) := by decide +kernel
theorem dX6_there_10 : decode cX6_there 10 = .ok (.invokestatic 192, 3) := by decide +kernel
theorem dX6_there_13 : decode cX6_there 13 = .ok (.iconst 1, 1) := by decide +kernel
theorem dX6_there_14 : decode cX6_there 14 = .ok (.if_icmp .ne 9, 3) := by decide +kernel
theorem dX6_there_17 : decode cX6_there 17 = .ok (.iload_n 1, 1) := by decide +kernel
theorem dX6_there_18 : decode cX6_there 18 = .ok (.iload_n 2, 1) := by decide +kernel
theorem dX6_there_19 : decode cX6_there 19 = .ok (.iand, 1) := by decide +kernel
theorem dX6_there_20 : decode cX6_there 20 = .ok (.goto 8, 3) := by decide +kernel
theorem dX6_there_23 : decode cX6_there 23 = .ok (.iload_n 1, 1) := by decide +kernel
theorem dX6_there_24 : decode cX6_there 24 = .ok (.iconst (-1), 1) := by decide +kernel
theorem dX6_there_25 : decode cX6_there 25 = .ok (.ixor, 1) := by decide +kernel
theorem dX6_there_26 : decode cX6_there 26 = .ok (.iload_n 2, 1) := by decide +kernel
theorem dX6_there_27 : decode cX6_there 27 = .ok (.iand, 1) := by decide +kernel
theorem dX6_there_28 : decode cX6_there 28 = .ok (.ireturn, 1) := by decide +kernel
theorem dX6_isSafe_0 : decode cX6_isSafe 0 = .ok (.iconst 1, 1) := by decide +kernel
theorem dX6_isSafe_1 : decode cX6_isSafe 1 = .ok (.aload_n 0, 1) := by decide +kernel
theorem dX6_isSafe_2 : decode cX6_isSafe 2 = .ok (.getfield 82, 3) := by decide +kernel
theorem dX6_isSafe_5 : decode cX6_isSafe 5 = .ok (.ishl, 1) := by decide +kernel
theorem dX6_isSafe_6 : decode cX6_isSafe 6 = .ok (.iconst 1, 1) := by decide +kernel
theorem dX6_isSafe_7 : decode cX6_isSafe 7 = .ok (.isub, 1) := by decide +kernel
theorem dX6_isSafe_8 : decode cX6_isSafe 8 = .ok (.aload_n 0, 1) := by decide +kernel
theorem dX6_isSafe_9 : decode cX6_isSafe 9 = .ok (.iload_n 1, 1) := by decide +kernel
theorem dX6_isSafe_10 : decode cX6_isSafe 10 = .ok (.invokevirtual 196, 3) := by decide +kernel
theorem dX6_isSafe_13 : decode cX6_isSafe 13 = .ok (.iconst (-1), 1) := by decide +kernel
theorem dX6_isSafe_14 : decode cX6_isSafe 14 = .ok (.ixor, 1) := by decide +kernel
theorem dX6_isSafe_15 : decode cX6_isSafe 15 = .ok (.iand, 1) := by decide +kernel
theorem dX6_isSafe_16 : decode cX6_isSafe 16 = .ok (.istore_n 2, 1) := by decide +kernel
theorem dX6_isSafe_17 : decode cX6_isSafe 17 = .ok (.iconst 1, 1) := by decide +kernel
theorem dX6_isSafe_18 : decode cX6_isSafe 18 = .ok (.istore_n 3, 1) := by decide +kernel
theorem dX6_isSafe_19 : decode cX6_isSafe 19 = .ok (.iconst 0, 1) := by decide +kernel
theorem dX6_isSafe_20 : decode cX6_isSafe 20 = .ok (.istore 4, 2) := by decide +kernel
theorem dX6_isSafe_22 : decode cX6_isSafe 22 = .ok (.iload 4, 2) := by decide +kernel
theorem dX6_isSafe_24 : decode cX6_isSafe 24 = .ok (.aload_n 0, 1) := by decide +kernel
theorem dX6_isSafe_25 : decode cX6_isSafe 25 = .ok (.getfield 82, 3) := by decide +kernel
theorem dX6_isSafe_28 : decode cX6_isSafe 28 = .ok (.if_icmp .ge 40, 3) := by decide +kernel
theorem dX6_isSafe_31 : decode cX6_isSafe 31 = .ok (.iload_n 3, 1) := by decide +kernel
theorem dX6_isSafe_32 : decode cX6_isSafe 32 = .ok (.ifCond .eq 28, 3) := by decide +kernel
theorem dX6_isSafe_35 : decode cX6_isSafe 35 = .ok (.iload_n 2, 1) := by decide +kernel
theorem dX6_isSafe_36 : decode cX6_isSafe 36 = .ok (.iload 4, 2) := by decide +kernel
theorem dX6_isSafe_38 : decode cX6_isSafe 38 = .ok (.invokestatic 199, 3) := by decide +kernel
theorem dX6_isSafe_41 : decode cX6_isSafe 41 = .ok (.ifCond .eq 15, 3) := by decide +kernel
theorem dX6_isSafe_44 : decode cX6_isSafe 44 = .ok (.aload_n 0, 1) := by decide +kernel
theorem dX6_isSafe_45 : decode cX6_isSafe 45 = .ok (.getfield 22, 3) := by decide +kernel
theorem dX6_isSafe_48 : decode cX6_isSafe 48 = .ok (.iload 4, 2) := by decide +kernel
theorem dX6_isSafe_50 : decode cX6_isSafe 50 = .ok (.iaload, 1) := by decide +kernel
theorem dX6_isSafe_51 : decode cX6_isSafe 51 = .ok (.iload_n 2, 1) := by decide +kernel
theorem dX6_isSafe_52 : decode cX6_isSafe 52 = .ok (.iand, 1) := by decide +kernel
theorem dX6_isSafe_53 : decode cX6_isSafe 53 = .ok (.ifCond .ne 7, 3) := by decide +kernel
theorem dX6_isSafe_56 : decode cX6_isSafe 56 = .ok (.iconst 1, 1) := by decide +kernel
theorem dX6_isSafe_57 : decode cX6_isSafe 57 = .ok (.goto 4, 3) := by decide +kernel
theorem dX6_isSafe_60 : decode cX6_isSafe 60 = .ok (.iconst 0, 1) := by decide +kernel
theorem dX6_isSafe_61 : decode cX6_isSafe 61 = .ok (.istore_n 3, 1) := by decide +kernel
theorem dX6_isSafe_62 : decode cX6_isSafe 62 = .ok (.iinc 4 1, 3) := by decide +kernel
theorem dX6_isSafe_65 : decode cX6_isSafe 65 = .ok (.goto (-43), 3) := by decide +kernel
theorem dX6_isSafe_68 : decode cX6_isSafe 68 = .ok (.iload_n 3, 1) := by decide +kernel
theorem dX6_isSafe_69 : decode cX6_isSafe 69 = .ok (.ireturn, 1) := by decide +kernel
theorem dX6_wrongOf_0 : decode cX6_wrongOf 0 = .ok (.iconst 0, 1) := by decide +kernel
theorem dX6_wrongOf_1 : decode cX6_wrongOf 1 = .ok (.istore_n 2, 1) := by decide +kernel
theorem dX6_wrongOf_2 : decode cX6_wrongOf 2 = .ok (.iconst 0, 1) := by decide +kernel
theorem dX6_wrongOf_3 : decode cX6_wrongOf 3 = .ok (.istore_n 3, 1) := by decide +kernel
theorem dX6_wrongOf_4 : decode cX6_wrongOf 4 = .ok (.iload_n 3, 1) := by decide +kernel
theorem dX6_wrongOf_5 : decode cX6_wrongOf 5 = .ok (.aload_n 0, 1) := by decide +kernel
theorem dX6_wrongOf_6 : decode cX6_wrongOf 6 = .ok (.getfield 82, 3) := by decide +kernel
theorem dX6_wrongOf_9 : decode cX6_wrongOf 9 = .ok (.if_icmp .ge 43, 3) := by decide +kernel
theorem dX6_wrongOf_12 : decode cX6_wrongOf 12 = .ok (.iload_n 2, 1) := by decide +kernel
theorem dX6_wrongOf_13 : decode cX6_wrongOf 13 = .ok (.aload_n 0, 1) := by decide +kernel
theorem dX6_wrongOf_14 : decode cX6_wrongOf 14 = .ok (.getfield 13, 3) := by decide +kernel
theorem dX6_wrongOf_17 : decode cX6_wrongOf 17 = .ok (.iload_n 3, 1) := by decide +kernel
theorem dX6_wrongOf_18 : decode cX6_wrongOf 18 = .ok (.iaload, 1) := by decide +kernel
theorem dX6_wrongOf_19 : decode cX6_wrongOf 19 = .ok (.iconst 2, 1) := by decide +kernel
theorem dX6_wrongOf_20 : decode cX6_wrongOf 20 = .ok (.if_icmp .ge 23, 3) := by decide +kernel
theorem dX6_wrongOf_23 : decode cX6_wrongOf 23 = .ok (.iload_n 1, 1) := by decide +kernel
theorem dX6_wrongOf_24 : decode cX6_wrongOf 24 = .ok (.iload_n 3, 1) := by decide +kernel
theorem dX6_wrongOf_25 : decode cX6_wrongOf 25 = .ok (.ishr, 1) := by decide +kernel
theorem dX6_wrongOf_26 : decode cX6_wrongOf 26 = .ok (.iconst 1, 1) := by decide +kernel
theorem dX6_wrongOf_27 : decode cX6_wrongOf 27 = .ok (.iand, 1) := by decide +kernel
theorem dX6_wrongOf_28 : decode cX6_wrongOf 28 = .ok (.aload_n 0, 1) := by decide +kernel
theorem dX6_wrongOf_29 : decode cX6_wrongOf 29 = .ok (.getfield 13, 3) := by decide +kernel
theorem dX6_wrongOf_32 : decode cX6_wrongOf 32 = .ok (.iload_n 3, 1) := by decide +kernel
theorem dX6_wrongOf_33 : decode cX6_wrongOf 33 = .ok (.iaload, 1) := by decide +kernel
theorem dX6_wrongOf_34 : decode cX6_wrongOf 34 = .ok (.if_icmp .eq 9, 3) := by decide +kernel
theorem dX6_wrongOf_37 : decode cX6_wrongOf 37 = .ok (.iconst 1, 1) := by decide +kernel
theorem dX6_wrongOf_38 : decode cX6_wrongOf 38 = .ok (.iload_n 3, 1) := by decide +kernel
theorem dX6_wrongOf_39 : decode cX6_wrongOf 39 = .ok (.ishl, 1) := by decide +kernel
theorem dX6_wrongOf_40 : decode cX6_wrongOf 40 = .ok (.goto 4, 3) := by decide +kernel
theorem dX6_wrongOf_43 : decode cX6_wrongOf 43 = .ok (.iconst 0, 1) := by decide +kernel
theorem dX6_wrongOf_44 : decode cX6_wrongOf 44 = .ok (.ior, 1) := by decide +kernel
theorem dX6_wrongOf_45 : decode cX6_wrongOf 45 = .ok (.istore_n 2, 1) := by decide +kernel
theorem dX6_wrongOf_46 : decode cX6_wrongOf 46 = .ok (.iinc 3 1, 3) := by decide +kernel
theorem dX6_wrongOf_49 : decode cX6_wrongOf 49 = .ok (.goto (-45), 3) := by decide +kernel
theorem dX6_wrongOf_52 : decode cX6_wrongOf 52 = .ok (.iload_n 2, 1) := by decide +kernel
theorem dX6_wrongOf_53 : decode cX6_wrongOf 53 = .ok (.ireturn, 1) := by decide +kernel
theorem dX6_rentOf_0 : decode cX6_rentOf 0 = .ok (.iconst 0, 1) := by decide +kernel
theorem dX6_rentOf_1 : decode cX6_rentOf 1 = .ok (.istore_n 2, 1) := by decide +kernel
theorem dX6_rentOf_2 : decode cX6_rentOf 2 = .ok (.iconst 0, 1) := by decide +kernel
theorem dX6_rentOf_3 : decode cX6_rentOf 3 = .ok (.istore_n 3, 1) := by decide +kernel
theorem dX6_rentOf_4 : decode cX6_rentOf 4 = .ok (.iload_n 3, 1) := by decide +kernel
theorem dX6_rentOf_5 : decode cX6_rentOf 5 = .ok (.aload_n 0, 1) := by decide +kernel
theorem dX6_rentOf_6 : decode cX6_rentOf 6 = .ok (.getfield 82, 3) := by decide +kernel
theorem dX6_rentOf_9 : decode cX6_rentOf 9 = .ok (.if_icmp .ge 34, 3) := by decide +kernel
theorem dX6_rentOf_12 : decode cX6_rentOf 12 = .ok (.iload_n 2, 1) := by decide +kernel
theorem dX6_rentOf_13 : decode cX6_rentOf 13 = .ok (.aload_n 0, 1) := by decide +kernel
theorem dX6_rentOf_14 : decode cX6_rentOf 14 = .ok (.iload_n 1, 1) := by decide +kernel
theorem dX6_rentOf_15 : decode cX6_rentOf 15 = .ok (.invokevirtual 202, 3) := by decide +kernel
theorem dX6_rentOf_18 : decode cX6_rentOf 18 = .ok (.iload_n 3, 1) := by decide +kernel
theorem dX6_rentOf_19 : decode cX6_rentOf 19 = .ok (.invokestatic 199, 3) := by decide +kernel
theorem dX6_rentOf_22 : decode cX6_rentOf 22 = .ok (.ifCond .eq 12, 3) := by decide +kernel
theorem dX6_rentOf_25 : decode cX6_rentOf 25 = .ok (.aload_n 0, 1) := by decide +kernel
theorem dX6_rentOf_26 : decode cX6_rentOf 26 = .ok (.getfield 16, 3) := by decide +kernel
theorem dX6_rentOf_29 : decode cX6_rentOf 29 = .ok (.iload_n 3, 1) := by decide +kernel
theorem dX6_rentOf_30 : decode cX6_rentOf 30 = .ok (.iaload, 1) := by decide +kernel
theorem dX6_rentOf_31 : decode cX6_rentOf 31 = .ok (.goto 4, 3) := by decide +kernel
theorem dX6_rentOf_34 : decode cX6_rentOf 34 = .ok (.iconst 0, 1) := by decide +kernel
theorem dX6_rentOf_35 : decode cX6_rentOf 35 = .ok (.iadd, 1) := by decide +kernel
theorem dX6_rentOf_36 : decode cX6_rentOf 36 = .ok (.istore_n 2, 1) := by decide +kernel
theorem dX6_rentOf_37 : decode cX6_rentOf 37 = .ok (.iinc 3 1, 3) := by decide +kernel
theorem dX6_rentOf_40 : decode cX6_rentOf 40 = .ok (.goto (-36), 3) := by decide +kernel
theorem dX6_rentOf_43 : decode cX6_rentOf 43 = .ok (.iload_n 2, 1) := by decide +kernel
theorem dX6_rentOf_44 : decode cX6_rentOf 44 = .ok (.ireturn, 1) := by decide +kernel
theorem dX6_weightOf_0 : decode cX6_weightOf 0 = .ok (.iconst 0, 1) := by decide +kernel
theorem dX6_weightOf_1 : decode cX6_weightOf 1 = .ok (.istore_n 2, 1) := by decide +kernel
theorem dX6_weightOf_2 : decode cX6_weightOf 2 = .ok (.iconst 0, 1) := by decide +kernel
theorem dX6_weightOf_3 : decode cX6_weightOf 3 = .ok (.istore_n 3, 1) := by decide +kernel
theorem dX6_weightOf_4 : decode cX6_weightOf 4 = .ok (.iload_n 3, 1) := by decide +kernel
theorem dX6_weightOf_5 : decode cX6_weightOf 5 = .ok (.aload_n 0, 1) := by decide +kernel
theorem dX6_weightOf_6 : decode cX6_weightOf 6 = .ok (.getfield 82, 3) := by decide +kernel
theorem dX6_weightOf_9 : decode cX6_weightOf 9 = .ok (.if_icmp .ge 30, 3) := by decide +kernel
theorem dX6_weightOf_12 : decode cX6_weightOf 12 = .ok (.iload_n 2, 1) := by decide +kernel
theorem dX6_weightOf_13 : decode cX6_weightOf 13 = .ok (.iload_n 1, 1) := by decide +kernel
theorem dX6_weightOf_14 : decode cX6_weightOf 14 = .ok (.iload_n 3, 1) := by decide +kernel
theorem dX6_weightOf_15 : decode cX6_weightOf 15 = .ok (.invokestatic 199, 3) := by decide +kernel
theorem dX6_weightOf_18 : decode cX6_weightOf 18 = .ok (.ifCond .eq 12, 3) := by decide +kernel
theorem dX6_weightOf_21 : decode cX6_weightOf 21 = .ok (.aload_n 0, 1) := by decide +kernel
theorem dX6_weightOf_22 : decode cX6_weightOf 22 = .ok (.getfield 19, 3) := by decide +kernel
theorem dX6_weightOf_25 : decode cX6_weightOf 25 = .ok (.iload_n 3, 1) := by decide +kernel
theorem dX6_weightOf_26 : decode cX6_weightOf 26 = .ok (.iaload, 1) := by decide +kernel
theorem dX6_weightOf_27 : decode cX6_weightOf 27 = .ok (.goto 4, 3) := by decide +kernel
theorem dX6_weightOf_30 : decode cX6_weightOf 30 = .ok (.iconst 0, 1) := by decide +kernel
theorem dX6_weightOf_31 : decode cX6_weightOf 31 = .ok (.iadd, 1) := by decide +kernel
theorem dX6_weightOf_32 : decode cX6_weightOf 32 = .ok (.istore_n 2, 1) := by decide +kernel
theorem dX6_weightOf_33 : decode cX6_weightOf 33 = .ok (.iinc 3 1, 3) := by decide +kernel
theorem dX6_weightOf_36 : decode cX6_weightOf 36 = .ok (.goto (-32), 3) := by decide +kernel
theorem dX6_weightOf_39 : decode cX6_weightOf 39 = .ok (.iload_n 2, 1) := by decide +kernel
theorem dX6_weightOf_40 : decode cX6_weightOf 40 = .ok (.ireturn, 1) := by decide +kernel
theorem dX6_crosses_0 : decode cX6_crosses 0 = .ok (.iload_n 2, 1) := by decide +kernel
theorem dX6_crosses_1 : decode cX6_crosses 1 = .ok (.aload_n 0, 1) := by decide +kernel
theorem dX6_crosses_2 : decode cX6_crosses 2 = .ok (.iload_n 1, 1) := by decide +kernel
theorem dX6_crosses_3 : decode cX6_crosses 3 = .ok (.invokevirtual 196, 3) := by decide +kernel
theorem dX6_crosses_6 : decode cX6_crosses 6 = .ok (.iconst (-1), 1) := by decide +kernel
theorem dX6_crosses_7 : decode cX6_crosses 7 = .ok (.ixor, 1) := by decide +kernel
theorem dX6_crosses_8 : decode cX6_crosses 8 = .ok (.iand, 1) := by decide +kernel
theorem dX6_crosses_9 : decode cX6_crosses 9 = .ok (.ifCond .ne 12, 3) := by decide +kernel
theorem dX6_crosses_12 : decode cX6_crosses 12 = .ok (.aload_n 0, 1) := by decide +kernel
theorem dX6_crosses_13 : decode cX6_crosses 13 = .ok (.iload_n 2, 1) := by decide +kernel
theorem dX6_crosses_14 : decode cX6_crosses 14 = .ok (.invokevirtual 205, 3) := by decide +kernel
theorem dX6_crosses_17 : decode cX6_crosses 17 = .ok (.iload_n 3, 1) := by decide +kernel
theorem dX6_crosses_18 : decode cX6_crosses 18 = .ok (.if_icmp .le 5, 3) := by decide +kernel
theorem dX6_crosses_21 : decode cX6_crosses 21 = .ok (.iconst (-1), 1) := by decide +kernel
theorem dX6_crosses_22 : decode cX6_crosses 22 = .ok (.ireturn, 1) := by decide +kernel
theorem dX6_crosses_23 : decode cX6_crosses 23 = .ok (.iload_n 1, 1) := by decide +kernel
theorem dX6_crosses_24 : decode cX6_crosses 24 = .ok (.iload_n 2, 1) := by decide +kernel
theorem dX6_crosses_25 : decode cX6_crosses 25 = .ok (.ixor, 1) := by decide +kernel
theorem dX6_crosses_26 : decode cX6_crosses 26 = .ok (.sipush 128, 3) := by decide +kernel
theorem dX6_crosses_29 : decode cX6_crosses 29 = .ok (.ixor, 1) := by decide +kernel
theorem dX6_crosses_30 : decode cX6_crosses 30 = .ok (.istore 4, 2) := by decide +kernel
theorem dX6_crosses_32 : decode cX6_crosses 32 = .ok (.aload_n 0, 1) := by decide +kernel
theorem dX6_crosses_33 : decode cX6_crosses 33 = .ok (.iload 4, 2) := by decide +kernel
theorem dX6_crosses_35 : decode cX6_crosses 35 = .ok (.invokevirtual 208, 3) := by decide +kernel
theorem dX6_crosses_38 : decode cX6_crosses 38 = .ok (.ifCond .eq 8, 3) := by decide +kernel
theorem dX6_crosses_41 : decode cX6_crosses 41 = .ok (.iload 4, 2) := by decide +kernel
theorem dX6_crosses_43 : decode cX6_crosses 43 = .ok (.goto 4, 3) := by decide +kernel
theorem dX6_crosses_46 : decode cX6_crosses 46 = .ok (.iconst (-1), 1) := by decide +kernel
theorem dX6_crosses_47 : decode cX6_crosses 47 = .ok (.ireturn, 1) := by decide +kernel
theorem dX6_thing_0 : decode cX6_thing 0 = .ok (.aload_n 0, 1) := by decide +kernel
theorem dX6_thing_1 : decode cX6_thing 1 = .ok (.iload_n 1, 1) := by decide +kernel
theorem dX6_thing_2 : decode cX6_thing 2 = .ok (.invokevirtual 211, 3) := by decide +kernel
theorem dX6_thing_5 : decode cX6_thing 5 = .ok (.ifCond .eq 15, 3) := by decide +kernel
theorem dX6_thing_8 : decode cX6_thing 8 = .ok (.iload_n 2, 1) := by decide +kernel
theorem dX6_thing_9 : decode cX6_thing 9 = .ok (.i2l, 1) := by decide +kernel
theorem dX6_thing_10 : decode cX6_thing 10 = .ok (.lconst 0, 1) := by decide +kernel
theorem dX6_thing_11 : decode cX6_thing 11 = .ok (.ldc2_w 214, 3) := by decide +kernel
theorem dX6_thing_14 : decode cX6_thing 14 = .ok (.invokestatic 85, 3) := by decide +kernel
theorem dX6_thing_17 : decode cX6_thing 17 = .ok (.ifCond .ne 5, 3) := by decide +kernel
theorem dX6_thing_20 : decode cX6_thing 20 = .ok (.iconst (-1), 1) := by decide +kernel
theorem dX6_thing_21 : decode cX6_thing 21 = .ok (.ireturn, 1) := by decide +kernel
theorem dX6_thing_22 : decode cX6_thing 22 = .ok (.iload_n 2, 1) := by decide +kernel
theorem dX6_thing_23 : decode cX6_thing 23 = .ok (.ifCond .ne 14, 3) := by decide +kernel
theorem dX6_thing_26 : decode cX6_thing 26 = .ok (.aload_n 0, 1) := by decide +kernel
theorem dX6_thing_27 : decode cX6_thing 27 = .ok (.getfield 180, 3) := by decide +kernel
theorem dX6_thing_30 : decode cX6_thing 30 = .ok (.iload_n 1, 1) := by decide +kernel
theorem dX6_thing_31 : decode cX6_thing 31 = .ok (.ishr, 1) := by decide +kernel
theorem dX6_thing_32 : decode cX6_thing 32 = .ok (.iconst 1, 1) := by decide +kernel
theorem dX6_thing_33 : decode cX6_thing 33 = .ok (.iand, 1) := by decide +kernel
theorem dX6_thing_34 : decode cX6_thing 34 = .ok (.goto 51, 3) := by decide +kernel
theorem dX6_thing_37 : decode cX6_thing 37 = .ok (.iload_n 2, 1) := by decide +kernel
theorem dX6_thing_38 : decode cX6_thing 38 = .ok (.iconst 1, 1) := by decide +kernel
theorem dX6_thing_39 : decode cX6_thing 39 = .ok (.if_icmp .ne 12, 3) := by decide +kernel
theorem dX6_thing_42 : decode cX6_thing 42 = .ok (.aload_n 0, 1) := by decide +kernel
theorem dX6_thing_43 : decode cX6_thing 43 = .ok (.getfield 13, 3) := by decide +kernel
theorem dX6_thing_46 : decode cX6_thing 46 = .ok (.iload_n 1, 1) := by decide +kernel
theorem dX6_thing_47 : decode cX6_thing 47 = .ok (.iaload, 1) := by decide +kernel
theorem dX6_thing_48 : decode cX6_thing 48 = .ok (.goto 37, 3) := by decide +kernel
theorem dX6_thing_51 : decode cX6_thing 51 = .ok (.iload_n 2, 1) := by decide +kernel
theorem dX6_thing_52 : decode cX6_thing 52 = .ok (.iconst 2, 1) := by decide +kernel
theorem dX6_thing_53 : decode cX6_thing 53 = .ok (.if_icmp .ne 12, 3) := by decide +kernel
theorem dX6_thing_56 : decode cX6_thing 56 = .ok (.aload_n 0, 1) := by decide +kernel
theorem dX6_thing_57 : decode cX6_thing 57 = .ok (.getfield 16, 3) := by decide +kernel
theorem dX6_thing_60 : decode cX6_thing 60 = .ok (.iload_n 1, 1) := by decide +kernel
theorem dX6_thing_61 : decode cX6_thing 61 = .ok (.iaload, 1) := by decide +kernel
theorem dX6_thing_62 : decode cX6_thing 62 = .ok (.goto 23, 3) := by decide +kernel
theorem dX6_thing_65 : decode cX6_thing 65 = .ok (.iload_n 2, 1) := by decide +kernel
theorem dX6_thing_66 : decode cX6_thing 66 = .ok (.iconst 3, 1) := by decide +kernel
theorem dX6_thing_67 : decode cX6_thing 67 = .ok (.if_icmp .ne 12, 3) := by decide +kernel
theorem dX6_thing_70 : decode cX6_thing 70 = .ok (.aload_n 0, 1) := by decide +kernel
theorem dX6_thing_71 : decode cX6_thing 71 = .ok (.getfield 19, 3) := by decide +kernel
theorem dX6_thing_74 : decode cX6_thing 74 = .ok (.iload_n 1, 1) := by decide +kernel
theorem dX6_thing_75 : decode cX6_thing 75 = .ok (.iaload, 1) := by decide +kernel
theorem dX6_thing_76 : decode cX6_thing 76 = .ok (.goto 9, 3) := by decide +kernel
theorem dX6_thing_79 : decode cX6_thing 79 = .ok (.aload_n 0, 1) := by decide +kernel
theorem dX6_thing_80 : decode cX6_thing 80 = .ok (.getfield 22, 3) := by decide +kernel
theorem dX6_thing_83 : decode cX6_thing 83 = .ok (.iload_n 1, 1) := by decide +kernel
theorem dX6_thing_84 : decode cX6_thing 84 = .ok (.iaload, 1) := by decide +kernel
theorem dX6_thing_85 : decode cX6_thing 85 = .ok (.ireturn, 1) := by decide +kernel
theorem dX6_now_0 : decode cX6_now 0 = .ok (.iload_n 1, 1) := by decide +kernel
theorem dX6_now_1 : decode cX6_now 1 = .ok (.tableswitch 101 0 6 #[43, 51, 56, 61, 66, 75, 84], 43) := by decide +kernel
theorem dX6_now_44 : decode cX6_now 44 = .ok (.aload_n 0, 1) := by decide +kernel
theorem dX6_now_45 : decode cX6_now 45 = .ok (.getfield 180, 3) := by decide +kernel
theorem dX6_now_48 : decode cX6_now 48 = .ok (.invokestatic 192, 3) := by decide +kernel
theorem dX6_now_51 : decode cX6_now 51 = .ok (.ireturn, 1) := by decide +kernel
theorem dX6_now_52 : decode cX6_now 52 = .ok (.aload_n 0, 1) := by decide +kernel
theorem dX6_now_53 : decode cX6_now 53 = .ok (.getfield 25, 3) := by decide +kernel
theorem dX6_now_56 : decode cX6_now 56 = .ok (.ireturn, 1) := by decide +kernel
theorem dX6_now_57 : decode cX6_now 57 = .ok (.aload_n 0, 1) := by decide +kernel
theorem dX6_now_58 : decode cX6_now 58 = .ok (.getfield 32, 3) := by decide +kernel
theorem dX6_now_61 : decode cX6_now 61 = .ok (.ireturn, 1) := by decide +kernel
theorem dX6_now_62 : decode cX6_now 62 = .ok (.aload_n 0, 1) := by decide +kernel
theorem dX6_now_63 : decode cX6_now 63 = .ok (.getfield 183, 3) := by decide +kernel
theorem dX6_now_66 : decode cX6_now 66 = .ok (.ireturn, 1) := by decide +kernel
theorem dX6_now_67 : decode cX6_now 67 = .ok (.aload_n 0, 1) := by decide +kernel
theorem dX6_now_68 : decode cX6_now 68 = .ok (.aload_n 0, 1) := by decide +kernel
theorem dX6_now_69 : decode cX6_now 69 = .ok (.getfield 180, 3) := by decide +kernel
theorem dX6_now_72 : decode cX6_now 72 = .ok (.invokevirtual 202, 3) := by decide +kernel
theorem dX6_now_75 : decode cX6_now 75 = .ok (.ireturn, 1) := by decide +kernel
theorem dX6_now_76 : decode cX6_now 76 = .ok (.aload_n 0, 1) := by decide +kernel
theorem dX6_now_77 : decode cX6_now 77 = .ok (.aload_n 0, 1) := by decide +kernel
theorem dX6_now_78 : decode cX6_now 78 = .ok (.getfield 180, 3) := by decide +kernel
theorem dX6_now_81 : decode cX6_now 81 = .ok (.invokevirtual 216, 3) := by decide +kernel
theorem dX6_now_84 : decode cX6_now 84 = .ok (.ireturn, 1) := by decide +kernel
theorem dX6_now_85 : decode cX6_now 85 = .ok (.aload_n 0, 1) := by decide +kernel
theorem dX6_now_86 : decode cX6_now 86 = .ok (.aload_n 0, 1) := by decide +kernel
theorem dX6_now_87 : decode cX6_now 87 = .ok (.getfield 180, 3) := by decide +kernel
theorem dX6_now_90 : decode cX6_now 90 = .ok (.invokevirtual 208, 3) := by decide +kernel
theorem dX6_now_93 : decode cX6_now 93 = .ok (.ifCond .eq 7, 3) := by decide +kernel
theorem dX6_now_96 : decode cX6_now 96 = .ok (.iconst 1, 1) := by decide +kernel
theorem dX6_now_97 : decode cX6_now 97 = .ok (.goto 4, 3) := by decide +kernel
theorem dX6_now_100 : decode cX6_now 100 = .ok (.iconst 0, 1) := by decide +kernel
theorem dX6_now_101 : decode cX6_now 101 = .ok (.ireturn, 1) := by decide +kernel
theorem dX6_now_102 : decode cX6_now 102 = .ok (.iconst (-1), 1) := by decide +kernel
theorem dX6_now_103 : decode cX6_now 103 = .ok (.ireturn, 1) := by decide +kernel
theorem dX6_remember_0 : decode cX6_remember 0 = .ok (.aload_n 0, 1) := by decide +kernel
theorem dX6_remember_1 : decode cX6_remember 1 = .ok (.getfield 186, 3) := by decide +kernel
theorem dX6_remember_4 : decode cX6_remember 4 = .ok (.bipush 10, 2) := by decide +kernel
theorem dX6_remember_6 : decode cX6_remember 6 = .ok (.if_icmp .ne 41, 3) := by decide +kernel
theorem dX6_remember_9 : decode cX6_remember 9 = .ok (.iconst 0, 1) := by decide +kernel
theorem dX6_remember_10 : decode cX6_remember 10 = .ok (.istore_n 1, 1) := by decide +kernel
theorem dX6_remember_11 : decode cX6_remember 11 = .ok (.iload_n 1, 1) := by decide +kernel
theorem dX6_remember_12 : decode cX6_remember 12 = .ok (.bipush 18, 2) := by decide +kernel
theorem dX6_remember_14 : decode cX6_remember 14 = .ok (.if_icmp .ge 23, 3) := by decide +kernel
theorem dX6_remember_17 : decode cX6_remember 17 = .ok (.aload_n 0, 1) := by decide +kernel
theorem dX6_remember_18 : decode cX6_remember 18 = .ok (.getfield 38, 3) := by decide +kernel
theorem dX6_remember_21 : decode cX6_remember 21 = .ok (.iload_n 1, 1) := by decide +kernel
theorem dX6_remember_22 : decode cX6_remember 22 = .ok (.aload_n 0, 1) := by decide +kernel
theorem dX6_remember_23 : decode cX6_remember 23 = .ok (.getfield 38, 3) := by decide +kernel
theorem dX6_remember_26 : decode cX6_remember 26 = .ok (.iload_n 1, 1) := by decide +kernel
theorem dX6_remember_27 : decode cX6_remember 27 = .ok (.iconst 2, 1) := by decide +kernel
theorem dX6_remember_28 : decode cX6_remember 28 = .ok (.iadd, 1) := by decide +kernel
theorem dX6_remember_29 : decode cX6_remember 29 = .ok (.iaload, 1) := by decide +kernel
theorem dX6_remember_30 : decode cX6_remember 30 = .ok (.iastore, 1) := by decide +kernel
theorem dX6_remember_31 : decode cX6_remember 31 = .ok (.iinc 1 1, 3) := by decide +kernel
theorem dX6_remember_34 : decode cX6_remember 34 = .ok (.goto (-23), 3) := by decide +kernel
theorem dX6_remember_37 : decode cX6_remember 37 = .ok (.aload_n 0, 1) := by decide +kernel
theorem dX6_remember_38 : decode cX6_remember 38 = .ok (.dup, 1) := by decide +kernel
theorem dX6_remember_39 : decode cX6_remember 39 = .ok (.getfield 186, 3) := by decide +kernel
theorem dX6_remember_42 : decode cX6_remember 42 = .ok (.iconst 1, 1) := by decide +kernel
theorem dX6_remember_43 : decode cX6_remember 43 = .ok (.isub, 1) := by decide +kernel
theorem dX6_remember_44 : decode cX6_remember 44 = .ok (.putfield 186, 3) := by decide +kernel
theorem dX6_remember_47 : decode cX6_remember 47 = .ok (.aload_n 0, 1) := by decide +kernel
theorem dX6_remember_48 : decode cX6_remember 48 = .ok (.getfield 38, 3) := by decide +kernel
theorem dX6_remember_51 : decode cX6_remember 51 = .ok (.iconst 2, 1) := by decide +kernel
theorem dX6_remember_52 : decode cX6_remember 52 = .ok (.aload_n 0, 1) := by decide +kernel
theorem dX6_remember_53 : decode cX6_remember 53 = .ok (.getfield 186, 3) := by decide +kernel
theorem dX6_remember_56 : decode cX6_remember 56 = .ok (.imul, 1) := by decide +kernel
theorem dX6_remember_57 : decode cX6_remember 57 = .ok (.aload_n 0, 1) := by decide +kernel
theorem dX6_remember_58 : decode cX6_remember 58 = .ok (.getfield 180, 3) := by decide +kernel
theorem dX6_remember_61 : decode cX6_remember 61 = .ok (.iastore, 1) := by decide +kernel
theorem dX6_remember_62 : decode cX6_remember 62 = .ok (.aload_n 0, 1) := by decide +kernel
theorem dX6_remember_63 : decode cX6_remember 63 = .ok (.getfield 38, 3) := by decide +kernel
theorem dX6_remember_66 : decode cX6_remember 66 = .ok (.iconst 2, 1) := by decide +kernel
theorem dX6_remember_67 : decode cX6_remember 67 = .ok (.aload_n 0, 1) := by decide +kernel
theorem dX6_remember_68 : decode cX6_remember 68 = .ok (.getfield 186, 3) := by decide +kernel
theorem dX6_remember_71 : decode cX6_remember 71 = .ok (.imul, 1) := by decide +kernel
theorem dX6_remember_72 : decode cX6_remember 72 = .ok (.iconst 1, 1) := by decide +kernel
theorem dX6_remember_73 : decode cX6_remember 73 = .ok (.iadd, 1) := by decide +kernel
theorem dX6_remember_74 : decode cX6_remember 74 = .ok (.aload_n 0, 1) := by decide +kernel
theorem dX6_remember_75 : decode cX6_remember 75 = .ok (.getfield 32, 3) := by decide +kernel
theorem dX6_remember_78 : decode cX6_remember 78 = .ok (.iastore, 1) := by decide +kernel
theorem dX6_remember_79 : decode cX6_remember 79 = .ok (.aload_n 0, 1) := by decide +kernel
theorem dX6_remember_80 : decode cX6_remember 80 = .ok (.dup, 1) := by decide +kernel
theorem dX6_remember_81 : decode cX6_remember 81 = .ok (.getfield 186, 3) := by decide +kernel
theorem dX6_remember_84 : decode cX6_remember 84 = .ok (.iconst 1, 1) := by decide +kernel
theorem dX6_remember_85 : decode cX6_remember 85 = .ok (.iadd, 1) := by decide +kernel
theorem dX6_remember_86 : decode cX6_remember 86 = .ok (.putfield 186, 3) := by decide +kernel
theorem dX6_remember_89 : decode cX6_remember 89 = .ok (.return_, 1) := by decide +kernel
theorem dX6_cross_0 : decode cX6_cross 0 = .ok (.iload_n 1, 1) := by decide +kernel
theorem dX6_cross_1 : decode cX6_cross 1 = .ok (.i2l, 1) := by decide +kernel
theorem dX6_cross_2 : decode cX6_cross 2 = .ok (.lconst 0, 1) := by decide +kernel
theorem dX6_cross_3 : decode cX6_cross 3 = .ok (.iconst 1, 1) := by decide +kernel
theorem dX6_cross_4 : decode cX6_cross 4 = .ok (.aload_n 0, 1) := by decide +kernel
theorem dX6_cross_5 : decode cX6_cross 5 = .ok (.getfield 82, 3) := by decide +kernel
theorem dX6_cross_8 : decode cX6_cross 8 = .ok (.ishl, 1) := by decide +kernel
theorem dX6_cross_9 : decode cX6_cross 9 = .ok (.iconst 1, 1) := by decide +kernel
theorem dX6_cross_10 : decode cX6_cross 10 = .ok (.isub, 1) := by decide +kernel
theorem dX6_cross_11 : decode cX6_cross 11 = .ok (.i2l, 1) := by decide +kernel
theorem dX6_cross_12 : decode cX6_cross 12 = .ok (.invokestatic 85, 3) := by decide +kernel
theorem dX6_cross_15 : decode cX6_cross 15 = .ok (.ifCond .ne 5, 3) := by decide +kernel
theorem dX6_cross_18 : decode cX6_cross 18 = .ok (.iconst (-1), 1) := by decide +kernel
theorem dX6_cross_19 : decode cX6_cross 19 = .ok (.ireturn, 1) := by decide +kernel
theorem dX6_cross_20 : decode cX6_cross 20 = .ok (.aload_n 0, 1) := by decide +kernel
theorem dX6_cross_21 : decode cX6_cross 21 = .ok (.aload_n 0, 1) := by decide +kernel
theorem dX6_cross_22 : decode cX6_cross 22 = .ok (.getfield 180, 3) := by decide +kernel
theorem dX6_cross_25 : decode cX6_cross 25 = .ok (.iload_n 1, 1) := by decide +kernel
theorem dX6_cross_26 : decode cX6_cross 26 = .ok (.aload_n 0, 1) := by decide +kernel
theorem dX6_cross_27 : decode cX6_cross 27 = .ok (.getfield 25, 3) := by decide +kernel
theorem dX6_cross_30 : decode cX6_cross 30 = .ok (.invokevirtual 219, 3) := by decide +kernel
theorem dX6_cross_33 : decode cX6_cross 33 = .ok (.istore_n 2, 1) := by decide +kernel
theorem dX6_cross_34 : decode cX6_cross 34 = .ok (.iload_n 2, 1) := by decide +kernel
theorem dX6_cross_35 : decode cX6_cross 35 = .ok (.ifCond .lt 10, 3) := by decide +kernel
theorem dX6_cross_38 : decode cX6_cross 38 = .ok (.aload_n 0, 1) := by decide +kernel
theorem dX6_cross_39 : decode cX6_cross 39 = .ok (.getfield 32, 3) := by decide +kernel
theorem dX6_cross_42 : decode cX6_cross 42 = .ok (.ifCond .ne 6, 3) := by decide +kernel
theorem dX6_cross_45 : decode cX6_cross 45 = .ok (.bipush (-2), 2) := by decide +kernel
theorem dX6_cross_47 : decode cX6_cross 47 = .ok (.ireturn, 1) := by decide +kernel
theorem dX6_cross_48 : decode cX6_cross 48 = .ok (.aload_n 0, 1) := by decide +kernel
theorem dX6_cross_49 : decode cX6_cross 49 = .ok (.invokevirtual 223, 3) := by decide +kernel
theorem dX6_cross_52 : decode cX6_cross 52 = .ok (.aload_n 0, 1) := by decide +kernel
theorem dX6_cross_53 : decode cX6_cross 53 = .ok (.iload_n 2, 1) := by decide +kernel
theorem dX6_cross_54 : decode cX6_cross 54 = .ok (.putfield 180, 3) := by decide +kernel
theorem dX6_cross_57 : decode cX6_cross 57 = .ok (.aload_n 0, 1) := by decide +kernel
theorem dX6_cross_58 : decode cX6_cross 58 = .ok (.dup, 1) := by decide +kernel
theorem dX6_cross_59 : decode cX6_cross 59 = .ok (.getfield 32, 3) := by decide +kernel
theorem dX6_cross_62 : decode cX6_cross 62 = .ok (.iconst 1, 1) := by decide +kernel
theorem dX6_cross_63 : decode cX6_cross 63 = .ok (.isub, 1) := by decide +kernel
theorem dX6_cross_64 : decode cX6_cross 64 = .ok (.putfield 32, 3) := by decide +kernel
theorem dX6_cross_67 : decode cX6_cross 67 = .ok (.aload_n 0, 1) := by decide +kernel
theorem dX6_cross_68 : decode cX6_cross 68 = .ok (.getfield 32, 3) := by decide +kernel
theorem dX6_cross_71 : decode cX6_cross 71 = .ok (.ireturn, 1) := by decide +kernel
theorem dX6_rest_0 : decode cX6_rest 0 = .ok (.aload_n 0, 1) := by decide +kernel
theorem dX6_rest_1 : decode cX6_rest 1 = .ok (.getfield 32, 3) := by decide +kernel
theorem dX6_rest_4 : decode cX6_rest 4 = .ok (.ifCond .ne 6, 3) := by decide +kernel
theorem dX6_rest_7 : decode cX6_rest 7 = .ok (.bipush (-2), 2) := by decide +kernel
theorem dX6_rest_9 : decode cX6_rest 9 = .ok (.ireturn, 1) := by decide +kernel
theorem dX6_rest_10 : decode cX6_rest 10 = .ok (.aload_n 0, 1) := by decide +kernel
theorem dX6_rest_11 : decode cX6_rest 11 = .ok (.invokevirtual 223, 3) := by decide +kernel
theorem dX6_rest_14 : decode cX6_rest 14 = .ok (.aload_n 0, 1) := by decide +kernel
theorem dX6_rest_15 : decode cX6_rest 15 = .ok (.dup, 1) := by decide +kernel
theorem dX6_rest_16 : decode cX6_rest 16 = .ok (.getfield 32, 3) := by decide +kernel
theorem dX6_rest_19 : decode cX6_rest 19 = .ok (.iconst 1, 1) := by decide +kernel
theorem dX6_rest_20 : decode cX6_rest 20 = .ok (.isub, 1) := by decide +kernel
theorem dX6_rest_21 : decode cX6_rest 21 = .ok (.putfield 32, 3) := by decide +kernel
theorem dX6_rest_24 : decode cX6_rest 24 = .ok (.aload_n 0, 1) := by decide +kernel
theorem dX6_rest_25 : decode cX6_rest 25 = .ok (.getfield 32, 3) := by decide +kernel
theorem dX6_rest_28 : decode cX6_rest 28 = .ok (.ireturn, 1) := by decide +kernel
theorem dX6_night_0 : decode cX6_night 0 = .ok (.aload_n 0, 1) := by decide +kernel
theorem dX6_night_1 : decode cX6_night 1 = .ok (.aload_n 0, 1) := by decide +kernel
theorem dX6_night_2 : decode cX6_night 2 = .ok (.getfield 35, 3) := by decide +kernel
theorem dX6_night_5 : decode cX6_night 5 = .ok (.ldc 226, 2) := by decide +kernel
theorem dX6_night_7 : decode cX6_night 7 = .ok (.imul, 1) := by decide +kernel
theorem dX6_night_8 : decode cX6_night 8 = .ok (.sipush 12345, 3) := by decide +kernel
theorem dX6_night_11 : decode cX6_night 11 = .ok (.iadd, 1) := by decide +kernel
theorem dX6_night_12 : decode cX6_night 12 = .ok (.putfield 35, 3) := by decide +kernel
theorem dX6_night_15 : decode cX6_night 15 = .ok (.aload_n 0, 1) := by decide +kernel
theorem dX6_night_16 : decode cX6_night 16 = .ok (.getfield 35, 3) := by decide +kernel
theorem dX6_night_19 : decode cX6_night 19 = .ok (.bipush 16, 2) := by decide +kernel
theorem dX6_night_21 : decode cX6_night 21 = .ok (.iushr, 1) := by decide +kernel
theorem dX6_night_22 : decode cX6_night 22 = .ok (.bipush 10, 2) := by decide +kernel
theorem dX6_night_24 : decode cX6_night 24 = .ok (.irem, 1) := by decide +kernel
theorem dX6_night_25 : decode cX6_night 25 = .ok (.aload_n 0, 1) := by decide +kernel
theorem dX6_night_26 : decode cX6_night 26 = .ok (.getfield 29, 3) := by decide +kernel
theorem dX6_night_29 : decode cX6_night 29 = .ok (.if_icmp .ge 29, 3) := by decide +kernel
theorem dX6_night_32 : decode cX6_night 32 = .ok (.aload_n 0, 1) := by decide +kernel
theorem dX6_night_33 : decode cX6_night 33 = .ok (.dup, 1) := by decide +kernel
theorem dX6_night_34 : decode cX6_night 34 = .ok (.getfield 183, 3) := by decide +kernel
theorem dX6_night_37 : decode cX6_night 37 = .ok (.aload_n 0, 1) := by decide +kernel
theorem dX6_night_38 : decode cX6_night 38 = .ok (.getfield 183, 3) := by decide +kernel
theorem dX6_night_41 : decode cX6_night 41 = .ok (.bipush 9, 2) := by decide +kernel
theorem dX6_night_43 : decode cX6_night 43 = .ok (.if_icmp .ge 7, 3) := by decide +kernel
theorem dX6_night_46 : decode cX6_night 46 = .ok (.iconst 1, 1) := by decide +kernel
theorem dX6_night_47 : decode cX6_night 47 = .ok (.goto 4, 3) := by decide +kernel
theorem dX6_night_50 : decode cX6_night 50 = .ok (.iconst 0, 1) := by decide +kernel
theorem dX6_night_51 : decode cX6_night 51 = .ok (.iadd, 1) := by decide +kernel
theorem dX6_night_52 : decode cX6_night 52 = .ok (.putfield 183, 3) := by decide +kernel
theorem dX6_night_55 : decode cX6_night 55 = .ok (.goto 24, 3) := by decide +kernel
theorem dX6_night_58 : decode cX6_night 58 = .ok (.aload_n 0, 1) := by decide +kernel
theorem dX6_night_59 : decode cX6_night 59 = .ok (.dup, 1) := by decide +kernel
theorem dX6_night_60 : decode cX6_night 60 = .ok (.getfield 183, 3) := by decide +kernel
theorem dX6_night_63 : decode cX6_night 63 = .ok (.aload_n 0, 1) := by decide +kernel
theorem dX6_night_64 : decode cX6_night 64 = .ok (.getfield 183, 3) := by decide +kernel
theorem dX6_night_67 : decode cX6_night 67 = .ok (.ifCond .le 7, 3) := by decide +kernel
theorem dX6_night_70 : decode cX6_night 70 = .ok (.iconst 1, 1) := by decide +kernel
theorem dX6_night_71 : decode cX6_night 71 = .ok (.goto 4, 3) := by decide +kernel
theorem dX6_night_74 : decode cX6_night 74 = .ok (.iconst 0, 1) := by decide +kernel
theorem dX6_night_75 : decode cX6_night 75 = .ok (.isub, 1) := by decide +kernel
theorem dX6_night_76 : decode cX6_night 76 = .ok (.putfield 183, 3) := by decide +kernel
theorem dX6_night_79 : decode cX6_night 79 = .ok (.aload_n 0, 1) := by decide +kernel
theorem dX6_night_80 : decode cX6_night 80 = .ok (.getfield 183, 3) := by decide +kernel
theorem dX6_night_83 : decode cX6_night 83 = .ok (.ireturn, 1) := by decide +kernel
theorem dX6_slide_0 : decode cX6_slide 0 = .ok (.aload_n 0, 1) := by decide +kernel
theorem dX6_slide_1 : decode cX6_slide 1 = .ok (.iload_n 1, 1) := by decide +kernel
theorem dX6_slide_2 : decode cX6_slide 2 = .ok (.invokevirtual 211, 3) := by decide +kernel
theorem dX6_slide_5 : decode cX6_slide 5 = .ok (.ifCond .ne 5, 3) := by decide +kernel
theorem dX6_slide_8 : decode cX6_slide 8 = .ok (.iconst (-1), 1) := by decide +kernel
theorem dX6_slide_9 : decode cX6_slide 9 = .ok (.ireturn, 1) := by decide +kernel
theorem dX6_slide_10 : decode cX6_slide 10 = .ok (.aload_n 0, 1) := by decide +kernel
theorem dX6_slide_11 : decode cX6_slide 11 = .ok (.getfield 19, 3) := by decide +kernel
theorem dX6_slide_14 : decode cX6_slide 14 = .ok (.iload_n 1, 1) := by decide +kernel
theorem dX6_slide_15 : decode cX6_slide 15 = .ok (.iaload, 1) := by decide +kernel
theorem dX6_slide_16 : decode cX6_slide 16 = .ok (.aload_n 0, 1) := by decide +kernel
theorem dX6_slide_17 : decode cX6_slide 17 = .ok (.getfield 183, 3) := by decide +kernel
theorem dX6_slide_20 : decode cX6_slide 20 = .ok (.if_icmp .gt 18, 3) := by decide +kernel
theorem dX6_slide_23 : decode cX6_slide 23 = .ok (.aload_n 0, 1) := by decide +kernel
theorem dX6_slide_24 : decode cX6_slide 24 = .ok (.aload_n 0, 1) := by decide +kernel
theorem dX6_slide_25 : decode cX6_slide 25 = .ok (.getfield 180, 3) := by decide +kernel
theorem dX6_slide_28 : decode cX6_slide 28 = .ok (.iconst 1, 1) := by decide +kernel
theorem dX6_slide_29 : decode cX6_slide 29 = .ok (.iload_n 1, 1) := by decide +kernel
theorem dX6_slide_30 : decode cX6_slide 30 = .ok (.ishl, 1) := by decide +kernel
theorem dX6_slide_31 : decode cX6_slide 31 = .ok (.ixor, 1) := by decide +kernel
theorem dX6_slide_32 : decode cX6_slide 32 = .ok (.invokevirtual 208, 3) := by decide +kernel
theorem dX6_slide_35 : decode cX6_slide 35 = .ok (.ifCond .ne 6, 3) := by decide +kernel
theorem dX6_slide_38 : decode cX6_slide 38 = .ok (.bipush (-2), 2) := by decide +kernel
theorem dX6_slide_40 : decode cX6_slide 40 = .ok (.ireturn, 1) := by decide +kernel
theorem dX6_slide_41 : decode cX6_slide 41 = .ok (.aload_n 0, 1) := by decide +kernel
theorem dX6_slide_42 : decode cX6_slide 42 = .ok (.invokevirtual 223, 3) := by decide +kernel
theorem dX6_slide_45 : decode cX6_slide 45 = .ok (.aload_n 0, 1) := by decide +kernel
theorem dX6_slide_46 : decode cX6_slide 46 = .ok (.dup, 1) := by decide +kernel
theorem dX6_slide_47 : decode cX6_slide 47 = .ok (.getfield 180, 3) := by decide +kernel
theorem dX6_slide_50 : decode cX6_slide 50 = .ok (.iconst 1, 1) := by decide +kernel
theorem dX6_slide_51 : decode cX6_slide 51 = .ok (.iload_n 1, 1) := by decide +kernel
theorem dX6_slide_52 : decode cX6_slide 52 = .ok (.ishl, 1) := by decide +kernel
theorem dX6_slide_53 : decode cX6_slide 53 = .ok (.ixor, 1) := by decide +kernel
theorem dX6_slide_54 : decode cX6_slide 54 = .ok (.putfield 180, 3) := by decide +kernel
theorem dX6_slide_57 : decode cX6_slide 57 = .ok (.aload_n 0, 1) := by decide +kernel
theorem dX6_slide_58 : decode cX6_slide 58 = .ok (.getfield 180, 3) := by decide +kernel
theorem dX6_slide_61 : decode cX6_slide 61 = .ok (.iload_n 1, 1) := by decide +kernel
theorem dX6_slide_62 : decode cX6_slide 62 = .ok (.ishr, 1) := by decide +kernel
theorem dX6_slide_63 : decode cX6_slide 63 = .ok (.iconst 1, 1) := by decide +kernel
theorem dX6_slide_64 : decode cX6_slide 64 = .ok (.iand, 1) := by decide +kernel
theorem dX6_slide_65 : decode cX6_slide 65 = .ok (.ireturn, 1) := by decide +kernel
theorem dX6_undo_0 : decode cX6_undo 0 = .ok (.aload_n 0, 1) := by decide +kernel
theorem dX6_undo_1 : decode cX6_undo 1 = .ok (.getfield 186, 3) := by decide +kernel
theorem dX6_undo_4 : decode cX6_undo 4 = .ok (.ifCond .ne 6, 3) := by decide +kernel
theorem dX6_undo_7 : decode cX6_undo 7 = .ok (.bipush (-2), 2) := by decide +kernel
theorem dX6_undo_9 : decode cX6_undo 9 = .ok (.ireturn, 1) := by decide +kernel
theorem dX6_undo_10 : decode cX6_undo 10 = .ok (.aload_n 0, 1) := by decide +kernel
theorem dX6_undo_11 : decode cX6_undo 11 = .ok (.dup, 1) := by decide +kernel
theorem dX6_undo_12 : decode cX6_undo 12 = .ok (.getfield 186, 3) := by decide +kernel
theorem dX6_undo_15 : decode cX6_undo 15 = .ok (.iconst 1, 1) := by decide +kernel
theorem dX6_undo_16 : decode cX6_undo 16 = .ok (.isub, 1) := by decide +kernel
theorem dX6_undo_17 : decode cX6_undo 17 = .ok (.putfield 186, 3) := by decide +kernel
theorem dX6_undo_20 : decode cX6_undo 20 = .ok (.aload_n 0, 1) := by decide +kernel
theorem dX6_undo_21 : decode cX6_undo 21 = .ok (.aload_n 0, 1) := by decide +kernel
theorem dX6_undo_22 : decode cX6_undo 22 = .ok (.getfield 38, 3) := by decide +kernel
theorem dX6_undo_25 : decode cX6_undo 25 = .ok (.iconst 2, 1) := by decide +kernel
theorem dX6_undo_26 : decode cX6_undo 26 = .ok (.aload_n 0, 1) := by decide +kernel
theorem dX6_undo_27 : decode cX6_undo 27 = .ok (.getfield 186, 3) := by decide +kernel
theorem dX6_undo_30 : decode cX6_undo 30 = .ok (.imul, 1) := by decide +kernel
theorem dX6_undo_31 : decode cX6_undo 31 = .ok (.iaload, 1) := by decide +kernel
theorem dX6_undo_32 : decode cX6_undo 32 = .ok (.putfield 180, 3) := by decide +kernel
theorem dX6_undo_35 : decode cX6_undo 35 = .ok (.aload_n 0, 1) := by decide +kernel
theorem dX6_undo_36 : decode cX6_undo 36 = .ok (.aload_n 0, 1) := by decide +kernel
theorem dX6_undo_37 : decode cX6_undo 37 = .ok (.getfield 38, 3) := by decide +kernel
theorem dX6_undo_40 : decode cX6_undo 40 = .ok (.iconst 2, 1) := by decide +kernel
theorem dX6_undo_41 : decode cX6_undo 41 = .ok (.aload_n 0, 1) := by decide +kernel
theorem dX6_undo_42 : decode cX6_undo 42 = .ok (.getfield 186, 3) := by decide +kernel
theorem dX6_undo_45 : decode cX6_undo 45 = .ok (.imul, 1) := by decide +kernel
theorem dX6_undo_46 : decode cX6_undo 46 = .ok (.iconst 1, 1) := by decide +kernel
theorem dX6_undo_47 : decode cX6_undo 47 = .ok (.iadd, 1) := by decide +kernel
theorem dX6_undo_48 : decode cX6_undo 48 = .ok (.iaload, 1) := by decide +kernel
theorem dX6_undo_49 : decode cX6_undo 49 = .ok (.putfield 32, 3) := by decide +kernel
theorem dX6_undo_52 : decode cX6_undo 52 = .ok (.aload_n 0, 1) := by decide +kernel
theorem dX6_undo_53 : decode cX6_undo 53 = .ok (.getfield 186, 3) := by decide +kernel
theorem dX6_undo_56 : decode cX6_undo 56 = .ok (.ireturn, 1) := by decide +kernel
theorem dX6_lot_0 : decode cX6_lot 0 = .ok (.aload_n 0, 1) := by decide +kernel
theorem dX6_lot_1 : decode cX6_lot 1 = .ok (.getfield 35, 3) := by decide +kernel
theorem dX6_lot_4 : decode cX6_lot 4 = .ok (.istore_n 2, 1) := by decide +kernel
theorem dX6_lot_5 : decode cX6_lot 5 = .ok (.aload_n 0, 1) := by decide +kernel
theorem dX6_lot_6 : decode cX6_lot 6 = .ok (.iload_n 1, 1) := by decide +kernel
theorem dX6_lot_7 : decode cX6_lot 7 = .ok (.putfield 35, 3) := by decide +kernel
theorem dX6_lot_10 : decode cX6_lot 10 = .ok (.iload_n 2, 1) := by decide +kernel
theorem dX6_lot_11 : decode cX6_lot 11 = .ok (.ireturn, 1) := by decide +kernel
theorem dX6_goes_0 : decode cX6_goes 0 = .ok (.iconst 0, 1) := by decide +kernel
theorem dX6_goes_1 : decode cX6_goes 1 = .ok (.istore_n 3, 1) := by decide +kernel
theorem dX6_goes_2 : decode cX6_goes 2 = .ok (.iload_n 3, 1) := by decide +kernel
theorem dX6_goes_3 : decode cX6_goes 3 = .ok (.sipush 256, 3) := by decide +kernel
theorem dX6_goes_6 : decode cX6_goes 6 = .ok (.if_icmp .ge 16, 3) := by decide +kernel
theorem dX6_goes_9 : decode cX6_goes 9 = .ok (.aload_n 0, 1) := by decide +kernel
theorem dX6_goes_10 : decode cX6_goes 10 = .ok (.getfield 62, 3) := by decide +kernel
theorem dX6_goes_13 : decode cX6_goes 13 = .ok (.iload_n 3, 1) := by decide +kernel
theorem dX6_goes_14 : decode cX6_goes 14 = .ok (.iconst (-1), 1) := by decide +kernel
theorem dX6_goes_15 : decode cX6_goes 15 = .ok (.iastore, 1) := by decide +kernel
theorem dX6_goes_16 : decode cX6_goes 16 = .ok (.iinc 3 1, 3) := by decide +kernel
theorem dX6_goes_19 : decode cX6_goes 19 = .ok (.goto (-17), 3) := by decide +kernel
theorem dX6_goes_22 : decode cX6_goes 22 = .ok (.aload_n 0, 1) := by decide +kernel
theorem dX6_goes_23 : decode cX6_goes 23 = .ok (.getfield 62, 3) := by decide +kernel
theorem dX6_goes_26 : decode cX6_goes 26 = .ok (.iload_n 1, 1) := by decide +kernel
theorem dX6_goes_27 : decode cX6_goes 27 = .ok (.iconst 0, 1) := by decide +kernel
theorem dX6_goes_28 : decode cX6_goes 28 = .ok (.iastore, 1) := by decide +kernel
theorem dX6_goes_29 : decode cX6_goes 29 = .ok (.aload_n 0, 1) := by decide +kernel
theorem dX6_goes_30 : decode cX6_goes 30 = .ok (.getfield 65, 3) := by decide +kernel
theorem dX6_goes_33 : decode cX6_goes 33 = .ok (.iconst 0, 1) := by decide +kernel
theorem dX6_goes_34 : decode cX6_goes 34 = .ok (.iload_n 1, 1) := by decide +kernel
theorem dX6_goes_35 : decode cX6_goes 35 = .ok (.iastore, 1) := by decide +kernel
theorem dX6_goes_36 : decode cX6_goes 36 = .ok (.aload_n 0, 1) := by decide +kernel
theorem dX6_goes_37 : decode cX6_goes 37 = .ok (.iconst 1, 1) := by decide +kernel
theorem dX6_goes_38 : decode cX6_goes 38 = .ok (.putfield 227, 3) := by decide +kernel
theorem dX6_goes_41 : decode cX6_goes 41 = .ok (.iconst 0, 1) := by decide +kernel
theorem dX6_goes_42 : decode cX6_goes 42 = .ok (.istore_n 3, 1) := by decide +kernel
theorem dX6_goes_43 : decode cX6_goes 43 = .ok (.iload_n 3, 1) := by decide +kernel
theorem dX6_goes_44 : decode cX6_goes 44 = .ok (.aload_n 0, 1) := by decide +kernel
theorem dX6_goes_45 : decode cX6_goes 45 = .ok (.getfield 227, 3) := by decide +kernel
theorem dX6_goes_48 : decode cX6_goes 48 = .ok (.if_icmp .ge 100, 3) := by decide +kernel
theorem dX6_goes_51 : decode cX6_goes 51 = .ok (.iconst 0, 1) := by decide +kernel
theorem dX6_goes_52 : decode cX6_goes 52 = .ok (.istore 4, 2) := by decide +kernel
theorem dX6_goes_54 : decode cX6_goes 54 = .ok (.iload 4, 2) := by decide +kernel
theorem dX6_goes_56 : decode cX6_goes 56 = .ok (.iconst 1, 1) := by decide +kernel
theorem dX6_goes_57 : decode cX6_goes 57 = .ok (.aload_n 0, 1) := by decide +kernel
theorem dX6_goes_58 : decode cX6_goes 58 = .ok (.getfield 82, 3) := by decide +kernel
theorem dX6_goes_61 : decode cX6_goes 61 = .ok (.ishl, 1) := by decide +kernel
theorem dX6_goes_62 : decode cX6_goes 62 = .ok (.if_icmp .ge 80, 3) := by decide +kernel
theorem dX6_goes_65 : decode cX6_goes 65 = .ok (.aload_n 0, 1) := by decide +kernel
theorem dX6_goes_66 : decode cX6_goes 66 = .ok (.aload_n 0, 1) := by decide +kernel
theorem dX6_goes_67 : decode cX6_goes 67 = .ok (.getfield 65, 3) := by decide +kernel
theorem dX6_goes_70 : decode cX6_goes 70 = .ok (.iload_n 3, 1) := by decide +kernel
theorem dX6_goes_71 : decode cX6_goes 71 = .ok (.iaload, 1) := by decide +kernel
theorem dX6_goes_72 : decode cX6_goes 72 = .ok (.iload 4, 2) := by decide +kernel
theorem dX6_goes_74 : decode cX6_goes 74 = .ok (.iload_n 2, 1) := by decide +kernel
theorem dX6_goes_75 : decode cX6_goes 75 = .ok (.invokevirtual 219, 3) := by decide +kernel
theorem dX6_goes_78 : decode cX6_goes 78 = .ok (.istore 5, 2) := by decide +kernel
theorem dX6_goes_80 : decode cX6_goes 80 = .ok (.iload 5, 2) := by decide +kernel
theorem dX6_goes_82 : decode cX6_goes 82 = .ok (.ifCond .lt 54, 3) := by decide +kernel
theorem dX6_goes_85 : decode cX6_goes 85 = .ok (.aload_n 0, 1) := by decide +kernel
theorem dX6_goes_86 : decode cX6_goes 86 = .ok (.getfield 62, 3) := by decide +kernel
theorem dX6_goes_89 : decode cX6_goes 89 = .ok (.iload 5, 2) := by decide +kernel
theorem dX6_goes_91 : decode cX6_goes 91 = .ok (.iaload, 1) := by decide +kernel
theorem dX6_goes_92 : decode cX6_goes 92 = .ok (.ifCond .ge 44, 3) := by decide +kernel
theorem dX6_goes_95 : decode cX6_goes 95 = .ok (.aload_n 0, 1) := by decide +kernel
theorem dX6_goes_96 : decode cX6_goes 96 = .ok (.getfield 62, 3) := by decide +kernel
theorem dX6_goes_99 : decode cX6_goes 99 = .ok (.iload 5, 2) := by decide +kernel
theorem dX6_goes_101 : decode cX6_goes 101 = .ok (.aload_n 0, 1) := by decide +kernel
theorem dX6_goes_102 : decode cX6_goes 102 = .ok (.getfield 62, 3) := by decide +kernel
theorem dX6_goes_105 : decode cX6_goes 105 = .ok (.aload_n 0, 1) := by decide +kernel
theorem dX6_goes_106 : decode cX6_goes 106 = .ok (.getfield 65, 3) := by decide +kernel
theorem dX6_goes_109 : decode cX6_goes 109 = .ok (.iload_n 3, 1) := by decide +kernel
theorem dX6_goes_110 : decode cX6_goes 110 = .ok (.iaload, 1) := by decide +kernel
theorem dX6_goes_111 : decode cX6_goes 111 = .ok (.iaload, 1) := by decide +kernel
theorem dX6_goes_112 : decode cX6_goes 112 = .ok (.iconst 1, 1) := by decide +kernel
theorem dX6_goes_113 : decode cX6_goes 113 = .ok (.iadd, 1) := by decide +kernel
theorem dX6_goes_114 : decode cX6_goes 114 = .ok (.iastore, 1) := by decide +kernel
theorem dX6_goes_115 : decode cX6_goes 115 = .ok (.aload_n 0, 1) := by decide +kernel
theorem dX6_goes_116 : decode cX6_goes 116 = .ok (.getfield 65, 3) := by decide +kernel
theorem dX6_goes_119 : decode cX6_goes 119 = .ok (.aload_n 0, 1) := by decide +kernel
theorem dX6_goes_120 : decode cX6_goes 120 = .ok (.getfield 227, 3) := by decide +kernel
theorem dX6_goes_123 : decode cX6_goes 123 = .ok (.iload 5, 2) := by decide +kernel
theorem dX6_goes_125 : decode cX6_goes 125 = .ok (.iastore, 1) := by decide +kernel
theorem dX6_goes_126 : decode cX6_goes 126 = .ok (.aload_n 0, 1) := by decide +kernel
theorem dX6_goes_127 : decode cX6_goes 127 = .ok (.dup, 1) := by decide +kernel
theorem dX6_goes_128 : decode cX6_goes 128 = .ok (.getfield 227, 3) := by decide +kernel
theorem dX6_goes_131 : decode cX6_goes 131 = .ok (.iconst 1, 1) := by decide +kernel
theorem dX6_goes_132 : decode cX6_goes 132 = .ok (.iadd, 1) := by decide +kernel
theorem dX6_goes_133 : decode cX6_goes 133 = .ok (.putfield 227, 3) := by decide +kernel
theorem dX6_goes_136 : decode cX6_goes 136 = .ok (.iinc 4 1, 3) := by decide +kernel
theorem dX6_goes_139 : decode cX6_goes 139 = .ok (.goto (-85), 3) := by decide +kernel
theorem dX6_goes_142 : decode cX6_goes 142 = .ok (.iinc 3 1, 3) := by decide +kernel
theorem dX6_goes_145 : decode cX6_goes 145 = .ok (.goto (-102), 3) := by decide +kernel
theorem dX6_goes_148 : decode cX6_goes 148 = .ok (.return_, 1) := by decide +kernel
theorem dX6_doneFrom_0 : decode cX6_doneFrom 0 = .ok (.aload_n 0, 1) := by decide +kernel
theorem dX6_doneFrom_1 : decode cX6_doneFrom 1 = .ok (.iload_n 1, 1) := by decide +kernel
theorem dX6_doneFrom_2 : decode cX6_doneFrom 2 = .ok (.iload_n 2, 1) := by decide +kernel
theorem dX6_doneFrom_3 : decode cX6_doneFrom 3 = .ok (.invokevirtual 230, 3) := by decide +kernel
theorem dX6_doneFrom_6 : decode cX6_doneFrom 6 = .ok (.iconst (-1), 1) := by decide +kernel
theorem dX6_doneFrom_7 : decode cX6_doneFrom 7 = .ok (.istore_n 3, 1) := by decide +kernel
theorem dX6_doneFrom_8 : decode cX6_doneFrom 8 = .ok (.aload_n 0, 1) := by decide +kernel
theorem dX6_doneFrom_9 : decode cX6_doneFrom 9 = .ok (.getfield 227, 3) := by decide +kernel
theorem dX6_doneFrom_12 : decode cX6_doneFrom 12 = .ok (.iconst 1, 1) := by decide +kernel
theorem dX6_doneFrom_13 : decode cX6_doneFrom 13 = .ok (.isub, 1) := by decide +kernel
theorem dX6_doneFrom_14 : decode cX6_doneFrom 14 = .ok (.istore 4, 2) := by decide +kernel
theorem dX6_doneFrom_16 : decode cX6_doneFrom 16 = .ok (.iload 4, 2) := by decide +kernel
theorem dX6_doneFrom_18 : decode cX6_doneFrom 18 = .ok (.ifCond .lt 40, 3) := by decide +kernel
theorem dX6_doneFrom_21 : decode cX6_doneFrom 21 = .ok (.aload_n 0, 1) := by decide +kernel
theorem dX6_doneFrom_22 : decode cX6_doneFrom 22 = .ok (.aload_n 0, 1) := by decide +kernel
theorem dX6_doneFrom_23 : decode cX6_doneFrom 23 = .ok (.getfield 65, 3) := by decide +kernel
theorem dX6_doneFrom_26 : decode cX6_doneFrom 26 = .ok (.iload 4, 2) := by decide +kernel
theorem dX6_doneFrom_28 : decode cX6_doneFrom 28 = .ok (.iaload, 1) := by decide +kernel
theorem dX6_doneFrom_29 : decode cX6_doneFrom 29 = .ok (.invokevirtual 202, 3) := by decide +kernel
theorem dX6_doneFrom_32 : decode cX6_doneFrom 32 = .ok (.ifCond .ne 18, 3) := by decide +kernel
theorem dX6_doneFrom_35 : decode cX6_doneFrom 35 = .ok (.aload_n 0, 1) := by decide +kernel
theorem dX6_doneFrom_36 : decode cX6_doneFrom 36 = .ok (.getfield 62, 3) := by decide +kernel
theorem dX6_doneFrom_39 : decode cX6_doneFrom 39 = .ok (.aload_n 0, 1) := by decide +kernel
theorem dX6_doneFrom_40 : decode cX6_doneFrom 40 = .ok (.getfield 65, 3) := by decide +kernel
theorem dX6_doneFrom_43 : decode cX6_doneFrom 43 = .ok (.iload 4, 2) := by decide +kernel
theorem dX6_doneFrom_45 : decode cX6_doneFrom 45 = .ok (.iaload, 1) := by decide +kernel
theorem dX6_doneFrom_46 : decode cX6_doneFrom 46 = .ok (.iaload, 1) := by decide +kernel
theorem dX6_doneFrom_47 : decode cX6_doneFrom 47 = .ok (.goto 4, 3) := by decide +kernel
theorem dX6_doneFrom_50 : decode cX6_doneFrom 50 = .ok (.iload_n 3, 1) := by decide +kernel
theorem dX6_doneFrom_51 : decode cX6_doneFrom 51 = .ok (.istore_n 3, 1) := by decide +kernel
theorem dX6_doneFrom_52 : decode cX6_doneFrom 52 = .ok (.iinc 4 (-1), 3) := by decide +kernel
theorem dX6_doneFrom_55 : decode cX6_doneFrom 55 = .ok (.goto (-39), 3) := by decide +kernel
theorem dX6_doneFrom_58 : decode cX6_doneFrom 58 = .ok (.iload_n 3, 1) := by decide +kernel
theorem dX6_doneFrom_59 : decode cX6_doneFrom 59 = .ok (.ireturn, 1) := by decide +kernel
theorem dX6_plans_0 : decode cX6_plans 0 = .ok (.aload_n 0, 1) := by decide +kernel
theorem dX6_plans_1 : decode cX6_plans 1 = .ok (.getfield 227, 3) := by decide +kernel
theorem dX6_plans_4 : decode cX6_plans 4 = .ok (.iconst 1, 1) := by decide +kernel
theorem dX6_plans_5 : decode cX6_plans 5 = .ok (.isub, 1) := by decide +kernel
theorem dX6_plans_6 : decode cX6_plans 6 = .ok (.istore 4, 2) := by decide +kernel
theorem dX6_plans_8 : decode cX6_plans 8 = .ok (.iload 4, 2) := by decide +kernel
theorem dX6_plans_10 : decode cX6_plans 10 = .ok (.ifCond .lt 165, 3) := by decide +kernel
theorem dX6_plans_13 : decode cX6_plans 13 = .ok (.aload_n 0, 1) := by decide +kernel
theorem dX6_plans_14 : decode cX6_plans 14 = .ok (.getfield 65, 3) := by decide +kernel
theorem dX6_plans_17 : decode cX6_plans 17 = .ok (.iload 4, 2) := by decide +kernel
theorem dX6_plans_19 : decode cX6_plans 19 = .ok (.iaload, 1) := by decide +kernel
theorem dX6_plans_20 : decode cX6_plans 20 = .ok (.istore 5, 2) := by decide +kernel
theorem dX6_plans_22 : decode cX6_plans 22 = .ok (.aload_n 0, 1) := by decide +kernel
theorem dX6_plans_23 : decode cX6_plans 23 = .ok (.getfield 68, 3) := by decide +kernel
theorem dX6_plans_26 : decode cX6_plans 26 = .ok (.iload 5, 2) := by decide +kernel
theorem dX6_plans_28 : decode cX6_plans 28 = .ok (.aload_n 0, 1) := by decide +kernel
theorem dX6_plans_29 : decode cX6_plans 29 = .ok (.getfield 62, 3) := by decide +kernel
theorem dX6_plans_32 : decode cX6_plans 32 = .ok (.iload 5, 2) := by decide +kernel
theorem dX6_plans_34 : decode cX6_plans 34 = .ok (.iaload, 1) := by decide +kernel
theorem dX6_plans_35 : decode cX6_plans 35 = .ok (.iload_n 1, 1) := by decide +kernel
theorem dX6_plans_36 : decode cX6_plans 36 = .ok (.if_icmp .ne 30, 3) := by decide +kernel
theorem dX6_plans_39 : decode cX6_plans 39 = .ok (.aload_n 0, 1) := by decide +kernel
theorem dX6_plans_40 : decode cX6_plans 40 = .ok (.iload 5, 2) := by decide +kernel
theorem dX6_plans_42 : decode cX6_plans 42 = .ok (.invokevirtual 216, 3) := by decide +kernel
theorem dX6_plans_45 : decode cX6_plans 45 = .ok (.iload_n 2, 1) := by decide +kernel
theorem dX6_plans_46 : decode cX6_plans 46 = .ok (.if_icmp .gt 20, 3) := by decide +kernel
theorem dX6_plans_49 : decode cX6_plans 49 = .ok (.iload_n 3, 1) := by decide +kernel
theorem dX6_plans_50 : decode cX6_plans 50 = .ok (.ifCond .eq 12, 3) := by decide +kernel
theorem dX6_plans_53 : decode cX6_plans 53 = .ok (.aload_n 0, 1) := by decide +kernel
theorem dX6_plans_54 : decode cX6_plans 54 = .ok (.iload 5, 2) := by decide +kernel
theorem dX6_plans_56 : decode cX6_plans 56 = .ok (.invokevirtual 202, 3) := by decide +kernel
theorem dX6_plans_59 : decode cX6_plans 59 = .ok (.ifCond .ne 7, 3) := by decide +kernel
theorem dX6_plans_62 : decode cX6_plans 62 = .ok (.iconst 1, 1) := by decide +kernel
theorem dX6_plans_63 : decode cX6_plans 63 = .ok (.goto 4, 3) := by decide +kernel
theorem dX6_plans_66 : decode cX6_plans 66 = .ok (.iconst 0, 1) := by decide +kernel
theorem dX6_plans_67 : decode cX6_plans 67 = .ok (.bastore, 1) := by decide +kernel
theorem dX6_plans_68 : decode cX6_plans 68 = .ok (.iconst 0, 1) := by decide +kernel
theorem dX6_plans_69 : decode cX6_plans 69 = .ok (.istore 6, 2) := by decide +kernel
theorem dX6_plans_71 : decode cX6_plans 71 = .ok (.iload 6, 2) := by decide +kernel
theorem dX6_plans_73 : decode cX6_plans 73 = .ok (.iconst 1, 1) := by decide +kernel
theorem dX6_plans_74 : decode cX6_plans 74 = .ok (.aload_n 0, 1) := by decide +kernel
theorem dX6_plans_75 : decode cX6_plans 75 = .ok (.getfield 82, 3) := by decide +kernel
theorem dX6_plans_78 : decode cX6_plans 78 = .ok (.ishl, 1) := by decide +kernel
theorem dX6_plans_79 : decode cX6_plans 79 = .ok (.if_icmp .ge 90, 3) := by decide +kernel
theorem dX6_plans_82 : decode cX6_plans 82 = .ok (.aload_n 0, 1) := by decide +kernel
theorem dX6_plans_83 : decode cX6_plans 83 = .ok (.getfield 62, 3) := by decide +kernel
theorem dX6_plans_86 : decode cX6_plans 86 = .ok (.iload 5, 2) := by decide +kernel
theorem dX6_plans_88 : decode cX6_plans 88 = .ok (.iaload, 1) := by decide +kernel
theorem dX6_plans_89 : decode cX6_plans 89 = .ok (.iload_n 1, 1) := by decide +kernel
theorem dX6_plans_90 : decode cX6_plans 90 = .ok (.if_icmp .ge 79, 3) := by decide +kernel
theorem dX6_plans_93 : decode cX6_plans 93 = .ok (.aload_n 0, 1) := by decide +kernel
theorem dX6_plans_94 : decode cX6_plans 94 = .ok (.getfield 68, 3) := by decide +kernel
theorem dX6_plans_97 : decode cX6_plans 97 = .ok (.iload 5, 2) := by decide +kernel
theorem dX6_plans_99 : decode cX6_plans 99 = .ok (.baload, 1) := by decide +kernel
theorem dX6_plans_100 : decode cX6_plans 100 = .ok (.ifCond .ne 69, 3) := by decide +kernel
theorem dX6_plans_103 : decode cX6_plans 103 = .ok (.aload_n 0, 1) := by decide +kernel
theorem dX6_plans_104 : decode cX6_plans 104 = .ok (.iload 5, 2) := by decide +kernel
theorem dX6_plans_106 : decode cX6_plans 106 = .ok (.iload 6, 2) := by decide +kernel
theorem dX6_plans_108 : decode cX6_plans 108 = .ok (.aload_n 0, 1) := by decide +kernel
theorem dX6_plans_109 : decode cX6_plans 109 = .ok (.getfield 25, 3) := by decide +kernel
theorem dX6_plans_112 : decode cX6_plans 112 = .ok (.invokevirtual 219, 3) := by decide +kernel
theorem dX6_plans_115 : decode cX6_plans 115 = .ok (.istore 7, 2) := by decide +kernel
theorem dX6_plans_117 : decode cX6_plans 117 = .ok (.aload_n 0, 1) := by decide +kernel
theorem dX6_plans_118 : decode cX6_plans 118 = .ok (.getfield 68, 3) := by decide +kernel
theorem dX6_plans_121 : decode cX6_plans 121 = .ok (.iload 5, 2) := by decide +kernel
theorem dX6_plans_123 : decode cX6_plans 123 = .ok (.iload 7, 2) := by decide +kernel
theorem dX6_plans_125 : decode cX6_plans 125 = .ok (.ifCond .lt 36, 3) := by decide +kernel
theorem dX6_plans_128 : decode cX6_plans 128 = .ok (.aload_n 0, 1) := by decide +kernel
theorem dX6_plans_129 : decode cX6_plans 129 = .ok (.getfield 62, 3) := by decide +kernel
theorem dX6_plans_132 : decode cX6_plans 132 = .ok (.iload 7, 2) := by decide +kernel
theorem dX6_plans_134 : decode cX6_plans 134 = .ok (.iaload, 1) := by decide +kernel
theorem dX6_plans_135 : decode cX6_plans 135 = .ok (.aload_n 0, 1) := by decide +kernel
theorem dX6_plans_136 : decode cX6_plans 136 = .ok (.getfield 62, 3) := by decide +kernel
theorem dX6_plans_139 : decode cX6_plans 139 = .ok (.iload 5, 2) := by decide +kernel
theorem dX6_plans_141 : decode cX6_plans 141 = .ok (.iaload, 1) := by decide +kernel
theorem dX6_plans_142 : decode cX6_plans 142 = .ok (.iconst 1, 1) := by decide +kernel
theorem dX6_plans_143 : decode cX6_plans 143 = .ok (.iadd, 1) := by decide +kernel
theorem dX6_plans_144 : decode cX6_plans 144 = .ok (.if_icmp .ne 17, 3) := by decide +kernel
theorem dX6_plans_147 : decode cX6_plans 147 = .ok (.aload_n 0, 1) := by decide +kernel
theorem dX6_plans_148 : decode cX6_plans 148 = .ok (.getfield 68, 3) := by decide +kernel
theorem dX6_plans_151 : decode cX6_plans 151 = .ok (.iload 7, 2) := by decide +kernel
theorem dX6_plans_153 : decode cX6_plans 153 = .ok (.baload, 1) := by decide +kernel
theorem dX6_plans_154 : decode cX6_plans 154 = .ok (.ifCond .eq 7, 3) := by decide +kernel
theorem dX6_plans_157 : decode cX6_plans 157 = .ok (.iconst 1, 1) := by decide +kernel
theorem dX6_plans_158 : decode cX6_plans 158 = .ok (.goto 4, 3) := by decide +kernel
theorem dX6_plans_161 : decode cX6_plans 161 = .ok (.iconst 0, 1) := by decide +kernel
theorem dX6_plans_162 : decode cX6_plans 162 = .ok (.bastore, 1) := by decide +kernel
theorem dX6_plans_163 : decode cX6_plans 163 = .ok (.iinc 6 1, 3) := by decide +kernel
theorem dX6_plans_166 : decode cX6_plans 166 = .ok (.goto (-95), 3) := by decide +kernel
theorem dX6_plans_169 : decode cX6_plans 169 = .ok (.iinc 4 (-1), 3) := by decide +kernel
theorem dX6_plans_172 : decode cX6_plans 172 = .ok (.goto (-164), 3) := by decide +kernel
theorem dX6_plans_175 : decode cX6_plans 175 = .ok (.aload_n 0, 1) := by decide +kernel
theorem dX6_plans_176 : decode cX6_plans 176 = .ok (.getfield 180, 3) := by decide +kernel
theorem dX6_plans_179 : decode cX6_plans 179 = .ok (.istore 4, 2) := by decide +kernel
theorem dX6_plans_181 : decode cX6_plans 181 = .ok (.iconst 0, 1) := by decide +kernel
theorem dX6_plans_182 : decode cX6_plans 182 = .ok (.istore 5, 2) := by decide +kernel
theorem dX6_plans_184 : decode cX6_plans 184 = .ok (.iload 5, 2) := by decide +kernel
theorem dX6_plans_186 : decode cX6_plans 186 = .ok (.iload_n 1, 1) := by decide +kernel
theorem dX6_plans_187 : decode cX6_plans 187 = .ok (.if_icmp .ge 93, 3) := by decide +kernel
theorem dX6_plans_190 : decode cX6_plans 190 = .ok (.iconst 0, 1) := by decide +kernel
theorem dX6_plans_191 : decode cX6_plans 191 = .ok (.istore 6, 2) := by decide +kernel
theorem dX6_plans_193 : decode cX6_plans 193 = .ok (.aload_n 0, 1) := by decide +kernel
theorem dX6_plans_194 : decode cX6_plans 194 = .ok (.iload 4, 2) := by decide +kernel
theorem dX6_plans_196 : decode cX6_plans 196 = .ok (.iload 6, 2) := by decide +kernel
theorem dX6_plans_198 : decode cX6_plans 198 = .ok (.aload_n 0, 1) := by decide +kernel
theorem dX6_plans_199 : decode cX6_plans 199 = .ok (.getfield 25, 3) := by decide +kernel
theorem dX6_plans_202 : decode cX6_plans 202 = .ok (.invokevirtual 219, 3) := by decide +kernel
theorem dX6_plans_205 : decode cX6_plans 205 = .ok (.istore 7, 2) := by decide +kernel
theorem dX6_plans_207 : decode cX6_plans 207 = .ok (.iload 7, 2) := by decide +kernel
theorem dX6_plans_209 : decode cX6_plans 209 = .ok (.ifCond .lt 32, 3) := by decide +kernel
theorem dX6_plans_212 : decode cX6_plans 212 = .ok (.aload_n 0, 1) := by decide +kernel
theorem dX6_plans_213 : decode cX6_plans 213 = .ok (.getfield 62, 3) := by decide +kernel
theorem dX6_plans_216 : decode cX6_plans 216 = .ok (.iload 7, 2) := by decide +kernel
theorem dX6_plans_218 : decode cX6_plans 218 = .ok (.iaload, 1) := by decide +kernel
theorem dX6_plans_219 : decode cX6_plans 219 = .ok (.aload_n 0, 1) := by decide +kernel
theorem dX6_plans_220 : decode cX6_plans 220 = .ok (.getfield 62, 3) := by decide +kernel
theorem dX6_plans_223 : decode cX6_plans 223 = .ok (.iload 4, 2) := by decide +kernel
theorem dX6_plans_225 : decode cX6_plans 225 = .ok (.iaload, 1) := by decide +kernel
theorem dX6_plans_226 : decode cX6_plans 226 = .ok (.iconst 1, 1) := by decide +kernel
theorem dX6_plans_227 : decode cX6_plans 227 = .ok (.iadd, 1) := by decide +kernel
theorem dX6_plans_228 : decode cX6_plans 228 = .ok (.if_icmp .ne 13, 3) := by decide +kernel
theorem dX6_plans_231 : decode cX6_plans 231 = .ok (.aload_n 0, 1) := by decide +kernel
theorem dX6_plans_232 : decode cX6_plans 232 = .ok (.getfield 68, 3) := by decide +kernel
theorem dX6_plans_235 : decode cX6_plans 235 = .ok (.iload 7, 2) := by decide +kernel
theorem dX6_plans_237 : decode cX6_plans 237 = .ok (.baload, 1) := by decide +kernel
theorem dX6_plans_238 : decode cX6_plans 238 = .ok (.ifCond .ne 23, 3) := by decide +kernel
theorem dX6_plans_241 : decode cX6_plans 241 = .ok (.iinc 6 1, 3) := by decide +kernel
theorem dX6_plans_244 : decode cX6_plans 244 = .ok (.aload_n 0, 1) := by decide +kernel
theorem dX6_plans_245 : decode cX6_plans 245 = .ok (.iload 4, 2) := by decide +kernel
theorem dX6_plans_247 : decode cX6_plans 247 = .ok (.iload 6, 2) := by decide +kernel
theorem dX6_plans_249 : decode cX6_plans 249 = .ok (.aload_n 0, 1) := by decide +kernel
theorem dX6_plans_250 : decode cX6_plans 250 = .ok (.getfield 25, 3) := by decide +kernel
theorem dX6_plans_253 : decode cX6_plans 253 = .ok (.invokevirtual 219, 3) := by decide +kernel
theorem dX6_plans_256 : decode cX6_plans 256 = .ok (.istore 7, 2) := by decide +kernel
theorem dX6_plans_258 : decode cX6_plans 258 = .ok (.goto (-51), 3) := by decide +kernel
theorem dX6_plans_261 : decode cX6_plans 261 = .ok (.aload_n 0, 1) := by decide +kernel
theorem dX6_plans_262 : decode cX6_plans 262 = .ok (.getfield 72, 3) := by decide +kernel
theorem dX6_plans_265 : decode cX6_plans 265 = .ok (.iload 5, 2) := by decide +kernel
theorem dX6_plans_267 : decode cX6_plans 267 = .ok (.iload 6, 2) := by decide +kernel
theorem dX6_plans_269 : decode cX6_plans 269 = .ok (.iastore, 1) := by decide +kernel
theorem dX6_plans_270 : decode cX6_plans 270 = .ok (.iload 7, 2) := by decide +kernel
theorem dX6_plans_272 : decode cX6_plans 272 = .ok (.istore 4, 2) := by decide +kernel
theorem dX6_plans_274 : decode cX6_plans 274 = .ok (.iinc 5 1, 3) := by decide +kernel
theorem dX6_plans_277 : decode cX6_plans 277 = .ok (.goto (-93), 3) := by decide +kernel
theorem dX6_plans_280 : decode cX6_plans 280 = .ok (.return_, 1) := by decide +kernel
theorem dX6_done_0 : decode cX6_done 0 = .ok (.iload_n 1, 1) := by decide +kernel
theorem dX6_done_1 : decode cX6_done 1 = .ok (.iconst (-1), 1) := by decide +kernel
theorem dX6_done_2 : decode cX6_done 2 = .ok (.if_icmp .ge 5, 3) := by decide +kernel
theorem dX6_done_5 : decode cX6_done 5 = .ok (.iconst (-1), 1) := by decide +kernel
theorem dX6_done_6 : decode cX6_done 6 = .ok (.ireturn, 1) := by decide +kernel
theorem dX6_done_7 : decode cX6_done 7 = .ok (.aload_n 0, 1) := by decide +kernel
theorem dX6_done_8 : decode cX6_done 8 = .ok (.aload_n 0, 1) := by decide +kernel
theorem dX6_done_9 : decode cX6_done 9 = .ok (.getfield 180, 3) := by decide +kernel
theorem dX6_done_12 : decode cX6_done 12 = .ok (.aload_n 0, 1) := by decide +kernel
theorem dX6_done_13 : decode cX6_done 13 = .ok (.getfield 25, 3) := by decide +kernel
theorem dX6_done_16 : decode cX6_done 16 = .ok (.invokevirtual 234, 3) := by decide +kernel
theorem dX6_done_19 : decode cX6_done 19 = .ok (.istore_n 2, 1) := by decide +kernel
theorem dX6_done_20 : decode cX6_done 20 = .ok (.iload_n 2, 1) := by decide +kernel
theorem dX6_done_21 : decode cX6_done 21 = .ok (.ifCond .ge 6, 3) := by decide +kernel
theorem dX6_done_24 : decode cX6_done 24 = .ok (.bipush (-9), 2) := by decide +kernel
theorem dX6_done_26 : decode cX6_done 26 = .ok (.ireturn, 1) := by decide +kernel
theorem dX6_done_27 : decode cX6_done 27 = .ok (.aload_n 0, 1) := by decide +kernel
theorem dX6_done_28 : decode cX6_done 28 = .ok (.iload_n 2, 1) := by decide +kernel
theorem dX6_done_29 : decode cX6_done 29 = .ok (.sipush 1000, 3) := by decide +kernel
theorem dX6_done_32 : decode cX6_done 32 = .ok (.iconst 1, 1) := by decide +kernel
theorem dX6_done_33 : decode cX6_done 33 = .ok (.invokevirtual 237, 3) := by decide +kernel
theorem dX6_done_36 : decode cX6_done 36 = .ok (.iload_n 1, 1) := by decide +kernel
theorem dX6_done_37 : decode cX6_done 37 = .ok (.ifCond .ge 7, 3) := by decide +kernel
theorem dX6_done_40 : decode cX6_done 40 = .ok (.iload_n 2, 1) := by decide +kernel
theorem dX6_done_41 : decode cX6_done 41 = .ok (.goto 19, 3) := by decide +kernel
theorem dX6_done_44 : decode cX6_done 44 = .ok (.iload_n 1, 1) := by decide +kernel
theorem dX6_done_45 : decode cX6_done 45 = .ok (.iload_n 2, 1) := by decide +kernel
theorem dX6_done_46 : decode cX6_done 46 = .ok (.if_icmp .ge 12, 3) := by decide +kernel
theorem dX6_done_49 : decode cX6_done 49 = .ok (.aload_n 0, 1) := by decide +kernel
theorem dX6_done_50 : decode cX6_done 50 = .ok (.getfield 72, 3) := by decide +kernel
theorem dX6_done_53 : decode cX6_done 53 = .ok (.iload_n 1, 1) := by decide +kernel
theorem dX6_done_54 : decode cX6_done 54 = .ok (.iaload, 1) := by decide +kernel
theorem dX6_done_55 : decode cX6_done 55 = .ok (.goto 5, 3) := by decide +kernel
theorem dX6_done_58 : decode cX6_done 58 = .ok (.bipush (-5), 2) := by decide +kernel
theorem dX6_done_60 : decode cX6_done 60 = .ok (.ireturn, 1) := by decide +kernel
theorem dX6_rent_0 : decode cX6_rent 0 = .ok (.iload_n 1, 1) := by decide +kernel
theorem dX6_rent_1 : decode cX6_rent 1 = .ok (.i2l, 1) := by decide +kernel
theorem dX6_rent_2 : decode cX6_rent 2 = .ok (.lconst 0, 1) := by decide +kernel
theorem dX6_rent_3 : decode cX6_rent 3 = .ok (.ldc2_w 241, 3) := by decide +kernel
theorem dX6_rent_6 : decode cX6_rent 6 = .ok (.invokestatic 85, 3) := by decide +kernel
theorem dX6_rent_9 : decode cX6_rent 9 = .ok (.ifCond .eq 8, 3) := by decide +kernel
theorem dX6_rent_12 : decode cX6_rent 12 = .ok (.iload_n 2, 1) := by decide +kernel
theorem dX6_rent_13 : decode cX6_rent 13 = .ok (.iconst (-1), 1) := by decide +kernel
theorem dX6_rent_14 : decode cX6_rent 14 = .ok (.if_icmp .ge 5, 3) := by decide +kernel
theorem dX6_rent_17 : decode cX6_rent 17 = .ok (.iconst (-1), 1) := by decide +kernel
theorem dX6_rent_18 : decode cX6_rent 18 = .ok (.ireturn, 1) := by decide +kernel
theorem dX6_rent_19 : decode cX6_rent 19 = .ok (.aload_n 0, 1) := by decide +kernel
theorem dX6_rent_20 : decode cX6_rent 20 = .ok (.aload_n 0, 1) := by decide +kernel
theorem dX6_rent_21 : decode cX6_rent 21 = .ok (.getfield 180, 3) := by decide +kernel
theorem dX6_rent_24 : decode cX6_rent 24 = .ok (.aload_n 0, 1) := by decide +kernel
theorem dX6_rent_25 : decode cX6_rent 25 = .ok (.getfield 25, 3) := by decide +kernel
theorem dX6_rent_28 : decode cX6_rent 28 = .ok (.invokevirtual 230, 3) := by decide +kernel
theorem dX6_rent_31 : decode cX6_rent 31 = .ok (.sipush 1000, 3) := by decide +kernel
theorem dX6_rent_34 : decode cX6_rent 34 = .ok (.istore_n 3, 1) := by decide +kernel
theorem dX6_rent_35 : decode cX6_rent 35 = .ok (.iconst 0, 1) := by decide +kernel
theorem dX6_rent_36 : decode cX6_rent 36 = .ok (.istore 4, 2) := by decide +kernel
theorem dX6_rent_38 : decode cX6_rent 38 = .ok (.iconst 0, 1) := by decide +kernel
theorem dX6_rent_39 : decode cX6_rent 39 = .ok (.istore 5, 2) := by decide +kernel
theorem dX6_rent_41 : decode cX6_rent 41 = .ok (.iload 5, 2) := by decide +kernel
theorem dX6_rent_43 : decode cX6_rent 43 = .ok (.aload_n 0, 1) := by decide +kernel
theorem dX6_rent_44 : decode cX6_rent 44 = .ok (.getfield 227, 3) := by decide +kernel
theorem dX6_rent_47 : decode cX6_rent 47 = .ok (.if_icmp .ge 55, 3) := by decide +kernel
theorem dX6_rent_50 : decode cX6_rent 50 = .ok (.aload_n 0, 1) := by decide +kernel
theorem dX6_rent_51 : decode cX6_rent 51 = .ok (.getfield 65, 3) := by decide +kernel
theorem dX6_rent_54 : decode cX6_rent 54 = .ok (.iload 5, 2) := by decide +kernel
theorem dX6_rent_56 : decode cX6_rent 56 = .ok (.iaload, 1) := by decide +kernel
theorem dX6_rent_57 : decode cX6_rent 57 = .ok (.istore 6, 2) := by decide +kernel
theorem dX6_rent_59 : decode cX6_rent 59 = .ok (.aload_n 0, 1) := by decide +kernel
theorem dX6_rent_60 : decode cX6_rent 60 = .ok (.getfield 62, 3) := by decide +kernel
theorem dX6_rent_63 : decode cX6_rent 63 = .ok (.iload 6, 2) := by decide +kernel
theorem dX6_rent_65 : decode cX6_rent 65 = .ok (.iaload, 1) := by decide +kernel
theorem dX6_rent_66 : decode cX6_rent 66 = .ok (.iload_n 1, 1) := by decide +kernel
theorem dX6_rent_67 : decode cX6_rent 67 = .ok (.if_icmp .gt 29, 3) := by decide +kernel
theorem dX6_rent_70 : decode cX6_rent 70 = .ok (.aload_n 0, 1) := by decide +kernel
theorem dX6_rent_71 : decode cX6_rent 71 = .ok (.iload 6, 2) := by decide +kernel
theorem dX6_rent_73 : decode cX6_rent 73 = .ok (.invokevirtual 216, 3) := by decide +kernel
theorem dX6_rent_76 : decode cX6_rent 76 = .ok (.iload_n 3, 1) := by decide +kernel
theorem dX6_rent_77 : decode cX6_rent 77 = .ok (.if_icmp .ge 19, 3) := by decide +kernel
theorem dX6_rent_80 : decode cX6_rent 80 = .ok (.aload_n 0, 1) := by decide +kernel
theorem dX6_rent_81 : decode cX6_rent 81 = .ok (.iload 6, 2) := by decide +kernel
theorem dX6_rent_83 : decode cX6_rent 83 = .ok (.invokevirtual 216, 3) := by decide +kernel
theorem dX6_rent_86 : decode cX6_rent 86 = .ok (.istore_n 3, 1) := by decide +kernel
theorem dX6_rent_87 : decode cX6_rent 87 = .ok (.aload_n 0, 1) := by decide +kernel
theorem dX6_rent_88 : decode cX6_rent 88 = .ok (.getfield 62, 3) := by decide +kernel
theorem dX6_rent_91 : decode cX6_rent 91 = .ok (.iload 6, 2) := by decide +kernel
theorem dX6_rent_93 : decode cX6_rent 93 = .ok (.iaload, 1) := by decide +kernel
theorem dX6_rent_94 : decode cX6_rent 94 = .ok (.istore 4, 2) := by decide +kernel
theorem dX6_rent_96 : decode cX6_rent 96 = .ok (.iinc 5 1, 3) := by decide +kernel
theorem dX6_rent_99 : decode cX6_rent 99 = .ok (.goto (-58), 3) := by decide +kernel
theorem dX6_rent_102 : decode cX6_rent 102 = .ok (.aload_n 0, 1) := by decide +kernel
theorem dX6_rent_103 : decode cX6_rent 103 = .ok (.iload 4, 2) := by decide +kernel
theorem dX6_rent_105 : decode cX6_rent 105 = .ok (.iload_n 3, 1) := by decide +kernel
theorem dX6_rent_106 : decode cX6_rent 106 = .ok (.iconst 0, 1) := by decide +kernel
theorem dX6_rent_107 : decode cX6_rent 107 = .ok (.invokevirtual 237, 3) := by decide +kernel
theorem dX6_rent_110 : decode cX6_rent 110 = .ok (.iload_n 2, 1) := by decide +kernel
theorem dX6_rent_111 : decode cX6_rent 111 = .ok (.ifCond .ge 7, 3) := by decide +kernel
theorem dX6_rent_114 : decode cX6_rent 114 = .ok (.iload_n 3, 1) := by decide +kernel
theorem dX6_rent_115 : decode cX6_rent 115 = .ok (.goto 20, 3) := by decide +kernel
theorem dX6_rent_118 : decode cX6_rent 118 = .ok (.iload_n 2, 1) := by decide +kernel
theorem dX6_rent_119 : decode cX6_rent 119 = .ok (.iload 4, 2) := by decide +kernel
theorem dX6_rent_121 : decode cX6_rent 121 = .ok (.if_icmp .ge 12, 3) := by decide +kernel
theorem dX6_rent_124 : decode cX6_rent 124 = .ok (.aload_n 0, 1) := by decide +kernel
theorem dX6_rent_125 : decode cX6_rent 125 = .ok (.getfield 72, 3) := by decide +kernel
theorem dX6_rent_128 : decode cX6_rent 128 = .ok (.iload_n 2, 1) := by decide +kernel
theorem dX6_rent_129 : decode cX6_rent 129 = .ok (.iaload, 1) := by decide +kernel
theorem dX6_rent_130 : decode cX6_rent 130 = .ok (.goto 5, 3) := by decide +kernel
theorem dX6_rent_133 : decode cX6_rent 133 = .ok (.bipush (-5), 2) := by decide +kernel
theorem dX6_rent_135 : decode cX6_rent 135 = .ok (.ireturn, 1) := by decide +kernel
theorem dX6_least_0 : decode cX6_least 0 = .ok (.iconst 1, 1) := by decide +kernel
theorem dX6_least_1 : decode cX6_least 1 = .ok (.istore_n 1, 1) := by decide +kernel
theorem dX6_least_2 : decode cX6_least 2 = .ok (.iload_n 1, 1) := by decide +kernel
theorem dX6_least_3 : decode cX6_least 3 = .ok (.bipush 20, 2) := by decide +kernel
theorem dX6_least_5 : decode cX6_least 5 = .ok (.if_icmp .gt 23, 3) := by decide +kernel
theorem dX6_least_8 : decode cX6_least 8 = .ok (.aload_n 0, 1) := by decide +kernel
theorem dX6_least_9 : decode cX6_least 9 = .ok (.aload_n 0, 1) := by decide +kernel
theorem dX6_least_10 : decode cX6_least 10 = .ok (.getfield 180, 3) := by decide +kernel
theorem dX6_least_13 : decode cX6_least 13 = .ok (.iload_n 1, 1) := by decide +kernel
theorem dX6_least_14 : decode cX6_least 14 = .ok (.invokevirtual 234, 3) := by decide +kernel
theorem dX6_least_17 : decode cX6_least 17 = .ok (.ifCond .lt 5, 3) := by decide +kernel
theorem dX6_least_20 : decode cX6_least 20 = .ok (.iload_n 1, 1) := by decide +kernel
theorem dX6_least_21 : decode cX6_least 21 = .ok (.ireturn, 1) := by decide +kernel
theorem dX6_least_22 : decode cX6_least 22 = .ok (.iinc 1 1, 3) := by decide +kernel
theorem dX6_least_25 : decode cX6_least 25 = .ok (.goto (-23), 3) := by decide +kernel
theorem dX6_least_28 : decode cX6_least 28 = .ok (.bipush (-9), 2) := by decide +kernel
theorem dX6_least_30 : decode cX6_least 30 = .ok (.ireturn, 1) := by decide +kernel
theorem dX6_sooner_0 : decode cX6_sooner 0 = .ok (.aload_n 0, 1) := by decide +kernel
theorem dX6_sooner_1 : decode cX6_sooner 1 = .ok (.iload_n 1, 1) := by decide +kernel
theorem dX6_sooner_2 : decode cX6_sooner 2 = .ok (.invokevirtual 211, 3) := by decide +kernel
theorem dX6_sooner_5 : decode cX6_sooner 5 = .ok (.ifCond .ne 6, 3) := by decide +kernel
theorem dX6_sooner_8 : decode cX6_sooner 8 = .ok (.ldc 243, 2) := by decide +kernel
theorem dX6_sooner_10 : decode cX6_sooner 10 = .ok (.ireturn, 1) := by decide +kernel
theorem dX6_sooner_11 : decode cX6_sooner 11 = .ok (.aload_n 0, 1) := by decide +kernel
theorem dX6_sooner_12 : decode cX6_sooner 12 = .ok (.aload_n 0, 1) := by decide +kernel
theorem dX6_sooner_13 : decode cX6_sooner 13 = .ok (.getfield 180, 3) := by decide +kernel
theorem dX6_sooner_16 : decode cX6_sooner 16 = .ok (.aload_n 0, 1) := by decide +kernel
theorem dX6_sooner_17 : decode cX6_sooner 17 = .ok (.getfield 25, 3) := by decide +kernel
theorem dX6_sooner_20 : decode cX6_sooner 20 = .ok (.invokevirtual 234, 3) := by decide +kernel
theorem dX6_sooner_23 : decode cX6_sooner 23 = .ok (.istore_n 2, 1) := by decide +kernel
theorem dX6_sooner_24 : decode cX6_sooner 24 = .ok (.aload_n 0, 1) := by decide +kernel
theorem dX6_sooner_25 : decode cX6_sooner 25 = .ok (.getfield 13, 3) := by decide +kernel
theorem dX6_sooner_28 : decode cX6_sooner 28 = .ok (.iload_n 1, 1) := by decide +kernel
theorem dX6_sooner_29 : decode cX6_sooner 29 = .ok (.iaload, 1) := by decide +kernel
theorem dX6_sooner_30 : decode cX6_sooner 30 = .ok (.istore_n 3, 1) := by decide +kernel
theorem dX6_sooner_31 : decode cX6_sooner 31 = .ok (.aload_n 0, 1) := by decide +kernel
theorem dX6_sooner_32 : decode cX6_sooner 32 = .ok (.getfield 22, 3) := by decide +kernel
theorem dX6_sooner_35 : decode cX6_sooner 35 = .ok (.iload_n 1, 1) := by decide +kernel
theorem dX6_sooner_36 : decode cX6_sooner 36 = .ok (.iaload, 1) := by decide +kernel
theorem dX6_sooner_37 : decode cX6_sooner 37 = .ok (.istore 4, 2) := by decide +kernel
theorem dX6_sooner_39 : decode cX6_sooner 39 = .ok (.aload_n 0, 1) := by decide +kernel
theorem dX6_sooner_40 : decode cX6_sooner 40 = .ok (.getfield 19, 3) := by decide +kernel
theorem dX6_sooner_43 : decode cX6_sooner 43 = .ok (.iload_n 1, 1) := by decide +kernel
theorem dX6_sooner_44 : decode cX6_sooner 44 = .ok (.iaload, 1) := by decide +kernel
theorem dX6_sooner_45 : decode cX6_sooner 45 = .ok (.istore 5, 2) := by decide +kernel
theorem dX6_sooner_47 : decode cX6_sooner 47 = .ok (.aload_n 0, 1) := by decide +kernel
theorem dX6_sooner_48 : decode cX6_sooner 48 = .ok (.getfield 13, 3) := by decide +kernel
theorem dX6_sooner_51 : decode cX6_sooner 51 = .ok (.iload_n 1, 1) := by decide +kernel
theorem dX6_sooner_52 : decode cX6_sooner 52 = .ok (.iconst 2, 1) := by decide +kernel
theorem dX6_sooner_53 : decode cX6_sooner 53 = .ok (.iastore, 1) := by decide +kernel
theorem dX6_sooner_54 : decode cX6_sooner 54 = .ok (.aload_n 0, 1) := by decide +kernel
theorem dX6_sooner_55 : decode cX6_sooner 55 = .ok (.getfield 19, 3) := by decide +kernel
theorem dX6_sooner_58 : decode cX6_sooner 58 = .ok (.iload_n 1, 1) := by decide +kernel
theorem dX6_sooner_59 : decode cX6_sooner 59 = .ok (.bipush 100, 2) := by decide +kernel
theorem dX6_sooner_61 : decode cX6_sooner 61 = .ok (.iastore, 1) := by decide +kernel
theorem dX6_sooner_62 : decode cX6_sooner 62 = .ok (.iconst 0, 1) := by decide +kernel
theorem dX6_sooner_63 : decode cX6_sooner 63 = .ok (.istore 6, 2) := by decide +kernel
theorem dX6_sooner_65 : decode cX6_sooner 65 = .ok (.iload 6, 2) := by decide +kernel
theorem dX6_sooner_67 : decode cX6_sooner 67 = .ok (.aload_n 0, 1) := by decide +kernel
theorem dX6_sooner_68 : decode cX6_sooner 68 = .ok (.getfield 82, 3) := by decide +kernel
theorem dX6_sooner_71 : decode cX6_sooner 71 = .ok (.if_icmp .ge 34, 3) := by decide +kernel
theorem dX6_sooner_74 : decode cX6_sooner 74 = .ok (.aload_n 0, 1) := by decide +kernel
theorem dX6_sooner_75 : decode cX6_sooner 75 = .ok (.getfield 22, 3) := by decide +kernel
theorem dX6_sooner_78 : decode cX6_sooner 78 = .ok (.iload 6, 2) := by decide +kernel
theorem dX6_sooner_80 : decode cX6_sooner 80 = .ok (.dup2, 1) := by decide +kernel
theorem dX6_sooner_81 : decode cX6_sooner 81 = .ok (.iaload, 1) := by decide +kernel
theorem dX6_sooner_82 : decode cX6_sooner 82 = .ok (.iload 6, 2) := by decide +kernel
theorem dX6_sooner_84 : decode cX6_sooner 84 = .ok (.iload_n 1, 1) := by decide +kernel
theorem dX6_sooner_85 : decode cX6_sooner 85 = .ok (.if_icmp .ne 7, 3) := by decide +kernel
theorem dX6_sooner_88 : decode cX6_sooner 88 = .ok (.iconst 0, 1) := by decide +kernel
theorem dX6_sooner_89 : decode cX6_sooner 89 = .ok (.goto 8, 3) := by decide +kernel
theorem dX6_sooner_92 : decode cX6_sooner 92 = .ok (.iconst 1, 1) := by decide +kernel
theorem dX6_sooner_93 : decode cX6_sooner 93 = .ok (.iload_n 1, 1) := by decide +kernel
theorem dX6_sooner_94 : decode cX6_sooner 94 = .ok (.ishl, 1) := by decide +kernel
theorem dX6_sooner_95 : decode cX6_sooner 95 = .ok (.iconst (-1), 1) := by decide +kernel
theorem dX6_sooner_96 : decode cX6_sooner 96 = .ok (.ixor, 1) := by decide +kernel
theorem dX6_sooner_97 : decode cX6_sooner 97 = .ok (.iand, 1) := by decide +kernel
theorem dX6_sooner_98 : decode cX6_sooner 98 = .ok (.iastore, 1) := by decide +kernel
theorem dX6_sooner_99 : decode cX6_sooner 99 = .ok (.iinc 6 1, 3) := by decide +kernel
theorem dX6_sooner_102 : decode cX6_sooner 102 = .ok (.goto (-37), 3) := by decide +kernel
theorem dX6_sooner_105 : decode cX6_sooner 105 = .ok (.aload_n 0, 1) := by decide +kernel
theorem dX6_sooner_106 : decode cX6_sooner 106 = .ok (.aload_n 0, 1) := by decide +kernel
theorem dX6_sooner_107 : decode cX6_sooner 107 = .ok (.getfield 180, 3) := by decide +kernel
theorem dX6_sooner_110 : decode cX6_sooner 110 = .ok (.aload_n 0, 1) := by decide +kernel
theorem dX6_sooner_111 : decode cX6_sooner 111 = .ok (.getfield 25, 3) := by decide +kernel
theorem dX6_sooner_114 : decode cX6_sooner 114 = .ok (.invokevirtual 234, 3) := by decide +kernel
theorem dX6_sooner_117 : decode cX6_sooner 117 = .ok (.istore 6, 2) := by decide +kernel
theorem dX6_sooner_119 : decode cX6_sooner 119 = .ok (.aload_n 0, 1) := by decide +kernel
theorem dX6_sooner_120 : decode cX6_sooner 120 = .ok (.getfield 13, 3) := by decide +kernel
theorem dX6_sooner_123 : decode cX6_sooner 123 = .ok (.iload_n 1, 1) := by decide +kernel
theorem dX6_sooner_124 : decode cX6_sooner 124 = .ok (.iload_n 3, 1) := by decide +kernel
theorem dX6_sooner_125 : decode cX6_sooner 125 = .ok (.iastore, 1) := by decide +kernel
theorem dX6_sooner_126 : decode cX6_sooner 126 = .ok (.aload_n 0, 1) := by decide +kernel
theorem dX6_sooner_127 : decode cX6_sooner 127 = .ok (.getfield 19, 3) := by decide +kernel
theorem dX6_sooner_130 : decode cX6_sooner 130 = .ok (.iload_n 1, 1) := by decide +kernel
theorem dX6_sooner_131 : decode cX6_sooner 131 = .ok (.iload 5, 2) := by decide +kernel
theorem dX6_sooner_133 : decode cX6_sooner 133 = .ok (.iastore, 1) := by decide +kernel
theorem dX6_sooner_134 : decode cX6_sooner 134 = .ok (.aload_n 0, 1) := by decide +kernel
theorem dX6_sooner_135 : decode cX6_sooner 135 = .ok (.getfield 22, 3) := by decide +kernel
theorem dX6_sooner_138 : decode cX6_sooner 138 = .ok (.iload_n 1, 1) := by decide +kernel
theorem dX6_sooner_139 : decode cX6_sooner 139 = .ok (.iload 4, 2) := by decide +kernel
theorem dX6_sooner_141 : decode cX6_sooner 141 = .ok (.iastore, 1) := by decide +kernel
theorem dX6_sooner_142 : decode cX6_sooner 142 = .ok (.iconst 0, 1) := by decide +kernel
theorem dX6_sooner_143 : decode cX6_sooner 143 = .ok (.istore 7, 2) := by decide +kernel
theorem dX6_sooner_145 : decode cX6_sooner 145 = .ok (.iload 7, 2) := by decide +kernel
theorem dX6_sooner_147 : decode cX6_sooner 147 = .ok (.aload_n 0, 1) := by decide +kernel
theorem dX6_sooner_148 : decode cX6_sooner 148 = .ok (.getfield 82, 3) := by decide +kernel
theorem dX6_sooner_151 : decode cX6_sooner 151 = .ok (.if_icmp .ge 36, 3) := by decide +kernel
theorem dX6_sooner_154 : decode cX6_sooner 154 = .ok (.aload_n 0, 1) := by decide +kernel
theorem dX6_sooner_155 : decode cX6_sooner 155 = .ok (.getfield 22, 3) := by decide +kernel
theorem dX6_sooner_158 : decode cX6_sooner 158 = .ok (.iload 7, 2) := by decide +kernel
theorem dX6_sooner_160 : decode cX6_sooner 160 = .ok (.dup2, 1) := by decide +kernel
theorem dX6_sooner_161 : decode cX6_sooner 161 = .ok (.iaload, 1) := by decide +kernel
theorem dX6_sooner_162 : decode cX6_sooner 162 = .ok (.iload 4, 2) := by decide +kernel
theorem dX6_sooner_164 : decode cX6_sooner 164 = .ok (.iload 7, 2) := by decide +kernel
theorem dX6_sooner_166 : decode cX6_sooner 166 = .ok (.invokestatic 199, 3) := by decide +kernel
theorem dX6_sooner_169 : decode cX6_sooner 169 = .ok (.ifCond .eq 9, 3) := by decide +kernel
theorem dX6_sooner_172 : decode cX6_sooner 172 = .ok (.iconst 1, 1) := by decide +kernel
theorem dX6_sooner_173 : decode cX6_sooner 173 = .ok (.iload_n 1, 1) := by decide +kernel
theorem dX6_sooner_174 : decode cX6_sooner 174 = .ok (.ishl, 1) := by decide +kernel
theorem dX6_sooner_175 : decode cX6_sooner 175 = .ok (.goto 4, 3) := by decide +kernel
theorem dX6_sooner_178 : decode cX6_sooner 178 = .ok (.iconst 0, 1) := by decide +kernel
theorem dX6_sooner_179 : decode cX6_sooner 179 = .ok (.ior, 1) := by decide +kernel
theorem dX6_sooner_180 : decode cX6_sooner 180 = .ok (.iastore, 1) := by decide +kernel
theorem dX6_sooner_181 : decode cX6_sooner 181 = .ok (.iinc 7 1, 3) := by decide +kernel
theorem dX6_sooner_184 : decode cX6_sooner 184 = .ok (.goto (-39), 3) := by decide +kernel
theorem dX6_sooner_187 : decode cX6_sooner 187 = .ok (.iload_n 2, 1) := by decide +kernel
theorem dX6_sooner_188 : decode cX6_sooner 188 = .ok (.ifCond .lt 8, 3) := by decide +kernel
theorem dX6_sooner_191 : decode cX6_sooner 191 = .ok (.iload 6, 2) := by decide +kernel
theorem dX6_sooner_193 : decode cX6_sooner 193 = .ok (.ifCond .ge 8, 3) := by decide +kernel
theorem dX6_sooner_196 : decode cX6_sooner 196 = .ok (.ldc 243, 2) := by decide +kernel
theorem dX6_sooner_198 : decode cX6_sooner 198 = .ok (.goto 7, 3) := by decide +kernel
theorem dX6_sooner_201 : decode cX6_sooner 201 = .ok (.iload_n 2, 1) := by decide +kernel
theorem dX6_sooner_202 : decode cX6_sooner 202 = .ok (.iload 6, 2) := by decide +kernel
theorem dX6_sooner_204 : decode cX6_sooner 204 = .ok (.isub, 1) := by decide +kernel
theorem dX6_sooner_205 : decode cX6_sooner 205 = .ok (.ireturn, 1) := by decide +kernel
theorem dX6_standings_0 : decode cX6_standings 0 = .ok (.aload_n 0, 1) := by decide +kernel
theorem dX6_standings_1 : decode cX6_standings 1 = .ok (.aload_n 0, 1) := by decide +kernel
theorem dX6_standings_2 : decode cX6_standings 2 = .ok (.getfield 180, 3) := by decide +kernel
theorem dX6_standings_5 : decode cX6_standings 5 = .ok (.aload_n 0, 1) := by decide +kernel
theorem dX6_standings_6 : decode cX6_standings 6 = .ok (.getfield 25, 3) := by decide +kernel
theorem dX6_standings_9 : decode cX6_standings 9 = .ok (.invokevirtual 230, 3) := by decide +kernel
theorem dX6_standings_12 : decode cX6_standings 12 = .ok (.aload_n 0, 1) := by decide +kernel
theorem dX6_standings_13 : decode cX6_standings 13 = .ok (.getfield 227, 3) := by decide +kernel
theorem dX6_standings_16 : decode cX6_standings 16 = .ok (.ireturn, 1) := by decide +kernel
theorem dX6_saw_0 : decode cX6_saw 0 = .ok (.iload_n 1, 1) := by decide +kernel
theorem dX6_saw_1 : decode cX6_saw 1 = .ok (.i2l, 1) := by decide +kernel
theorem dX6_saw_2 : decode cX6_saw 2 = .ok (.lconst 0, 1) := by decide +kernel
theorem dX6_saw_3 : decode cX6_saw 3 = .ok (.ldc2_w 244, 3) := by decide +kernel
theorem dX6_saw_6 : decode cX6_saw 6 = .ok (.invokestatic 85, 3) := by decide +kernel
theorem dX6_saw_9 : decode cX6_saw 9 = .ok (.ifCond .eq 21, 3) := by decide +kernel
theorem dX6_saw_12 : decode cX6_saw 12 = .ok (.aload_n 0, 1) := by decide +kernel
theorem dX6_saw_13 : decode cX6_saw 13 = .ok (.iload_n 2, 1) := by decide +kernel
theorem dX6_saw_14 : decode cX6_saw 14 = .ok (.invokevirtual 211, 3) := by decide +kernel
theorem dX6_saw_17 : decode cX6_saw 17 = .ok (.ifCond .eq 13, 3) := by decide +kernel
theorem dX6_saw_20 : decode cX6_saw 20 = .ok (.iload_n 3, 1) := by decide +kernel
theorem dX6_saw_21 : decode cX6_saw 21 = .ok (.i2l, 1) := by decide +kernel
theorem dX6_saw_22 : decode cX6_saw 22 = .ok (.lconst 0, 1) := by decide +kernel
theorem dX6_saw_23 : decode cX6_saw 23 = .ok (.lconst 1, 1) := by decide +kernel
theorem dX6_saw_24 : decode cX6_saw 24 = .ok (.invokestatic 85, 3) := by decide +kernel
theorem dX6_saw_27 : decode cX6_saw 27 = .ok (.ifCond .ne 5, 3) := by decide +kernel
theorem dX6_saw_30 : decode cX6_saw 30 = .ok (.iconst (-1), 1) := by decide +kernel
theorem dX6_saw_31 : decode cX6_saw 31 = .ok (.ireturn, 1) := by decide +kernel
theorem dX6_saw_32 : decode cX6_saw 32 = .ok (.aload_n 0, 1) := by decide +kernel
theorem dX6_saw_33 : decode cX6_saw 33 = .ok (.getfield 189, 3) := by decide +kernel
theorem dX6_saw_36 : decode cX6_saw 36 = .ok (.bipush 8, 2) := by decide +kernel
theorem dX6_saw_38 : decode cX6_saw 38 = .ok (.if_icmp .ne 6, 3) := by decide +kernel
theorem dX6_saw_41 : decode cX6_saw 41 = .ok (.bipush (-3), 2) := by decide +kernel
theorem dX6_saw_43 : decode cX6_saw 43 = .ok (.ireturn, 1) := by decide +kernel
theorem dX6_saw_44 : decode cX6_saw 44 = .ok (.aload_n 0, 1) := by decide +kernel
theorem dX6_saw_45 : decode cX6_saw 45 = .ok (.getfield 41, 3) := by decide +kernel
theorem dX6_saw_48 : decode cX6_saw 48 = .ok (.aload_n 0, 1) := by decide +kernel
theorem dX6_saw_49 : decode cX6_saw 49 = .ok (.getfield 189, 3) := by decide +kernel
theorem dX6_saw_52 : decode cX6_saw 52 = .ok (.iload_n 1, 1) := by decide +kernel
theorem dX6_saw_53 : decode cX6_saw 53 = .ok (.iastore, 1) := by decide +kernel
theorem dX6_saw_54 : decode cX6_saw 54 = .ok (.aload_n 0, 1) := by decide +kernel
theorem dX6_saw_55 : decode cX6_saw 55 = .ok (.getfield 44, 3) := by decide +kernel
theorem dX6_saw_58 : decode cX6_saw 58 = .ok (.aload_n 0, 1) := by decide +kernel
theorem dX6_saw_59 : decode cX6_saw 59 = .ok (.getfield 189, 3) := by decide +kernel
theorem dX6_saw_62 : decode cX6_saw 62 = .ok (.iload_n 2, 1) := by decide +kernel
theorem dX6_saw_63 : decode cX6_saw 63 = .ok (.iastore, 1) := by decide +kernel
theorem dX6_saw_64 : decode cX6_saw 64 = .ok (.aload_n 0, 1) := by decide +kernel
theorem dX6_saw_65 : decode cX6_saw 65 = .ok (.getfield 47, 3) := by decide +kernel
theorem dX6_saw_68 : decode cX6_saw 68 = .ok (.aload_n 0, 1) := by decide +kernel
theorem dX6_saw_69 : decode cX6_saw 69 = .ok (.getfield 189, 3) := by decide +kernel
theorem dX6_saw_72 : decode cX6_saw 72 = .ok (.iload_n 3, 1) := by decide +kernel
theorem dX6_saw_73 : decode cX6_saw 73 = .ok (.iastore, 1) := by decide +kernel
theorem dX6_saw_74 : decode cX6_saw 74 = .ok (.aload_n 0, 1) := by decide +kernel
theorem dX6_saw_75 : decode cX6_saw 75 = .ok (.dup, 1) := by decide +kernel
theorem dX6_saw_76 : decode cX6_saw 76 = .ok (.getfield 189, 3) := by decide +kernel
theorem dX6_saw_79 : decode cX6_saw 79 = .ok (.iconst 1, 1) := by decide +kernel
theorem dX6_saw_80 : decode cX6_saw 80 = .ok (.iadd, 1) := by decide +kernel
theorem dX6_saw_81 : decode cX6_saw 81 = .ok (.putfield 189, 3) := by decide +kernel
theorem dX6_saw_84 : decode cX6_saw 84 = .ok (.aload_n 0, 1) := by decide +kernel
theorem dX6_saw_85 : decode cX6_saw 85 = .ok (.getfield 189, 3) := by decide +kernel
theorem dX6_saw_88 : decode cX6_saw 88 = .ok (.ireturn, 1) := by decide +kernel
theorem dX6_forget_0 : decode cX6_forget 0 = .ok (.aload_n 0, 1) := by decide +kernel
theorem dX6_forget_1 : decode cX6_forget 1 = .ok (.getfield 189, 3) := by decide +kernel
theorem dX6_forget_4 : decode cX6_forget 4 = .ok (.istore_n 1, 1) := by decide +kernel
theorem dX6_forget_5 : decode cX6_forget 5 = .ok (.aload_n 0, 1) := by decide +kernel
theorem dX6_forget_6 : decode cX6_forget 6 = .ok (.iconst 0, 1) := by decide +kernel
theorem dX6_forget_7 : decode cX6_forget 7 = .ok (.putfield 189, 3) := by decide +kernel
theorem dX6_forget_10 : decode cX6_forget 10 = .ok (.iload_n 1, 1) := by decide +kernel
theorem dX6_forget_11 : decode cX6_forget 11 = .ok (.ireturn, 1) := by decide +kernel
theorem dX6_isSeen_0 : decode cX6_isSeen 0 = .ok (.iconst 1, 1) := by decide +kernel
theorem dX6_isSeen_1 : decode cX6_isSeen 1 = .ok (.istore_n 3, 1) := by decide +kernel
theorem dX6_isSeen_2 : decode cX6_isSeen 2 = .ok (.iconst 0, 1) := by decide +kernel
theorem dX6_isSeen_3 : decode cX6_isSeen 3 = .ok (.istore 4, 2) := by decide +kernel
theorem dX6_isSeen_5 : decode cX6_isSeen 5 = .ok (.iload 4, 2) := by decide +kernel
theorem dX6_isSeen_7 : decode cX6_isSeen 7 = .ok (.aload_n 0, 1) := by decide +kernel
theorem dX6_isSeen_8 : decode cX6_isSeen 8 = .ok (.getfield 189, 3) := by decide +kernel
theorem dX6_isSeen_11 : decode cX6_isSeen 11 = .ok (.if_icmp .ge 51, 3) := by decide +kernel
theorem dX6_isSeen_14 : decode cX6_isSeen 14 = .ok (.iload_n 3, 1) := by decide +kernel
theorem dX6_isSeen_15 : decode cX6_isSeen 15 = .ok (.ifCond .eq 39, 3) := by decide +kernel
theorem dX6_isSeen_18 : decode cX6_isSeen 18 = .ok (.aload_n 0, 1) := by decide +kernel
theorem dX6_isSeen_19 : decode cX6_isSeen 19 = .ok (.getfield 41, 3) := by decide +kernel
theorem dX6_isSeen_22 : decode cX6_isSeen 22 = .ok (.iload 4, 2) := by decide +kernel
theorem dX6_isSeen_24 : decode cX6_isSeen 24 = .ok (.iaload, 1) := by decide +kernel
theorem dX6_isSeen_25 : decode cX6_isSeen 25 = .ok (.iload_n 2, 1) := by decide +kernel
theorem dX6_isSeen_26 : decode cX6_isSeen 26 = .ok (.if_icmp .ne 24, 3) := by decide +kernel
theorem dX6_isSeen_29 : decode cX6_isSeen 29 = .ok (.iload_n 1, 1) := by decide +kernel
theorem dX6_isSeen_30 : decode cX6_isSeen 30 = .ok (.aload_n 0, 1) := by decide +kernel
theorem dX6_isSeen_31 : decode cX6_isSeen 31 = .ok (.getfield 44, 3) := by decide +kernel
theorem dX6_isSeen_34 : decode cX6_isSeen 34 = .ok (.iload 4, 2) := by decide +kernel
theorem dX6_isSeen_36 : decode cX6_isSeen 36 = .ok (.iaload, 1) := by decide +kernel
theorem dX6_isSeen_37 : decode cX6_isSeen 37 = .ok (.ishr, 1) := by decide +kernel
theorem dX6_isSeen_38 : decode cX6_isSeen 38 = .ok (.iconst 1, 1) := by decide +kernel
theorem dX6_isSeen_39 : decode cX6_isSeen 39 = .ok (.iand, 1) := by decide +kernel
theorem dX6_isSeen_40 : decode cX6_isSeen 40 = .ok (.aload_n 0, 1) := by decide +kernel
theorem dX6_isSeen_41 : decode cX6_isSeen 41 = .ok (.getfield 47, 3) := by decide +kernel
theorem dX6_isSeen_44 : decode cX6_isSeen 44 = .ok (.iload 4, 2) := by decide +kernel
theorem dX6_isSeen_46 : decode cX6_isSeen 46 = .ok (.iaload, 1) := by decide +kernel
theorem dX6_isSeen_47 : decode cX6_isSeen 47 = .ok (.if_icmp .ne 7, 3) := by decide +kernel
theorem dX6_isSeen_50 : decode cX6_isSeen 50 = .ok (.iconst 1, 1) := by decide +kernel
theorem dX6_isSeen_51 : decode cX6_isSeen 51 = .ok (.goto 4, 3) := by decide +kernel
theorem dX6_isSeen_54 : decode cX6_isSeen 54 = .ok (.iconst 0, 1) := by decide +kernel
theorem dX6_isSeen_55 : decode cX6_isSeen 55 = .ok (.istore_n 3, 1) := by decide +kernel
theorem dX6_isSeen_56 : decode cX6_isSeen 56 = .ok (.iinc 4 1, 3) := by decide +kernel
theorem dX6_isSeen_59 : decode cX6_isSeen 59 = .ok (.goto (-54), 3) := by decide +kernel
theorem dX6_isSeen_62 : decode cX6_isSeen 62 = .ok (.iload_n 3, 1) := by decide +kernel
theorem dX6_isSeen_63 : decode cX6_isSeen 63 = .ok (.ireturn, 1) := by decide +kernel
theorem dX6_fitting_0 : decode cX6_fitting 0 = .ok (.iconst 0, 1) := by decide +kernel
theorem dX6_fitting_1 : decode cX6_fitting 1 = .ok (.istore 4, 2) := by decide +kernel
theorem dX6_fitting_3 : decode cX6_fitting 3 = .ok (.iload 4, 2) := by decide +kernel
theorem dX6_fitting_5 : decode cX6_fitting 5 = .ok (.sipush 256, 3) := by decide +kernel
theorem dX6_fitting_8 : decode cX6_fitting 8 = .ok (.if_icmp .ge 40, 3) := by decide +kernel
theorem dX6_fitting_11 : decode cX6_fitting 11 = .ok (.aload_n 0, 1) := by decide +kernel
theorem dX6_fitting_12 : decode cX6_fitting 12 = .ok (.getfield 75, 3) := by decide +kernel
theorem dX6_fitting_15 : decode cX6_fitting 15 = .ok (.iload 4, 2) := by decide +kernel
theorem dX6_fitting_17 : decode cX6_fitting 17 = .ok (.iload 4, 2) := by decide +kernel
theorem dX6_fitting_19 : decode cX6_fitting 19 = .ok (.aload_n 0, 1) := by decide +kernel
theorem dX6_fitting_20 : decode cX6_fitting 20 = .ok (.getfield 177, 3) := by decide +kernel
theorem dX6_fitting_23 : decode cX6_fitting 23 = .ok (.if_icmp .ne 17, 3) := by decide +kernel
theorem dX6_fitting_26 : decode cX6_fitting 26 = .ok (.aload_n 0, 1) := by decide +kernel
theorem dX6_fitting_27 : decode cX6_fitting 27 = .ok (.iload 4, 2) := by decide +kernel
theorem dX6_fitting_29 : decode cX6_fitting 29 = .ok (.iconst 0, 1) := by decide +kernel
theorem dX6_fitting_30 : decode cX6_fitting 30 = .ok (.invokevirtual 246, 3) := by decide +kernel
theorem dX6_fitting_33 : decode cX6_fitting 33 = .ok (.ifCond .eq 7, 3) := by decide +kernel
theorem dX6_fitting_36 : decode cX6_fitting 36 = .ok (.lconst 1, 1) := by decide +kernel
theorem dX6_fitting_37 : decode cX6_fitting 37 = .ok (.goto 4, 3) := by decide +kernel
theorem dX6_fitting_40 : decode cX6_fitting 40 = .ok (.lconst 0, 1) := by decide +kernel
theorem dX6_fitting_41 : decode cX6_fitting 41 = .ok (.lastore, 1) := by decide +kernel
theorem dX6_fitting_42 : decode cX6_fitting 42 = .ok (.iinc 4 1, 3) := by decide +kernel
theorem dX6_fitting_45 : decode cX6_fitting 45 = .ok (.goto (-42), 3) := by decide +kernel
theorem dX6_fitting_48 : decode cX6_fitting 48 = .ok (.iconst 1, 1) := by decide +kernel
theorem dX6_fitting_49 : decode cX6_fitting 49 = .ok (.istore 4, 2) := by decide +kernel
theorem dX6_fitting_51 : decode cX6_fitting 51 = .ok (.iload 4, 2) := by decide +kernel
theorem dX6_fitting_53 : decode cX6_fitting 53 = .ok (.iload_n 1, 1) := by decide +kernel
theorem dX6_fitting_54 : decode cX6_fitting 54 = .ok (.if_icmp .gt 180, 3) := by decide +kernel
theorem dX6_fitting_57 : decode cX6_fitting 57 = .ok (.iconst 0, 1) := by decide +kernel
theorem dX6_fitting_58 : decode cX6_fitting 58 = .ok (.istore 5, 2) := by decide +kernel
theorem dX6_fitting_60 : decode cX6_fitting 60 = .ok (.iload 5, 2) := by decide +kernel
theorem dX6_fitting_62 : decode cX6_fitting 62 = .ok (.sipush 256, 3) := by decide +kernel
theorem dX6_fitting_65 : decode cX6_fitting 65 = .ok (.if_icmp .ge 17, 3) := by decide +kernel
theorem dX6_fitting_68 : decode cX6_fitting 68 = .ok (.aload_n 0, 1) := by decide +kernel
theorem dX6_fitting_69 : decode cX6_fitting 69 = .ok (.getfield 79, 3) := by decide +kernel
theorem dX6_fitting_72 : decode cX6_fitting 72 = .ok (.iload 5, 2) := by decide +kernel
theorem dX6_fitting_74 : decode cX6_fitting 74 = .ok (.lconst 0, 1) := by decide +kernel
theorem dX6_fitting_75 : decode cX6_fitting 75 = .ok (.lastore, 1) := by decide +kernel
theorem dX6_fitting_76 : decode cX6_fitting 76 = .ok (.iinc 5 1, 3) := by decide +kernel
theorem dX6_fitting_79 : decode cX6_fitting 79 = .ok (.goto (-19), 3) := by decide +kernel
theorem dX6_fitting_82 : decode cX6_fitting 82 = .ok (.iconst 0, 1) := by decide +kernel
theorem dX6_fitting_83 : decode cX6_fitting 83 = .ok (.istore 5, 2) := by decide +kernel
theorem dX6_fitting_85 : decode cX6_fitting 85 = .ok (.iload 5, 2) := by decide +kernel
theorem dX6_fitting_87 : decode cX6_fitting 87 = .ok (.sipush 256, 3) := by decide +kernel
theorem dX6_fitting_90 : decode cX6_fitting 90 = .ok (.if_icmp .ge 107, 3) := by decide +kernel
theorem dX6_fitting_93 : decode cX6_fitting 93 = .ok (.iconst 0, 1) := by decide +kernel
theorem dX6_fitting_94 : decode cX6_fitting 94 = .ok (.istore 6, 2) := by decide +kernel
theorem dX6_fitting_96 : decode cX6_fitting 96 = .ok (.iload 6, 2) := by decide +kernel
theorem dX6_fitting_98 : decode cX6_fitting 98 = .ok (.iconst 1, 1) := by decide +kernel
theorem dX6_fitting_99 : decode cX6_fitting 99 = .ok (.aload_n 0, 1) := by decide +kernel
theorem dX6_fitting_100 : decode cX6_fitting 100 = .ok (.getfield 82, 3) := by decide +kernel
theorem dX6_fitting_103 : decode cX6_fitting 103 = .ok (.ishl, 1) := by decide +kernel
theorem dX6_fitting_104 : decode cX6_fitting 104 = .ok (.if_icmp .ge 87, 3) := by decide +kernel
theorem dX6_fitting_107 : decode cX6_fitting 107 = .ok (.aload_n 0, 1) := by decide +kernel
theorem dX6_fitting_108 : decode cX6_fitting 108 = .ok (.getfield 75, 3) := by decide +kernel
theorem dX6_fitting_111 : decode cX6_fitting 111 = .ok (.iload 5, 2) := by decide +kernel
theorem dX6_fitting_113 : decode cX6_fitting 113 = .ok (.laload, 1) := by decide +kernel
theorem dX6_fitting_114 : decode cX6_fitting 114 = .ok (.lconst 0, 1) := by decide +kernel
theorem dX6_fitting_115 : decode cX6_fitting 115 = .ok (.lcmp, 1) := by decide +kernel
theorem dX6_fitting_116 : decode cX6_fitting 116 = .ok (.ifCond .le 75, 3) := by decide +kernel
theorem dX6_fitting_119 : decode cX6_fitting 119 = .ok (.iload 4, 2) := by decide +kernel
theorem dX6_fitting_121 : decode cX6_fitting 121 = .ok (.iload_n 2, 1) := by decide +kernel
theorem dX6_fitting_122 : decode cX6_fitting 122 = .ok (.if_icmp .ne 16, 3) := by decide +kernel
theorem dX6_fitting_125 : decode cX6_fitting 125 = .ok (.iload 6, 2) := by decide +kernel
theorem dX6_fitting_127 : decode cX6_fitting 127 = .ok (.iload_n 3, 1) := by decide +kernel
theorem dX6_fitting_128 : decode cX6_fitting 128 = .ok (.invokestatic 199, 3) := by decide +kernel
theorem dX6_fitting_131 : decode cX6_fitting 131 = .ok (.ifCond .ne 7, 3) := by decide +kernel
theorem dX6_fitting_134 : decode cX6_fitting 134 = .ok (.iconst (-1), 1) := by decide +kernel
theorem dX6_fitting_135 : decode cX6_fitting 135 = .ok (.goto 15, 3) := by decide +kernel
theorem dX6_fitting_138 : decode cX6_fitting 138 = .ok (.aload_n 0, 1) := by decide +kernel
theorem dX6_fitting_139 : decode cX6_fitting 139 = .ok (.iload 5, 2) := by decide +kernel
theorem dX6_fitting_141 : decode cX6_fitting 141 = .ok (.iload 6, 2) := by decide +kernel
theorem dX6_fitting_143 : decode cX6_fitting 143 = .ok (.aload_n 0, 1) := by decide +kernel
theorem dX6_fitting_144 : decode cX6_fitting 144 = .ok (.getfield 25, 3) := by decide +kernel
theorem dX6_fitting_147 : decode cX6_fitting 147 = .ok (.invokevirtual 219, 3) := by decide +kernel
theorem dX6_fitting_150 : decode cX6_fitting 150 = .ok (.istore 7, 2) := by decide +kernel
theorem dX6_fitting_152 : decode cX6_fitting 152 = .ok (.iload 7, 2) := by decide +kernel
theorem dX6_fitting_154 : decode cX6_fitting 154 = .ok (.ifCond .lt 31, 3) := by decide +kernel
theorem dX6_fitting_157 : decode cX6_fitting 157 = .ok (.aload_n 0, 1) := by decide +kernel
theorem dX6_fitting_158 : decode cX6_fitting 158 = .ok (.iload 7, 2) := by decide +kernel
theorem dX6_fitting_160 : decode cX6_fitting 160 = .ok (.iload 4, 2) := by decide +kernel
theorem dX6_fitting_162 : decode cX6_fitting 162 = .ok (.invokevirtual 246, 3) := by decide +kernel
theorem dX6_fitting_165 : decode cX6_fitting 165 = .ok (.ifCond .eq 20, 3) := by decide +kernel
theorem dX6_fitting_168 : decode cX6_fitting 168 = .ok (.aload_n 0, 1) := by decide +kernel
theorem dX6_fitting_169 : decode cX6_fitting 169 = .ok (.getfield 79, 3) := by decide +kernel
theorem dX6_fitting_172 : decode cX6_fitting 172 = .ok (.iload 7, 2) := by decide +kernel
theorem dX6_fitting_174 : decode cX6_fitting 174 = .ok (.dup2, 1) := by decide +kernel
theorem dX6_fitting_175 : decode cX6_fitting 175 = .ok (.laload, 1) := by decide +kernel
theorem dX6_fitting_176 : decode cX6_fitting 176 = .ok (.aload_n 0, 1) := by decide +kernel
theorem dX6_fitting_177 : decode cX6_fitting 177 = .ok (.getfield 75, 3) := by decide +kernel
theorem dX6_fitting_180 : decode cX6_fitting 180 = .ok (.iload 5, 2) := by decide +kernel
theorem dX6_fitting_182 : decode cX6_fitting 182 = .ok (.laload, 1) := by decide +kernel
theorem dX6_fitting_183 : decode cX6_fitting 183 = .ok (.ladd, 1) := by decide +kernel
theorem dX6_fitting_184 : decode cX6_fitting 184 = .ok (.lastore, 1) := by decide +kernel
theorem dX6_fitting_185 : decode cX6_fitting 185 = .ok (.iinc 6 1, 3) := by decide +kernel
theorem dX6_fitting_188 : decode cX6_fitting 188 = .ok (.goto (-92), 3) := by decide +kernel
theorem dX6_fitting_191 : decode cX6_fitting 191 = .ok (.iinc 5 1, 3) := by decide +kernel
theorem dX6_fitting_194 : decode cX6_fitting 194 = .ok (.goto (-109), 3) := by decide +kernel
theorem dX6_fitting_197 : decode cX6_fitting 197 = .ok (.iconst 0, 1) := by decide +kernel
theorem dX6_fitting_198 : decode cX6_fitting 198 = .ok (.istore 5, 2) := by decide +kernel
theorem dX6_fitting_200 : decode cX6_fitting 200 = .ok (.iload 5, 2) := by decide +kernel
theorem dX6_fitting_202 : decode cX6_fitting 202 = .ok (.sipush 256, 3) := by decide +kernel
theorem dX6_fitting_205 : decode cX6_fitting 205 = .ok (.if_icmp .ge 23, 3) := by decide +kernel
theorem dX6_fitting_208 : decode cX6_fitting 208 = .ok (.aload_n 0, 1) := by decide +kernel
theorem dX6_fitting_209 : decode cX6_fitting 209 = .ok (.getfield 75, 3) := by decide +kernel
theorem dX6_fitting_212 : decode cX6_fitting 212 = .ok (.iload 5, 2) := by decide +kernel
theorem dX6_fitting_214 : decode cX6_fitting 214 = .ok (.aload_n 0, 1) := by decide +kernel
theorem dX6_fitting_215 : decode cX6_fitting 215 = .ok (.getfield 79, 3) := by decide +kernel
theorem dX6_fitting_218 : decode cX6_fitting 218 = .ok (.iload 5, 2) := by decide +kernel
theorem dX6_fitting_220 : decode cX6_fitting 220 = .ok (.laload, 1) := by decide +kernel
theorem dX6_fitting_221 : decode cX6_fitting 221 = .ok (.lastore, 1) := by decide +kernel
theorem dX6_fitting_222 : decode cX6_fitting 222 = .ok (.iinc 5 1, 3) := by decide +kernel
theorem dX6_fitting_225 : decode cX6_fitting 225 = .ok (.goto (-25), 3) := by decide +kernel
theorem dX6_fitting_228 : decode cX6_fitting 228 = .ok (.iinc 4 1, 3) := by decide +kernel
theorem dX6_fitting_231 : decode cX6_fitting 231 = .ok (.goto (-180), 3) := by decide +kernel
theorem dX6_fitting_234 : decode cX6_fitting 234 = .ok (.lconst 0, 1) := by decide +kernel
theorem dX6_fitting_235 : decode cX6_fitting 235 = .ok (.lstore 4, 2) := by decide +kernel
theorem dX6_fitting_237 : decode cX6_fitting 237 = .ok (.iconst 0, 1) := by decide +kernel
theorem dX6_fitting_238 : decode cX6_fitting 238 = .ok (.istore 6, 2) := by decide +kernel
theorem dX6_fitting_240 : decode cX6_fitting 240 = .ok (.iload 6, 2) := by decide +kernel
theorem dX6_fitting_242 : decode cX6_fitting 242 = .ok (.sipush 256, 3) := by decide +kernel
theorem dX6_fitting_245 : decode cX6_fitting 245 = .ok (.if_icmp .ge 21, 3) := by decide +kernel
theorem dX6_fitting_248 : decode cX6_fitting 248 = .ok (.lload 4, 2) := by decide +kernel
theorem dX6_fitting_250 : decode cX6_fitting 250 = .ok (.aload_n 0, 1) := by decide +kernel
theorem dX6_fitting_251 : decode cX6_fitting 251 = .ok (.getfield 75, 3) := by decide +kernel
theorem dX6_fitting_254 : decode cX6_fitting 254 = .ok (.iload 6, 2) := by decide +kernel
theorem dX6_fitting_256 : decode cX6_fitting 256 = .ok (.laload, 1) := by decide +kernel
theorem dX6_fitting_257 : decode cX6_fitting 257 = .ok (.ladd, 1) := by decide +kernel
theorem dX6_fitting_258 : decode cX6_fitting 258 = .ok (.lstore 4, 2) := by decide +kernel
theorem dX6_fitting_260 : decode cX6_fitting 260 = .ok (.iinc 6 1, 3) := by decide +kernel
theorem dX6_fitting_263 : decode cX6_fitting 263 = .ok (.goto (-23), 3) := by decide +kernel
theorem dX6_fitting_266 : decode cX6_fitting 266 = .ok (.lload 4, 2) := by decide +kernel
theorem dX6_fitting_268 : decode cX6_fitting 268 = .ok (.lreturn, 1) := by decide +kernel
theorem dX6_fits_0 : decode cX6_fits 0 = .ok (.iload_n 1, 1) := by decide +kernel
theorem dX6_fits_1 : decode cX6_fits 1 = .ok (.i2l, 1) := by decide +kernel
theorem dX6_fits_2 : decode cX6_fits 2 = .ok (.lconst 0, 1) := by decide +kernel
theorem dX6_fits_3 : decode cX6_fits 3 = .ok (.ldc2_w 244, 3) := by decide +kernel
theorem dX6_fits_6 : decode cX6_fits 6 = .ok (.invokestatic 85, 3) := by decide +kernel
theorem dX6_fits_9 : decode cX6_fits 9 = .ok (.ifCond .eq 14, 3) := by decide +kernel
theorem dX6_fits_12 : decode cX6_fits 12 = .ok (.iload_n 2, 1) := by decide +kernel
theorem dX6_fits_13 : decode cX6_fits 13 = .ok (.i2l, 1) := by decide +kernel
theorem dX6_fits_14 : decode cX6_fits 14 = .ok (.lconst 0, 1) := by decide +kernel
theorem dX6_fits_15 : decode cX6_fits 15 = .ok (.iload_n 1, 1) := by decide +kernel
theorem dX6_fits_16 : decode cX6_fits 16 = .ok (.i2l, 1) := by decide +kernel
theorem dX6_fits_17 : decode cX6_fits 17 = .ok (.invokestatic 85, 3) := by decide +kernel
theorem dX6_fits_20 : decode cX6_fits 20 = .ok (.ifCond .ne 7, 3) := by decide +kernel
theorem dX6_fits_23 : decode cX6_fits 23 = .ok (.ldc2_w 120, 3) := by decide +kernel
theorem dX6_fits_26 : decode cX6_fits 26 = .ok (.lreturn, 1) := by decide +kernel
theorem dX6_fits_27 : decode cX6_fits 27 = .ok (.iload_n 2, 1) := by decide +kernel
theorem dX6_fits_28 : decode cX6_fits 28 = .ok (.ifCond .ne 11, 3) := by decide +kernel
theorem dX6_fits_31 : decode cX6_fits 31 = .ok (.aload_n 0, 1) := by decide +kernel
theorem dX6_fits_32 : decode cX6_fits 32 = .ok (.iload_n 1, 1) := by decide +kernel
theorem dX6_fits_33 : decode cX6_fits 33 = .ok (.iconst (-1), 1) := by decide +kernel
theorem dX6_fits_34 : decode cX6_fits 34 = .ok (.iconst 0, 1) := by decide +kernel
theorem dX6_fits_35 : decode cX6_fits 35 = .ok (.invokevirtual 249, 3) := by decide +kernel
theorem dX6_fits_38 : decode cX6_fits 38 = .ok (.lreturn, 1) := by decide +kernel
theorem dX6_fits_39 : decode cX6_fits 39 = .ok (.lconst 0, 1) := by decide +kernel
theorem dX6_fits_40 : decode cX6_fits 40 = .ok (.lstore_n 3, 1) := by decide +kernel
theorem dX6_fits_41 : decode cX6_fits 41 = .ok (.iconst 0, 1) := by decide +kernel
theorem dX6_fits_42 : decode cX6_fits 42 = .ok (.istore 5, 2) := by decide +kernel
theorem dX6_fits_44 : decode cX6_fits 44 = .ok (.iload 5, 2) := by decide +kernel
theorem dX6_fits_46 : decode cX6_fits 46 = .ok (.aload_n 0, 1) := by decide +kernel
theorem dX6_fits_47 : decode cX6_fits 47 = .ok (.getfield 82, 3) := by decide +kernel
theorem dX6_fits_50 : decode cX6_fits 50 = .ok (.if_icmp .ge 33, 3) := by decide +kernel
theorem dX6_fits_53 : decode cX6_fits 53 = .ok (.lload_n 3, 1) := by decide +kernel
theorem dX6_fits_54 : decode cX6_fits 54 = .ok (.aload_n 0, 1) := by decide +kernel
theorem dX6_fits_55 : decode cX6_fits 55 = .ok (.iload_n 1, 1) := by decide +kernel
theorem dX6_fits_56 : decode cX6_fits 56 = .ok (.iload_n 2, 1) := by decide +kernel
theorem dX6_fits_57 : decode cX6_fits 57 = .ok (.iload 5, 2) := by decide +kernel
theorem dX6_fits_59 : decode cX6_fits 59 = .ok (.invokevirtual 249, 3) := by decide +kernel
theorem dX6_fits_62 : decode cX6_fits 62 = .ok (.lconst 0, 1) := by decide +kernel
theorem dX6_fits_63 : decode cX6_fits 63 = .ok (.lcmp, 1) := by decide +kernel
theorem dX6_fits_64 : decode cX6_fits 64 = .ok (.ifCond .le 10, 3) := by decide +kernel
theorem dX6_fits_67 : decode cX6_fits 67 = .ok (.lconst 1, 1) := by decide +kernel
theorem dX6_fits_68 : decode cX6_fits 68 = .ok (.iload 5, 2) := by decide +kernel
theorem dX6_fits_70 : decode cX6_fits 70 = .ok (.lshl, 1) := by decide +kernel
theorem dX6_fits_71 : decode cX6_fits 71 = .ok (.goto 4, 3) := by decide +kernel
theorem dX6_fits_74 : decode cX6_fits 74 = .ok (.lconst 0, 1) := by decide +kernel
theorem dX6_fits_75 : decode cX6_fits 75 = .ok (.lor, 1) := by decide +kernel
theorem dX6_fits_76 : decode cX6_fits 76 = .ok (.lstore_n 3, 1) := by decide +kernel
theorem dX6_fits_77 : decode cX6_fits 77 = .ok (.iinc 5 1, 3) := by decide +kernel
theorem dX6_fits_80 : decode cX6_fits 80 = .ok (.goto (-36), 3) := by decide +kernel
theorem dX6_fits_83 : decode cX6_fits 83 = .ok (.lload_n 3, 1) := by decide +kernel
theorem dX6_fits_84 : decode cX6_fits 84 = .ok (.lreturn, 1) := by decide +kernel
theorem dX6_owed_0 : decode cX6_owed 0 = .ok (.aload_n 0, 1) := by decide +kernel
theorem dX6_owed_1 : decode cX6_owed 1 = .ok (.iload_n 1, 1) := by decide +kernel
theorem dX6_owed_2 : decode cX6_owed 2 = .ok (.invokevirtual 211, 3) := by decide +kernel
theorem dX6_owed_5 : decode cX6_owed 5 = .ok (.ifCond .eq 15, 3) := by decide +kernel
theorem dX6_owed_8 : decode cX6_owed 8 = .ok (.iload_n 2, 1) := by decide +kernel
theorem dX6_owed_9 : decode cX6_owed 9 = .ok (.i2l, 1) := by decide +kernel
theorem dX6_owed_10 : decode cX6_owed 10 = .ok (.lconst 0, 1) := by decide +kernel
theorem dX6_owed_11 : decode cX6_owed 11 = .ok (.ldc2_w 253, 3) := by decide +kernel
theorem dX6_owed_14 : decode cX6_owed 14 = .ok (.invokestatic 85, 3) := by decide +kernel
theorem dX6_owed_17 : decode cX6_owed 17 = .ok (.ifCond .ne 7, 3) := by decide +kernel
theorem dX6_owed_20 : decode cX6_owed 20 = .ok (.ldc2_w 120, 3) := by decide +kernel
theorem dX6_owed_23 : decode cX6_owed 23 = .ok (.lreturn, 1) := by decide +kernel
theorem dX6_owed_24 : decode cX6_owed 24 = .ok (.lconst 0, 1) := by decide +kernel
theorem dX6_owed_25 : decode cX6_owed 25 = .ok (.lstore_n 3, 1) := by decide +kernel
theorem dX6_owed_26 : decode cX6_owed 26 = .ok (.iconst 0, 1) := by decide +kernel
theorem dX6_owed_27 : decode cX6_owed 27 = .ok (.istore 5, 2) := by decide +kernel
theorem dX6_owed_29 : decode cX6_owed 29 = .ok (.iload 5, 2) := by decide +kernel
theorem dX6_owed_31 : decode cX6_owed 31 = .ok (.iload_n 2, 1) := by decide +kernel
theorem dX6_owed_32 : decode cX6_owed 32 = .ok (.if_icmp .ge 40, 3) := by decide +kernel
theorem dX6_owed_35 : decode cX6_owed 35 = .ok (.aload_n 0, 1) := by decide +kernel
theorem dX6_owed_36 : decode cX6_owed 36 = .ok (.aload_n 0, 1) := by decide +kernel
theorem dX6_owed_37 : decode cX6_owed 37 = .ok (.getfield 180, 3) := by decide +kernel
theorem dX6_owed_40 : decode cX6_owed 40 = .ok (.invokevirtual 202, 3) := by decide +kernel
theorem dX6_owed_43 : decode cX6_owed 43 = .ok (.iload_n 1, 1) := by decide +kernel
theorem dX6_owed_44 : decode cX6_owed 44 = .ok (.invokestatic 199, 3) := by decide +kernel
theorem dX6_owed_47 : decode cX6_owed 47 = .ok (.ifCond .eq 25, 3) := by decide +kernel
theorem dX6_owed_50 : decode cX6_owed 50 = .ok (.lload_n 3, 1) := by decide +kernel
theorem dX6_owed_51 : decode cX6_owed 51 = .ok (.lload_n 3, 1) := by decide +kernel
theorem dX6_owed_52 : decode cX6_owed 52 = .ok (.ldc2_w 122, 3) := by decide +kernel
theorem dX6_owed_55 : decode cX6_owed 55 = .ok (.ldiv, 1) := by decide +kernel
theorem dX6_owed_56 : decode cX6_owed 56 = .ok (.aload_n 0, 1) := by decide +kernel
theorem dX6_owed_57 : decode cX6_owed 57 = .ok (.getfield 16, 3) := by decide +kernel
theorem dX6_owed_60 : decode cX6_owed 60 = .ok (.iload_n 1, 1) := by decide +kernel
theorem dX6_owed_61 : decode cX6_owed 61 = .ok (.iaload, 1) := by decide +kernel
theorem dX6_owed_62 : decode cX6_owed 62 = .ok (.i2l, 1) := by decide +kernel
theorem dX6_owed_63 : decode cX6_owed 63 = .ok (.ladd, 1) := by decide +kernel
theorem dX6_owed_64 : decode cX6_owed 64 = .ok (.ladd, 1) := by decide +kernel
theorem dX6_owed_65 : decode cX6_owed 65 = .ok (.lstore_n 3, 1) := by decide +kernel
theorem dX6_owed_66 : decode cX6_owed 66 = .ok (.iinc 5 1, 3) := by decide +kernel
theorem dX6_owed_69 : decode cX6_owed 69 = .ok (.goto (-40), 3) := by decide +kernel
theorem dX6_owed_72 : decode cX6_owed 72 = .ok (.lload_n 3, 1) := by decide +kernel
theorem dX6_owed_73 : decode cX6_owed 73 = .ok (.lreturn, 1) := by decide +kernel
theorem dX6_mark_0 : decode cX6_mark 0 = .ok (.iload_n 1, 1) := by decide +kernel
theorem dX6_mark_1 : decode cX6_mark 1 = .ok (.i2l, 1) := by decide +kernel
theorem dX6_mark_2 : decode cX6_mark 2 = .ok (.lconst 0, 1) := by decide +kernel
theorem dX6_mark_3 : decode cX6_mark 3 = .ok (.ldc2_w 244, 3) := by decide +kernel
theorem dX6_mark_6 : decode cX6_mark 6 = .ok (.invokestatic 85, 3) := by decide +kernel
theorem dX6_mark_9 : decode cX6_mark 9 = .ok (.ifCond .eq 11, 3) := by decide +kernel
theorem dX6_mark_12 : decode cX6_mark 12 = .ok (.aload_n 0, 1) := by decide +kernel
theorem dX6_mark_13 : decode cX6_mark 13 = .ok (.iload_n 2, 1) := by decide +kernel
theorem dX6_mark_14 : decode cX6_mark 14 = .ok (.invokevirtual 211, 3) := by decide +kernel
theorem dX6_mark_17 : decode cX6_mark 17 = .ok (.ifCond .ne 6, 3) := by decide +kernel
theorem dX6_mark_20 : decode cX6_mark 20 = .ok (.ldc 243, 2) := by decide +kernel
theorem dX6_mark_22 : decode cX6_mark 22 = .ok (.ireturn, 1) := by decide +kernel
theorem dX6_mark_23 : decode cX6_mark 23 = .ok (.aload_n 0, 1) := by decide +kernel
theorem dX6_mark_24 : decode cX6_mark 24 = .ok (.dup, 1) := by decide +kernel
theorem dX6_mark_25 : decode cX6_mark 25 = .ok (.getfield 255, 3) := by decide +kernel
theorem dX6_mark_28 : decode cX6_mark 28 = .ok (.iload_n 1, 1) := by decide +kernel
theorem dX6_mark_29 : decode cX6_mark 29 = .ok (.ifCond .ne 7, 3) := by decide +kernel
theorem dX6_mark_32 : decode cX6_mark 32 = .ok (.lconst 1, 1) := by decide +kernel
theorem dX6_mark_33 : decode cX6_mark 33 = .ok (.goto 50, 3) := by decide +kernel
theorem dX6_mark_36 : decode cX6_mark 36 = .ok (.iload_n 1, 1) := by decide +kernel
theorem dX6_mark_37 : decode cX6_mark 37 = .ok (.iconst 1, 1) := by decide +kernel
theorem dX6_mark_38 : decode cX6_mark 38 = .ok (.if_icmp .ne 9, 3) := by decide +kernel
theorem dX6_mark_41 : decode cX6_mark 41 = .ok (.ldc2_w 258, 3) := by decide +kernel
theorem dX6_mark_44 : decode cX6_mark 44 = .ok (.goto 39, 3) := by decide +kernel
theorem dX6_mark_47 : decode cX6_mark 47 = .ok (.iload_n 1, 1) := by decide +kernel
theorem dX6_mark_48 : decode cX6_mark 48 = .ok (.iconst 2, 1) := by decide +kernel
theorem dX6_mark_49 : decode cX6_mark 49 = .ok (.if_icmp .ne 9, 3) := by decide +kernel
theorem dX6_mark_52 : decode cX6_mark 52 = .ok (.ldc2_w 260, 3) := by decide +kernel
theorem dX6_mark_55 : decode cX6_mark 55 = .ok (.goto 28, 3) := by decide +kernel
theorem dX6_mark_58 : decode cX6_mark 58 = .ok (.iload_n 1, 1) := by decide +kernel
theorem dX6_mark_59 : decode cX6_mark 59 = .ok (.iconst 3, 1) := by decide +kernel
theorem dX6_mark_60 : decode cX6_mark 60 = .ok (.if_icmp .ne 9, 3) := by decide +kernel
theorem dX6_mark_63 : decode cX6_mark 63 = .ok (.ldc2_w 262, 3) := by decide +kernel
theorem dX6_mark_66 : decode cX6_mark 66 = .ok (.goto 17, 3) := by decide +kernel
theorem dX6_mark_69 : decode cX6_mark 69 = .ok (.iload_n 1, 1) := by decide +kernel
theorem dX6_mark_70 : decode cX6_mark 70 = .ok (.iconst 4, 1) := by decide +kernel
theorem dX6_mark_71 : decode cX6_mark 71 = .ok (.if_icmp .ne 9, 3) := by decide +kernel
theorem dX6_mark_74 : decode cX6_mark 74 = .ok (.ldc2_w 264, 3) := by decide +kernel
theorem dX6_mark_77 : decode cX6_mark 77 = .ok (.goto 6, 3) := by decide +kernel
theorem dX6_mark_80 : decode cX6_mark 80 = .ok (.ldc2_w 266, 3) := by decide +kernel
theorem dX6_mark_83 : decode cX6_mark 83 = .ok (.ladd, 1) := by decide +kernel
theorem dX6_mark_84 : decode cX6_mark 84 = .ok (.putfield 255, 3) := by decide +kernel
theorem dX6_mark_87 : decode cX6_mark 87 = .ok (.aload_n 0, 1) := by decide +kernel
theorem dX6_mark_88 : decode cX6_mark 88 = .ok (.getfield 16, 3) := by decide +kernel
theorem dX6_mark_91 : decode cX6_mark 91 = .ok (.iload_n 2, 1) := by decide +kernel
theorem dX6_mark_92 : decode cX6_mark 92 = .ok (.iaload, 1) := by decide +kernel
theorem dX6_mark_93 : decode cX6_mark 93 = .ok (.aload_n 0, 1) := by decide +kernel
theorem dX6_mark_94 : decode cX6_mark 94 = .ok (.getfield 19, 3) := by decide +kernel
theorem dX6_mark_97 : decode cX6_mark 97 = .ok (.iload_n 2, 1) := by decide +kernel
theorem dX6_mark_98 : decode cX6_mark 98 = .ok (.iaload, 1) := by decide +kernel
theorem dX6_mark_99 : decode cX6_mark 99 = .ok (.iadd, 1) := by decide +kernel
theorem dX6_mark_100 : decode cX6_mark 100 = .ok (.istore_n 3, 1) := by decide +kernel
theorem dX6_mark_101 : decode cX6_mark 101 = .ok (.aload_n 0, 1) := by decide +kernel
theorem dX6_mark_102 : decode cX6_mark 102 = .ok (.getfield 16, 3) := by decide +kernel
theorem dX6_mark_105 : decode cX6_mark 105 = .ok (.iload_n 2, 1) := by decide +kernel
theorem dX6_mark_106 : decode cX6_mark 106 = .ok (.iaload, 1) := by decide +kernel
theorem dX6_mark_107 : decode cX6_mark 107 = .ok (.aload_n 0, 1) := by decide +kernel
theorem dX6_mark_108 : decode cX6_mark 108 = .ok (.getfield 22, 3) := by decide +kernel
theorem dX6_mark_111 : decode cX6_mark 111 = .ok (.iload_n 2, 1) := by decide +kernel
theorem dX6_mark_112 : decode cX6_mark 112 = .ok (.iaload, 1) := by decide +kernel
theorem dX6_mark_113 : decode cX6_mark 113 = .ok (.invokestatic 268, 3) := by decide +kernel
theorem dX6_mark_116 : decode cX6_mark 116 = .ok (.isub, 1) := by decide +kernel
theorem dX6_mark_117 : decode cX6_mark 117 = .ok (.istore 4, 2) := by decide +kernel
theorem dX6_mark_119 : decode cX6_mark 119 = .ok (.iload_n 1, 1) := by decide +kernel
theorem dX6_mark_120 : decode cX6_mark 120 = .ok (.ifCond .ne 12, 3) := by decide +kernel
theorem dX6_mark_123 : decode cX6_mark 123 = .ok (.aload_n 0, 1) := by decide +kernel
theorem dX6_mark_124 : decode cX6_mark 124 = .ok (.getfield 16, 3) := by decide +kernel
theorem dX6_mark_127 : decode cX6_mark 127 = .ok (.iload_n 2, 1) := by decide +kernel
theorem dX6_mark_128 : decode cX6_mark 128 = .ok (.iaload, 1) := by decide +kernel
theorem dX6_mark_129 : decode cX6_mark 129 = .ok (.goto 56, 3) := by decide +kernel
theorem dX6_mark_132 : decode cX6_mark 132 = .ok (.iload_n 1, 1) := by decide +kernel
theorem dX6_mark_133 : decode cX6_mark 133 = .ok (.iconst 1, 1) := by decide +kernel
theorem dX6_mark_134 : decode cX6_mark 134 = .ok (.if_icmp .ne 7, 3) := by decide +kernel
theorem dX6_mark_137 : decode cX6_mark 137 = .ok (.iload_n 3, 1) := by decide +kernel
theorem dX6_mark_138 : decode cX6_mark 138 = .ok (.goto 47, 3) := by decide +kernel
theorem dX6_mark_141 : decode cX6_mark 141 = .ok (.iload_n 1, 1) := by decide +kernel
theorem dX6_mark_142 : decode cX6_mark 142 = .ok (.iconst 2, 1) := by decide +kernel
theorem dX6_mark_143 : decode cX6_mark 143 = .ok (.if_icmp .ne 8, 3) := by decide +kernel
theorem dX6_mark_146 : decode cX6_mark 146 = .ok (.iload 4, 2) := by decide +kernel
theorem dX6_mark_148 : decode cX6_mark 148 = .ok (.goto 37, 3) := by decide +kernel
theorem dX6_mark_151 : decode cX6_mark 151 = .ok (.iload_n 1, 1) := by decide +kernel
theorem dX6_mark_152 : decode cX6_mark 152 = .ok (.iconst 3, 1) := by decide +kernel
theorem dX6_mark_153 : decode cX6_mark 153 = .ok (.if_icmp .ne 9, 3) := by decide +kernel
theorem dX6_mark_156 : decode cX6_mark 156 = .ok (.iconst 2, 1) := by decide +kernel
theorem dX6_mark_157 : decode cX6_mark 157 = .ok (.iload_n 3, 1) := by decide +kernel
theorem dX6_mark_158 : decode cX6_mark 158 = .ok (.imul, 1) := by decide +kernel
theorem dX6_mark_159 : decode cX6_mark 159 = .ok (.goto 26, 3) := by decide +kernel
theorem dX6_mark_162 : decode cX6_mark 162 = .ok (.iload_n 1, 1) := by decide +kernel
theorem dX6_mark_163 : decode cX6_mark 163 = .ok (.iconst 4, 1) := by decide +kernel
theorem dX6_mark_164 : decode cX6_mark 164 = .ok (.if_icmp .ne 10, 3) := by decide +kernel
theorem dX6_mark_167 : decode cX6_mark 167 = .ok (.iload 4, 2) := by decide +kernel
theorem dX6_mark_169 : decode cX6_mark 169 = .ok (.iload_n 2, 1) := by decide +kernel
theorem dX6_mark_170 : decode cX6_mark 170 = .ok (.iadd, 1) := by decide +kernel
theorem dX6_mark_171 : decode cX6_mark 171 = .ok (.goto 14, 3) := by decide +kernel
theorem dX6_mark_174 : decode cX6_mark 174 = .ok (.aload_n 0, 1) := by decide +kernel
theorem dX6_mark_175 : decode cX6_mark 175 = .ok (.getfield 16, 3) := by decide +kernel
theorem dX6_mark_178 : decode cX6_mark 178 = .ok (.iload_n 2, 1) := by decide +kernel
theorem dX6_mark_179 : decode cX6_mark 179 = .ok (.iaload, 1) := by decide +kernel
theorem dX6_mark_180 : decode cX6_mark 180 = .ok (.aload_n 0, 1) := by decide +kernel
theorem dX6_mark_181 : decode cX6_mark 181 = .ok (.getfield 183, 3) := by decide +kernel
theorem dX6_mark_184 : decode cX6_mark 184 = .ok (.iadd, 1) := by decide +kernel
theorem dX6_mark_185 : decode cX6_mark 185 = .ok (.ireturn, 1) := by decide +kernel
theorem dX6_keep_0 : decode cX6_keep 0 = .ok (.iload_n 1, 1) := by decide +kernel
theorem dX6_keep_1 : decode cX6_keep 1 = .ok (.i2l, 1) := by decide +kernel
theorem dX6_keep_2 : decode cX6_keep 2 = .ok (.lconst 0, 1) := by decide +kernel
theorem dX6_keep_3 : decode cX6_keep 3 = .ok (.lconst 1, 1) := by decide +kernel
theorem dX6_keep_4 : decode cX6_keep 4 = .ok (.invokestatic 85, 3) := by decide +kernel
theorem dX6_keep_7 : decode cX6_keep 7 = .ok (.ifCond .ne 5, 3) := by decide +kernel
theorem dX6_keep_10 : decode cX6_keep 10 = .ok (.iconst (-1), 1) := by decide +kernel
theorem dX6_keep_11 : decode cX6_keep 11 = .ok (.ireturn, 1) := by decide +kernel
theorem dX6_keep_12 : decode cX6_keep 12 = .ok (.bipush 30, 2) := by decide +kernel
theorem dX6_keep_14 : decode cX6_keep 14 = .ok (.iload_n 1, 1) := by decide +kernel
theorem dX6_keep_15 : decode cX6_keep 15 = .ok (.imul, 1) := by decide +kernel
theorem dX6_keep_16 : decode cX6_keep 16 = .ok (.istore_n 2, 1) := by decide +kernel
theorem dX6_keep_17 : decode cX6_keep 17 = .ok (.aload_n 0, 1) := by decide +kernel
theorem dX6_keep_18 : decode cX6_keep 18 = .ok (.getfield 50, 3) := by decide +kernel
theorem dX6_keep_21 : decode cX6_keep 21 = .ok (.iload_n 2, 1) := by decide +kernel
theorem dX6_keep_22 : decode cX6_keep 22 = .ok (.iconst 1, 1) := by decide +kernel
theorem dX6_keep_23 : decode cX6_keep 23 = .ok (.iastore, 1) := by decide +kernel
theorem dX6_keep_24 : decode cX6_keep 24 = .ok (.aload_n 0, 1) := by decide +kernel
theorem dX6_keep_25 : decode cX6_keep 25 = .ok (.getfield 50, 3) := by decide +kernel
theorem dX6_keep_28 : decode cX6_keep 28 = .ok (.iload_n 2, 1) := by decide +kernel
theorem dX6_keep_29 : decode cX6_keep 29 = .ok (.iconst 1, 1) := by decide +kernel
theorem dX6_keep_30 : decode cX6_keep 30 = .ok (.iadd, 1) := by decide +kernel
theorem dX6_keep_31 : decode cX6_keep 31 = .ok (.aload_n 0, 1) := by decide +kernel
theorem dX6_keep_32 : decode cX6_keep 32 = .ok (.getfield 180, 3) := by decide +kernel
theorem dX6_keep_35 : decode cX6_keep 35 = .ok (.iastore, 1) := by decide +kernel
theorem dX6_keep_36 : decode cX6_keep 36 = .ok (.aload_n 0, 1) := by decide +kernel
theorem dX6_keep_37 : decode cX6_keep 37 = .ok (.getfield 50, 3) := by decide +kernel
theorem dX6_keep_40 : decode cX6_keep 40 = .ok (.iload_n 2, 1) := by decide +kernel
theorem dX6_keep_41 : decode cX6_keep 41 = .ok (.iconst 2, 1) := by decide +kernel
theorem dX6_keep_42 : decode cX6_keep 42 = .ok (.iadd, 1) := by decide +kernel
theorem dX6_keep_43 : decode cX6_keep 43 = .ok (.aload_n 0, 1) := by decide +kernel
theorem dX6_keep_44 : decode cX6_keep 44 = .ok (.getfield 32, 3) := by decide +kernel
theorem dX6_keep_47 : decode cX6_keep 47 = .ok (.iastore, 1) := by decide +kernel
theorem dX6_keep_48 : decode cX6_keep 48 = .ok (.aload_n 0, 1) := by decide +kernel
theorem dX6_keep_49 : decode cX6_keep 49 = .ok (.getfield 50, 3) := by decide +kernel
theorem dX6_keep_52 : decode cX6_keep 52 = .ok (.iload_n 2, 1) := by decide +kernel
theorem dX6_keep_53 : decode cX6_keep 53 = .ok (.iconst 3, 1) := by decide +kernel
theorem dX6_keep_54 : decode cX6_keep 54 = .ok (.iadd, 1) := by decide +kernel
theorem dX6_keep_55 : decode cX6_keep 55 = .ok (.aload_n 0, 1) := by decide +kernel
theorem dX6_keep_56 : decode cX6_keep 56 = .ok (.getfield 183, 3) := by decide +kernel
theorem dX6_keep_59 : decode cX6_keep 59 = .ok (.iastore, 1) := by decide +kernel
theorem dX6_keep_60 : decode cX6_keep 60 = .ok (.aload_n 0, 1) := by decide +kernel
theorem dX6_keep_61 : decode cX6_keep 61 = .ok (.getfield 50, 3) := by decide +kernel
theorem dX6_keep_64 : decode cX6_keep 64 = .ok (.iload_n 2, 1) := by decide +kernel
theorem dX6_keep_65 : decode cX6_keep 65 = .ok (.iconst 4, 1) := by decide +kernel
theorem dX6_keep_66 : decode cX6_keep 66 = .ok (.iadd, 1) := by decide +kernel
theorem dX6_keep_67 : decode cX6_keep 67 = .ok (.aload_n 0, 1) := by decide +kernel
theorem dX6_keep_68 : decode cX6_keep 68 = .ok (.getfield 35, 3) := by decide +kernel
theorem dX6_keep_71 : decode cX6_keep 71 = .ok (.iastore, 1) := by decide +kernel
theorem dX6_keep_72 : decode cX6_keep 72 = .ok (.aload_n 0, 1) := by decide +kernel
theorem dX6_keep_73 : decode cX6_keep 73 = .ok (.getfield 50, 3) := by decide +kernel
theorem dX6_keep_76 : decode cX6_keep 76 = .ok (.iload_n 2, 1) := by decide +kernel
theorem dX6_keep_77 : decode cX6_keep 77 = .ok (.iconst 5, 1) := by decide +kernel
theorem dX6_keep_78 : decode cX6_keep 78 = .ok (.iadd, 1) := by decide +kernel
theorem dX6_keep_79 : decode cX6_keep 79 = .ok (.aload_n 0, 1) := by decide +kernel
theorem dX6_keep_80 : decode cX6_keep 80 = .ok (.getfield 186, 3) := by decide +kernel
theorem dX6_keep_83 : decode cX6_keep 83 = .ok (.iastore, 1) := by decide +kernel
theorem dX6_keep_84 : decode cX6_keep 84 = .ok (.iconst 0, 1) := by decide +kernel
theorem dX6_keep_85 : decode cX6_keep 85 = .ok (.istore_n 3, 1) := by decide +kernel
theorem dX6_keep_86 : decode cX6_keep 86 = .ok (.iload_n 3, 1) := by decide +kernel
theorem dX6_keep_87 : decode cX6_keep 87 = .ok (.bipush 20, 2) := by decide +kernel
theorem dX6_keep_89 : decode cX6_keep 89 = .ok (.if_icmp .ge 26, 3) := by decide +kernel
theorem dX6_keep_92 : decode cX6_keep 92 = .ok (.aload_n 0, 1) := by decide +kernel
theorem dX6_keep_93 : decode cX6_keep 93 = .ok (.getfield 50, 3) := by decide +kernel
theorem dX6_keep_96 : decode cX6_keep 96 = .ok (.iload_n 2, 1) := by decide +kernel
theorem dX6_keep_97 : decode cX6_keep 97 = .ok (.bipush 6, 2) := by decide +kernel
theorem dX6_keep_99 : decode cX6_keep 99 = .ok (.iadd, 1) := by decide +kernel
theorem dX6_keep_100 : decode cX6_keep 100 = .ok (.iload_n 3, 1) := by decide +kernel
theorem dX6_keep_101 : decode cX6_keep 101 = .ok (.iadd, 1) := by decide +kernel
theorem dX6_keep_102 : decode cX6_keep 102 = .ok (.aload_n 0, 1) := by decide +kernel
theorem dX6_keep_103 : decode cX6_keep 103 = .ok (.getfield 38, 3) := by decide +kernel
theorem dX6_keep_106 : decode cX6_keep 106 = .ok (.iload_n 3, 1) := by decide +kernel
theorem dX6_keep_107 : decode cX6_keep 107 = .ok (.iaload, 1) := by decide +kernel
theorem dX6_keep_108 : decode cX6_keep 108 = .ok (.iastore, 1) := by decide +kernel
theorem dX6_keep_109 : decode cX6_keep 109 = .ok (.iinc 3 1, 3) := by decide +kernel
theorem dX6_keep_112 : decode cX6_keep 112 = .ok (.goto (-26), 3) := by decide +kernel
theorem dX6_keep_115 : decode cX6_keep 115 = .ok (.aload_n 0, 1) := by decide +kernel
theorem dX6_keep_116 : decode cX6_keep 116 = .ok (.getfield 32, 3) := by decide +kernel
theorem dX6_keep_119 : decode cX6_keep 119 = .ok (.ireturn, 1) := by decide +kernel
theorem dX6_back_0 : decode cX6_back 0 = .ok (.iload_n 1, 1) := by decide +kernel
theorem dX6_back_1 : decode cX6_back 1 = .ok (.i2l, 1) := by decide +kernel
theorem dX6_back_2 : decode cX6_back 2 = .ok (.lconst 0, 1) := by decide +kernel
theorem dX6_back_3 : decode cX6_back 3 = .ok (.lconst 1, 1) := by decide +kernel
theorem dX6_back_4 : decode cX6_back 4 = .ok (.invokestatic 85, 3) := by decide +kernel
theorem dX6_back_7 : decode cX6_back 7 = .ok (.ifCond .ne 5, 3) := by decide +kernel
theorem dX6_back_10 : decode cX6_back 10 = .ok (.iconst (-1), 1) := by decide +kernel
theorem dX6_back_11 : decode cX6_back 11 = .ok (.ireturn, 1) := by decide +kernel
theorem dX6_back_12 : decode cX6_back 12 = .ok (.bipush 30, 2) := by decide +kernel
theorem dX6_back_14 : decode cX6_back 14 = .ok (.iload_n 1, 1) := by decide +kernel
theorem dX6_back_15 : decode cX6_back 15 = .ok (.imul, 1) := by decide +kernel
theorem dX6_back_16 : decode cX6_back 16 = .ok (.istore_n 2, 1) := by decide +kernel
theorem dX6_back_17 : decode cX6_back 17 = .ok (.aload_n 0, 1) := by decide +kernel
theorem dX6_back_18 : decode cX6_back 18 = .ok (.getfield 50, 3) := by decide +kernel
theorem dX6_back_21 : decode cX6_back 21 = .ok (.iload_n 2, 1) := by decide +kernel
theorem dX6_back_22 : decode cX6_back 22 = .ok (.iaload, 1) := by decide +kernel
theorem dX6_back_23 : decode cX6_back 23 = .ok (.ifCond .ne 6, 3) := by decide +kernel
theorem dX6_back_26 : decode cX6_back 26 = .ok (.bipush (-2), 2) := by decide +kernel
theorem dX6_back_28 : decode cX6_back 28 = .ok (.ireturn, 1) := by decide +kernel
theorem dX6_back_29 : decode cX6_back 29 = .ok (.aload_n 0, 1) := by decide +kernel
theorem dX6_back_30 : decode cX6_back 30 = .ok (.aload_n 0, 1) := by decide +kernel
theorem dX6_back_31 : decode cX6_back 31 = .ok (.getfield 50, 3) := by decide +kernel
theorem dX6_back_34 : decode cX6_back 34 = .ok (.iload_n 2, 1) := by decide +kernel
theorem dX6_back_35 : decode cX6_back 35 = .ok (.iconst 1, 1) := by decide +kernel
theorem dX6_back_36 : decode cX6_back 36 = .ok (.iadd, 1) := by decide +kernel
theorem dX6_back_37 : decode cX6_back 37 = .ok (.iaload, 1) := by decide +kernel
theorem dX6_back_38 : decode cX6_back 38 = .ok (.putfield 180, 3) := by decide +kernel
theorem dX6_back_41 : decode cX6_back 41 = .ok (.aload_n 0, 1) := by decide +kernel
theorem dX6_back_42 : decode cX6_back 42 = .ok (.aload_n 0, 1) := by decide +kernel
theorem dX6_back_43 : decode cX6_back 43 = .ok (.getfield 50, 3) := by decide +kernel
theorem dX6_back_46 : decode cX6_back 46 = .ok (.iload_n 2, 1) := by decide +kernel
theorem dX6_back_47 : decode cX6_back 47 = .ok (.iconst 2, 1) := by decide +kernel
theorem dX6_back_48 : decode cX6_back 48 = .ok (.iadd, 1) := by decide +kernel
theorem dX6_back_49 : decode cX6_back 49 = .ok (.iaload, 1) := by decide +kernel
theorem dX6_back_50 : decode cX6_back 50 = .ok (.putfield 32, 3) := by decide +kernel
theorem dX6_back_53 : decode cX6_back 53 = .ok (.aload_n 0, 1) := by decide +kernel
theorem dX6_back_54 : decode cX6_back 54 = .ok (.aload_n 0, 1) := by decide +kernel
theorem dX6_back_55 : decode cX6_back 55 = .ok (.getfield 50, 3) := by decide +kernel
theorem dX6_back_58 : decode cX6_back 58 = .ok (.iload_n 2, 1) := by decide +kernel
theorem dX6_back_59 : decode cX6_back 59 = .ok (.iconst 3, 1) := by decide +kernel
theorem dX6_back_60 : decode cX6_back 60 = .ok (.iadd, 1) := by decide +kernel
theorem dX6_back_61 : decode cX6_back 61 = .ok (.iaload, 1) := by decide +kernel
theorem dX6_back_62 : decode cX6_back 62 = .ok (.putfield 183, 3) := by decide +kernel
theorem dX6_back_65 : decode cX6_back 65 = .ok (.aload_n 0, 1) := by decide +kernel
theorem dX6_back_66 : decode cX6_back 66 = .ok (.aload_n 0, 1) := by decide +kernel
theorem dX6_back_67 : decode cX6_back 67 = .ok (.getfield 50, 3) := by decide +kernel
theorem dX6_back_70 : decode cX6_back 70 = .ok (.iload_n 2, 1) := by decide +kernel
theorem dX6_back_71 : decode cX6_back 71 = .ok (.iconst 4, 1) := by decide +kernel
theorem dX6_back_72 : decode cX6_back 72 = .ok (.iadd, 1) := by decide +kernel
theorem dX6_back_73 : decode cX6_back 73 = .ok (.iaload, 1) := by decide +kernel
theorem dX6_back_74 : decode cX6_back 74 = .ok (.putfield 35, 3) := by decide +kernel
theorem dX6_back_77 : decode cX6_back 77 = .ok (.aload_n 0, 1) := by decide +kernel
theorem dX6_back_78 : decode cX6_back 78 = .ok (.aload_n 0, 1) := by decide +kernel
theorem dX6_back_79 : decode cX6_back 79 = .ok (.getfield 50, 3) := by decide +kernel
theorem dX6_back_82 : decode cX6_back 82 = .ok (.iload_n 2, 1) := by decide +kernel
theorem dX6_back_83 : decode cX6_back 83 = .ok (.iconst 5, 1) := by decide +kernel
theorem dX6_back_84 : decode cX6_back 84 = .ok (.iadd, 1) := by decide +kernel
theorem dX6_back_85 : decode cX6_back 85 = .ok (.iaload, 1) := by decide +kernel
theorem dX6_back_86 : decode cX6_back 86 = .ok (.putfield 186, 3) := by decide +kernel
theorem dX6_back_89 : decode cX6_back 89 = .ok (.iconst 0, 1) := by decide +kernel
theorem dX6_back_90 : decode cX6_back 90 = .ok (.istore_n 3, 1) := by decide +kernel
theorem dX6_back_91 : decode cX6_back 91 = .ok (.iload_n 3, 1) := by decide +kernel
theorem dX6_back_92 : decode cX6_back 92 = .ok (.bipush 20, 2) := by decide +kernel
theorem dX6_back_94 : decode cX6_back 94 = .ok (.if_icmp .ge 26, 3) := by decide +kernel
theorem dX6_back_97 : decode cX6_back 97 = .ok (.aload_n 0, 1) := by decide +kernel
theorem dX6_back_98 : decode cX6_back 98 = .ok (.getfield 38, 3) := by decide +kernel
theorem dX6_back_101 : decode cX6_back 101 = .ok (.iload_n 3, 1) := by decide +kernel
theorem dX6_back_102 : decode cX6_back 102 = .ok (.aload_n 0, 1) := by decide +kernel
theorem dX6_back_103 : decode cX6_back 103 = .ok (.getfield 50, 3) := by decide +kernel
theorem dX6_back_106 : decode cX6_back 106 = .ok (.iload_n 2, 1) := by decide +kernel
theorem dX6_back_107 : decode cX6_back 107 = .ok (.bipush 6, 2) := by decide +kernel
theorem dX6_back_109 : decode cX6_back 109 = .ok (.iadd, 1) := by decide +kernel
theorem dX6_back_110 : decode cX6_back 110 = .ok (.iload_n 3, 1) := by decide +kernel
theorem dX6_back_111 : decode cX6_back 111 = .ok (.iadd, 1) := by decide +kernel
theorem dX6_back_112 : decode cX6_back 112 = .ok (.iaload, 1) := by decide +kernel
theorem dX6_back_113 : decode cX6_back 113 = .ok (.iastore, 1) := by decide +kernel
theorem dX6_back_114 : decode cX6_back 114 = .ok (.iinc 3 1, 3) := by decide +kernel
theorem dX6_back_117 : decode cX6_back 117 = .ok (.goto (-26), 3) := by decide +kernel
theorem dX6_back_120 : decode cX6_back 120 = .ok (.aload_n 0, 1) := by decide +kernel
theorem dX6_back_121 : decode cX6_back 121 = .ok (.getfield 32, 3) := by decide +kernel
theorem dX6_back_124 : decode cX6_back 124 = .ok (.ireturn, 1) := by decide +kernel
theorem dX6_count_0 : decode cX6_count 0 = .ok (.iload_n 1, 1) := by decide +kernel
theorem dX6_count_1 : decode cX6_count 1 = .ok (.ifCond .ne 10, 3) := by decide +kernel
theorem dX6_count_4 : decode cX6_count 4 = .ok (.aload_n 0, 1) := by decide +kernel
theorem dX6_count_5 : decode cX6_count 5 = .ok (.getfield 82, 3) := by decide +kernel
theorem dX6_count_8 : decode cX6_count 8 = .ok (.goto 52, 3) := by decide +kernel
theorem dX6_count_11 : decode cX6_count 11 = .ok (.iload_n 1, 1) := by decide +kernel
theorem dX6_count_12 : decode cX6_count 12 = .ok (.iconst 1, 1) := by decide +kernel
theorem dX6_count_13 : decode cX6_count 13 = .ok (.if_icmp .ne 10, 3) := by decide +kernel
theorem dX6_count_16 : decode cX6_count 16 = .ok (.aload_n 0, 1) := by decide +kernel
theorem dX6_count_17 : decode cX6_count 17 = .ok (.getfield 170, 3) := by decide +kernel
theorem dX6_count_20 : decode cX6_count 20 = .ok (.goto 40, 3) := by decide +kernel
theorem dX6_count_23 : decode cX6_count 23 = .ok (.iload_n 1, 1) := by decide +kernel
theorem dX6_count_24 : decode cX6_count 24 = .ok (.iconst 2, 1) := by decide +kernel
theorem dX6_count_25 : decode cX6_count 25 = .ok (.if_icmp .ne 10, 3) := by decide +kernel
theorem dX6_count_28 : decode cX6_count 28 = .ok (.aload_n 0, 1) := by decide +kernel
theorem dX6_count_29 : decode cX6_count 29 = .ok (.getfield 189, 3) := by decide +kernel
theorem dX6_count_32 : decode cX6_count 32 = .ok (.goto 28, 3) := by decide +kernel
theorem dX6_count_35 : decode cX6_count 35 = .ok (.iload_n 1, 1) := by decide +kernel
theorem dX6_count_36 : decode cX6_count 36 = .ok (.iconst 3, 1) := by decide +kernel
theorem dX6_count_37 : decode cX6_count 37 = .ok (.if_icmp .ne 10, 3) := by decide +kernel
theorem dX6_count_40 : decode cX6_count 40 = .ok (.aload_n 0, 1) := by decide +kernel
theorem dX6_count_41 : decode cX6_count 41 = .ok (.getfield 186, 3) := by decide +kernel
theorem dX6_count_44 : decode cX6_count 44 = .ok (.goto 16, 3) := by decide +kernel
theorem dX6_count_47 : decode cX6_count 47 = .ok (.iload_n 1, 1) := by decide +kernel
theorem dX6_count_48 : decode cX6_count 48 = .ok (.iconst 4, 1) := by decide +kernel
theorem dX6_count_49 : decode cX6_count 49 = .ok (.if_icmp .ne 10, 3) := by decide +kernel
theorem dX6_count_52 : decode cX6_count 52 = .ok (.aload_n 0, 1) := by decide +kernel
theorem dX6_count_53 : decode cX6_count 53 = .ok (.getfield 91, 3) := by decide +kernel
theorem dX6_count_56 : decode cX6_count 56 = .ok (.goto 4, 3) := by decide +kernel
theorem dX6_count_59 : decode cX6_count 59 = .ok (.iconst (-1), 1) := by decide +kernel
theorem dX6_count_60 : decode cX6_count 60 = .ok (.ireturn, 1) := by decide +kernel
theorem dX6_trace_0 : decode cX6_trace 0 = .ok (.aload_n 0, 1) := by decide +kernel
theorem dX6_trace_1 : decode cX6_trace 1 = .ok (.getfield 255, 3) := by decide +kernel
theorem dX6_trace_4 : decode cX6_trace 4 = .ok (.lreturn, 1) := by decide +kernel
