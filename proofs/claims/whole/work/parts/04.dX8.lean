theorem dX8_init_0 : decode cX8_init 0 = .ok (.aload_n 0, 1) := by decide +kernel
theorem dX8_init_1 : decode cX8_init 1 = .ok (.invokespecial 1, 3) := by decide +kernel
theorem dX8_init_4 : decode cX8_init 4 = .ok (.aload_n 0, 1) := by decide +kernel
theorem dX8_init_5 : decode cX8_init 5 = .ok (.iconst 4, 1) := by decide +kernel
theorem dX8_init_6 : decode cX8_init 6 = .ok (.newarray .int, 2) := by decide +kernel
theorem dX8_init_8 : decode cX8_init 8 = .ok (.putfield 7, 3) := by decide +kernel
theorem dX8_init_11 : decode cX8_init 11 = .ok (.aload_n 0, 1) := by decide +kernel
theorem dX8_init_12 : decode cX8_init 12 = .ok (.bipush 32, 2) := by decide +kernel
theorem dX8_init_14 : decode cX8_init 14 = .ok (.newarray .int, 2) := by decide +kernel
theorem dX8_init_16 : decode cX8_init 16 = .ok (.putfield 13, 3) := by decide +kernel
theorem dX8_init_19 : decode cX8_init 19 = .ok (.aload_n 0, 1) := by decide +kernel
theorem dX8_init_20 : decode cX8_init 20 = .ok (.bipush 32, 2) := by decide +kernel
theorem dX8_init_22 : decode cX8_init 22 = .ok (.newarray .int, 2) := by decide +kernel
theorem dX8_init_24 : decode cX8_init 24 = .ok (.putfield 16, 3) := by decide +kernel
theorem dX8_init_27 : decode cX8_init 27 = .ok (.aload_n 0, 1) := by decide +kernel
theorem dX8_init_28 : decode cX8_init 28 = .ok (.bipush 32, 2) := by decide +kernel
theorem dX8_init_30 : decode cX8_init 30 = .ok (.newarray .int, 2) := by decide +kernel
theorem dX8_init_32 : decode cX8_init 32 = .ok (.putfield 19, 3) := by decide +kernel
theorem dX8_init_35 : decode cX8_init 35 = .ok (.aload_n 0, 1) := by decide +kernel
theorem dX8_init_36 : decode cX8_init 36 = .ok (.iconst 5, 1) := by decide +kernel
theorem dX8_init_37 : decode cX8_init 37 = .ok (.newarray .int, 2) := by decide +kernel
theorem dX8_init_39 : decode cX8_init 39 = .ok (.putfield 22, 3) := by decide +kernel
theorem dX8_init_42 : decode cX8_init 42 = .ok (.aload_n 0, 1) := by decide +kernel
theorem dX8_init_43 : decode cX8_init 43 = .ok (.iconst 5, 1) := by decide +kernel
theorem dX8_init_44 : decode cX8_init 44 = .ok (.newarray .int, 2) := by decide +kernel
theorem dX8_init_46 : decode cX8_init 46 = .ok (.putfield 25, 3) := by decide +kernel
theorem dX8_init_49 : decode cX8_init 49 = .ok (.aload_n 0, 1) := by decide +kernel
theorem dX8_init_50 : decode cX8_init 50 = .ok (.bipush 15, 2) := by decide +kernel
theorem dX8_init_52 : decode cX8_init 52 = .ok (.newarray .int, 2) := by decide +kernel
theorem dX8_init_54 : decode cX8_init 54 = .ok (.putfield 28, 3) := by decide +kernel
theorem dX8_init_57 : decode cX8_init 57 = .ok (.aload_n 0, 1) := by decide +kernel
theorem dX8_init_58 : decode cX8_init 58 = .ok (.sipush 645, 3) := by decide +kernel
theorem dX8_init_61 : decode cX8_init 61 = .ok (.newarray .int, 2) := by decide +kernel
theorem dX8_init_63 : decode cX8_init 63 = .ok (.putfield 31, 3) := by decide +kernel
theorem dX8_init_66 : decode cX8_init 66 = .ok (.aload_n 0, 1) := by decide +kernel
theorem dX8_init_67 : decode cX8_init 67 = .ok (.sipush 645, 3) := by decide +kernel
theorem dX8_init_70 : decode cX8_init 70 = .ok (.newarray .int, 2) := by decide +kernel
theorem dX8_init_72 : decode cX8_init 72 = .ok (.putfield 34, 3) := by decide +kernel
theorem dX8_init_75 : decode cX8_init 75 = .ok (.aload_n 0, 1) := by decide +kernel
theorem dX8_init_76 : decode cX8_init 76 = .ok (.sipush 645, 3) := by decide +kernel
theorem dX8_init_79 : decode cX8_init 79 = .ok (.newarray .int, 2) := by decide +kernel
theorem dX8_init_81 : decode cX8_init 81 = .ok (.putfield 37, 3) := by decide +kernel
theorem dX8_init_84 : decode cX8_init 84 = .ok (.aload_n 0, 1) := by decide +kernel
theorem dX8_init_85 : decode cX8_init 85 = .ok (.iconst 3, 1) := by decide +kernel
theorem dX8_init_86 : decode cX8_init 86 = .ok (.newarray .int, 2) := by decide +kernel
theorem dX8_init_88 : decode cX8_init 88 = .ok (.putfield 40, 3) := by decide +kernel
theorem dX8_init_91 : decode cX8_init 91 = .ok (.aload_n 0, 1) := by decide +kernel
theorem dX8_init_92 : decode cX8_init 92 = .ok (.bipush 8, 2) := by decide +kernel
theorem dX8_init_94 : decode cX8_init 94 = .ok (.newarray .int, 2) := by decide +kernel
theorem dX8_init_96 : decode cX8_init 96 = .ok (.putfield 43, 3) := by decide +kernel
theorem dX8_init_99 : decode cX8_init 99 = .ok (.aload_n 0, 1) := by decide +kernel
theorem dX8_init_100 : decode cX8_init 100 = .ok (.sipush 400, 3) := by decide +kernel
theorem dX8_init_103 : decode cX8_init 103 = .ok (.newarray .int, 2) := by decide +kernel
theorem dX8_init_105 : decode cX8_init 105 = .ok (.putfield 46, 3) := by decide +kernel
theorem dX8_init_108 : decode cX8_init 108 = .ok (.aload_n 0, 1) := by decide +kernel
theorem dX8_init_109 : decode cX8_init 109 = .ok (.bipush 50, 2) := by decide +kernel
theorem dX8_init_111 : decode cX8_init 111 = .ok (.newarray .boolean, 2) := by decide +kernel
theorem dX8_init_113 : decode cX8_init 113 = .ok (.putfield 49, 3) := by decide +kernel
theorem dX8_init_116 : decode cX8_init 116 = .ok (.aload_n 0, 1) := by decide +kernel
theorem dX8_init_117 : decode cX8_init 117 = .ok (.iconst 2, 1) := by decide +kernel
theorem dX8_init_118 : decode cX8_init 118 = .ok (.newarray .int, 2) := by decide +kernel
theorem dX8_init_120 : decode cX8_init 120 = .ok (.putfield 53, 3) := by decide +kernel
theorem dX8_init_123 : decode cX8_init 123 = .ok (.aload_n 0, 1) := by decide +kernel
theorem dX8_init_124 : decode cX8_init 124 = .ok (.iconst 2, 1) := by decide +kernel
theorem dX8_init_125 : decode cX8_init 125 = .ok (.putfield 56, 3) := by decide +kernel
theorem dX8_init_128 : decode cX8_init 128 = .ok (.aload_n 0, 1) := by decide +kernel
theorem dX8_init_129 : decode cX8_init 129 = .ok (.iconst 5, 1) := by decide +kernel
theorem dX8_init_130 : decode cX8_init 130 = .ok (.newarray .int, 2) := by decide +kernel
theorem dX8_init_132 : decode cX8_init 132 = .ok (.putfield 60, 3) := by decide +kernel
theorem dX8_init_135 : decode cX8_init 135 = .ok (.aload_n 0, 1) := by decide +kernel
theorem dX8_init_136 : decode cX8_init 136 = .ok (.sipush 645, 3) := by decide +kernel
theorem dX8_init_139 : decode cX8_init 139 = .ok (.newarray .int, 2) := by decide +kernel
theorem dX8_init_141 : decode cX8_init 141 = .ok (.putfield 63, 3) := by decide +kernel
theorem dX8_init_144 : decode cX8_init 144 = .ok (.aload_n 0, 1) := by decide +kernel
theorem dX8_init_145 : decode cX8_init 145 = .ok (.getfield 40, 3) := by decide +kernel
theorem dX8_init_148 : decode cX8_init 148 = .ok (.iconst 0, 1) := by decide +kernel
theorem dX8_init_149 : decode cX8_init 149 = .ok (.iconst 1, 1) := by decide +kernel
theorem dX8_init_150 : decode cX8_init 150 = .ok (.iastore, 1) := by decide +kernel
theorem dX8_init_151 : decode cX8_init 151 = .ok (.aload_n 0, 1) := by decide +kernel
theorem dX8_init_152 : decode cX8_init 152 = .ok (.getfield 40, 3) := by decide +kernel
theorem dX8_init_155 : decode cX8_init 155 = .ok (.iconst 1, 1) := by decide +kernel
theorem dX8_init_156 : decode cX8_init 156 = .ok (.iconst 1, 1) := by decide +kernel
theorem dX8_init_157 : decode cX8_init 157 = .ok (.iastore, 1) := by decide +kernel
theorem dX8_init_158 : decode cX8_init 158 = .ok (.aload_n 0, 1) := by decide +kernel
theorem dX8_init_159 : decode cX8_init 159 = .ok (.getfield 40, 3) := by decide +kernel
theorem dX8_init_162 : decode cX8_init 162 = .ok (.iconst 2, 1) := by decide +kernel
theorem dX8_init_163 : decode cX8_init 163 = .ok (.iconst 2, 1) := by decide +kernel
theorem dX8_init_164 : decode cX8_init 164 = .ok (.iastore, 1) := by decide +kernel
theorem dX8_init_165 : decode cX8_init 165 = .ok (.aload_n 0, 1) := by decide +kernel
theorem dX8_init_166 : decode cX8_init 166 = .ok (.invokevirtual 66, 3) := by decide +kernel
theorem dX8_init_169 : decode cX8_init 169 = .ok (.return_, 1) := by decide +kernel
theorem dX8_thrown_0 : decode cX8_thrown 0 = .ok (.aload_n 0, 1) := by decide +kernel
theorem dX8_thrown_1 : decode cX8_thrown 1 = .ok (.getfield 69, 3) := by decide +kernel
theorem dX8_thrown_4 : decode cX8_thrown 4 = .ok (.ireturn, 1) := by decide +kernel
theorem dX8_goes_0 : decode cX8_goes 0 = .ok (.aload_n 0, 1) := by decide +kernel
theorem dX8_goes_1 : decode cX8_goes 1 = .ok (.iload_n 1, 1) := by decide +kernel
theorem dX8_goes_2 : decode cX8_goes 2 = .ok (.putfield 69, 3) := by decide +kernel
theorem dX8_goes_5 : decode cX8_goes 5 = .ok (.iload_n 1, 1) := by decide +kernel
theorem dX8_goes_6 : decode cX8_goes 6 = .ok (.ifCond .ne 7, 3) := by decide +kernel
theorem dX8_goes_9 : decode cX8_goes 9 = .ok (.iconst 1, 1) := by decide +kernel
theorem dX8_goes_10 : decode cX8_goes 10 = .ok (.goto 4, 3) := by decide +kernel
theorem dX8_goes_13 : decode cX8_goes 13 = .ok (.iconst 0, 1) := by decide +kernel
theorem dX8_goes_14 : decode cX8_goes 14 = .ok (.ireturn, 1) := by decide +kernel
theorem dX8_isIn_0 : decode cX8_isIn 0 = .ok (.iload_n 0, 1) := by decide +kernel
theorem dX8_isIn_1 : decode cX8_isIn 1 = .ok (.iload_n 1, 1) := by decide +kernel
theorem dX8_isIn_2 : decode cX8_isIn 2 = .ok (.if_icmp .lt 12, 3) := by decide +kernel
theorem dX8_isIn_5 : decode cX8_isIn 5 = .ok (.iload_n 0, 1) := by decide +kernel
theorem dX8_isIn_6 : decode cX8_isIn 6 = .ok (.iload_n 2, 1) := by decide +kernel
theorem dX8_isIn_7 : decode cX8_isIn 7 = .ok (.if_icmp .gt 7, 3) := by decide +kernel
theorem dX8_isIn_10 : decode cX8_isIn 10 = .ok (.iconst 1, 1) := by decide +kernel
theorem dX8_isIn_11 : decode cX8_isIn 11 = .ok (.goto 4, 3) := by decide +kernel
theorem dX8_isIn_14 : decode cX8_isIn 14 = .ok (.iconst 0, 1) := by decide +kernel
theorem dX8_isIn_15 : decode cX8_isIn 15 = .ok (.ireturn, 1) := by decide +kernel
theorem dX8_isBook_0 : decode cX8_isBook 0 = .ok (.iload_n 1, 1) := by decide +kernel
theorem dX8_isBook_1 : decode cX8_isBook 1 = .ok (.iconst 0, 1) := by decide +kernel
theorem dX8_isBook_2 : decode cX8_isBook 2 = .ok (.aload_n 0, 1) := by decide +kernel
theorem dX8_isBook_3 : decode cX8_isBook 3 = .ok (.getfield 72, 3) := by decide +kernel
theorem dX8_isBook_6 : decode cX8_isBook 6 = .ok (.iconst 1, 1) := by decide +kernel
theorem dX8_isBook_7 : decode cX8_isBook 7 = .ok (.isub, 1) := by decide +kernel
theorem dX8_isBook_8 : decode cX8_isBook 8 = .ok (.invokestatic 75, 3) := by decide +kernel
theorem dX8_isBook_11 : decode cX8_isBook 11 = .ok (.ireturn, 1) := by decide +kernel
theorem dX8_isOrder_0 : decode cX8_isOrder 0 = .ok (.iload_n 1, 1) := by decide +kernel
theorem dX8_isOrder_1 : decode cX8_isOrder 1 = .ok (.iconst 0, 1) := by decide +kernel
theorem dX8_isOrder_2 : decode cX8_isOrder 2 = .ok (.aload_n 0, 1) := by decide +kernel
theorem dX8_isOrder_3 : decode cX8_isOrder 3 = .ok (.getfield 79, 3) := by decide +kernel
theorem dX8_isOrder_6 : decode cX8_isOrder 6 = .ok (.iconst 1, 1) := by decide +kernel
theorem dX8_isOrder_7 : decode cX8_isOrder 7 = .ok (.isub, 1) := by decide +kernel
theorem dX8_isOrder_8 : decode cX8_isOrder 8 = .ok (.invokestatic 75, 3) := by decide +kernel
theorem dX8_isOrder_11 : decode cX8_isOrder 11 = .ok (.ireturn, 1) := by decide +kernel
theorem dX8_isCopy_0 : decode cX8_isCopy 0 = .ok (.aload_n 0, 1) := by decide +kernel
theorem dX8_isCopy_1 : decode cX8_isCopy 1 = .ok (.iload_n 1, 1) := by decide +kernel
theorem dX8_isCopy_2 : decode cX8_isCopy 2 = .ok (.invokevirtual 82, 3) := by decide +kernel
theorem dX8_isCopy_5 : decode cX8_isCopy 5 = .ok (.ifCond .eq 23, 3) := by decide +kernel
theorem dX8_isCopy_8 : decode cX8_isCopy 8 = .ok (.iload_n 2, 1) := by decide +kernel
theorem dX8_isCopy_9 : decode cX8_isCopy 9 = .ok (.iconst 0, 1) := by decide +kernel
theorem dX8_isCopy_10 : decode cX8_isCopy 10 = .ok (.aload_n 0, 1) := by decide +kernel
theorem dX8_isCopy_11 : decode cX8_isCopy 11 = .ok (.getfield 25, 3) := by decide +kernel
theorem dX8_isCopy_14 : decode cX8_isCopy 14 = .ok (.iload_n 1, 1) := by decide +kernel
theorem dX8_isCopy_15 : decode cX8_isCopy 15 = .ok (.iaload, 1) := by decide +kernel
theorem dX8_isCopy_16 : decode cX8_isCopy 16 = .ok (.iconst 1, 1) := by decide +kernel
theorem dX8_isCopy_17 : decode cX8_isCopy 17 = .ok (.isub, 1) := by decide +kernel
theorem dX8_isCopy_18 : decode cX8_isCopy 18 = .ok (.invokestatic 75, 3) := by decide +kernel
theorem dX8_isCopy_21 : decode cX8_isCopy 21 = .ok (.ifCond .eq 7, 3) := by decide +kernel
theorem dX8_isCopy_24 : decode cX8_isCopy 24 = .ok (.iconst 1, 1) := by decide +kernel
theorem dX8_isCopy_25 : decode cX8_isCopy 25 = .ok (.goto 4, 3) := by decide +kernel
theorem dX8_isCopy_28 : decode cX8_isCopy 28 = .ok (.iconst 0, 1) := by decide +kernel
theorem dX8_isCopy_29 : decode cX8_isCopy 29 = .ok (.ireturn, 1) := by decide +kernel
theorem dX8_framesOf_0 : decode cX8_framesOf 0 = .ok (.aload_n 0, 1) := by decide +kernel
theorem dX8_framesOf_1 : decode cX8_framesOf 1 = .ok (.getfield 7, 3) := by decide +kernel
theorem dX8_framesOf_4 : decode cX8_framesOf 4 = .ok (.iload_n 1, 1) := by decide +kernel
theorem dX8_framesOf_5 : decode cX8_framesOf 5 = .ok (.iaload, 1) := by decide +kernel
theorem dX8_framesOf_6 : decode cX8_framesOf 6 = .ok (.istore_n 2, 1) := by decide +kernel
theorem dX8_framesOf_7 : decode cX8_framesOf 7 = .ok (.iconst 0, 1) := by decide +kernel
theorem dX8_framesOf_8 : decode cX8_framesOf 8 = .ok (.istore_n 3, 1) := by decide +kernel
theorem dX8_framesOf_9 : decode cX8_framesOf 9 = .ok (.iload_n 3, 1) := by decide +kernel
theorem dX8_framesOf_10 : decode cX8_framesOf 10 = .ok (.aload_n 0, 1) := by decide +kernel
theorem dX8_framesOf_11 : decode cX8_framesOf 11 = .ok (.getfield 7, 3) := by decide +kernel
theorem dX8_framesOf_14 : decode cX8_framesOf 14 = .ok (.iload_n 1, 1) := by decide +kernel
theorem dX8_framesOf_15 : decode cX8_framesOf 15 = .ok (.iaload, 1) := by decide +kernel
theorem dX8_framesOf_16 : decode cX8_framesOf 16 = .ok (.iconst 1, 1) := by decide +kernel
theorem dX8_framesOf_17 : decode cX8_framesOf 17 = .ok (.isub, 1) := by decide +kernel
theorem dX8_framesOf_18 : decode cX8_framesOf 18 = .ok (.if_icmp .ge 23, 3) := by decide +kernel
theorem dX8_framesOf_21 : decode cX8_framesOf 21 = .ok (.iload_n 2, 1) := by decide +kernel
theorem dX8_framesOf_22 : decode cX8_framesOf 22 = .ok (.aload_n 0, 1) := by decide +kernel
theorem dX8_framesOf_23 : decode cX8_framesOf 23 = .ok (.getfield 16, 3) := by decide +kernel
theorem dX8_framesOf_26 : decode cX8_framesOf 26 = .ok (.bipush 8, 2) := by decide +kernel
theorem dX8_framesOf_28 : decode cX8_framesOf 28 = .ok (.iload_n 1, 1) := by decide +kernel
theorem dX8_framesOf_29 : decode cX8_framesOf 29 = .ok (.imul, 1) := by decide +kernel
theorem dX8_framesOf_30 : decode cX8_framesOf 30 = .ok (.iload_n 3, 1) := by decide +kernel
theorem dX8_framesOf_31 : decode cX8_framesOf 31 = .ok (.iadd, 1) := by decide +kernel
theorem dX8_framesOf_32 : decode cX8_framesOf 32 = .ok (.iaload, 1) := by decide +kernel
theorem dX8_framesOf_33 : decode cX8_framesOf 33 = .ok (.iadd, 1) := by decide +kernel
theorem dX8_framesOf_34 : decode cX8_framesOf 34 = .ok (.istore_n 2, 1) := by decide +kernel
theorem dX8_framesOf_35 : decode cX8_framesOf 35 = .ok (.iinc 3 1, 3) := by decide +kernel
theorem dX8_framesOf_38 : decode cX8_framesOf 38 = .ok (.goto (-29), 3) := by decide +kernel
theorem dX8_framesOf_41 : decode cX8_framesOf 41 = .ok (.iload_n 2, 1) := by decide +kernel
theorem dX8_framesOf_42 : decode cX8_framesOf 42 = .ok (.ireturn, 1) := by decide +kernel
theorem dX8_part_0 : decode cX8_part 0 = .ok (.iload_n 2, 1) := by decide +kernel
theorem dX8_part_1 : decode cX8_part 1 = .ok (.iload_n 1, 1) := by decide +kernel
theorem dX8_part_2 : decode cX8_part 2 = .ok (.isub, 1) := by decide +kernel
theorem dX8_part_3 : decode cX8_part 3 = .ok (.istore 4, 2) := by decide +kernel
theorem dX8_part_5 : decode cX8_part 5 = .ok (.iload_n 3, 1) := by decide +kernel
theorem dX8_part_6 : decode cX8_part 6 = .ok (.ifCond .ne 9, 3) := by decide +kernel
theorem dX8_part_9 : decode cX8_part 9 = .ok (.iload_n 0, 1) := by decide +kernel
theorem dX8_part_10 : decode cX8_part 10 = .ok (.iload_n 1, 1) := by decide +kernel
theorem dX8_part_11 : decode cX8_part 11 = .ok (.imul, 1) := by decide +kernel
theorem dX8_part_12 : decode cX8_part 12 = .ok (.iload_n 2, 1) := by decide +kernel
theorem dX8_part_13 : decode cX8_part 13 = .ok (.idiv, 1) := by decide +kernel
theorem dX8_part_14 : decode cX8_part 14 = .ok (.ireturn, 1) := by decide +kernel
theorem dX8_part_15 : decode cX8_part 15 = .ok (.iload_n 3, 1) := by decide +kernel
theorem dX8_part_16 : decode cX8_part 16 = .ok (.iconst 1, 1) := by decide +kernel
theorem dX8_part_17 : decode cX8_part 17 = .ok (.if_icmp .ne 13, 3) := by decide +kernel
theorem dX8_part_20 : decode cX8_part 20 = .ok (.iload_n 0, 1) := by decide +kernel
theorem dX8_part_21 : decode cX8_part 21 = .ok (.iload_n 1, 1) := by decide +kernel
theorem dX8_part_22 : decode cX8_part 22 = .ok (.iload_n 1, 1) := by decide +kernel
theorem dX8_part_23 : decode cX8_part 23 = .ok (.imul, 1) := by decide +kernel
theorem dX8_part_24 : decode cX8_part 24 = .ok (.imul, 1) := by decide +kernel
theorem dX8_part_25 : decode cX8_part 25 = .ok (.iload_n 2, 1) := by decide +kernel
theorem dX8_part_26 : decode cX8_part 26 = .ok (.iload_n 2, 1) := by decide +kernel
theorem dX8_part_27 : decode cX8_part 27 = .ok (.imul, 1) := by decide +kernel
theorem dX8_part_28 : decode cX8_part 28 = .ok (.idiv, 1) := by decide +kernel
theorem dX8_part_29 : decode cX8_part 29 = .ok (.ireturn, 1) := by decide +kernel
theorem dX8_part_30 : decode cX8_part 30 = .ok (.iload_n 3, 1) := by decide +kernel
theorem dX8_part_31 : decode cX8_part 31 = .ok (.iconst 2, 1) := by decide +kernel
theorem dX8_part_32 : decode cX8_part 32 = .ok (.if_icmp .ne 19, 3) := by decide +kernel
theorem dX8_part_35 : decode cX8_part 35 = .ok (.iload_n 0, 1) := by decide +kernel
theorem dX8_part_36 : decode cX8_part 36 = .ok (.iload_n 2, 1) := by decide +kernel
theorem dX8_part_37 : decode cX8_part 37 = .ok (.iload_n 2, 1) := by decide +kernel
theorem dX8_part_38 : decode cX8_part 38 = .ok (.imul, 1) := by decide +kernel
theorem dX8_part_39 : decode cX8_part 39 = .ok (.iload 4, 2) := by decide +kernel
theorem dX8_part_41 : decode cX8_part 41 = .ok (.iload 4, 2) := by decide +kernel
theorem dX8_part_43 : decode cX8_part 43 = .ok (.imul, 1) := by decide +kernel
theorem dX8_part_44 : decode cX8_part 44 = .ok (.isub, 1) := by decide +kernel
theorem dX8_part_45 : decode cX8_part 45 = .ok (.imul, 1) := by decide +kernel
theorem dX8_part_46 : decode cX8_part 46 = .ok (.iload_n 2, 1) := by decide +kernel
theorem dX8_part_47 : decode cX8_part 47 = .ok (.iload_n 2, 1) := by decide +kernel
theorem dX8_part_48 : decode cX8_part 48 = .ok (.imul, 1) := by decide +kernel
theorem dX8_part_49 : decode cX8_part 49 = .ok (.idiv, 1) := by decide +kernel
theorem dX8_part_50 : decode cX8_part 50 = .ok (.ireturn, 1) := by decide +kernel
theorem dX8_part_51 : decode cX8_part 51 = .ok (.iload_n 0, 1) := by decide +kernel
theorem dX8_part_52 : decode cX8_part 52 = .ok (.iconst 2, 1) := by decide +kernel
theorem dX8_part_53 : decode cX8_part 53 = .ok (.iload_n 1, 1) := by decide +kernel
theorem dX8_part_54 : decode cX8_part 54 = .ok (.imul, 1) := by decide +kernel
theorem dX8_part_55 : decode cX8_part 55 = .ok (.iload_n 2, 1) := by decide +kernel
theorem dX8_part_56 : decode cX8_part 56 = .ok (.if_icmp .gt 11, 3) := by decide +kernel
theorem dX8_part_59 : decode cX8_part 59 = .ok (.iconst 2, 1) := by decide +kernel
theorem dX8_part_60 : decode cX8_part 60 = .ok (.iload_n 1, 1) := by decide +kernel
theorem dX8_part_61 : decode cX8_part 61 = .ok (.imul, 1) := by decide +kernel
theorem dX8_part_62 : decode cX8_part 62 = .ok (.iload_n 1, 1) := by decide +kernel
theorem dX8_part_63 : decode cX8_part 63 = .ok (.imul, 1) := by decide +kernel
theorem dX8_part_64 : decode cX8_part 64 = .ok (.goto 14, 3) := by decide +kernel
theorem dX8_part_67 : decode cX8_part 67 = .ok (.iload_n 2, 1) := by decide +kernel
theorem dX8_part_68 : decode cX8_part 68 = .ok (.iload_n 2, 1) := by decide +kernel
theorem dX8_part_69 : decode cX8_part 69 = .ok (.imul, 1) := by decide +kernel
theorem dX8_part_70 : decode cX8_part 70 = .ok (.iconst 2, 1) := by decide +kernel
theorem dX8_part_71 : decode cX8_part 71 = .ok (.iload 4, 2) := by decide +kernel
theorem dX8_part_73 : decode cX8_part 73 = .ok (.imul, 1) := by decide +kernel
theorem dX8_part_74 : decode cX8_part 74 = .ok (.iload 4, 2) := by decide +kernel
theorem dX8_part_76 : decode cX8_part 76 = .ok (.imul, 1) := by decide +kernel
theorem dX8_part_77 : decode cX8_part 77 = .ok (.isub, 1) := by decide +kernel
theorem dX8_part_78 : decode cX8_part 78 = .ok (.imul, 1) := by decide +kernel
theorem dX8_part_79 : decode cX8_part 79 = .ok (.iload_n 2, 1) := by decide +kernel
theorem dX8_part_80 : decode cX8_part 80 = .ok (.iload_n 2, 1) := by decide +kernel
theorem dX8_part_81 : decode cX8_part 81 = .ok (.imul, 1) := by decide +kernel
theorem dX8_part_82 : decode cX8_part 82 = .ok (.idiv, 1) := by decide +kernel
theorem dX8_part_83 : decode cX8_part 83 = .ok (.ireturn, 1) := by decide +kernel
theorem dX8_positionOf_0 : decode cX8_positionOf 0 = .ok (.bipush 8, 2) := by decide +kernel
theorem dX8_positionOf_2 : decode cX8_positionOf 2 = .ok (.iload_n 1, 1) := by decide +kernel
theorem dX8_positionOf_3 : decode cX8_positionOf 3 = .ok (.imul, 1) := by decide +kernel
theorem dX8_positionOf_4 : decode cX8_positionOf 4 = .ok (.istore_n 3, 1) := by decide +kernel
theorem dX8_positionOf_5 : decode cX8_positionOf 5 = .ok (.iload_n 2, 1) := by decide +kernel
theorem dX8_positionOf_6 : decode cX8_positionOf 6 = .ok (.istore 4, 2) := by decide +kernel
theorem dX8_positionOf_8 : decode cX8_positionOf 8 = .ok (.iload 4, 2) := by decide +kernel
theorem dX8_positionOf_10 : decode cX8_positionOf 10 = .ok (.aload_n 0, 1) := by decide +kernel
theorem dX8_positionOf_11 : decode cX8_positionOf 11 = .ok (.getfield 16, 3) := by decide +kernel
theorem dX8_positionOf_14 : decode cX8_positionOf 14 = .ok (.iload_n 3, 1) := by decide +kernel
theorem dX8_positionOf_15 : decode cX8_positionOf 15 = .ok (.iaload, 1) := by decide +kernel
theorem dX8_positionOf_16 : decode cX8_positionOf 16 = .ok (.if_icmp .le 39, 3) := by decide +kernel
theorem dX8_positionOf_19 : decode cX8_positionOf 19 = .ok (.iload_n 3, 1) := by decide +kernel
theorem dX8_positionOf_20 : decode cX8_positionOf 20 = .ok (.bipush 8, 2) := by decide +kernel
theorem dX8_positionOf_22 : decode cX8_positionOf 22 = .ok (.iload_n 1, 1) := by decide +kernel
theorem dX8_positionOf_23 : decode cX8_positionOf 23 = .ok (.imul, 1) := by decide +kernel
theorem dX8_positionOf_24 : decode cX8_positionOf 24 = .ok (.aload_n 0, 1) := by decide +kernel
theorem dX8_positionOf_25 : decode cX8_positionOf 25 = .ok (.getfield 7, 3) := by decide +kernel
theorem dX8_positionOf_28 : decode cX8_positionOf 28 = .ok (.iload_n 1, 1) := by decide +kernel
theorem dX8_positionOf_29 : decode cX8_positionOf 29 = .ok (.iaload, 1) := by decide +kernel
theorem dX8_positionOf_30 : decode cX8_positionOf 30 = .ok (.iadd, 1) := by decide +kernel
theorem dX8_positionOf_31 : decode cX8_positionOf 31 = .ok (.iconst 1, 1) := by decide +kernel
theorem dX8_positionOf_32 : decode cX8_positionOf 32 = .ok (.isub, 1) := by decide +kernel
theorem dX8_positionOf_33 : decode cX8_positionOf 33 = .ok (.if_icmp .ge 22, 3) := by decide +kernel
theorem dX8_positionOf_36 : decode cX8_positionOf 36 = .ok (.iload 4, 2) := by decide +kernel
theorem dX8_positionOf_38 : decode cX8_positionOf 38 = .ok (.aload_n 0, 1) := by decide +kernel
theorem dX8_positionOf_39 : decode cX8_positionOf 39 = .ok (.getfield 16, 3) := by decide +kernel
theorem dX8_positionOf_42 : decode cX8_positionOf 42 = .ok (.iload_n 3, 1) := by decide +kernel
theorem dX8_positionOf_43 : decode cX8_positionOf 43 = .ok (.iaload, 1) := by decide +kernel
theorem dX8_positionOf_44 : decode cX8_positionOf 44 = .ok (.iconst 1, 1) := by decide +kernel
theorem dX8_positionOf_45 : decode cX8_positionOf 45 = .ok (.iadd, 1) := by decide +kernel
theorem dX8_positionOf_46 : decode cX8_positionOf 46 = .ok (.isub, 1) := by decide +kernel
theorem dX8_positionOf_47 : decode cX8_positionOf 47 = .ok (.istore 4, 2) := by decide +kernel
theorem dX8_positionOf_49 : decode cX8_positionOf 49 = .ok (.iinc 3 1, 3) := by decide +kernel
theorem dX8_positionOf_52 : decode cX8_positionOf 52 = .ok (.goto (-44), 3) := by decide +kernel
theorem dX8_positionOf_55 : decode cX8_positionOf 55 = .ok (.iload 4, 2) := by decide +kernel
theorem dX8_positionOf_57 : decode cX8_positionOf 57 = .ok (.ifCond .ne 12, 3) := by decide +kernel
theorem dX8_positionOf_60 : decode cX8_positionOf 60 = .ok (.aload_n 0, 1) := by decide +kernel
theorem dX8_positionOf_61 : decode cX8_positionOf 61 = .ok (.getfield 13, 3) := by decide +kernel
theorem dX8_positionOf_64 : decode cX8_positionOf 64 = .ok (.iload_n 3, 1) := by decide +kernel
theorem dX8_positionOf_65 : decode cX8_positionOf 65 = .ok (.iaload, 1) := by decide +kernel
theorem dX8_positionOf_66 : decode cX8_positionOf 66 = .ok (.goto 44, 3) := by decide +kernel
theorem dX8_positionOf_69 : decode cX8_positionOf 69 = .ok (.aload_n 0, 1) := by decide +kernel
theorem dX8_positionOf_70 : decode cX8_positionOf 70 = .ok (.getfield 13, 3) := by decide +kernel
theorem dX8_positionOf_73 : decode cX8_positionOf 73 = .ok (.iload_n 3, 1) := by decide +kernel
theorem dX8_positionOf_74 : decode cX8_positionOf 74 = .ok (.iaload, 1) := by decide +kernel
theorem dX8_positionOf_75 : decode cX8_positionOf 75 = .ok (.aload_n 0, 1) := by decide +kernel
theorem dX8_positionOf_76 : decode cX8_positionOf 76 = .ok (.getfield 13, 3) := by decide +kernel
theorem dX8_positionOf_79 : decode cX8_positionOf 79 = .ok (.iload_n 3, 1) := by decide +kernel
theorem dX8_positionOf_80 : decode cX8_positionOf 80 = .ok (.iconst 1, 1) := by decide +kernel
theorem dX8_positionOf_81 : decode cX8_positionOf 81 = .ok (.iadd, 1) := by decide +kernel
theorem dX8_positionOf_82 : decode cX8_positionOf 82 = .ok (.iaload, 1) := by decide +kernel
theorem dX8_positionOf_83 : decode cX8_positionOf 83 = .ok (.aload_n 0, 1) := by decide +kernel
theorem dX8_positionOf_84 : decode cX8_positionOf 84 = .ok (.getfield 13, 3) := by decide +kernel
theorem dX8_positionOf_87 : decode cX8_positionOf 87 = .ok (.iload_n 3, 1) := by decide +kernel
theorem dX8_positionOf_88 : decode cX8_positionOf 88 = .ok (.iaload, 1) := by decide +kernel
theorem dX8_positionOf_89 : decode cX8_positionOf 89 = .ok (.isub, 1) := by decide +kernel
theorem dX8_positionOf_90 : decode cX8_positionOf 90 = .ok (.iload 4, 2) := by decide +kernel
theorem dX8_positionOf_92 : decode cX8_positionOf 92 = .ok (.aload_n 0, 1) := by decide +kernel
theorem dX8_positionOf_93 : decode cX8_positionOf 93 = .ok (.getfield 16, 3) := by decide +kernel
theorem dX8_positionOf_96 : decode cX8_positionOf 96 = .ok (.iload_n 3, 1) := by decide +kernel
theorem dX8_positionOf_97 : decode cX8_positionOf 97 = .ok (.iaload, 1) := by decide +kernel
theorem dX8_positionOf_98 : decode cX8_positionOf 98 = .ok (.iconst 1, 1) := by decide +kernel
theorem dX8_positionOf_99 : decode cX8_positionOf 99 = .ok (.iadd, 1) := by decide +kernel
theorem dX8_positionOf_100 : decode cX8_positionOf 100 = .ok (.aload_n 0, 1) := by decide +kernel
theorem dX8_positionOf_101 : decode cX8_positionOf 101 = .ok (.getfield 19, 3) := by decide +kernel
theorem dX8_positionOf_104 : decode cX8_positionOf 104 = .ok (.iload_n 3, 1) := by decide +kernel
theorem dX8_positionOf_105 : decode cX8_positionOf 105 = .ok (.iaload, 1) := by decide +kernel
theorem dX8_positionOf_106 : decode cX8_positionOf 106 = .ok (.invokestatic 86, 3) := by decide +kernel
theorem dX8_positionOf_109 : decode cX8_positionOf 109 = .ok (.iadd, 1) := by decide +kernel
theorem dX8_positionOf_110 : decode cX8_positionOf 110 = .ok (.ireturn, 1) := by decide +kernel
theorem dX8_leafAt_0 : decode cX8_leafAt 0 = .ok (.bipush 43, 2) := by decide +kernel
theorem dX8_leafAt_2 : decode cX8_leafAt 2 = .ok (.iconst 3, 1) := by decide +kernel
theorem dX8_leafAt_3 : decode cX8_leafAt 3 = .ok (.iload_n 0, 1) := by decide +kernel
theorem dX8_leafAt_4 : decode cX8_leafAt 4 = .ok (.imul, 1) := by decide +kernel
theorem dX8_leafAt_5 : decode cX8_leafAt 5 = .ok (.iload_n 1, 1) := by decide +kernel
theorem dX8_leafAt_6 : decode cX8_leafAt 6 = .ok (.iadd, 1) := by decide +kernel
theorem dX8_leafAt_7 : decode cX8_leafAt 7 = .ok (.imul, 1) := by decide +kernel
theorem dX8_leafAt_8 : decode cX8_leafAt 8 = .ok (.iload_n 2, 1) := by decide +kernel
theorem dX8_leafAt_9 : decode cX8_leafAt 9 = .ok (.iadd, 1) := by decide +kernel
theorem dX8_leafAt_10 : decode cX8_leafAt 10 = .ok (.ireturn, 1) := by decide +kernel
theorem dX8_isBoundCopy_0 : decode cX8_isBoundCopy 0 = .ok (.aload_n 0, 1) := by decide +kernel
theorem dX8_isBoundCopy_1 : decode cX8_isBoundCopy 1 = .ok (.getfield 28, 3) := by decide +kernel
theorem dX8_isBoundCopy_4 : decode cX8_isBoundCopy 4 = .ok (.iconst 3, 1) := by decide +kernel
theorem dX8_isBoundCopy_5 : decode cX8_isBoundCopy 5 = .ok (.iload_n 1, 1) := by decide +kernel
theorem dX8_isBoundCopy_6 : decode cX8_isBoundCopy 6 = .ok (.imul, 1) := by decide +kernel
theorem dX8_isBoundCopy_7 : decode cX8_isBoundCopy 7 = .ok (.iload_n 2, 1) := by decide +kernel
theorem dX8_isBoundCopy_8 : decode cX8_isBoundCopy 8 = .ok (.iadd, 1) := by decide +kernel
theorem dX8_isBoundCopy_9 : decode cX8_isBoundCopy 9 = .ok (.iaload, 1) := by decide +kernel
theorem dX8_isBoundCopy_10 : decode cX8_isBoundCopy 10 = .ok (.iconst (-1), 1) := by decide +kernel
theorem dX8_isBoundCopy_11 : decode cX8_isBoundCopy 11 = .ok (.if_icmp .eq 7, 3) := by decide +kernel
theorem dX8_isBoundCopy_14 : decode cX8_isBoundCopy 14 = .ok (.iconst 1, 1) := by decide +kernel
theorem dX8_isBoundCopy_15 : decode cX8_isBoundCopy 15 = .ok (.goto 4, 3) := by decide +kernel
theorem dX8_isBoundCopy_18 : decode cX8_isBoundCopy 18 = .ok (.iconst 0, 1) := by decide +kernel
theorem dX8_isBoundCopy_19 : decode cX8_isBoundCopy 19 = .ok (.ireturn, 1) := by decide +kernel
theorem dX8_spoils_0 : decode cX8_spoils 0 = .ok (.aload_n 0, 1) := by decide +kernel
theorem dX8_spoils_1 : decode cX8_spoils 1 = .ok (.getfield 31, 3) := by decide +kernel
theorem dX8_spoils_4 : decode cX8_spoils 4 = .ok (.iload_n 1, 1) := by decide +kernel
theorem dX8_spoils_5 : decode cX8_spoils 5 = .ok (.iconst (-1), 1) := by decide +kernel
theorem dX8_spoils_6 : decode cX8_spoils 6 = .ok (.iastore, 1) := by decide +kernel
theorem dX8_spoils_7 : decode cX8_spoils 7 = .ok (.aload_n 0, 1) := by decide +kernel
theorem dX8_spoils_8 : decode cX8_spoils 8 = .ok (.getfield 37, 3) := by decide +kernel
theorem dX8_spoils_11 : decode cX8_spoils 11 = .ok (.iload_n 1, 1) := by decide +kernel
theorem dX8_spoils_12 : decode cX8_spoils 12 = .ok (.iconst (-1), 1) := by decide +kernel
theorem dX8_spoils_13 : decode cX8_spoils 13 = .ok (.iastore, 1) := by decide +kernel
theorem dX8_spoils_14 : decode cX8_spoils 14 = .ok (.aload_n 0, 1) := by decide +kernel
theorem dX8_spoils_15 : decode cX8_spoils 15 = .ok (.dup, 1) := by decide +kernel
theorem dX8_spoils_16 : decode cX8_spoils 16 = .ok (.getfield 90, 3) := by decide +kernel
theorem dX8_spoils_19 : decode cX8_spoils 19 = .ok (.iconst 1, 1) := by decide +kernel
theorem dX8_spoils_20 : decode cX8_spoils 20 = .ok (.iadd, 1) := by decide +kernel
theorem dX8_spoils_21 : decode cX8_spoils 21 = .ok (.putfield 90, 3) := by decide +kernel
theorem dX8_spoils_24 : decode cX8_spoils 24 = .ok (.return_, 1) := by decide +kernel
theorem dX8_flows_0 : decode cX8_flows 0 = .ok (.aload_n 0, 1) := by decide +kernel
theorem dX8_flows_1 : decode cX8_flows 1 = .ok (.getfield 90, 3) := by decide +kernel
theorem dX8_flows_4 : decode cX8_flows 4 = .ok (.istore_n 2, 1) := by decide +kernel
theorem dX8_flows_5 : decode cX8_flows 5 = .ok (.aload_n 0, 1) := by decide +kernel
theorem dX8_flows_6 : decode cX8_flows 6 = .ok (.iload_n 1, 1) := by decide +kernel
theorem dX8_flows_7 : decode cX8_flows 7 = .ok (.invokevirtual 93, 3) := by decide +kernel
theorem dX8_flows_10 : decode cX8_flows 10 = .ok (.istore_n 3, 1) := by decide +kernel
theorem dX8_flows_11 : decode cX8_flows 11 = .ok (.iconst 0, 1) := by decide +kernel
theorem dX8_flows_12 : decode cX8_flows 12 = .ok (.istore 4, 2) := by decide +kernel
theorem dX8_flows_14 : decode cX8_flows 14 = .ok (.iload 4, 2) := by decide +kernel
theorem dX8_flows_16 : decode cX8_flows 16 = .ok (.sipush 645, 3) := by decide +kernel
theorem dX8_flows_19 : decode cX8_flows 19 = .ok (.if_icmp .ge 129, 3) := by decide +kernel
theorem dX8_flows_22 : decode cX8_flows 22 = .ok (.iload 4, 2) := by decide +kernel
theorem dX8_flows_24 : decode cX8_flows 24 = .ok (.bipush 43, 2) := by decide +kernel
theorem dX8_flows_26 : decode cX8_flows 26 = .ok (.idiv, 1) := by decide +kernel
theorem dX8_flows_27 : decode cX8_flows 27 = .ok (.iconst 3, 1) := by decide +kernel
theorem dX8_flows_28 : decode cX8_flows 28 = .ok (.idiv, 1) := by decide +kernel
theorem dX8_flows_29 : decode cX8_flows 29 = .ok (.istore 5, 2) := by decide +kernel
theorem dX8_flows_31 : decode cX8_flows 31 = .ok (.iload 4, 2) := by decide +kernel
theorem dX8_flows_33 : decode cX8_flows 33 = .ok (.bipush 43, 2) := by decide +kernel
theorem dX8_flows_35 : decode cX8_flows 35 = .ok (.idiv, 1) := by decide +kernel
theorem dX8_flows_36 : decode cX8_flows 36 = .ok (.iconst 3, 1) := by decide +kernel
theorem dX8_flows_37 : decode cX8_flows 37 = .ok (.irem, 1) := by decide +kernel
theorem dX8_flows_38 : decode cX8_flows 38 = .ok (.istore 6, 2) := by decide +kernel
theorem dX8_flows_40 : decode cX8_flows 40 = .ok (.iload 4, 2) := by decide +kernel
theorem dX8_flows_42 : decode cX8_flows 42 = .ok (.bipush 43, 2) := by decide +kernel
theorem dX8_flows_44 : decode cX8_flows 44 = .ok (.irem, 1) := by decide +kernel
theorem dX8_flows_45 : decode cX8_flows 45 = .ok (.istore 7, 2) := by decide +kernel
theorem dX8_flows_47 : decode cX8_flows 47 = .ok (.iload 5, 2) := by decide +kernel
theorem dX8_flows_49 : decode cX8_flows 49 = .ok (.aload_n 0, 1) := by decide +kernel
theorem dX8_flows_50 : decode cX8_flows 50 = .ok (.getfield 79, 3) := by decide +kernel
theorem dX8_flows_53 : decode cX8_flows 53 = .ok (.if_icmp .ge 30, 3) := by decide +kernel
theorem dX8_flows_56 : decode cX8_flows 56 = .ok (.aload_n 0, 1) := by decide +kernel
theorem dX8_flows_57 : decode cX8_flows 57 = .ok (.getfield 22, 3) := by decide +kernel
theorem dX8_flows_60 : decode cX8_flows 60 = .ok (.iload 5, 2) := by decide +kernel
theorem dX8_flows_62 : decode cX8_flows 62 = .ok (.iaload, 1) := by decide +kernel
theorem dX8_flows_63 : decode cX8_flows 63 = .ok (.iload_n 1, 1) := by decide +kernel
theorem dX8_flows_64 : decode cX8_flows 64 = .ok (.if_icmp .ne 19, 3) := by decide +kernel
theorem dX8_flows_67 : decode cX8_flows 67 = .ok (.iload 6, 2) := by decide +kernel
theorem dX8_flows_69 : decode cX8_flows 69 = .ok (.aload_n 0, 1) := by decide +kernel
theorem dX8_flows_70 : decode cX8_flows 70 = .ok (.getfield 25, 3) := by decide +kernel
theorem dX8_flows_73 : decode cX8_flows 73 = .ok (.iload 5, 2) := by decide +kernel
theorem dX8_flows_75 : decode cX8_flows 75 = .ok (.iaload, 1) := by decide +kernel
theorem dX8_flows_76 : decode cX8_flows 76 = .ok (.if_icmp .ge 7, 3) := by decide +kernel
theorem dX8_flows_79 : decode cX8_flows 79 = .ok (.iconst 1, 1) := by decide +kernel
theorem dX8_flows_80 : decode cX8_flows 80 = .ok (.goto 4, 3) := by decide +kernel
theorem dX8_flows_83 : decode cX8_flows 83 = .ok (.iconst 0, 1) := by decide +kernel
theorem dX8_flows_84 : decode cX8_flows 84 = .ok (.istore 8, 2) := by decide +kernel
theorem dX8_flows_86 : decode cX8_flows 86 = .ok (.iload 8, 2) := by decide +kernel
theorem dX8_flows_88 : decode cX8_flows 88 = .ok (.ifCond .eq 54, 3) := by decide +kernel
theorem dX8_flows_91 : decode cX8_flows 91 = .ok (.aload_n 0, 1) := by decide +kernel
theorem dX8_flows_92 : decode cX8_flows 92 = .ok (.getfield 31, 3) := by decide +kernel
theorem dX8_flows_95 : decode cX8_flows 95 = .ok (.iload 4, 2) := by decide +kernel
theorem dX8_flows_97 : decode cX8_flows 97 = .ok (.iaload, 1) := by decide +kernel
theorem dX8_flows_98 : decode cX8_flows 98 = .ok (.iconst (-1), 1) := by decide +kernel
theorem dX8_flows_99 : decode cX8_flows 99 = .ok (.if_icmp .eq 43, 3) := by decide +kernel
theorem dX8_flows_102 : decode cX8_flows 102 = .ok (.aload_n 0, 1) := by decide +kernel
theorem dX8_flows_103 : decode cX8_flows 103 = .ok (.iload 5, 2) := by decide +kernel
theorem dX8_flows_105 : decode cX8_flows 105 = .ok (.iload 6, 2) := by decide +kernel
theorem dX8_flows_107 : decode cX8_flows 107 = .ok (.invokevirtual 97, 3) := by decide +kernel
theorem dX8_flows_110 : decode cX8_flows 110 = .ok (.ifCond .ne 32, 3) := by decide +kernel
theorem dX8_flows_113 : decode cX8_flows 113 = .ok (.iload 7, 2) := by decide +kernel
theorem dX8_flows_115 : decode cX8_flows 115 = .ok (.iload_n 3, 1) := by decide +kernel
theorem dX8_flows_116 : decode cX8_flows 116 = .ok (.if_icmp .ge 20, 3) := by decide +kernel
theorem dX8_flows_119 : decode cX8_flows 119 = .ok (.aload_n 0, 1) := by decide +kernel
theorem dX8_flows_120 : decode cX8_flows 120 = .ok (.iload_n 1, 1) := by decide +kernel
theorem dX8_flows_121 : decode cX8_flows 121 = .ok (.iload 7, 2) := by decide +kernel
theorem dX8_flows_123 : decode cX8_flows 123 = .ok (.invokevirtual 101, 3) := by decide +kernel
theorem dX8_flows_126 : decode cX8_flows 126 = .ok (.aload_n 0, 1) := by decide +kernel
theorem dX8_flows_127 : decode cX8_flows 127 = .ok (.getfield 31, 3) := by decide +kernel
theorem dX8_flows_130 : decode cX8_flows 130 = .ok (.iload 4, 2) := by decide +kernel
theorem dX8_flows_132 : decode cX8_flows 132 = .ok (.iaload, 1) := by decide +kernel
theorem dX8_flows_133 : decode cX8_flows 133 = .ok (.if_icmp .eq 9, 3) := by decide +kernel
theorem dX8_flows_136 : decode cX8_flows 136 = .ok (.aload_n 0, 1) := by decide +kernel
theorem dX8_flows_137 : decode cX8_flows 137 = .ok (.iload 4, 2) := by decide +kernel
theorem dX8_flows_139 : decode cX8_flows 139 = .ok (.invokevirtual 105, 3) := by decide +kernel
theorem dX8_flows_142 : decode cX8_flows 142 = .ok (.iinc 4 1, 3) := by decide +kernel
theorem dX8_flows_145 : decode cX8_flows 145 = .ok (.goto (-131), 3) := by decide +kernel
theorem dX8_flows_148 : decode cX8_flows 148 = .ok (.aload_n 0, 1) := by decide +kernel
theorem dX8_flows_149 : decode cX8_flows 149 = .ok (.getfield 90, 3) := by decide +kernel
theorem dX8_flows_152 : decode cX8_flows 152 = .ok (.iload_n 2, 1) := by decide +kernel
theorem dX8_flows_153 : decode cX8_flows 153 = .ok (.isub, 1) := by decide +kernel
theorem dX8_flows_154 : decode cX8_flows 154 = .ok (.ireturn, 1) := by decide +kernel
theorem dX8_addBook_0 : decode cX8_addBook 0 = .ok (.aload_n 0, 1) := by decide +kernel
theorem dX8_addBook_1 : decode cX8_addBook 1 = .ok (.aload_n 0, 1) := by decide +kernel
theorem dX8_addBook_2 : decode cX8_addBook 2 = .ok (.getfield 72, 3) := by decide +kernel
theorem dX8_addBook_5 : decode cX8_addBook 5 = .ok (.iconst 4, 1) := by decide +kernel
theorem dX8_addBook_6 : decode cX8_addBook 6 = .ok (.if_icmp .ne 7, 3) := by decide +kernel
theorem dX8_addBook_9 : decode cX8_addBook 9 = .ok (.iconst 1, 1) := by decide +kernel
theorem dX8_addBook_10 : decode cX8_addBook 10 = .ok (.goto 4, 3) := by decide +kernel
theorem dX8_addBook_13 : decode cX8_addBook 13 = .ok (.iconst 0, 1) := by decide +kernel
theorem dX8_addBook_14 : decode cX8_addBook 14 = .ok (.invokevirtual 109, 3) := by decide +kernel
theorem dX8_addBook_17 : decode cX8_addBook 17 = .ok (.ifCond .ne 5, 3) := by decide +kernel
theorem dX8_addBook_20 : decode cX8_addBook 20 = .ok (.iconst 0, 1) := by decide +kernel
theorem dX8_addBook_21 : decode cX8_addBook 21 = .ok (.ireturn, 1) := by decide +kernel
theorem dX8_addBook_22 : decode cX8_addBook 22 = .ok (.aload_n 0, 1) := by decide +kernel
theorem dX8_addBook_23 : decode cX8_addBook 23 = .ok (.dup, 1) := by decide +kernel
theorem dX8_addBook_24 : decode cX8_addBook 24 = .ok (.getfield 72, 3) := by decide +kernel
theorem dX8_addBook_27 : decode cX8_addBook 27 = .ok (.iconst 1, 1) := by decide +kernel
theorem dX8_addBook_28 : decode cX8_addBook 28 = .ok (.iadd, 1) := by decide +kernel
theorem dX8_addBook_29 : decode cX8_addBook 29 = .ok (.putfield 72, 3) := by decide +kernel
theorem dX8_addBook_32 : decode cX8_addBook 32 = .ok (.aload_n 0, 1) := by decide +kernel
theorem dX8_addBook_33 : decode cX8_addBook 33 = .ok (.getfield 72, 3) := by decide +kernel
theorem dX8_addBook_36 : decode cX8_addBook 36 = .ok (.iconst 1, 1) := by decide +kernel
theorem dX8_addBook_37 : decode cX8_addBook 37 = .ok (.isub, 1) := by decide +kernel
theorem dX8_addBook_38 : decode cX8_addBook 38 = .ok (.ireturn, 1) := by decide +kernel
theorem dX8_draw_0 : decode cX8_draw 0 = .ok (.aload_n 0, 1) := by decide +kernel
theorem dX8_draw_1 : decode cX8_draw 1 = .ok (.aload_n 0, 1) := by decide +kernel
theorem dX8_draw_2 : decode cX8_draw 2 = .ok (.iload_n 1, 1) := by decide +kernel
theorem dX8_draw_3 : decode cX8_draw 3 = .ok (.invokevirtual 112, 3) := by decide +kernel
theorem dX8_draw_6 : decode cX8_draw 6 = .ok (.ifCond .ne 7, 3) := by decide +kernel
theorem dX8_draw_9 : decode cX8_draw 9 = .ok (.iconst 1, 1) := by decide +kernel
theorem dX8_draw_10 : decode cX8_draw 10 = .ok (.goto 22, 3) := by decide +kernel
theorem dX8_draw_13 : decode cX8_draw 13 = .ok (.iload_n 2, 1) := by decide +kernel
theorem dX8_draw_14 : decode cX8_draw 14 = .ok (.iconst 0, 1) := by decide +kernel
theorem dX8_draw_15 : decode cX8_draw 15 = .ok (.aload_n 0, 1) := by decide +kernel
theorem dX8_draw_16 : decode cX8_draw 16 = .ok (.getfield 7, 3) := by decide +kernel
theorem dX8_draw_19 : decode cX8_draw 19 = .ok (.iload_n 1, 1) := by decide +kernel
theorem dX8_draw_20 : decode cX8_draw 20 = .ok (.iaload, 1) := by decide +kernel
theorem dX8_draw_21 : decode cX8_draw 21 = .ok (.invokestatic 75, 3) := by decide +kernel
theorem dX8_draw_24 : decode cX8_draw 24 = .ok (.ifCond .eq 7, 3) := by decide +kernel
theorem dX8_draw_27 : decode cX8_draw 27 = .ok (.iconst 0, 1) := by decide +kernel
theorem dX8_draw_28 : decode cX8_draw 28 = .ok (.goto 4, 3) := by decide +kernel
theorem dX8_draw_31 : decode cX8_draw 31 = .ok (.iconst 1, 1) := by decide +kernel
theorem dX8_draw_32 : decode cX8_draw 32 = .ok (.invokevirtual 109, 3) := by decide +kernel
theorem dX8_draw_35 : decode cX8_draw 35 = .ok (.ifCond .ne 5, 3) := by decide +kernel
theorem dX8_draw_38 : decode cX8_draw 38 = .ok (.iconst 0, 1) := by decide +kernel
theorem dX8_draw_39 : decode cX8_draw 39 = .ok (.ireturn, 1) := by decide +kernel
theorem dX8_draw_40 : decode cX8_draw 40 = .ok (.iload_n 3, 1) := by decide +kernel
theorem dX8_draw_41 : decode cX8_draw 41 = .ok (.iconst 0, 1) := by decide +kernel
theorem dX8_draw_42 : decode cX8_draw 42 = .ok (.sipush 999, 3) := by decide +kernel
theorem dX8_draw_45 : decode cX8_draw 45 = .ok (.invokestatic 75, 3) := by decide +kernel
theorem dX8_draw_48 : decode cX8_draw 48 = .ok (.ifCond .eq 27, 3) := by decide +kernel
theorem dX8_draw_51 : decode cX8_draw 51 = .ok (.iload 4, 2) := by decide +kernel
theorem dX8_draw_53 : decode cX8_draw 53 = .ok (.iconst 0, 1) := by decide +kernel
theorem dX8_draw_54 : decode cX8_draw 54 = .ok (.iconst 5, 1) := by decide +kernel
theorem dX8_draw_55 : decode cX8_draw 55 = .ok (.invokestatic 75, 3) := by decide +kernel
theorem dX8_draw_58 : decode cX8_draw 58 = .ok (.ifCond .eq 17, 3) := by decide +kernel
theorem dX8_draw_61 : decode cX8_draw 61 = .ok (.iload 5, 2) := by decide +kernel
theorem dX8_draw_63 : decode cX8_draw 63 = .ok (.iconst 0, 1) := by decide +kernel
theorem dX8_draw_64 : decode cX8_draw 64 = .ok (.iconst 3, 1) := by decide +kernel
theorem dX8_draw_65 : decode cX8_draw 65 = .ok (.invokestatic 75, 3) := by decide +kernel
theorem dX8_draw_68 : decode cX8_draw 68 = .ok (.ifCond .eq 7, 3) := by decide +kernel
theorem dX8_draw_71 : decode cX8_draw 71 = .ok (.iconst 1, 1) := by decide +kernel
theorem dX8_draw_72 : decode cX8_draw 72 = .ok (.goto 4, 3) := by decide +kernel
theorem dX8_draw_75 : decode cX8_draw 75 = .ok (.iconst 0, 1) := by decide +kernel
theorem dX8_draw_76 : decode cX8_draw 76 = .ok (.istore 6, 2) := by decide +kernel
theorem dX8_draw_78 : decode cX8_draw 78 = .ok (.aload_n 0, 1) := by decide +kernel
theorem dX8_draw_79 : decode cX8_draw 79 = .ok (.iload 6, 2) := by decide +kernel
theorem dX8_draw_81 : decode cX8_draw 81 = .ok (.ifCond .ne 7, 3) := by decide +kernel
theorem dX8_draw_84 : decode cX8_draw 84 = .ok (.iconst 2, 1) := by decide +kernel
theorem dX8_draw_85 : decode cX8_draw 85 = .ok (.goto 19, 3) := by decide +kernel
theorem dX8_draw_88 : decode cX8_draw 88 = .ok (.aload_n 0, 1) := by decide +kernel
theorem dX8_draw_89 : decode cX8_draw 89 = .ok (.getfield 7, 3) := by decide +kernel
theorem dX8_draw_92 : decode cX8_draw 92 = .ok (.iload_n 1, 1) := by decide +kernel
theorem dX8_draw_93 : decode cX8_draw 93 = .ok (.iaload, 1) := by decide +kernel
theorem dX8_draw_94 : decode cX8_draw 94 = .ok (.bipush 8, 2) := by decide +kernel
theorem dX8_draw_96 : decode cX8_draw 96 = .ok (.if_icmp .ne 7, 3) := by decide +kernel
theorem dX8_draw_99 : decode cX8_draw 99 = .ok (.iconst 3, 1) := by decide +kernel
theorem dX8_draw_100 : decode cX8_draw 100 = .ok (.goto 4, 3) := by decide +kernel
theorem dX8_draw_103 : decode cX8_draw 103 = .ok (.iconst 0, 1) := by decide +kernel
theorem dX8_draw_104 : decode cX8_draw 104 = .ok (.invokevirtual 109, 3) := by decide +kernel
theorem dX8_draw_107 : decode cX8_draw 107 = .ok (.ifCond .ne 5, 3) := by decide +kernel
theorem dX8_draw_110 : decode cX8_draw 110 = .ok (.iconst 0, 1) := by decide +kernel
theorem dX8_draw_111 : decode cX8_draw 111 = .ok (.ireturn, 1) := by decide +kernel
theorem dX8_draw_112 : decode cX8_draw 112 = .ok (.bipush 8, 2) := by decide +kernel
theorem dX8_draw_114 : decode cX8_draw 114 = .ok (.iload_n 1, 1) := by decide +kernel
theorem dX8_draw_115 : decode cX8_draw 115 = .ok (.imul, 1) := by decide +kernel
theorem dX8_draw_116 : decode cX8_draw 116 = .ok (.aload_n 0, 1) := by decide +kernel
theorem dX8_draw_117 : decode cX8_draw 117 = .ok (.getfield 7, 3) := by decide +kernel
theorem dX8_draw_120 : decode cX8_draw 120 = .ok (.iload_n 1, 1) := by decide +kernel
theorem dX8_draw_121 : decode cX8_draw 121 = .ok (.iaload, 1) := by decide +kernel
theorem dX8_draw_122 : decode cX8_draw 122 = .ok (.iadd, 1) := by decide +kernel
theorem dX8_draw_123 : decode cX8_draw 123 = .ok (.istore 7, 2) := by decide +kernel
theorem dX8_draw_125 : decode cX8_draw 125 = .ok (.iload 7, 2) := by decide +kernel
theorem dX8_draw_127 : decode cX8_draw 127 = .ok (.bipush 8, 2) := by decide +kernel
theorem dX8_draw_129 : decode cX8_draw 129 = .ok (.iload_n 1, 1) := by decide +kernel
theorem dX8_draw_130 : decode cX8_draw 130 = .ok (.imul, 1) := by decide +kernel
theorem dX8_draw_131 : decode cX8_draw 131 = .ok (.iload_n 2, 1) := by decide +kernel
theorem dX8_draw_132 : decode cX8_draw 132 = .ok (.iadd, 1) := by decide +kernel
theorem dX8_draw_133 : decode cX8_draw 133 = .ok (.if_icmp .le 57, 3) := by decide +kernel
theorem dX8_draw_136 : decode cX8_draw 136 = .ok (.aload_n 0, 1) := by decide +kernel
theorem dX8_draw_137 : decode cX8_draw 137 = .ok (.getfield 13, 3) := by decide +kernel
theorem dX8_draw_140 : decode cX8_draw 140 = .ok (.iload 7, 2) := by decide +kernel
theorem dX8_draw_142 : decode cX8_draw 142 = .ok (.aload_n 0, 1) := by decide +kernel
theorem dX8_draw_143 : decode cX8_draw 143 = .ok (.getfield 13, 3) := by decide +kernel
theorem dX8_draw_146 : decode cX8_draw 146 = .ok (.iload 7, 2) := by decide +kernel
theorem dX8_draw_148 : decode cX8_draw 148 = .ok (.iconst 1, 1) := by decide +kernel
theorem dX8_draw_149 : decode cX8_draw 149 = .ok (.isub, 1) := by decide +kernel
theorem dX8_draw_150 : decode cX8_draw 150 = .ok (.iaload, 1) := by decide +kernel
theorem dX8_draw_151 : decode cX8_draw 151 = .ok (.iastore, 1) := by decide +kernel
theorem dX8_draw_152 : decode cX8_draw 152 = .ok (.aload_n 0, 1) := by decide +kernel
theorem dX8_draw_153 : decode cX8_draw 153 = .ok (.getfield 16, 3) := by decide +kernel
theorem dX8_draw_156 : decode cX8_draw 156 = .ok (.iload 7, 2) := by decide +kernel
theorem dX8_draw_158 : decode cX8_draw 158 = .ok (.aload_n 0, 1) := by decide +kernel
theorem dX8_draw_159 : decode cX8_draw 159 = .ok (.getfield 16, 3) := by decide +kernel
theorem dX8_draw_162 : decode cX8_draw 162 = .ok (.iload 7, 2) := by decide +kernel
theorem dX8_draw_164 : decode cX8_draw 164 = .ok (.iconst 1, 1) := by decide +kernel
theorem dX8_draw_165 : decode cX8_draw 165 = .ok (.isub, 1) := by decide +kernel
theorem dX8_draw_166 : decode cX8_draw 166 = .ok (.iaload, 1) := by decide +kernel
theorem dX8_draw_167 : decode cX8_draw 167 = .ok (.iastore, 1) := by decide +kernel
theorem dX8_draw_168 : decode cX8_draw 168 = .ok (.aload_n 0, 1) := by decide +kernel
theorem dX8_draw_169 : decode cX8_draw 169 = .ok (.getfield 19, 3) := by decide +kernel
theorem dX8_draw_172 : decode cX8_draw 172 = .ok (.iload 7, 2) := by decide +kernel
theorem dX8_draw_174 : decode cX8_draw 174 = .ok (.aload_n 0, 1) := by decide +kernel
theorem dX8_draw_175 : decode cX8_draw 175 = .ok (.getfield 19, 3) := by decide +kernel
theorem dX8_draw_178 : decode cX8_draw 178 = .ok (.iload 7, 2) := by decide +kernel
theorem dX8_draw_180 : decode cX8_draw 180 = .ok (.iconst 1, 1) := by decide +kernel
theorem dX8_draw_181 : decode cX8_draw 181 = .ok (.isub, 1) := by decide +kernel
theorem dX8_draw_182 : decode cX8_draw 182 = .ok (.iaload, 1) := by decide +kernel
theorem dX8_draw_183 : decode cX8_draw 183 = .ok (.iastore, 1) := by decide +kernel
theorem dX8_draw_184 : decode cX8_draw 184 = .ok (.iinc 7 (-1), 3) := by decide +kernel
theorem dX8_draw_187 : decode cX8_draw 187 = .ok (.goto (-62), 3) := by decide +kernel
theorem dX8_draw_190 : decode cX8_draw 190 = .ok (.aload_n 0, 1) := by decide +kernel
theorem dX8_draw_191 : decode cX8_draw 191 = .ok (.getfield 13, 3) := by decide +kernel
theorem dX8_draw_194 : decode cX8_draw 194 = .ok (.bipush 8, 2) := by decide +kernel
theorem dX8_draw_196 : decode cX8_draw 196 = .ok (.iload_n 1, 1) := by decide +kernel
theorem dX8_draw_197 : decode cX8_draw 197 = .ok (.imul, 1) := by decide +kernel
theorem dX8_draw_198 : decode cX8_draw 198 = .ok (.iload_n 2, 1) := by decide +kernel
theorem dX8_draw_199 : decode cX8_draw 199 = .ok (.iadd, 1) := by decide +kernel
theorem dX8_draw_200 : decode cX8_draw 200 = .ok (.iload_n 3, 1) := by decide +kernel
theorem dX8_draw_201 : decode cX8_draw 201 = .ok (.iastore, 1) := by decide +kernel
theorem dX8_draw_202 : decode cX8_draw 202 = .ok (.aload_n 0, 1) := by decide +kernel
theorem dX8_draw_203 : decode cX8_draw 203 = .ok (.getfield 16, 3) := by decide +kernel
theorem dX8_draw_206 : decode cX8_draw 206 = .ok (.bipush 8, 2) := by decide +kernel
theorem dX8_draw_208 : decode cX8_draw 208 = .ok (.iload_n 1, 1) := by decide +kernel
theorem dX8_draw_209 : decode cX8_draw 209 = .ok (.imul, 1) := by decide +kernel
theorem dX8_draw_210 : decode cX8_draw 210 = .ok (.iload_n 2, 1) := by decide +kernel
theorem dX8_draw_211 : decode cX8_draw 211 = .ok (.iadd, 1) := by decide +kernel
theorem dX8_draw_212 : decode cX8_draw 212 = .ok (.iload 4, 2) := by decide +kernel
theorem dX8_draw_214 : decode cX8_draw 214 = .ok (.iastore, 1) := by decide +kernel
theorem dX8_draw_215 : decode cX8_draw 215 = .ok (.aload_n 0, 1) := by decide +kernel
theorem dX8_draw_216 : decode cX8_draw 216 = .ok (.getfield 19, 3) := by decide +kernel
theorem dX8_draw_219 : decode cX8_draw 219 = .ok (.bipush 8, 2) := by decide +kernel
theorem dX8_draw_221 : decode cX8_draw 221 = .ok (.iload_n 1, 1) := by decide +kernel
theorem dX8_draw_222 : decode cX8_draw 222 = .ok (.imul, 1) := by decide +kernel
theorem dX8_draw_223 : decode cX8_draw 223 = .ok (.iload_n 2, 1) := by decide +kernel
theorem dX8_draw_224 : decode cX8_draw 224 = .ok (.iadd, 1) := by decide +kernel
theorem dX8_draw_225 : decode cX8_draw 225 = .ok (.iload 5, 2) := by decide +kernel
theorem dX8_draw_227 : decode cX8_draw 227 = .ok (.iastore, 1) := by decide +kernel
theorem dX8_draw_228 : decode cX8_draw 228 = .ok (.aload_n 0, 1) := by decide +kernel
theorem dX8_draw_229 : decode cX8_draw 229 = .ok (.getfield 7, 3) := by decide +kernel
theorem dX8_draw_232 : decode cX8_draw 232 = .ok (.iload_n 1, 1) := by decide +kernel
theorem dX8_draw_233 : decode cX8_draw 233 = .ok (.dup2, 1) := by decide +kernel
theorem dX8_draw_234 : decode cX8_draw 234 = .ok (.iaload, 1) := by decide +kernel
theorem dX8_draw_235 : decode cX8_draw 235 = .ok (.iconst 1, 1) := by decide +kernel
theorem dX8_draw_236 : decode cX8_draw 236 = .ok (.iadd, 1) := by decide +kernel
theorem dX8_draw_237 : decode cX8_draw 237 = .ok (.iastore, 1) := by decide +kernel
theorem dX8_draw_238 : decode cX8_draw 238 = .ok (.aload_n 0, 1) := by decide +kernel
theorem dX8_draw_239 : decode cX8_draw 239 = .ok (.iload_n 1, 1) := by decide +kernel
theorem dX8_draw_240 : decode cX8_draw 240 = .ok (.invokevirtual 115, 3) := by decide +kernel
theorem dX8_draw_243 : decode cX8_draw 243 = .ok (.ireturn, 1) := by decide +kernel
theorem dX8_wrong_0 : decode cX8_wrong 0 = .ok (.aload_n 0, 1) := by decide +kernel
theorem dX8_wrong_1 : decode cX8_wrong 1 = .ok (.iload_n 1, 1) := by decide +kernel
theorem dX8_wrong_2 : decode cX8_wrong 2 = .ok (.invokevirtual 112, 3) := by decide +kernel
theorem dX8_wrong_5 : decode cX8_wrong 5 = .ok (.ifCond .ne 7, 3) := by decide +kernel
theorem dX8_wrong_8 : decode cX8_wrong 8 = .ok (.iconst 1, 1) := by decide +kernel
theorem dX8_wrong_9 : decode cX8_wrong 9 = .ok (.goto 24, 3) := by decide +kernel
theorem dX8_wrong_12 : decode cX8_wrong 12 = .ok (.iload_n 2, 1) := by decide +kernel
theorem dX8_wrong_13 : decode cX8_wrong 13 = .ok (.iconst 0, 1) := by decide +kernel
theorem dX8_wrong_14 : decode cX8_wrong 14 = .ok (.aload_n 0, 1) := by decide +kernel
theorem dX8_wrong_15 : decode cX8_wrong 15 = .ok (.getfield 7, 3) := by decide +kernel
theorem dX8_wrong_18 : decode cX8_wrong 18 = .ok (.iload_n 1, 1) := by decide +kernel
theorem dX8_wrong_19 : decode cX8_wrong 19 = .ok (.iaload, 1) := by decide +kernel
theorem dX8_wrong_20 : decode cX8_wrong 20 = .ok (.iconst 1, 1) := by decide +kernel
theorem dX8_wrong_21 : decode cX8_wrong 21 = .ok (.isub, 1) := by decide +kernel
theorem dX8_wrong_22 : decode cX8_wrong 22 = .ok (.invokestatic 75, 3) := by decide +kernel
theorem dX8_wrong_25 : decode cX8_wrong 25 = .ok (.ifCond .eq 7, 3) := by decide +kernel
theorem dX8_wrong_28 : decode cX8_wrong 28 = .ok (.iconst 0, 1) := by decide +kernel
theorem dX8_wrong_29 : decode cX8_wrong 29 = .ok (.goto 4, 3) := by decide +kernel
theorem dX8_wrong_32 : decode cX8_wrong 32 = .ok (.iconst 1, 1) := by decide +kernel
theorem dX8_wrong_33 : decode cX8_wrong 33 = .ok (.ireturn, 1) := by decide +kernel
theorem dX8_erase_0 : decode cX8_erase 0 = .ok (.aload_n 0, 1) := by decide +kernel
theorem dX8_erase_1 : decode cX8_erase 1 = .ok (.aload_n 0, 1) := by decide +kernel
theorem dX8_erase_2 : decode cX8_erase 2 = .ok (.iload_n 1, 1) := by decide +kernel
theorem dX8_erase_3 : decode cX8_erase 3 = .ok (.iload_n 2, 1) := by decide +kernel
theorem dX8_erase_4 : decode cX8_erase 4 = .ok (.invokevirtual 118, 3) := by decide +kernel
theorem dX8_erase_7 : decode cX8_erase 7 = .ok (.invokevirtual 109, 3) := by decide +kernel
theorem dX8_erase_10 : decode cX8_erase 10 = .ok (.ifCond .ne 5, 3) := by decide +kernel
theorem dX8_erase_13 : decode cX8_erase 13 = .ok (.iconst 0, 1) := by decide +kernel
theorem dX8_erase_14 : decode cX8_erase 14 = .ok (.ireturn, 1) := by decide +kernel
theorem dX8_erase_15 : decode cX8_erase 15 = .ok (.aload_n 0, 1) := by decide +kernel
theorem dX8_erase_16 : decode cX8_erase 16 = .ok (.getfield 7, 3) := by decide +kernel
theorem dX8_erase_19 : decode cX8_erase 19 = .ok (.iload_n 1, 1) := by decide +kernel
theorem dX8_erase_20 : decode cX8_erase 20 = .ok (.dup2, 1) := by decide +kernel
theorem dX8_erase_21 : decode cX8_erase 21 = .ok (.iaload, 1) := by decide +kernel
theorem dX8_erase_22 : decode cX8_erase 22 = .ok (.iconst 1, 1) := by decide +kernel
theorem dX8_erase_23 : decode cX8_erase 23 = .ok (.isub, 1) := by decide +kernel
theorem dX8_erase_24 : decode cX8_erase 24 = .ok (.iastore, 1) := by decide +kernel
theorem dX8_erase_25 : decode cX8_erase 25 = .ok (.bipush 8, 2) := by decide +kernel
theorem dX8_erase_27 : decode cX8_erase 27 = .ok (.iload_n 1, 1) := by decide +kernel
theorem dX8_erase_28 : decode cX8_erase 28 = .ok (.imul, 1) := by decide +kernel
theorem dX8_erase_29 : decode cX8_erase 29 = .ok (.iload_n 2, 1) := by decide +kernel
theorem dX8_erase_30 : decode cX8_erase 30 = .ok (.iadd, 1) := by decide +kernel
theorem dX8_erase_31 : decode cX8_erase 31 = .ok (.istore_n 3, 1) := by decide +kernel
theorem dX8_erase_32 : decode cX8_erase 32 = .ok (.iload_n 3, 1) := by decide +kernel
theorem dX8_erase_33 : decode cX8_erase 33 = .ok (.bipush 8, 2) := by decide +kernel
theorem dX8_erase_35 : decode cX8_erase 35 = .ok (.iload_n 1, 1) := by decide +kernel
theorem dX8_erase_36 : decode cX8_erase 36 = .ok (.imul, 1) := by decide +kernel
theorem dX8_erase_37 : decode cX8_erase 37 = .ok (.aload_n 0, 1) := by decide +kernel
theorem dX8_erase_38 : decode cX8_erase 38 = .ok (.getfield 7, 3) := by decide +kernel
theorem dX8_erase_41 : decode cX8_erase 41 = .ok (.iload_n 1, 1) := by decide +kernel
theorem dX8_erase_42 : decode cX8_erase 42 = .ok (.iaload, 1) := by decide +kernel
theorem dX8_erase_43 : decode cX8_erase 43 = .ok (.iadd, 1) := by decide +kernel
theorem dX8_erase_44 : decode cX8_erase 44 = .ok (.if_icmp .ge 51, 3) := by decide +kernel
theorem dX8_erase_47 : decode cX8_erase 47 = .ok (.aload_n 0, 1) := by decide +kernel
theorem dX8_erase_48 : decode cX8_erase 48 = .ok (.getfield 13, 3) := by decide +kernel
theorem dX8_erase_51 : decode cX8_erase 51 = .ok (.iload_n 3, 1) := by decide +kernel
theorem dX8_erase_52 : decode cX8_erase 52 = .ok (.aload_n 0, 1) := by decide +kernel
theorem dX8_erase_53 : decode cX8_erase 53 = .ok (.getfield 13, 3) := by decide +kernel
theorem dX8_erase_56 : decode cX8_erase 56 = .ok (.iload_n 3, 1) := by decide +kernel
theorem dX8_erase_57 : decode cX8_erase 57 = .ok (.iconst 1, 1) := by decide +kernel
theorem dX8_erase_58 : decode cX8_erase 58 = .ok (.iadd, 1) := by decide +kernel
theorem dX8_erase_59 : decode cX8_erase 59 = .ok (.iaload, 1) := by decide +kernel
theorem dX8_erase_60 : decode cX8_erase 60 = .ok (.iastore, 1) := by decide +kernel
theorem dX8_erase_61 : decode cX8_erase 61 = .ok (.aload_n 0, 1) := by decide +kernel
theorem dX8_erase_62 : decode cX8_erase 62 = .ok (.getfield 16, 3) := by decide +kernel
theorem dX8_erase_65 : decode cX8_erase 65 = .ok (.iload_n 3, 1) := by decide +kernel
theorem dX8_erase_66 : decode cX8_erase 66 = .ok (.aload_n 0, 1) := by decide +kernel
theorem dX8_erase_67 : decode cX8_erase 67 = .ok (.getfield 16, 3) := by decide +kernel
theorem dX8_erase_70 : decode cX8_erase 70 = .ok (.iload_n 3, 1) := by decide +kernel
theorem dX8_erase_71 : decode cX8_erase 71 = .ok (.iconst 1, 1) := by decide +kernel
theorem dX8_erase_72 : decode cX8_erase 72 = .ok (.iadd, 1) := by decide +kernel
theorem dX8_erase_73 : decode cX8_erase 73 = .ok (.iaload, 1) := by decide +kernel
theorem dX8_erase_74 : decode cX8_erase 74 = .ok (.iastore, 1) := by decide +kernel
theorem dX8_erase_75 : decode cX8_erase 75 = .ok (.aload_n 0, 1) := by decide +kernel
theorem dX8_erase_76 : decode cX8_erase 76 = .ok (.getfield 19, 3) := by decide +kernel
theorem dX8_erase_79 : decode cX8_erase 79 = .ok (.iload_n 3, 1) := by decide +kernel
theorem dX8_erase_80 : decode cX8_erase 80 = .ok (.aload_n 0, 1) := by decide +kernel
theorem dX8_erase_81 : decode cX8_erase 81 = .ok (.getfield 19, 3) := by decide +kernel
theorem dX8_erase_84 : decode cX8_erase 84 = .ok (.iload_n 3, 1) := by decide +kernel
theorem dX8_erase_85 : decode cX8_erase 85 = .ok (.iconst 1, 1) := by decide +kernel
theorem dX8_erase_86 : decode cX8_erase 86 = .ok (.iadd, 1) := by decide +kernel
theorem dX8_erase_87 : decode cX8_erase 87 = .ok (.iaload, 1) := by decide +kernel
theorem dX8_erase_88 : decode cX8_erase 88 = .ok (.iastore, 1) := by decide +kernel
theorem dX8_erase_89 : decode cX8_erase 89 = .ok (.iinc 3 1, 3) := by decide +kernel
theorem dX8_erase_92 : decode cX8_erase 92 = .ok (.goto (-60), 3) := by decide +kernel
theorem dX8_erase_95 : decode cX8_erase 95 = .ok (.aload_n 0, 1) := by decide +kernel
theorem dX8_erase_96 : decode cX8_erase 96 = .ok (.iload_n 1, 1) := by decide +kernel
theorem dX8_erase_97 : decode cX8_erase 97 = .ok (.invokevirtual 115, 3) := by decide +kernel
theorem dX8_erase_100 : decode cX8_erase 100 = .ok (.ireturn, 1) := by decide +kernel
theorem dX8_move_0 : decode cX8_move 0 = .ok (.aload_n 0, 1) := by decide +kernel
theorem dX8_move_1 : decode cX8_move 1 = .ok (.aload_n 0, 1) := by decide +kernel
theorem dX8_move_2 : decode cX8_move 2 = .ok (.iload_n 1, 1) := by decide +kernel
theorem dX8_move_3 : decode cX8_move 3 = .ok (.iload_n 2, 1) := by decide +kernel
theorem dX8_move_4 : decode cX8_move 4 = .ok (.invokevirtual 118, 3) := by decide +kernel
theorem dX8_move_7 : decode cX8_move 7 = .ok (.invokevirtual 109, 3) := by decide +kernel
theorem dX8_move_10 : decode cX8_move 10 = .ok (.ifCond .eq 26, 3) := by decide +kernel
theorem dX8_move_13 : decode cX8_move 13 = .ok (.aload_n 0, 1) := by decide +kernel
theorem dX8_move_14 : decode cX8_move 14 = .ok (.iload_n 3, 1) := by decide +kernel
theorem dX8_move_15 : decode cX8_move 15 = .ok (.iconst 0, 1) := by decide +kernel
theorem dX8_move_16 : decode cX8_move 16 = .ok (.sipush 999, 3) := by decide +kernel
theorem dX8_move_19 : decode cX8_move 19 = .ok (.invokestatic 75, 3) := by decide +kernel
theorem dX8_move_22 : decode cX8_move 22 = .ok (.ifCond .eq 7, 3) := by decide +kernel
theorem dX8_move_25 : decode cX8_move 25 = .ok (.iconst 0, 1) := by decide +kernel
theorem dX8_move_26 : decode cX8_move 26 = .ok (.goto 4, 3) := by decide +kernel
theorem dX8_move_29 : decode cX8_move 29 = .ok (.iconst 2, 1) := by decide +kernel
theorem dX8_move_30 : decode cX8_move 30 = .ok (.invokevirtual 109, 3) := by decide +kernel
theorem dX8_move_33 : decode cX8_move 33 = .ok (.ifCond .ne 5, 3) := by decide +kernel
theorem dX8_move_36 : decode cX8_move 36 = .ok (.iconst 0, 1) := by decide +kernel
theorem dX8_move_37 : decode cX8_move 37 = .ok (.ireturn, 1) := by decide +kernel
theorem dX8_move_38 : decode cX8_move 38 = .ok (.aload_n 0, 1) := by decide +kernel
theorem dX8_move_39 : decode cX8_move 39 = .ok (.getfield 13, 3) := by decide +kernel
theorem dX8_move_42 : decode cX8_move 42 = .ok (.bipush 8, 2) := by decide +kernel
theorem dX8_move_44 : decode cX8_move 44 = .ok (.iload_n 1, 1) := by decide +kernel
theorem dX8_move_45 : decode cX8_move 45 = .ok (.imul, 1) := by decide +kernel
theorem dX8_move_46 : decode cX8_move 46 = .ok (.iload_n 2, 1) := by decide +kernel
theorem dX8_move_47 : decode cX8_move 47 = .ok (.iadd, 1) := by decide +kernel
theorem dX8_move_48 : decode cX8_move 48 = .ok (.iload_n 3, 1) := by decide +kernel
theorem dX8_move_49 : decode cX8_move 49 = .ok (.iastore, 1) := by decide +kernel
theorem dX8_move_50 : decode cX8_move 50 = .ok (.aload_n 0, 1) := by decide +kernel
theorem dX8_move_51 : decode cX8_move 51 = .ok (.iload_n 1, 1) := by decide +kernel
theorem dX8_move_52 : decode cX8_move 52 = .ok (.invokevirtual 115, 3) := by decide +kernel
theorem dX8_move_55 : decode cX8_move 55 = .ok (.ireturn, 1) := by decide +kernel
theorem dX8_frames_0 : decode cX8_frames 0 = .ok (.aload_n 0, 1) := by decide +kernel
theorem dX8_frames_1 : decode cX8_frames 1 = .ok (.aload_n 0, 1) := by decide +kernel
theorem dX8_frames_2 : decode cX8_frames 2 = .ok (.iload_n 1, 1) := by decide +kernel
theorem dX8_frames_3 : decode cX8_frames 3 = .ok (.invokevirtual 112, 3) := by decide +kernel
theorem dX8_frames_6 : decode cX8_frames 6 = .ok (.ifCond .eq 7, 3) := by decide +kernel
theorem dX8_frames_9 : decode cX8_frames 9 = .ok (.iconst 0, 1) := by decide +kernel
theorem dX8_frames_10 : decode cX8_frames 10 = .ok (.goto 4, 3) := by decide +kernel
theorem dX8_frames_13 : decode cX8_frames 13 = .ok (.iconst 1, 1) := by decide +kernel
theorem dX8_frames_14 : decode cX8_frames 14 = .ok (.invokevirtual 109, 3) := by decide +kernel
theorem dX8_frames_17 : decode cX8_frames 17 = .ok (.ifCond .eq 11, 3) := by decide +kernel
theorem dX8_frames_20 : decode cX8_frames 20 = .ok (.aload_n 0, 1) := by decide +kernel
theorem dX8_frames_21 : decode cX8_frames 21 = .ok (.iload_n 1, 1) := by decide +kernel
theorem dX8_frames_22 : decode cX8_frames 22 = .ok (.invokevirtual 93, 3) := by decide +kernel
theorem dX8_frames_25 : decode cX8_frames 25 = .ok (.goto 4, 3) := by decide +kernel
theorem dX8_frames_28 : decode cX8_frames 28 = .ok (.iconst 0, 1) := by decide +kernel
theorem dX8_frames_29 : decode cX8_frames 29 = .ok (.ireturn, 1) := by decide +kernel
theorem dX8_frameAt_0 : decode cX8_frameAt 0 = .ok (.aload_n 0, 1) := by decide +kernel
theorem dX8_frameAt_1 : decode cX8_frameAt 1 = .ok (.aload_n 0, 1) := by decide +kernel
theorem dX8_frameAt_2 : decode cX8_frameAt 2 = .ok (.iload_n 1, 1) := by decide +kernel
theorem dX8_frameAt_3 : decode cX8_frameAt 3 = .ok (.invokevirtual 112, 3) := by decide +kernel
theorem dX8_frameAt_6 : decode cX8_frameAt 6 = .ok (.ifCond .ne 7, 3) := by decide +kernel
theorem dX8_frameAt_9 : decode cX8_frameAt 9 = .ok (.iconst 1, 1) := by decide +kernel
theorem dX8_frameAt_10 : decode cX8_frameAt 10 = .ok (.goto 23, 3) := by decide +kernel
theorem dX8_frameAt_13 : decode cX8_frameAt 13 = .ok (.iload_n 2, 1) := by decide +kernel
theorem dX8_frameAt_14 : decode cX8_frameAt 14 = .ok (.iconst 0, 1) := by decide +kernel
theorem dX8_frameAt_15 : decode cX8_frameAt 15 = .ok (.aload_n 0, 1) := by decide +kernel
theorem dX8_frameAt_16 : decode cX8_frameAt 16 = .ok (.iload_n 1, 1) := by decide +kernel
theorem dX8_frameAt_17 : decode cX8_frameAt 17 = .ok (.invokevirtual 93, 3) := by decide +kernel
theorem dX8_frameAt_20 : decode cX8_frameAt 20 = .ok (.iconst 1, 1) := by decide +kernel
theorem dX8_frameAt_21 : decode cX8_frameAt 21 = .ok (.isub, 1) := by decide +kernel
theorem dX8_frameAt_22 : decode cX8_frameAt 22 = .ok (.invokestatic 75, 3) := by decide +kernel
theorem dX8_frameAt_25 : decode cX8_frameAt 25 = .ok (.ifCond .eq 7, 3) := by decide +kernel
theorem dX8_frameAt_28 : decode cX8_frameAt 28 = .ok (.iconst 0, 1) := by decide +kernel
theorem dX8_frameAt_29 : decode cX8_frameAt 29 = .ok (.goto 4, 3) := by decide +kernel
theorem dX8_frameAt_32 : decode cX8_frameAt 32 = .ok (.iconst 1, 1) := by decide +kernel
theorem dX8_frameAt_33 : decode cX8_frameAt 33 = .ok (.invokevirtual 109, 3) := by decide +kernel
theorem dX8_frameAt_36 : decode cX8_frameAt 36 = .ok (.ifCond .ne 5, 3) := by decide +kernel
theorem dX8_frameAt_39 : decode cX8_frameAt 39 = .ok (.iconst 0, 1) := by decide +kernel
theorem dX8_frameAt_40 : decode cX8_frameAt 40 = .ok (.ireturn, 1) := by decide +kernel
theorem dX8_frameAt_41 : decode cX8_frameAt 41 = .ok (.aload_n 0, 1) := by decide +kernel
theorem dX8_frameAt_42 : decode cX8_frameAt 42 = .ok (.iload_n 1, 1) := by decide +kernel
theorem dX8_frameAt_43 : decode cX8_frameAt 43 = .ok (.iload_n 2, 1) := by decide +kernel
theorem dX8_frameAt_44 : decode cX8_frameAt 44 = .ok (.invokevirtual 101, 3) := by decide +kernel
theorem dX8_frameAt_47 : decode cX8_frameAt 47 = .ok (.ireturn, 1) := by decide +kernel
theorem dX8_order_0 : decode cX8_order 0 = .ok (.aload_n 0, 1) := by decide +kernel
theorem dX8_order_1 : decode cX8_order 1 = .ok (.aload_n 0, 1) := by decide +kernel
theorem dX8_order_2 : decode cX8_order 2 = .ok (.iload_n 1, 1) := by decide +kernel
theorem dX8_order_3 : decode cX8_order 3 = .ok (.invokevirtual 112, 3) := by decide +kernel
theorem dX8_order_6 : decode cX8_order 6 = .ok (.ifCond .ne 7, 3) := by decide +kernel
theorem dX8_order_9 : decode cX8_order 9 = .ok (.iconst 1, 1) := by decide +kernel
theorem dX8_order_10 : decode cX8_order 10 = .ok (.goto 29, 3) := by decide +kernel
theorem dX8_order_13 : decode cX8_order 13 = .ok (.iload_n 2, 1) := by decide +kernel
theorem dX8_order_14 : decode cX8_order 14 = .ok (.iconst 1, 1) := by decide +kernel
theorem dX8_order_15 : decode cX8_order 15 = .ok (.iconst 3, 1) := by decide +kernel
theorem dX8_order_16 : decode cX8_order 16 = .ok (.invokestatic 75, 3) := by decide +kernel
theorem dX8_order_19 : decode cX8_order 19 = .ok (.ifCond .ne 7, 3) := by decide +kernel
theorem dX8_order_22 : decode cX8_order 22 = .ok (.iconst 2, 1) := by decide +kernel
theorem dX8_order_23 : decode cX8_order 23 = .ok (.goto 16, 3) := by decide +kernel
theorem dX8_order_26 : decode cX8_order 26 = .ok (.aload_n 0, 1) := by decide +kernel
theorem dX8_order_27 : decode cX8_order 27 = .ok (.getfield 79, 3) := by decide +kernel
theorem dX8_order_30 : decode cX8_order 30 = .ok (.iconst 5, 1) := by decide +kernel
theorem dX8_order_31 : decode cX8_order 31 = .ok (.if_icmp .ne 7, 3) := by decide +kernel
theorem dX8_order_34 : decode cX8_order 34 = .ok (.iconst 3, 1) := by decide +kernel
theorem dX8_order_35 : decode cX8_order 35 = .ok (.goto 4, 3) := by decide +kernel
theorem dX8_order_38 : decode cX8_order 38 = .ok (.iconst 0, 1) := by decide +kernel
theorem dX8_order_39 : decode cX8_order 39 = .ok (.invokevirtual 109, 3) := by decide +kernel
theorem dX8_order_42 : decode cX8_order 42 = .ok (.ifCond .ne 5, 3) := by decide +kernel
theorem dX8_order_45 : decode cX8_order 45 = .ok (.iconst 0, 1) := by decide +kernel
theorem dX8_order_46 : decode cX8_order 46 = .ok (.ireturn, 1) := by decide +kernel
theorem dX8_order_47 : decode cX8_order 47 = .ok (.aload_n 0, 1) := by decide +kernel
theorem dX8_order_48 : decode cX8_order 48 = .ok (.getfield 22, 3) := by decide +kernel
theorem dX8_order_51 : decode cX8_order 51 = .ok (.aload_n 0, 1) := by decide +kernel
theorem dX8_order_52 : decode cX8_order 52 = .ok (.getfield 79, 3) := by decide +kernel
theorem dX8_order_55 : decode cX8_order 55 = .ok (.iload_n 1, 1) := by decide +kernel
theorem dX8_order_56 : decode cX8_order 56 = .ok (.iastore, 1) := by decide +kernel
theorem dX8_order_57 : decode cX8_order 57 = .ok (.aload_n 0, 1) := by decide +kernel
theorem dX8_order_58 : decode cX8_order 58 = .ok (.getfield 25, 3) := by decide +kernel
theorem dX8_order_61 : decode cX8_order 61 = .ok (.aload_n 0, 1) := by decide +kernel
theorem dX8_order_62 : decode cX8_order 62 = .ok (.getfield 79, 3) := by decide +kernel
theorem dX8_order_65 : decode cX8_order 65 = .ok (.iload_n 2, 1) := by decide +kernel
theorem dX8_order_66 : decode cX8_order 66 = .ok (.iastore, 1) := by decide +kernel
theorem dX8_order_67 : decode cX8_order 67 = .ok (.iconst 0, 1) := by decide +kernel
theorem dX8_order_68 : decode cX8_order 68 = .ok (.istore_n 3, 1) := by decide +kernel
theorem dX8_order_69 : decode cX8_order 69 = .ok (.iload_n 3, 1) := by decide +kernel
theorem dX8_order_70 : decode cX8_order 70 = .ok (.iconst 3, 1) := by decide +kernel
theorem dX8_order_71 : decode cX8_order 71 = .ok (.if_icmp .ge 71, 3) := by decide +kernel
theorem dX8_order_74 : decode cX8_order 74 = .ok (.aload_n 0, 1) := by decide +kernel
theorem dX8_order_75 : decode cX8_order 75 = .ok (.getfield 28, 3) := by decide +kernel
theorem dX8_order_78 : decode cX8_order 78 = .ok (.iconst 3, 1) := by decide +kernel
theorem dX8_order_79 : decode cX8_order 79 = .ok (.aload_n 0, 1) := by decide +kernel
theorem dX8_order_80 : decode cX8_order 80 = .ok (.getfield 79, 3) := by decide +kernel
theorem dX8_order_83 : decode cX8_order 83 = .ok (.imul, 1) := by decide +kernel
theorem dX8_order_84 : decode cX8_order 84 = .ok (.iload_n 3, 1) := by decide +kernel
theorem dX8_order_85 : decode cX8_order 85 = .ok (.iadd, 1) := by decide +kernel
theorem dX8_order_86 : decode cX8_order 86 = .ok (.iconst (-1), 1) := by decide +kernel
theorem dX8_order_87 : decode cX8_order 87 = .ok (.iastore, 1) := by decide +kernel
theorem dX8_order_88 : decode cX8_order 88 = .ok (.iconst 0, 1) := by decide +kernel
theorem dX8_order_89 : decode cX8_order 89 = .ok (.istore 4, 2) := by decide +kernel
theorem dX8_order_91 : decode cX8_order 91 = .ok (.iload 4, 2) := by decide +kernel
theorem dX8_order_93 : decode cX8_order 93 = .ok (.bipush 43, 2) := by decide +kernel
theorem dX8_order_95 : decode cX8_order 95 = .ok (.if_icmp .ge 41, 3) := by decide +kernel
theorem dX8_order_98 : decode cX8_order 98 = .ok (.aload_n 0, 1) := by decide +kernel
theorem dX8_order_99 : decode cX8_order 99 = .ok (.getfield 31, 3) := by decide +kernel
theorem dX8_order_102 : decode cX8_order 102 = .ok (.aload_n 0, 1) := by decide +kernel
theorem dX8_order_103 : decode cX8_order 103 = .ok (.getfield 79, 3) := by decide +kernel
theorem dX8_order_106 : decode cX8_order 106 = .ok (.iload_n 3, 1) := by decide +kernel
theorem dX8_order_107 : decode cX8_order 107 = .ok (.iload 4, 2) := by decide +kernel
theorem dX8_order_109 : decode cX8_order 109 = .ok (.invokestatic 121, 3) := by decide +kernel
theorem dX8_order_112 : decode cX8_order 112 = .ok (.iconst (-1), 1) := by decide +kernel
theorem dX8_order_113 : decode cX8_order 113 = .ok (.iastore, 1) := by decide +kernel
theorem dX8_order_114 : decode cX8_order 114 = .ok (.aload_n 0, 1) := by decide +kernel
theorem dX8_order_115 : decode cX8_order 115 = .ok (.getfield 37, 3) := by decide +kernel
theorem dX8_order_118 : decode cX8_order 118 = .ok (.aload_n 0, 1) := by decide +kernel
theorem dX8_order_119 : decode cX8_order 119 = .ok (.getfield 79, 3) := by decide +kernel
theorem dX8_order_122 : decode cX8_order 122 = .ok (.iload_n 3, 1) := by decide +kernel
theorem dX8_order_123 : decode cX8_order 123 = .ok (.iload 4, 2) := by decide +kernel
theorem dX8_order_125 : decode cX8_order 125 = .ok (.invokestatic 121, 3) := by decide +kernel
theorem dX8_order_128 : decode cX8_order 128 = .ok (.iconst (-1), 1) := by decide +kernel
theorem dX8_order_129 : decode cX8_order 129 = .ok (.iastore, 1) := by decide +kernel
theorem dX8_order_130 : decode cX8_order 130 = .ok (.iinc 4 1, 3) := by decide +kernel
theorem dX8_order_133 : decode cX8_order 133 = .ok (.goto (-42), 3) := by decide +kernel
theorem dX8_order_136 : decode cX8_order 136 = .ok (.iinc 3 1, 3) := by decide +kernel
theorem dX8_order_139 : decode cX8_order 139 = .ok (.goto (-70), 3) := by decide +kernel
theorem dX8_order_142 : decode cX8_order 142 = .ok (.aload_n 0, 1) := by decide +kernel
theorem dX8_order_143 : decode cX8_order 143 = .ok (.dup, 1) := by decide +kernel
theorem dX8_order_144 : decode cX8_order 144 = .ok (.getfield 79, 3) := by decide +kernel
theorem dX8_order_147 : decode cX8_order 147 = .ok (.iconst 1, 1) := by decide +kernel
theorem dX8_order_148 : decode cX8_order 148 = .ok (.iadd, 1) := by decide +kernel
theorem dX8_order_149 : decode cX8_order 149 = .ok (.putfield 79, 3) := by decide +kernel
theorem dX8_order_152 : decode cX8_order 152 = .ok (.aload_n 0, 1) := by decide +kernel
theorem dX8_order_153 : decode cX8_order 153 = .ok (.getfield 79, 3) := by decide +kernel
theorem dX8_order_156 : decode cX8_order 156 = .ok (.iconst 1, 1) := by decide +kernel
theorem dX8_order_157 : decode cX8_order 157 = .ok (.isub, 1) := by decide +kernel
theorem dX8_order_158 : decode cX8_order 158 = .ok (.ireturn, 1) := by decide +kernel
theorem dX8_size_0 : decode cX8_size 0 = .ok (.aload_n 0, 1) := by decide +kernel
theorem dX8_size_1 : decode cX8_size 1 = .ok (.aload_n 0, 1) := by decide +kernel
theorem dX8_size_2 : decode cX8_size 2 = .ok (.getfield 22, 3) := by decide +kernel
theorem dX8_size_5 : decode cX8_size 5 = .ok (.iload_n 1, 1) := by decide +kernel
theorem dX8_size_6 : decode cX8_size 6 = .ok (.iaload, 1) := by decide +kernel
theorem dX8_size_7 : decode cX8_size 7 = .ok (.invokevirtual 93, 3) := by decide +kernel
theorem dX8_size_10 : decode cX8_size 10 = .ok (.ireturn, 1) := by decide +kernel
theorem dX8_laysRanks_0 : decode cX8_laysRanks 0 = .ok (.iconst 0, 1) := by decide +kernel
theorem dX8_laysRanks_1 : decode cX8_laysRanks 1 = .ok (.istore_n 1, 1) := by decide +kernel
theorem dX8_laysRanks_2 : decode cX8_laysRanks 2 = .ok (.iload_n 1, 1) := by decide +kernel
theorem dX8_laysRanks_3 : decode cX8_laysRanks 3 = .ok (.aload_n 0, 1) := by decide +kernel
theorem dX8_laysRanks_4 : decode cX8_laysRanks 4 = .ok (.getfield 79, 3) := by decide +kernel
theorem dX8_laysRanks_7 : decode cX8_laysRanks 7 = .ok (.if_icmp .ge 85, 3) := by decide +kernel
theorem dX8_laysRanks_10 : decode cX8_laysRanks 10 = .ok (.iconst 0, 1) := by decide +kernel
theorem dX8_laysRanks_11 : decode cX8_laysRanks 11 = .ok (.istore_n 2, 1) := by decide +kernel
theorem dX8_laysRanks_12 : decode cX8_laysRanks 12 = .ok (.iconst 0, 1) := by decide +kernel
theorem dX8_laysRanks_13 : decode cX8_laysRanks 13 = .ok (.istore_n 3, 1) := by decide +kernel
theorem dX8_laysRanks_14 : decode cX8_laysRanks 14 = .ok (.iload_n 3, 1) := by decide +kernel
theorem dX8_laysRanks_15 : decode cX8_laysRanks 15 = .ok (.aload_n 0, 1) := by decide +kernel
theorem dX8_laysRanks_16 : decode cX8_laysRanks 16 = .ok (.getfield 79, 3) := by decide +kernel
theorem dX8_laysRanks_19 : decode cX8_laysRanks 19 = .ok (.if_icmp .ge 60, 3) := by decide +kernel
theorem dX8_laysRanks_22 : decode cX8_laysRanks 22 = .ok (.aload_n 0, 1) := by decide +kernel
theorem dX8_laysRanks_23 : decode cX8_laysRanks 23 = .ok (.iload_n 3, 1) := by decide +kernel
theorem dX8_laysRanks_24 : decode cX8_laysRanks 24 = .ok (.invokevirtual 125, 3) := by decide +kernel
theorem dX8_laysRanks_27 : decode cX8_laysRanks 27 = .ok (.aload_n 0, 1) := by decide +kernel
theorem dX8_laysRanks_28 : decode cX8_laysRanks 28 = .ok (.iload_n 1, 1) := by decide +kernel
theorem dX8_laysRanks_29 : decode cX8_laysRanks 29 = .ok (.invokevirtual 125, 3) := by decide +kernel
theorem dX8_laysRanks_32 : decode cX8_laysRanks 32 = .ok (.if_icmp .gt 21, 3) := by decide +kernel
theorem dX8_laysRanks_35 : decode cX8_laysRanks 35 = .ok (.aload_n 0, 1) := by decide +kernel
theorem dX8_laysRanks_36 : decode cX8_laysRanks 36 = .ok (.iload_n 3, 1) := by decide +kernel
theorem dX8_laysRanks_37 : decode cX8_laysRanks 37 = .ok (.invokevirtual 125, 3) := by decide +kernel
theorem dX8_laysRanks_40 : decode cX8_laysRanks 40 = .ok (.aload_n 0, 1) := by decide +kernel
theorem dX8_laysRanks_41 : decode cX8_laysRanks 41 = .ok (.iload_n 1, 1) := by decide +kernel
theorem dX8_laysRanks_42 : decode cX8_laysRanks 42 = .ok (.invokevirtual 125, 3) := by decide +kernel
theorem dX8_laysRanks_45 : decode cX8_laysRanks 45 = .ok (.if_icmp .ne 12, 3) := by decide +kernel
theorem dX8_laysRanks_48 : decode cX8_laysRanks 48 = .ok (.iload_n 3, 1) := by decide +kernel
theorem dX8_laysRanks_49 : decode cX8_laysRanks 49 = .ok (.iload_n 1, 1) := by decide +kernel
theorem dX8_laysRanks_50 : decode cX8_laysRanks 50 = .ok (.if_icmp .ge 7, 3) := by decide +kernel
theorem dX8_laysRanks_53 : decode cX8_laysRanks 53 = .ok (.iconst 1, 1) := by decide +kernel
theorem dX8_laysRanks_54 : decode cX8_laysRanks 54 = .ok (.goto 4, 3) := by decide +kernel
theorem dX8_laysRanks_57 : decode cX8_laysRanks 57 = .ok (.iconst 0, 1) := by decide +kernel
theorem dX8_laysRanks_58 : decode cX8_laysRanks 58 = .ok (.istore 4, 2) := by decide +kernel
theorem dX8_laysRanks_60 : decode cX8_laysRanks 60 = .ok (.iload_n 2, 1) := by decide +kernel
theorem dX8_laysRanks_61 : decode cX8_laysRanks 61 = .ok (.iload 4, 2) := by decide +kernel
theorem dX8_laysRanks_63 : decode cX8_laysRanks 63 = .ok (.ifCond .eq 7, 3) := by decide +kernel
theorem dX8_laysRanks_66 : decode cX8_laysRanks 66 = .ok (.iconst 1, 1) := by decide +kernel
theorem dX8_laysRanks_67 : decode cX8_laysRanks 67 = .ok (.goto 4, 3) := by decide +kernel
theorem dX8_laysRanks_70 : decode cX8_laysRanks 70 = .ok (.iconst 0, 1) := by decide +kernel
theorem dX8_laysRanks_71 : decode cX8_laysRanks 71 = .ok (.iadd, 1) := by decide +kernel
theorem dX8_laysRanks_72 : decode cX8_laysRanks 72 = .ok (.istore_n 2, 1) := by decide +kernel
theorem dX8_laysRanks_73 : decode cX8_laysRanks 73 = .ok (.iinc 3 1, 3) := by decide +kernel
theorem dX8_laysRanks_76 : decode cX8_laysRanks 76 = .ok (.goto (-62), 3) := by decide +kernel
theorem dX8_laysRanks_79 : decode cX8_laysRanks 79 = .ok (.aload_n 0, 1) := by decide +kernel
theorem dX8_laysRanks_80 : decode cX8_laysRanks 80 = .ok (.getfield 60, 3) := by decide +kernel
theorem dX8_laysRanks_83 : decode cX8_laysRanks 83 = .ok (.iload_n 2, 1) := by decide +kernel
theorem dX8_laysRanks_84 : decode cX8_laysRanks 84 = .ok (.iload_n 1, 1) := by decide +kernel
theorem dX8_laysRanks_85 : decode cX8_laysRanks 85 = .ok (.iastore, 1) := by decide +kernel
theorem dX8_laysRanks_86 : decode cX8_laysRanks 86 = .ok (.iinc 1 1, 3) := by decide +kernel
theorem dX8_laysRanks_89 : decode cX8_laysRanks 89 = .ok (.goto (-87), 3) := by decide +kernel
theorem dX8_laysRanks_92 : decode cX8_laysRanks 92 = .ok (.return_, 1) := by decide +kernel
theorem dX8_laysWanted_0 : decode cX8_laysWanted 0 = .ok (.aload_n 0, 1) := by decide +kernel
theorem dX8_laysWanted_1 : decode cX8_laysWanted 1 = .ok (.iconst 0, 1) := by decide +kernel
theorem dX8_laysWanted_2 : decode cX8_laysWanted 2 = .ok (.putfield 128, 3) := by decide +kernel
theorem dX8_laysWanted_5 : decode cX8_laysWanted 5 = .ok (.aload_n 0, 1) := by decide +kernel
theorem dX8_laysWanted_6 : decode cX8_laysWanted 6 = .ok (.invokevirtual 131, 3) := by decide +kernel
theorem dX8_laysWanted_9 : decode cX8_laysWanted 9 = .ok (.iconst 0, 1) := by decide +kernel
theorem dX8_laysWanted_10 : decode cX8_laysWanted 10 = .ok (.istore_n 1, 1) := by decide +kernel
theorem dX8_laysWanted_11 : decode cX8_laysWanted 11 = .ok (.iload_n 1, 1) := by decide +kernel
theorem dX8_laysWanted_12 : decode cX8_laysWanted 12 = .ok (.aload_n 0, 1) := by decide +kernel
theorem dX8_laysWanted_13 : decode cX8_laysWanted 13 = .ok (.getfield 79, 3) := by decide +kernel
theorem dX8_laysWanted_16 : decode cX8_laysWanted 16 = .ok (.iconst 3, 1) := by decide +kernel
theorem dX8_laysWanted_17 : decode cX8_laysWanted 17 = .ok (.imul, 1) := by decide +kernel
theorem dX8_laysWanted_18 : decode cX8_laysWanted 18 = .ok (.bipush 43, 2) := by decide +kernel
theorem dX8_laysWanted_20 : decode cX8_laysWanted 20 = .ok (.imul, 1) := by decide +kernel
theorem dX8_laysWanted_21 : decode cX8_laysWanted 21 = .ok (.if_icmp .ge 117, 3) := by decide +kernel
theorem dX8_laysWanted_24 : decode cX8_laysWanted 24 = .ok (.aload_n 0, 1) := by decide +kernel
theorem dX8_laysWanted_25 : decode cX8_laysWanted 25 = .ok (.getfield 60, 3) := by decide +kernel
theorem dX8_laysWanted_28 : decode cX8_laysWanted 28 = .ok (.iload_n 1, 1) := by decide +kernel
theorem dX8_laysWanted_29 : decode cX8_laysWanted 29 = .ok (.bipush 43, 2) := by decide +kernel
theorem dX8_laysWanted_31 : decode cX8_laysWanted 31 = .ok (.idiv, 1) := by decide +kernel
theorem dX8_laysWanted_32 : decode cX8_laysWanted 32 = .ok (.iconst 3, 1) := by decide +kernel
theorem dX8_laysWanted_33 : decode cX8_laysWanted 33 = .ok (.idiv, 1) := by decide +kernel
theorem dX8_laysWanted_34 : decode cX8_laysWanted 34 = .ok (.iaload, 1) := by decide +kernel
theorem dX8_laysWanted_35 : decode cX8_laysWanted 35 = .ok (.istore_n 2, 1) := by decide +kernel
theorem dX8_laysWanted_36 : decode cX8_laysWanted 36 = .ok (.iload_n 1, 1) := by decide +kernel
theorem dX8_laysWanted_37 : decode cX8_laysWanted 37 = .ok (.bipush 43, 2) := by decide +kernel
theorem dX8_laysWanted_39 : decode cX8_laysWanted 39 = .ok (.idiv, 1) := by decide +kernel
theorem dX8_laysWanted_40 : decode cX8_laysWanted 40 = .ok (.iconst 3, 1) := by decide +kernel
theorem dX8_laysWanted_41 : decode cX8_laysWanted 41 = .ok (.irem, 1) := by decide +kernel
theorem dX8_laysWanted_42 : decode cX8_laysWanted 42 = .ok (.istore_n 3, 1) := by decide +kernel
theorem dX8_laysWanted_43 : decode cX8_laysWanted 43 = .ok (.iload_n 1, 1) := by decide +kernel
theorem dX8_laysWanted_44 : decode cX8_laysWanted 44 = .ok (.bipush 43, 2) := by decide +kernel
theorem dX8_laysWanted_46 : decode cX8_laysWanted 46 = .ok (.irem, 1) := by decide +kernel
theorem dX8_laysWanted_47 : decode cX8_laysWanted 47 = .ok (.istore 4, 2) := by decide +kernel
theorem dX8_laysWanted_49 : decode cX8_laysWanted 49 = .ok (.iload_n 3, 1) := by decide +kernel
theorem dX8_laysWanted_50 : decode cX8_laysWanted 50 = .ok (.aload_n 0, 1) := by decide +kernel
theorem dX8_laysWanted_51 : decode cX8_laysWanted 51 = .ok (.getfield 25, 3) := by decide +kernel
theorem dX8_laysWanted_54 : decode cX8_laysWanted 54 = .ok (.iload_n 2, 1) := by decide +kernel
theorem dX8_laysWanted_55 : decode cX8_laysWanted 55 = .ok (.iaload, 1) := by decide +kernel
theorem dX8_laysWanted_56 : decode cX8_laysWanted 56 = .ok (.if_icmp .ge 26, 3) := by decide +kernel
theorem dX8_laysWanted_59 : decode cX8_laysWanted 59 = .ok (.iload 4, 2) := by decide +kernel
theorem dX8_laysWanted_61 : decode cX8_laysWanted 61 = .ok (.aload_n 0, 1) := by decide +kernel
theorem dX8_laysWanted_62 : decode cX8_laysWanted 62 = .ok (.iload_n 2, 1) := by decide +kernel
theorem dX8_laysWanted_63 : decode cX8_laysWanted 63 = .ok (.invokevirtual 125, 3) := by decide +kernel
theorem dX8_laysWanted_66 : decode cX8_laysWanted 66 = .ok (.if_icmp .ge 16, 3) := by decide +kernel
theorem dX8_laysWanted_69 : decode cX8_laysWanted 69 = .ok (.aload_n 0, 1) := by decide +kernel
theorem dX8_laysWanted_70 : decode cX8_laysWanted 70 = .ok (.iload_n 2, 1) := by decide +kernel
theorem dX8_laysWanted_71 : decode cX8_laysWanted 71 = .ok (.iload_n 3, 1) := by decide +kernel
theorem dX8_laysWanted_72 : decode cX8_laysWanted 72 = .ok (.invokevirtual 97, 3) := by decide +kernel
theorem dX8_laysWanted_75 : decode cX8_laysWanted 75 = .ok (.ifCond .ne 7, 3) := by decide +kernel
theorem dX8_laysWanted_78 : decode cX8_laysWanted 78 = .ok (.iconst 1, 1) := by decide +kernel
theorem dX8_laysWanted_79 : decode cX8_laysWanted 79 = .ok (.goto 4, 3) := by decide +kernel
theorem dX8_laysWanted_82 : decode cX8_laysWanted 82 = .ok (.iconst 0, 1) := by decide +kernel
theorem dX8_laysWanted_83 : decode cX8_laysWanted 83 = .ok (.istore 5, 2) := by decide +kernel
theorem dX8_laysWanted_85 : decode cX8_laysWanted 85 = .ok (.iload 5, 2) := by decide +kernel
theorem dX8_laysWanted_87 : decode cX8_laysWanted 87 = .ok (.ifCond .eq 45, 3) := by decide +kernel
theorem dX8_laysWanted_90 : decode cX8_laysWanted 90 = .ok (.aload_n 0, 1) := by decide +kernel
theorem dX8_laysWanted_91 : decode cX8_laysWanted 91 = .ok (.getfield 31, 3) := by decide +kernel
theorem dX8_laysWanted_94 : decode cX8_laysWanted 94 = .ok (.iload_n 2, 1) := by decide +kernel
theorem dX8_laysWanted_95 : decode cX8_laysWanted 95 = .ok (.iload_n 3, 1) := by decide +kernel
theorem dX8_laysWanted_96 : decode cX8_laysWanted 96 = .ok (.iload 4, 2) := by decide +kernel
theorem dX8_laysWanted_98 : decode cX8_laysWanted 98 = .ok (.invokestatic 121, 3) := by decide +kernel
theorem dX8_laysWanted_101 : decode cX8_laysWanted 101 = .ok (.iaload, 1) := by decide +kernel
theorem dX8_laysWanted_102 : decode cX8_laysWanted 102 = .ok (.iconst (-1), 1) := by decide +kernel
theorem dX8_laysWanted_103 : decode cX8_laysWanted 103 = .ok (.if_icmp .ne 29, 3) := by decide +kernel
theorem dX8_laysWanted_106 : decode cX8_laysWanted 106 = .ok (.aload_n 0, 1) := by decide +kernel
theorem dX8_laysWanted_107 : decode cX8_laysWanted 107 = .ok (.getfield 63, 3) := by decide +kernel
theorem dX8_laysWanted_110 : decode cX8_laysWanted 110 = .ok (.aload_n 0, 1) := by decide +kernel
theorem dX8_laysWanted_111 : decode cX8_laysWanted 111 = .ok (.getfield 128, 3) := by decide +kernel
theorem dX8_laysWanted_114 : decode cX8_laysWanted 114 = .ok (.iload_n 2, 1) := by decide +kernel
theorem dX8_laysWanted_115 : decode cX8_laysWanted 115 = .ok (.iload_n 3, 1) := by decide +kernel
theorem dX8_laysWanted_116 : decode cX8_laysWanted 116 = .ok (.iload 4, 2) := by decide +kernel
theorem dX8_laysWanted_118 : decode cX8_laysWanted 118 = .ok (.invokestatic 121, 3) := by decide +kernel
theorem dX8_laysWanted_121 : decode cX8_laysWanted 121 = .ok (.iastore, 1) := by decide +kernel
theorem dX8_laysWanted_122 : decode cX8_laysWanted 122 = .ok (.aload_n 0, 1) := by decide +kernel
theorem dX8_laysWanted_123 : decode cX8_laysWanted 123 = .ok (.dup, 1) := by decide +kernel
theorem dX8_laysWanted_124 : decode cX8_laysWanted 124 = .ok (.getfield 128, 3) := by decide +kernel
theorem dX8_laysWanted_127 : decode cX8_laysWanted 127 = .ok (.iconst 1, 1) := by decide +kernel
theorem dX8_laysWanted_128 : decode cX8_laysWanted 128 = .ok (.iadd, 1) := by decide +kernel
theorem dX8_laysWanted_129 : decode cX8_laysWanted 129 = .ok (.putfield 128, 3) := by decide +kernel
theorem dX8_laysWanted_132 : decode cX8_laysWanted 132 = .ok (.iinc 1 1, 3) := by decide +kernel
theorem dX8_laysWanted_135 : decode cX8_laysWanted 135 = .ok (.goto (-124), 3) := by decide +kernel
theorem dX8_laysWanted_138 : decode cX8_laysWanted 138 = .ok (.return_, 1) := by decide +kernel
theorem dX8_lackingOf_0 : decode cX8_lackingOf 0 = .ok (.iconst 0, 1) := by decide +kernel
theorem dX8_lackingOf_1 : decode cX8_lackingOf 1 = .ok (.istore_n 2, 1) := by decide +kernel
theorem dX8_lackingOf_2 : decode cX8_lackingOf 2 = .ok (.iconst 0, 1) := by decide +kernel
theorem dX8_lackingOf_3 : decode cX8_lackingOf 3 = .ok (.istore_n 3, 1) := by decide +kernel
theorem dX8_lackingOf_4 : decode cX8_lackingOf 4 = .ok (.iload_n 3, 1) := by decide +kernel
theorem dX8_lackingOf_5 : decode cX8_lackingOf 5 = .ok (.aload_n 0, 1) := by decide +kernel
theorem dX8_lackingOf_6 : decode cX8_lackingOf 6 = .ok (.getfield 128, 3) := by decide +kernel
theorem dX8_lackingOf_9 : decode cX8_lackingOf 9 = .ok (.if_icmp .ge 32, 3) := by decide +kernel
theorem dX8_lackingOf_12 : decode cX8_lackingOf 12 = .ok (.iload_n 2, 1) := by decide +kernel
theorem dX8_lackingOf_13 : decode cX8_lackingOf 13 = .ok (.aload_n 0, 1) := by decide +kernel
theorem dX8_lackingOf_14 : decode cX8_lackingOf 14 = .ok (.getfield 63, 3) := by decide +kernel
theorem dX8_lackingOf_17 : decode cX8_lackingOf 17 = .ok (.iload_n 3, 1) := by decide +kernel
theorem dX8_lackingOf_18 : decode cX8_lackingOf 18 = .ok (.iaload, 1) := by decide +kernel
theorem dX8_lackingOf_19 : decode cX8_lackingOf 19 = .ok (.bipush 43, 2) := by decide +kernel
theorem dX8_lackingOf_21 : decode cX8_lackingOf 21 = .ok (.idiv, 1) := by decide +kernel
theorem dX8_lackingOf_22 : decode cX8_lackingOf 22 = .ok (.iconst 3, 1) := by decide +kernel
theorem dX8_lackingOf_23 : decode cX8_lackingOf 23 = .ok (.idiv, 1) := by decide +kernel
theorem dX8_lackingOf_24 : decode cX8_lackingOf 24 = .ok (.iload_n 1, 1) := by decide +kernel
theorem dX8_lackingOf_25 : decode cX8_lackingOf 25 = .ok (.if_icmp .ne 7, 3) := by decide +kernel
theorem dX8_lackingOf_28 : decode cX8_lackingOf 28 = .ok (.iconst 1, 1) := by decide +kernel
theorem dX8_lackingOf_29 : decode cX8_lackingOf 29 = .ok (.goto 4, 3) := by decide +kernel
theorem dX8_lackingOf_32 : decode cX8_lackingOf 32 = .ok (.iconst 0, 1) := by decide +kernel
theorem dX8_lackingOf_33 : decode cX8_lackingOf 33 = .ok (.iadd, 1) := by decide +kernel
theorem dX8_lackingOf_34 : decode cX8_lackingOf 34 = .ok (.istore_n 2, 1) := by decide +kernel
theorem dX8_lackingOf_35 : decode cX8_lackingOf 35 = .ok (.iinc 3 1, 3) := by decide +kernel
theorem dX8_lackingOf_38 : decode cX8_lackingOf 38 = .ok (.goto (-34), 3) := by decide +kernel
theorem dX8_lackingOf_41 : decode cX8_lackingOf 41 = .ok (.iload_n 2, 1) := by decide +kernel
theorem dX8_lackingOf_42 : decode cX8_lackingOf 42 = .ok (.ireturn, 1) := by decide +kernel
theorem dX8_lacking_0 : decode cX8_lacking 0 = .ok (.aload_n 0, 1) := by decide +kernel
theorem dX8_lacking_1 : decode cX8_lacking 1 = .ok (.aload_n 0, 1) := by decide +kernel
theorem dX8_lacking_2 : decode cX8_lacking 2 = .ok (.iload_n 1, 1) := by decide +kernel
theorem dX8_lacking_3 : decode cX8_lacking 3 = .ok (.invokevirtual 82, 3) := by decide +kernel
theorem dX8_lacking_6 : decode cX8_lacking 6 = .ok (.ifCond .eq 7, 3) := by decide +kernel
theorem dX8_lacking_9 : decode cX8_lacking 9 = .ok (.iconst 0, 1) := by decide +kernel
theorem dX8_lacking_10 : decode cX8_lacking 10 = .ok (.goto 4, 3) := by decide +kernel
theorem dX8_lacking_13 : decode cX8_lacking 13 = .ok (.iconst 1, 1) := by decide +kernel
theorem dX8_lacking_14 : decode cX8_lacking 14 = .ok (.invokevirtual 109, 3) := by decide +kernel
theorem dX8_lacking_17 : decode cX8_lacking 17 = .ok (.ifCond .ne 5, 3) := by decide +kernel
theorem dX8_lacking_20 : decode cX8_lacking 20 = .ok (.iconst 0, 1) := by decide +kernel
theorem dX8_lacking_21 : decode cX8_lacking 21 = .ok (.ireturn, 1) := by decide +kernel
theorem dX8_lacking_22 : decode cX8_lacking 22 = .ok (.aload_n 0, 1) := by decide +kernel
theorem dX8_lacking_23 : decode cX8_lacking 23 = .ok (.invokevirtual 134, 3) := by decide +kernel
theorem dX8_lacking_26 : decode cX8_lacking 26 = .ok (.aload_n 0, 1) := by decide +kernel
theorem dX8_lacking_27 : decode cX8_lacking 27 = .ok (.iload_n 1, 1) := by decide +kernel
theorem dX8_lacking_28 : decode cX8_lacking 28 = .ok (.invokevirtual 137, 3) := by decide +kernel
theorem dX8_lacking_31 : decode cX8_lacking 31 = .ok (.ireturn, 1) := by decide +kernel
theorem dX8_waits_0 : decode cX8_waits 0 = .ok (.aload_n 0, 1) := by decide +kernel
theorem dX8_waits_1 : decode cX8_waits 1 = .ok (.aload_n 0, 1) := by decide +kernel
theorem dX8_waits_2 : decode cX8_waits 2 = .ok (.iload_n 1, 1) := by decide +kernel
theorem dX8_waits_3 : decode cX8_waits 3 = .ok (.invokevirtual 82, 3) := by decide +kernel
theorem dX8_waits_6 : decode cX8_waits 6 = .ok (.ifCond .eq 7, 3) := by decide +kernel
theorem dX8_waits_9 : decode cX8_waits 9 = .ok (.iconst 0, 1) := by decide +kernel
theorem dX8_waits_10 : decode cX8_waits 10 = .ok (.goto 4, 3) := by decide +kernel
theorem dX8_waits_13 : decode cX8_waits 13 = .ok (.iconst 1, 1) := by decide +kernel
theorem dX8_waits_14 : decode cX8_waits 14 = .ok (.invokevirtual 109, 3) := by decide +kernel
theorem dX8_waits_17 : decode cX8_waits 17 = .ok (.ifCond .ne 5, 3) := by decide +kernel
theorem dX8_waits_20 : decode cX8_waits 20 = .ok (.iconst 0, 1) := by decide +kernel
theorem dX8_waits_21 : decode cX8_waits 21 = .ok (.ireturn, 1) := by decide +kernel
theorem dX8_waits_22 : decode cX8_waits 22 = .ok (.aload_n 0, 1) := by decide +kernel
theorem dX8_waits_23 : decode cX8_waits 23 = .ok (.invokevirtual 134, 3) := by decide +kernel
theorem dX8_waits_26 : decode cX8_waits 26 = .ok (.iconst (-1), 1) := by decide +kernel
theorem dX8_waits_27 : decode cX8_waits 27 = .ok (.istore_n 2, 1) := by decide +kernel
theorem dX8_waits_28 : decode cX8_waits 28 = .ok (.iconst 0, 1) := by decide +kernel
theorem dX8_waits_29 : decode cX8_waits 29 = .ok (.istore_n 3, 1) := by decide +kernel
theorem dX8_waits_30 : decode cX8_waits 30 = .ok (.iload_n 3, 1) := by decide +kernel
theorem dX8_waits_31 : decode cX8_waits 31 = .ok (.aload_n 0, 1) := by decide +kernel
theorem dX8_waits_32 : decode cX8_waits 32 = .ok (.getfield 128, 3) := by decide +kernel
theorem dX8_waits_35 : decode cX8_waits 35 = .ok (.if_icmp .ge 30, 3) := by decide +kernel
theorem dX8_waits_38 : decode cX8_waits 38 = .ok (.aload_n 0, 1) := by decide +kernel
theorem dX8_waits_39 : decode cX8_waits 39 = .ok (.getfield 63, 3) := by decide +kernel
theorem dX8_waits_42 : decode cX8_waits 42 = .ok (.iload_n 3, 1) := by decide +kernel
theorem dX8_waits_43 : decode cX8_waits 43 = .ok (.iaload, 1) := by decide +kernel
theorem dX8_waits_44 : decode cX8_waits 44 = .ok (.bipush 43, 2) := by decide +kernel
theorem dX8_waits_46 : decode cX8_waits 46 = .ok (.idiv, 1) := by decide +kernel
theorem dX8_waits_47 : decode cX8_waits 47 = .ok (.iconst 3, 1) := by decide +kernel
theorem dX8_waits_48 : decode cX8_waits 48 = .ok (.idiv, 1) := by decide +kernel
theorem dX8_waits_49 : decode cX8_waits 49 = .ok (.iload_n 1, 1) := by decide +kernel
theorem dX8_waits_50 : decode cX8_waits 50 = .ok (.if_icmp .ne 7, 3) := by decide +kernel
theorem dX8_waits_53 : decode cX8_waits 53 = .ok (.iload_n 3, 1) := by decide +kernel
theorem dX8_waits_54 : decode cX8_waits 54 = .ok (.goto 4, 3) := by decide +kernel
theorem dX8_waits_57 : decode cX8_waits 57 = .ok (.iload_n 2, 1) := by decide +kernel
theorem dX8_waits_58 : decode cX8_waits 58 = .ok (.istore_n 2, 1) := by decide +kernel
theorem dX8_waits_59 : decode cX8_waits 59 = .ok (.iinc 3 1, 3) := by decide +kernel
theorem dX8_waits_62 : decode cX8_waits 62 = .ok (.goto (-32), 3) := by decide +kernel
theorem dX8_waits_65 : decode cX8_waits 65 = .ok (.iload_n 2, 1) := by decide +kernel
theorem dX8_waits_66 : decode cX8_waits 66 = .ok (.iconst (-1), 1) := by decide +kernel
theorem dX8_waits_67 : decode cX8_waits 67 = .ok (.if_icmp .ne 7, 3) := by decide +kernel
theorem dX8_waits_70 : decode cX8_waits 70 = .ok (.iconst 0, 1) := by decide +kernel
theorem dX8_waits_71 : decode cX8_waits 71 = .ok (.goto 9, 3) := by decide +kernel
theorem dX8_waits_74 : decode cX8_waits 74 = .ok (.iload_n 2, 1) := by decide +kernel
theorem dX8_waits_75 : decode cX8_waits 75 = .ok (.bipush 8, 2) := by decide +kernel
theorem dX8_waits_77 : decode cX8_waits 77 = .ok (.idiv, 1) := by decide +kernel
theorem dX8_waits_78 : decode cX8_waits 78 = .ok (.iconst 1, 1) := by decide +kernel
theorem dX8_waits_79 : decode cX8_waits 79 = .ok (.iadd, 1) := by decide +kernel
theorem dX8_waits_80 : decode cX8_waits 80 = .ok (.ireturn, 1) := by decide +kernel
theorem dX8_unfolded_0 : decode cX8_unfolded 0 = .ok (.iconst 0, 1) := by decide +kernel
theorem dX8_unfolded_1 : decode cX8_unfolded 1 = .ok (.istore_n 2, 1) := by decide +kernel
theorem dX8_unfolded_2 : decode cX8_unfolded 2 = .ok (.iconst 0, 1) := by decide +kernel
theorem dX8_unfolded_3 : decode cX8_unfolded 3 = .ok (.istore_n 3, 1) := by decide +kernel
theorem dX8_unfolded_4 : decode cX8_unfolded 4 = .ok (.iconst 1, 1) := by decide +kernel
theorem dX8_unfolded_5 : decode cX8_unfolded 5 = .ok (.istore 4, 2) := by decide +kernel
theorem dX8_unfolded_7 : decode cX8_unfolded 7 = .ok (.iconst 1, 1) := by decide +kernel
theorem dX8_unfolded_8 : decode cX8_unfolded 8 = .ok (.istore 5, 2) := by decide +kernel
theorem dX8_unfolded_10 : decode cX8_unfolded 10 = .ok (.iload_n 1, 1) := by decide +kernel
theorem dX8_unfolded_11 : decode cX8_unfolded 11 = .ok (.istore 6, 2) := by decide +kernel
theorem dX8_unfolded_13 : decode cX8_unfolded 13 = .ok (.bipush 8, 2) := by decide +kernel
theorem dX8_unfolded_15 : decode cX8_unfolded 15 = .ok (.istore 7, 2) := by decide +kernel
theorem dX8_unfolded_17 : decode cX8_unfolded 17 = .ok (.iconst 2, 1) := by decide +kernel
theorem dX8_unfolded_18 : decode cX8_unfolded 18 = .ok (.istore 8, 2) := by decide +kernel
theorem dX8_unfolded_20 : decode cX8_unfolded 20 = .ok (.iload 8, 2) := by decide +kernel
theorem dX8_unfolded_22 : decode cX8_unfolded 22 = .ok (.ifCond .lt 153, 3) := by decide +kernel
theorem dX8_unfolded_25 : decode cX8_unfolded 25 = .ok (.aload_n 0, 1) := by decide +kernel
theorem dX8_unfolded_26 : decode cX8_unfolded 26 = .ok (.getfield 40, 3) := by decide +kernel
theorem dX8_unfolded_29 : decode cX8_unfolded 29 = .ok (.iload 8, 2) := by decide +kernel
theorem dX8_unfolded_31 : decode cX8_unfolded 31 = .ok (.iaload, 1) := by decide +kernel
theorem dX8_unfolded_32 : decode cX8_unfolded 32 = .ok (.istore 9, 2) := by decide +kernel
theorem dX8_unfolded_34 : decode cX8_unfolded 34 = .ok (.iload 7, 2) := by decide +kernel
theorem dX8_unfolded_36 : decode cX8_unfolded 36 = .ok (.iconst 2, 1) := by decide +kernel
theorem dX8_unfolded_37 : decode cX8_unfolded 37 = .ok (.idiv, 1) := by decide +kernel
theorem dX8_unfolded_38 : decode cX8_unfolded 38 = .ok (.istore 7, 2) := by decide +kernel
theorem dX8_unfolded_40 : decode cX8_unfolded 40 = .ok (.iload 6, 2) := by decide +kernel
theorem dX8_unfolded_42 : decode cX8_unfolded 42 = .ok (.iload 7, 2) := by decide +kernel
theorem dX8_unfolded_44 : decode cX8_unfolded 44 = .ok (.if_icmp .ge 7, 3) := by decide +kernel
theorem dX8_unfolded_47 : decode cX8_unfolded 47 = .ok (.iconst 1, 1) := by decide +kernel
theorem dX8_unfolded_48 : decode cX8_unfolded 48 = .ok (.goto 4, 3) := by decide +kernel
theorem dX8_unfolded_51 : decode cX8_unfolded 51 = .ok (.iconst 0, 1) := by decide +kernel
theorem dX8_unfolded_52 : decode cX8_unfolded 52 = .ok (.istore 10, 2) := by decide +kernel
theorem dX8_unfolded_54 : decode cX8_unfolded 54 = .ok (.iload 10, 2) := by decide +kernel
theorem dX8_unfolded_56 : decode cX8_unfolded 56 = .ok (.ifCond .eq 13, 3) := by decide +kernel
theorem dX8_unfolded_59 : decode cX8_unfolded 59 = .ok (.iload 7, 2) := by decide +kernel
theorem dX8_unfolded_61 : decode cX8_unfolded 61 = .ok (.iconst 1, 1) := by decide +kernel
theorem dX8_unfolded_62 : decode cX8_unfolded 62 = .ok (.isub, 1) := by decide +kernel
theorem dX8_unfolded_63 : decode cX8_unfolded 63 = .ok (.iload 6, 2) := by decide +kernel
theorem dX8_unfolded_65 : decode cX8_unfolded 65 = .ok (.isub, 1) := by decide +kernel
theorem dX8_unfolded_66 : decode cX8_unfolded 66 = .ok (.goto 8, 3) := by decide +kernel
theorem dX8_unfolded_69 : decode cX8_unfolded 69 = .ok (.iload 6, 2) := by decide +kernel
theorem dX8_unfolded_71 : decode cX8_unfolded 71 = .ok (.iload 7, 2) := by decide +kernel
theorem dX8_unfolded_73 : decode cX8_unfolded 73 = .ok (.isub, 1) := by decide +kernel
theorem dX8_unfolded_74 : decode cX8_unfolded 74 = .ok (.istore 6, 2) := by decide +kernel
theorem dX8_unfolded_76 : decode cX8_unfolded 76 = .ok (.iload 9, 2) := by decide +kernel
theorem dX8_unfolded_78 : decode cX8_unfolded 78 = .ok (.iconst 2, 1) := by decide +kernel
theorem dX8_unfolded_79 : decode cX8_unfolded 79 = .ok (.if_icmp .ge 48, 3) := by decide +kernel
theorem dX8_unfolded_82 : decode cX8_unfolded 82 = .ok (.iload 9, 2) := by decide +kernel
theorem dX8_unfolded_84 : decode cX8_unfolded 84 = .ok (.iconst 1, 1) := by decide +kernel
theorem dX8_unfolded_85 : decode cX8_unfolded 85 = .ok (.if_icmp .ne 7, 3) := by decide +kernel
theorem dX8_unfolded_88 : decode cX8_unfolded 88 = .ok (.iload_n 3, 1) := by decide +kernel
theorem dX8_unfolded_89 : decode cX8_unfolded 89 = .ok (.goto 7, 3) := by decide +kernel
theorem dX8_unfolded_92 : decode cX8_unfolded 92 = .ok (.iload 5, 2) := by decide +kernel
theorem dX8_unfolded_94 : decode cX8_unfolded 94 = .ok (.iload_n 3, 1) := by decide +kernel
theorem dX8_unfolded_95 : decode cX8_unfolded 95 = .ok (.iadd, 1) := by decide +kernel
theorem dX8_unfolded_96 : decode cX8_unfolded 96 = .ok (.istore 11, 2) := by decide +kernel
theorem dX8_unfolded_98 : decode cX8_unfolded 98 = .ok (.iload 10, 2) := by decide +kernel
theorem dX8_unfolded_100 : decode cX8_unfolded 100 = .ok (.ifCond .eq 15, 3) := by decide +kernel
theorem dX8_unfolded_103 : decode cX8_unfolded 103 = .ok (.iconst 2, 1) := by decide +kernel
theorem dX8_unfolded_104 : decode cX8_unfolded 104 = .ok (.iload 5, 2) := by decide +kernel
theorem dX8_unfolded_106 : decode cX8_unfolded 106 = .ok (.imul, 1) := by decide +kernel
theorem dX8_unfolded_107 : decode cX8_unfolded 107 = .ok (.iconst 1, 1) := by decide +kernel
theorem dX8_unfolded_108 : decode cX8_unfolded 108 = .ok (.isub, 1) := by decide +kernel
theorem dX8_unfolded_109 : decode cX8_unfolded 109 = .ok (.iload 11, 2) := by decide +kernel
theorem dX8_unfolded_111 : decode cX8_unfolded 111 = .ok (.isub, 1) := by decide +kernel
theorem dX8_unfolded_112 : decode cX8_unfolded 112 = .ok (.goto 5, 3) := by decide +kernel
theorem dX8_unfolded_115 : decode cX8_unfolded 115 = .ok (.iload 11, 2) := by decide +kernel
theorem dX8_unfolded_117 : decode cX8_unfolded 117 = .ok (.istore_n 3, 1) := by decide +kernel
theorem dX8_unfolded_118 : decode cX8_unfolded 118 = .ok (.iload 5, 2) := by decide +kernel
theorem dX8_unfolded_120 : decode cX8_unfolded 120 = .ok (.iconst 2, 1) := by decide +kernel
theorem dX8_unfolded_121 : decode cX8_unfolded 121 = .ok (.imul, 1) := by decide +kernel
theorem dX8_unfolded_122 : decode cX8_unfolded 122 = .ok (.istore 5, 2) := by decide +kernel
theorem dX8_unfolded_124 : decode cX8_unfolded 124 = .ok (.goto 45, 3) := by decide +kernel
theorem dX8_unfolded_127 : decode cX8_unfolded 127 = .ok (.iload 9, 2) := by decide +kernel
theorem dX8_unfolded_129 : decode cX8_unfolded 129 = .ok (.iconst 2, 1) := by decide +kernel
theorem dX8_unfolded_130 : decode cX8_unfolded 130 = .ok (.if_icmp .ne 7, 3) := by decide +kernel
theorem dX8_unfolded_133 : decode cX8_unfolded 133 = .ok (.iload_n 2, 1) := by decide +kernel
theorem dX8_unfolded_134 : decode cX8_unfolded 134 = .ok (.goto 7, 3) := by decide +kernel
theorem dX8_unfolded_137 : decode cX8_unfolded 137 = .ok (.iload 4, 2) := by decide +kernel
theorem dX8_unfolded_139 : decode cX8_unfolded 139 = .ok (.iload_n 2, 1) := by decide +kernel
theorem dX8_unfolded_140 : decode cX8_unfolded 140 = .ok (.iadd, 1) := by decide +kernel
theorem dX8_unfolded_141 : decode cX8_unfolded 141 = .ok (.istore 11, 2) := by decide +kernel
theorem dX8_unfolded_143 : decode cX8_unfolded 143 = .ok (.iload 10, 2) := by decide +kernel
theorem dX8_unfolded_145 : decode cX8_unfolded 145 = .ok (.ifCond .eq 15, 3) := by decide +kernel
theorem dX8_unfolded_148 : decode cX8_unfolded 148 = .ok (.iconst 2, 1) := by decide +kernel
theorem dX8_unfolded_149 : decode cX8_unfolded 149 = .ok (.iload 4, 2) := by decide +kernel
theorem dX8_unfolded_151 : decode cX8_unfolded 151 = .ok (.imul, 1) := by decide +kernel
theorem dX8_unfolded_152 : decode cX8_unfolded 152 = .ok (.iconst 1, 1) := by decide +kernel
theorem dX8_unfolded_153 : decode cX8_unfolded 153 = .ok (.isub, 1) := by decide +kernel
theorem dX8_unfolded_154 : decode cX8_unfolded 154 = .ok (.iload 11, 2) := by decide +kernel
theorem dX8_unfolded_156 : decode cX8_unfolded 156 = .ok (.isub, 1) := by decide +kernel
theorem dX8_unfolded_157 : decode cX8_unfolded 157 = .ok (.goto 5, 3) := by decide +kernel
theorem dX8_unfolded_160 : decode cX8_unfolded 160 = .ok (.iload 11, 2) := by decide +kernel
theorem dX8_unfolded_162 : decode cX8_unfolded 162 = .ok (.istore_n 2, 1) := by decide +kernel
theorem dX8_unfolded_163 : decode cX8_unfolded 163 = .ok (.iload 4, 2) := by decide +kernel
theorem dX8_unfolded_165 : decode cX8_unfolded 165 = .ok (.iconst 2, 1) := by decide +kernel
theorem dX8_unfolded_166 : decode cX8_unfolded 166 = .ok (.imul, 1) := by decide +kernel
theorem dX8_unfolded_167 : decode cX8_unfolded 167 = .ok (.istore 4, 2) := by decide +kernel
theorem dX8_unfolded_169 : decode cX8_unfolded 169 = .ok (.iinc 8 (-1), 3) := by decide +kernel
theorem dX8_unfolded_172 : decode cX8_unfolded 172 = .ok (.goto (-152), 3) := by decide +kernel
theorem dX8_unfolded_175 : decode cX8_unfolded 175 = .ok (.iconst 4, 1) := by decide +kernel
theorem dX8_unfolded_176 : decode cX8_unfolded 176 = .ok (.iload_n 2, 1) := by decide +kernel
theorem dX8_unfolded_177 : decode cX8_unfolded 177 = .ok (.imul, 1) := by decide +kernel
theorem dX8_unfolded_178 : decode cX8_unfolded 178 = .ok (.iload_n 3, 1) := by decide +kernel
theorem dX8_unfolded_179 : decode cX8_unfolded 179 = .ok (.iadd, 1) := by decide +kernel
theorem dX8_unfolded_180 : decode cX8_unfolded 180 = .ok (.ireturn, 1) := by decide +kernel
theorem dX8_laysCells_0 : decode cX8_laysCells 0 = .ok (.iconst 0, 1) := by decide +kernel
theorem dX8_laysCells_1 : decode cX8_laysCells 1 = .ok (.istore_n 1, 1) := by decide +kernel
theorem dX8_laysCells_2 : decode cX8_laysCells 2 = .ok (.iload_n 1, 1) := by decide +kernel
theorem dX8_laysCells_3 : decode cX8_laysCells 3 = .ok (.bipush 8, 2) := by decide +kernel
theorem dX8_laysCells_5 : decode cX8_laysCells 5 = .ok (.if_icmp .ge 20, 3) := by decide +kernel
theorem dX8_laysCells_8 : decode cX8_laysCells 8 = .ok (.aload_n 0, 1) := by decide +kernel
theorem dX8_laysCells_9 : decode cX8_laysCells 9 = .ok (.getfield 43, 3) := by decide +kernel
theorem dX8_laysCells_12 : decode cX8_laysCells 12 = .ok (.iload_n 1, 1) := by decide +kernel
theorem dX8_laysCells_13 : decode cX8_laysCells 13 = .ok (.aload_n 0, 1) := by decide +kernel
theorem dX8_laysCells_14 : decode cX8_laysCells 14 = .ok (.iload_n 1, 1) := by decide +kernel
theorem dX8_laysCells_15 : decode cX8_laysCells 15 = .ok (.invokevirtual 140, 3) := by decide +kernel
theorem dX8_laysCells_18 : decode cX8_laysCells 18 = .ok (.iastore, 1) := by decide +kernel
theorem dX8_laysCells_19 : decode cX8_laysCells 19 = .ok (.iinc 1 1, 3) := by decide +kernel
theorem dX8_laysCells_22 : decode cX8_laysCells 22 = .ok (.goto (-20), 3) := by decide +kernel
theorem dX8_laysCells_25 : decode cX8_laysCells 25 = .ok (.return_, 1) := by decide +kernel
theorem dX8_setFolds_0 : decode cX8_setFolds 0 = .ok (.iload_n 1, 1) := by decide +kernel
theorem dX8_setFolds_1 : decode cX8_setFolds 1 = .ok (.iconst 0, 1) := by decide +kernel
theorem dX8_setFolds_2 : decode cX8_setFolds 2 = .ok (.iconst 3, 1) := by decide +kernel
theorem dX8_setFolds_3 : decode cX8_setFolds 3 = .ok (.invokestatic 75, 3) := by decide +kernel
theorem dX8_setFolds_6 : decode cX8_setFolds 6 = .ok (.ifCond .eq 25, 3) := by decide +kernel
theorem dX8_setFolds_9 : decode cX8_setFolds 9 = .ok (.iload_n 2, 1) := by decide +kernel
theorem dX8_setFolds_10 : decode cX8_setFolds 10 = .ok (.iconst 0, 1) := by decide +kernel
theorem dX8_setFolds_11 : decode cX8_setFolds 11 = .ok (.iconst 3, 1) := by decide +kernel
theorem dX8_setFolds_12 : decode cX8_setFolds 12 = .ok (.invokestatic 75, 3) := by decide +kernel
theorem dX8_setFolds_15 : decode cX8_setFolds 15 = .ok (.ifCond .eq 16, 3) := by decide +kernel
theorem dX8_setFolds_18 : decode cX8_setFolds 18 = .ok (.iload_n 3, 1) := by decide +kernel
theorem dX8_setFolds_19 : decode cX8_setFolds 19 = .ok (.iconst 0, 1) := by decide +kernel
theorem dX8_setFolds_20 : decode cX8_setFolds 20 = .ok (.iconst 3, 1) := by decide +kernel
theorem dX8_setFolds_21 : decode cX8_setFolds 21 = .ok (.invokestatic 75, 3) := by decide +kernel
theorem dX8_setFolds_24 : decode cX8_setFolds 24 = .ok (.ifCond .eq 7, 3) := by decide +kernel
theorem dX8_setFolds_27 : decode cX8_setFolds 27 = .ok (.iconst 1, 1) := by decide +kernel
theorem dX8_setFolds_28 : decode cX8_setFolds 28 = .ok (.goto 4, 3) := by decide +kernel
theorem dX8_setFolds_31 : decode cX8_setFolds 31 = .ok (.iconst 0, 1) := by decide +kernel
theorem dX8_setFolds_32 : decode cX8_setFolds 32 = .ok (.istore 4, 2) := by decide +kernel
theorem dX8_setFolds_34 : decode cX8_setFolds 34 = .ok (.iload_n 1, 1) := by decide +kernel
theorem dX8_setFolds_35 : decode cX8_setFolds 35 = .ok (.iconst 2, 1) := by decide +kernel
theorem dX8_setFolds_36 : decode cX8_setFolds 36 = .ok (.if_icmp .ge 7, 3) := by decide +kernel
theorem dX8_setFolds_39 : decode cX8_setFolds 39 = .ok (.iconst 1, 1) := by decide +kernel
theorem dX8_setFolds_40 : decode cX8_setFolds 40 = .ok (.goto 4, 3) := by decide +kernel
theorem dX8_setFolds_43 : decode cX8_setFolds 43 = .ok (.iconst 0, 1) := by decide +kernel
theorem dX8_setFolds_44 : decode cX8_setFolds 44 = .ok (.iload_n 2, 1) := by decide +kernel
theorem dX8_setFolds_45 : decode cX8_setFolds 45 = .ok (.iconst 2, 1) := by decide +kernel
theorem dX8_setFolds_46 : decode cX8_setFolds 46 = .ok (.if_icmp .ge 7, 3) := by decide +kernel
theorem dX8_setFolds_49 : decode cX8_setFolds 49 = .ok (.iconst 1, 1) := by decide +kernel
theorem dX8_setFolds_50 : decode cX8_setFolds 50 = .ok (.goto 4, 3) := by decide +kernel
theorem dX8_setFolds_53 : decode cX8_setFolds 53 = .ok (.iconst 0, 1) := by decide +kernel
theorem dX8_setFolds_54 : decode cX8_setFolds 54 = .ok (.iadd, 1) := by decide +kernel
theorem dX8_setFolds_55 : decode cX8_setFolds 55 = .ok (.iload_n 3, 1) := by decide +kernel
theorem dX8_setFolds_56 : decode cX8_setFolds 56 = .ok (.iconst 2, 1) := by decide +kernel
theorem dX8_setFolds_57 : decode cX8_setFolds 57 = .ok (.if_icmp .ge 7, 3) := by decide +kernel
theorem dX8_setFolds_60 : decode cX8_setFolds 60 = .ok (.iconst 1, 1) := by decide +kernel
theorem dX8_setFolds_61 : decode cX8_setFolds 61 = .ok (.goto 4, 3) := by decide +kernel
theorem dX8_setFolds_64 : decode cX8_setFolds 64 = .ok (.iconst 0, 1) := by decide +kernel
theorem dX8_setFolds_65 : decode cX8_setFolds 65 = .ok (.iadd, 1) := by decide +kernel
theorem dX8_setFolds_66 : decode cX8_setFolds 66 = .ok (.istore 5, 2) := by decide +kernel
theorem dX8_setFolds_68 : decode cX8_setFolds 68 = .ok (.aload_n 0, 1) := by decide +kernel
theorem dX8_setFolds_69 : decode cX8_setFolds 69 = .ok (.iload 4, 2) := by decide +kernel
theorem dX8_setFolds_71 : decode cX8_setFolds 71 = .ok (.ifCond .eq 13, 3) := by decide +kernel
theorem dX8_setFolds_74 : decode cX8_setFolds 74 = .ok (.iload 5, 2) := by decide +kernel
theorem dX8_setFolds_76 : decode cX8_setFolds 76 = .ok (.iconst 2, 1) := by decide +kernel
theorem dX8_setFolds_77 : decode cX8_setFolds 77 = .ok (.if_icmp .ne 7, 3) := by decide +kernel
theorem dX8_setFolds_80 : decode cX8_setFolds 80 = .ok (.iconst 0, 1) := by decide +kernel
theorem dX8_setFolds_81 : decode cX8_setFolds 81 = .ok (.goto 4, 3) := by decide +kernel
theorem dX8_setFolds_84 : decode cX8_setFolds 84 = .ok (.iconst 1, 1) := by decide +kernel
theorem dX8_setFolds_85 : decode cX8_setFolds 85 = .ok (.invokevirtual 109, 3) := by decide +kernel
theorem dX8_setFolds_88 : decode cX8_setFolds 88 = .ok (.ifCond .eq 28, 3) := by decide +kernel
theorem dX8_setFolds_91 : decode cX8_setFolds 91 = .ok (.aload_n 0, 1) := by decide +kernel
theorem dX8_setFolds_92 : decode cX8_setFolds 92 = .ok (.getfield 40, 3) := by decide +kernel
theorem dX8_setFolds_95 : decode cX8_setFolds 95 = .ok (.iconst 0, 1) := by decide +kernel
theorem dX8_setFolds_96 : decode cX8_setFolds 96 = .ok (.iload_n 1, 1) := by decide +kernel
theorem dX8_setFolds_97 : decode cX8_setFolds 97 = .ok (.iastore, 1) := by decide +kernel
theorem dX8_setFolds_98 : decode cX8_setFolds 98 = .ok (.aload_n 0, 1) := by decide +kernel
theorem dX8_setFolds_99 : decode cX8_setFolds 99 = .ok (.getfield 40, 3) := by decide +kernel
theorem dX8_setFolds_102 : decode cX8_setFolds 102 = .ok (.iconst 1, 1) := by decide +kernel
theorem dX8_setFolds_103 : decode cX8_setFolds 103 = .ok (.iload_n 2, 1) := by decide +kernel
theorem dX8_setFolds_104 : decode cX8_setFolds 104 = .ok (.iastore, 1) := by decide +kernel
theorem dX8_setFolds_105 : decode cX8_setFolds 105 = .ok (.aload_n 0, 1) := by decide +kernel
theorem dX8_setFolds_106 : decode cX8_setFolds 106 = .ok (.getfield 40, 3) := by decide +kernel
theorem dX8_setFolds_109 : decode cX8_setFolds 109 = .ok (.iconst 2, 1) := by decide +kernel
theorem dX8_setFolds_110 : decode cX8_setFolds 110 = .ok (.iload_n 3, 1) := by decide +kernel
theorem dX8_setFolds_111 : decode cX8_setFolds 111 = .ok (.iastore, 1) := by decide +kernel
theorem dX8_setFolds_112 : decode cX8_setFolds 112 = .ok (.aload_n 0, 1) := by decide +kernel
theorem dX8_setFolds_113 : decode cX8_setFolds 113 = .ok (.invokevirtual 66, 3) := by decide +kernel
theorem dX8_setFolds_116 : decode cX8_setFolds 116 = .ok (.return_, 1) := by decide +kernel
theorem dX8_cellOf_0 : decode cX8_cellOf 0 = .ok (.aload_n 0, 1) := by decide +kernel
theorem dX8_cellOf_1 : decode cX8_cellOf 1 = .ok (.iload_n 1, 1) := by decide +kernel
theorem dX8_cellOf_2 : decode cX8_cellOf 2 = .ok (.iconst 0, 1) := by decide +kernel
theorem dX8_cellOf_3 : decode cX8_cellOf 3 = .ok (.bipush 7, 2) := by decide +kernel
theorem dX8_cellOf_5 : decode cX8_cellOf 5 = .ok (.invokestatic 75, 3) := by decide +kernel
theorem dX8_cellOf_8 : decode cX8_cellOf 8 = .ok (.ifCond .eq 7, 3) := by decide +kernel
theorem dX8_cellOf_11 : decode cX8_cellOf 11 = .ok (.iconst 0, 1) := by decide +kernel
theorem dX8_cellOf_12 : decode cX8_cellOf 12 = .ok (.goto 4, 3) := by decide +kernel
theorem dX8_cellOf_15 : decode cX8_cellOf 15 = .ok (.iconst 1, 1) := by decide +kernel
theorem dX8_cellOf_16 : decode cX8_cellOf 16 = .ok (.invokevirtual 109, 3) := by decide +kernel
theorem dX8_cellOf_19 : decode cX8_cellOf 19 = .ok (.ifCond .eq 12, 3) := by decide +kernel
theorem dX8_cellOf_22 : decode cX8_cellOf 22 = .ok (.aload_n 0, 1) := by decide +kernel
theorem dX8_cellOf_23 : decode cX8_cellOf 23 = .ok (.getfield 43, 3) := by decide +kernel
theorem dX8_cellOf_26 : decode cX8_cellOf 26 = .ok (.iload_n 1, 1) := by decide +kernel
theorem dX8_cellOf_27 : decode cX8_cellOf 27 = .ok (.iaload, 1) := by decide +kernel
theorem dX8_cellOf_28 : decode cX8_cellOf 28 = .ok (.goto 4, 3) := by decide +kernel
theorem dX8_cellOf_31 : decode cX8_cellOf 31 = .ok (.iconst 0, 1) := by decide +kernel
theorem dX8_cellOf_32 : decode cX8_cellOf 32 = .ok (.ireturn, 1) := by decide +kernel
theorem dX8_placeOf_0 : decode cX8_placeOf 0 = .ok (.iconst 0, 1) := by decide +kernel
theorem dX8_placeOf_1 : decode cX8_placeOf 1 = .ok (.istore_n 2, 1) := by decide +kernel
theorem dX8_placeOf_2 : decode cX8_placeOf 2 = .ok (.aload_n 0, 1) := by decide +kernel
theorem dX8_placeOf_3 : decode cX8_placeOf 3 = .ok (.iload_n 1, 1) := by decide +kernel
theorem dX8_placeOf_4 : decode cX8_placeOf 4 = .ok (.iconst 0, 1) := by decide +kernel
theorem dX8_placeOf_5 : decode cX8_placeOf 5 = .ok (.bipush 7, 2) := by decide +kernel
theorem dX8_placeOf_7 : decode cX8_placeOf 7 = .ok (.invokestatic 75, 3) := by decide +kernel
theorem dX8_placeOf_10 : decode cX8_placeOf 10 = .ok (.ifCond .eq 7, 3) := by decide +kernel
theorem dX8_placeOf_13 : decode cX8_placeOf 13 = .ok (.iconst 0, 1) := by decide +kernel
theorem dX8_placeOf_14 : decode cX8_placeOf 14 = .ok (.goto 4, 3) := by decide +kernel
theorem dX8_placeOf_17 : decode cX8_placeOf 17 = .ok (.iconst 1, 1) := by decide +kernel
theorem dX8_placeOf_18 : decode cX8_placeOf 18 = .ok (.invokevirtual 109, 3) := by decide +kernel
theorem dX8_placeOf_21 : decode cX8_placeOf 21 = .ok (.istore_n 3, 1) := by decide +kernel
theorem dX8_placeOf_22 : decode cX8_placeOf 22 = .ok (.iconst 0, 1) := by decide +kernel
theorem dX8_placeOf_23 : decode cX8_placeOf 23 = .ok (.istore 4, 2) := by decide +kernel
theorem dX8_placeOf_25 : decode cX8_placeOf 25 = .ok (.iload 4, 2) := by decide +kernel
theorem dX8_placeOf_27 : decode cX8_placeOf 27 = .ok (.bipush 8, 2) := by decide +kernel
theorem dX8_placeOf_29 : decode cX8_placeOf 29 = .ok (.if_icmp .ge 31, 3) := by decide +kernel
theorem dX8_placeOf_32 : decode cX8_placeOf 32 = .ok (.iload_n 3, 1) := by decide +kernel
theorem dX8_placeOf_33 : decode cX8_placeOf 33 = .ok (.ifCond .eq 27, 3) := by decide +kernel
theorem dX8_placeOf_36 : decode cX8_placeOf 36 = .ok (.aload_n 0, 1) := by decide +kernel
theorem dX8_placeOf_37 : decode cX8_placeOf 37 = .ok (.getfield 43, 3) := by decide +kernel
theorem dX8_placeOf_40 : decode cX8_placeOf 40 = .ok (.iload 4, 2) := by decide +kernel
theorem dX8_placeOf_42 : decode cX8_placeOf 42 = .ok (.iaload, 1) := by decide +kernel
theorem dX8_placeOf_43 : decode cX8_placeOf 43 = .ok (.iload_n 1, 1) := by decide +kernel
theorem dX8_placeOf_44 : decode cX8_placeOf 44 = .ok (.if_icmp .ne 8, 3) := by decide +kernel
theorem dX8_placeOf_47 : decode cX8_placeOf 47 = .ok (.iload 4, 2) := by decide +kernel
theorem dX8_placeOf_49 : decode cX8_placeOf 49 = .ok (.goto 4, 3) := by decide +kernel
theorem dX8_placeOf_52 : decode cX8_placeOf 52 = .ok (.iload_n 2, 1) := by decide +kernel
theorem dX8_placeOf_53 : decode cX8_placeOf 53 = .ok (.istore_n 2, 1) := by decide +kernel
theorem dX8_placeOf_54 : decode cX8_placeOf 54 = .ok (.iinc 4 1, 3) := by decide +kernel
theorem dX8_placeOf_57 : decode cX8_placeOf 57 = .ok (.goto (-32), 3) := by decide +kernel
theorem dX8_placeOf_60 : decode cX8_placeOf 60 = .ok (.iload_n 2, 1) := by decide +kernel
theorem dX8_placeOf_61 : decode cX8_placeOf 61 = .ok (.ireturn, 1) := by decide +kernel
theorem dX8_printsOne_0 : decode cX8_printsOne 0 = .ok (.iconst 0, 1) := by decide +kernel
theorem dX8_printsOne_1 : decode cX8_printsOne 1 = .ok (.istore_n 2, 1) := by decide +kernel
theorem dX8_printsOne_2 : decode cX8_printsOne 2 = .ok (.iload_n 2, 1) := by decide +kernel
theorem dX8_printsOne_3 : decode cX8_printsOne 3 = .ok (.bipush 8, 2) := by decide +kernel
theorem dX8_printsOne_5 : decode cX8_printsOne 5 = .ok (.if_icmp .ge 24, 3) := by decide +kernel
theorem dX8_printsOne_8 : decode cX8_printsOne 8 = .ok (.aload_n 0, 1) := by decide +kernel
theorem dX8_printsOne_9 : decode cX8_printsOne 9 = .ok (.getfield 46, 3) := by decide +kernel
theorem dX8_printsOne_12 : decode cX8_printsOne 12 = .ok (.bipush 8, 2) := by decide +kernel
theorem dX8_printsOne_14 : decode cX8_printsOne 14 = .ok (.aload_n 0, 1) := by decide +kernel
theorem dX8_printsOne_15 : decode cX8_printsOne 15 = .ok (.getfield 143, 3) := by decide +kernel
theorem dX8_printsOne_18 : decode cX8_printsOne 18 = .ok (.imul, 1) := by decide +kernel
theorem dX8_printsOne_19 : decode cX8_printsOne 19 = .ok (.iload_n 2, 1) := by decide +kernel
theorem dX8_printsOne_20 : decode cX8_printsOne 20 = .ok (.iadd, 1) := by decide +kernel
theorem dX8_printsOne_21 : decode cX8_printsOne 21 = .ok (.iconst (-1), 1) := by decide +kernel
theorem dX8_printsOne_22 : decode cX8_printsOne 22 = .ok (.iastore, 1) := by decide +kernel
theorem dX8_printsOne_23 : decode cX8_printsOne 23 = .ok (.iinc 2 1, 3) := by decide +kernel
theorem dX8_printsOne_26 : decode cX8_printsOne 26 = .ok (.goto (-24), 3) := by decide +kernel
theorem dX8_printsOne_29 : decode cX8_printsOne 29 = .ok (.iconst 0, 1) := by decide +kernel
theorem dX8_printsOne_30 : decode cX8_printsOne 30 = .ok (.istore_n 2, 1) := by decide +kernel
theorem dX8_printsOne_31 : decode cX8_printsOne 31 = .ok (.iload_n 2, 1) := by decide +kernel
theorem dX8_printsOne_32 : decode cX8_printsOne 32 = .ok (.bipush 8, 2) := by decide +kernel
theorem dX8_printsOne_34 : decode cX8_printsOne 34 = .ok (.if_icmp .ge 117, 3) := by decide +kernel
theorem dX8_printsOne_37 : decode cX8_printsOne 37 = .ok (.iload_n 1, 1) := by decide +kernel
theorem dX8_printsOne_38 : decode cX8_printsOne 38 = .ok (.iload_n 2, 1) := by decide +kernel
theorem dX8_printsOne_39 : decode cX8_printsOne 39 = .ok (.iadd, 1) := by decide +kernel
theorem dX8_printsOne_40 : decode cX8_printsOne 40 = .ok (.aload_n 0, 1) := by decide +kernel
theorem dX8_printsOne_41 : decode cX8_printsOne 41 = .ok (.getfield 128, 3) := by decide +kernel
theorem dX8_printsOne_44 : decode cX8_printsOne 44 = .ok (.if_icmp .ge 107, 3) := by decide +kernel
theorem dX8_printsOne_47 : decode cX8_printsOne 47 = .ok (.aload_n 0, 1) := by decide +kernel
theorem dX8_printsOne_48 : decode cX8_printsOne 48 = .ok (.getfield 63, 3) := by decide +kernel
theorem dX8_printsOne_51 : decode cX8_printsOne 51 = .ok (.iload_n 1, 1) := by decide +kernel
theorem dX8_printsOne_52 : decode cX8_printsOne 52 = .ok (.iload_n 2, 1) := by decide +kernel
theorem dX8_printsOne_53 : decode cX8_printsOne 53 = .ok (.iadd, 1) := by decide +kernel
theorem dX8_printsOne_54 : decode cX8_printsOne 54 = .ok (.iaload, 1) := by decide +kernel
theorem dX8_printsOne_55 : decode cX8_printsOne 55 = .ok (.istore_n 3, 1) := by decide +kernel
theorem dX8_printsOne_56 : decode cX8_printsOne 56 = .ok (.iload_n 3, 1) := by decide +kernel
theorem dX8_printsOne_57 : decode cX8_printsOne 57 = .ok (.bipush 43, 2) := by decide +kernel
theorem dX8_printsOne_59 : decode cX8_printsOne 59 = .ok (.idiv, 1) := by decide +kernel
theorem dX8_printsOne_60 : decode cX8_printsOne 60 = .ok (.iconst 3, 1) := by decide +kernel
theorem dX8_printsOne_61 : decode cX8_printsOne 61 = .ok (.idiv, 1) := by decide +kernel
theorem dX8_printsOne_62 : decode cX8_printsOne 62 = .ok (.istore 4, 2) := by decide +kernel
theorem dX8_printsOne_64 : decode cX8_printsOne 64 = .ok (.iload_n 3, 1) := by decide +kernel
theorem dX8_printsOne_65 : decode cX8_printsOne 65 = .ok (.bipush 43, 2) := by decide +kernel
theorem dX8_printsOne_67 : decode cX8_printsOne 67 = .ok (.irem, 1) := by decide +kernel
theorem dX8_printsOne_68 : decode cX8_printsOne 68 = .ok (.istore 5, 2) := by decide +kernel
theorem dX8_printsOne_70 : decode cX8_printsOne 70 = .ok (.aload_n 0, 1) := by decide +kernel
theorem dX8_printsOne_71 : decode cX8_printsOne 71 = .ok (.getfield 31, 3) := by decide +kernel
theorem dX8_printsOne_74 : decode cX8_printsOne 74 = .ok (.iload_n 3, 1) := by decide +kernel
theorem dX8_printsOne_75 : decode cX8_printsOne 75 = .ok (.aload_n 0, 1) := by decide +kernel
theorem dX8_printsOne_76 : decode cX8_printsOne 76 = .ok (.aload_n 0, 1) := by decide +kernel
theorem dX8_printsOne_77 : decode cX8_printsOne 77 = .ok (.getfield 22, 3) := by decide +kernel
theorem dX8_printsOne_80 : decode cX8_printsOne 80 = .ok (.iload 4, 2) := by decide +kernel
theorem dX8_printsOne_82 : decode cX8_printsOne 82 = .ok (.iaload, 1) := by decide +kernel
theorem dX8_printsOne_83 : decode cX8_printsOne 83 = .ok (.iload 5, 2) := by decide +kernel
theorem dX8_printsOne_85 : decode cX8_printsOne 85 = .ok (.invokevirtual 101, 3) := by decide +kernel
theorem dX8_printsOne_88 : decode cX8_printsOne 88 = .ok (.iastore, 1) := by decide +kernel
theorem dX8_printsOne_89 : decode cX8_printsOne 89 = .ok (.aload_n 0, 1) := by decide +kernel
theorem dX8_printsOne_90 : decode cX8_printsOne 90 = .ok (.getfield 34, 3) := by decide +kernel
theorem dX8_printsOne_93 : decode cX8_printsOne 93 = .ok (.iload_n 3, 1) := by decide +kernel
theorem dX8_printsOne_94 : decode cX8_printsOne 94 = .ok (.aload_n 0, 1) := by decide +kernel
theorem dX8_printsOne_95 : decode cX8_printsOne 95 = .ok (.getfield 143, 3) := by decide +kernel
theorem dX8_printsOne_98 : decode cX8_printsOne 98 = .ok (.iastore, 1) := by decide +kernel
theorem dX8_printsOne_99 : decode cX8_printsOne 99 = .ok (.aload_n 0, 1) := by decide +kernel
theorem dX8_printsOne_100 : decode cX8_printsOne 100 = .ok (.getfield 37, 3) := by decide +kernel
theorem dX8_printsOne_103 : decode cX8_printsOne 103 = .ok (.iload_n 3, 1) := by decide +kernel
theorem dX8_printsOne_104 : decode cX8_printsOne 104 = .ok (.iconst (-1), 1) := by decide +kernel
theorem dX8_printsOne_105 : decode cX8_printsOne 105 = .ok (.iastore, 1) := by decide +kernel
theorem dX8_printsOne_106 : decode cX8_printsOne 106 = .ok (.aload_n 0, 1) := by decide +kernel
theorem dX8_printsOne_107 : decode cX8_printsOne 107 = .ok (.getfield 46, 3) := by decide +kernel
theorem dX8_printsOne_110 : decode cX8_printsOne 110 = .ok (.bipush 8, 2) := by decide +kernel
theorem dX8_printsOne_112 : decode cX8_printsOne 112 = .ok (.aload_n 0, 1) := by decide +kernel
theorem dX8_printsOne_113 : decode cX8_printsOne 113 = .ok (.getfield 143, 3) := by decide +kernel
theorem dX8_printsOne_116 : decode cX8_printsOne 116 = .ok (.imul, 1) := by decide +kernel
theorem dX8_printsOne_117 : decode cX8_printsOne 117 = .ok (.aload_n 0, 1) := by decide +kernel
theorem dX8_printsOne_118 : decode cX8_printsOne 118 = .ok (.getfield 43, 3) := by decide +kernel
theorem dX8_printsOne_121 : decode cX8_printsOne 121 = .ok (.iload_n 2, 1) := by decide +kernel
theorem dX8_printsOne_122 : decode cX8_printsOne 122 = .ok (.iaload, 1) := by decide +kernel
theorem dX8_printsOne_123 : decode cX8_printsOne 123 = .ok (.iadd, 1) := by decide +kernel
theorem dX8_printsOne_124 : decode cX8_printsOne 124 = .ok (.sipush 10000, 3) := by decide +kernel
theorem dX8_printsOne_127 : decode cX8_printsOne 127 = .ok (.iload 4, 2) := by decide +kernel
theorem dX8_printsOne_129 : decode cX8_printsOne 129 = .ok (.imul, 1) := by decide +kernel
theorem dX8_printsOne_130 : decode cX8_printsOne 130 = .ok (.sipush 1000, 3) := by decide +kernel
theorem dX8_printsOne_133 : decode cX8_printsOne 133 = .ok (.iload_n 3, 1) := by decide +kernel
theorem dX8_printsOne_134 : decode cX8_printsOne 134 = .ok (.bipush 43, 2) := by decide +kernel
theorem dX8_printsOne_136 : decode cX8_printsOne 136 = .ok (.idiv, 1) := by decide +kernel
theorem dX8_printsOne_137 : decode cX8_printsOne 137 = .ok (.iconst 3, 1) := by decide +kernel
theorem dX8_printsOne_138 : decode cX8_printsOne 138 = .ok (.irem, 1) := by decide +kernel
theorem dX8_printsOne_139 : decode cX8_printsOne 139 = .ok (.imul, 1) := by decide +kernel
theorem dX8_printsOne_140 : decode cX8_printsOne 140 = .ok (.iadd, 1) := by decide +kernel
theorem dX8_printsOne_141 : decode cX8_printsOne 141 = .ok (.iload 5, 2) := by decide +kernel
theorem dX8_printsOne_143 : decode cX8_printsOne 143 = .ok (.iadd, 1) := by decide +kernel
theorem dX8_printsOne_144 : decode cX8_printsOne 144 = .ok (.iastore, 1) := by decide +kernel
theorem dX8_printsOne_145 : decode cX8_printsOne 145 = .ok (.iinc 2 1, 3) := by decide +kernel
theorem dX8_printsOne_148 : decode cX8_printsOne 148 = .ok (.goto (-117), 3) := by decide +kernel
theorem dX8_printsOne_151 : decode cX8_printsOne 151 = .ok (.aload_n 0, 1) := by decide +kernel
theorem dX8_printsOne_152 : decode cX8_printsOne 152 = .ok (.getfield 49, 3) := by decide +kernel
theorem dX8_printsOne_155 : decode cX8_printsOne 155 = .ok (.aload_n 0, 1) := by decide +kernel
theorem dX8_printsOne_156 : decode cX8_printsOne 156 = .ok (.getfield 143, 3) := by decide +kernel
theorem dX8_printsOne_159 : decode cX8_printsOne 159 = .ok (.iconst 1, 1) := by decide +kernel
theorem dX8_printsOne_160 : decode cX8_printsOne 160 = .ok (.bastore, 1) := by decide +kernel
theorem dX8_printsOne_161 : decode cX8_printsOne 161 = .ok (.aload_n 0, 1) := by decide +kernel
theorem dX8_printsOne_162 : decode cX8_printsOne 162 = .ok (.dup, 1) := by decide +kernel
theorem dX8_printsOne_163 : decode cX8_printsOne 163 = .ok (.getfield 143, 3) := by decide +kernel
theorem dX8_printsOne_166 : decode cX8_printsOne 166 = .ok (.iconst 1, 1) := by decide +kernel
theorem dX8_printsOne_167 : decode cX8_printsOne 167 = .ok (.iadd, 1) := by decide +kernel
theorem dX8_printsOne_168 : decode cX8_printsOne 168 = .ok (.putfield 143, 3) := by decide +kernel
theorem dX8_printsOne_171 : decode cX8_printsOne 171 = .ok (.return_, 1) := by decide +kernel
theorem dX8_print_0 : decode cX8_print 0 = .ok (.aload_n 0, 1) := by decide +kernel
theorem dX8_print_1 : decode cX8_print 1 = .ok (.iload_n 1, 1) := by decide +kernel
theorem dX8_print_2 : decode cX8_print 2 = .ok (.iconst 1, 1) := by decide +kernel
theorem dX8_print_3 : decode cX8_print 3 = .ok (.bipush 10, 2) := by decide +kernel
theorem dX8_print_5 : decode cX8_print 5 = .ok (.invokestatic 75, 3) := by decide +kernel
theorem dX8_print_8 : decode cX8_print 8 = .ok (.ifCond .eq 7, 3) := by decide +kernel
theorem dX8_print_11 : decode cX8_print 11 = .ok (.iconst 0, 1) := by decide +kernel
theorem dX8_print_12 : decode cX8_print 12 = .ok (.goto 4, 3) := by decide +kernel
theorem dX8_print_15 : decode cX8_print 15 = .ok (.iconst 1, 1) := by decide +kernel
theorem dX8_print_16 : decode cX8_print 16 = .ok (.invokevirtual 109, 3) := by decide +kernel
theorem dX8_print_19 : decode cX8_print 19 = .ok (.ifCond .ne 5, 3) := by decide +kernel
theorem dX8_print_22 : decode cX8_print 22 = .ok (.iconst 0, 1) := by decide +kernel
theorem dX8_print_23 : decode cX8_print 23 = .ok (.ireturn, 1) := by decide +kernel
theorem dX8_print_24 : decode cX8_print 24 = .ok (.aload_n 0, 1) := by decide +kernel
theorem dX8_print_25 : decode cX8_print 25 = .ok (.invokevirtual 134, 3) := by decide +kernel
theorem dX8_print_28 : decode cX8_print 28 = .ok (.aload_n 0, 1) := by decide +kernel
theorem dX8_print_29 : decode cX8_print 29 = .ok (.getfield 128, 3) := by decide +kernel
theorem dX8_print_32 : decode cX8_print 32 = .ok (.bipush 8, 2) := by decide +kernel
theorem dX8_print_34 : decode cX8_print 34 = .ok (.iadd, 1) := by decide +kernel
theorem dX8_print_35 : decode cX8_print 35 = .ok (.iconst 1, 1) := by decide +kernel
theorem dX8_print_36 : decode cX8_print 36 = .ok (.isub, 1) := by decide +kernel
theorem dX8_print_37 : decode cX8_print 37 = .ok (.bipush 8, 2) := by decide +kernel
theorem dX8_print_39 : decode cX8_print 39 = .ok (.idiv, 1) := by decide +kernel
theorem dX8_print_40 : decode cX8_print 40 = .ok (.istore_n 2, 1) := by decide +kernel
theorem dX8_print_41 : decode cX8_print 41 = .ok (.iload_n 2, 1) := by decide +kernel
theorem dX8_print_42 : decode cX8_print 42 = .ok (.iload_n 1, 1) := by decide +kernel
theorem dX8_print_43 : decode cX8_print 43 = .ok (.if_icmp .ge 7, 3) := by decide +kernel
theorem dX8_print_46 : decode cX8_print 46 = .ok (.iload_n 2, 1) := by decide +kernel
theorem dX8_print_47 : decode cX8_print 47 = .ok (.goto 4, 3) := by decide +kernel
theorem dX8_print_50 : decode cX8_print 50 = .ok (.iload_n 1, 1) := by decide +kernel
theorem dX8_print_51 : decode cX8_print 51 = .ok (.istore_n 3, 1) := by decide +kernel
theorem dX8_print_52 : decode cX8_print 52 = .ok (.aload_n 0, 1) := by decide +kernel
theorem dX8_print_53 : decode cX8_print 53 = .ok (.aload_n 0, 1) := by decide +kernel
theorem dX8_print_54 : decode cX8_print 54 = .ok (.getfield 143, 3) := by decide +kernel
theorem dX8_print_57 : decode cX8_print 57 = .ok (.iload_n 3, 1) := by decide +kernel
theorem dX8_print_58 : decode cX8_print 58 = .ok (.iadd, 1) := by decide +kernel
theorem dX8_print_59 : decode cX8_print 59 = .ok (.bipush 50, 2) := by decide +kernel
theorem dX8_print_61 : decode cX8_print 61 = .ok (.if_icmp .le 7, 3) := by decide +kernel
theorem dX8_print_64 : decode cX8_print 64 = .ok (.iconst 2, 1) := by decide +kernel
theorem dX8_print_65 : decode cX8_print 65 = .ok (.goto 4, 3) := by decide +kernel
theorem dX8_print_68 : decode cX8_print 68 = .ok (.iconst 0, 1) := by decide +kernel
theorem dX8_print_69 : decode cX8_print 69 = .ok (.invokevirtual 109, 3) := by decide +kernel
theorem dX8_print_72 : decode cX8_print 72 = .ok (.ifCond .ne 5, 3) := by decide +kernel
theorem dX8_print_75 : decode cX8_print 75 = .ok (.iconst 0, 1) := by decide +kernel
theorem dX8_print_76 : decode cX8_print 76 = .ok (.ireturn, 1) := by decide +kernel
theorem dX8_print_77 : decode cX8_print 77 = .ok (.iconst 0, 1) := by decide +kernel
theorem dX8_print_78 : decode cX8_print 78 = .ok (.istore 4, 2) := by decide +kernel
theorem dX8_print_80 : decode cX8_print 80 = .ok (.iload 4, 2) := by decide +kernel
theorem dX8_print_82 : decode cX8_print 82 = .ok (.iload_n 3, 1) := by decide +kernel
theorem dX8_print_83 : decode cX8_print 83 = .ok (.if_icmp .ge 18, 3) := by decide +kernel
theorem dX8_print_86 : decode cX8_print 86 = .ok (.aload_n 0, 1) := by decide +kernel
theorem dX8_print_87 : decode cX8_print 87 = .ok (.bipush 8, 2) := by decide +kernel
theorem dX8_print_89 : decode cX8_print 89 = .ok (.iload 4, 2) := by decide +kernel
theorem dX8_print_91 : decode cX8_print 91 = .ok (.imul, 1) := by decide +kernel
theorem dX8_print_92 : decode cX8_print 92 = .ok (.invokevirtual 146, 3) := by decide +kernel
theorem dX8_print_95 : decode cX8_print 95 = .ok (.iinc 4 1, 3) := by decide +kernel
theorem dX8_print_98 : decode cX8_print 98 = .ok (.goto (-18), 3) := by decide +kernel
theorem dX8_print_101 : decode cX8_print 101 = .ok (.iload_n 3, 1) := by decide +kernel
theorem dX8_print_102 : decode cX8_print 102 = .ok (.ireturn, 1) := by decide +kernel
theorem dX8_waiting_0 : decode cX8_waiting 0 = .ok (.aload_n 0, 1) := by decide +kernel
theorem dX8_waiting_1 : decode cX8_waiting 1 = .ok (.iconst 0, 1) := by decide +kernel
theorem dX8_waiting_2 : decode cX8_waiting 2 = .ok (.putfield 69, 3) := by decide +kernel
theorem dX8_waiting_5 : decode cX8_waiting 5 = .ok (.iconst 0, 1) := by decide +kernel
theorem dX8_waiting_6 : decode cX8_waiting 6 = .ok (.istore_n 1, 1) := by decide +kernel
theorem dX8_waiting_7 : decode cX8_waiting 7 = .ok (.iconst 0, 1) := by decide +kernel
theorem dX8_waiting_8 : decode cX8_waiting 8 = .ok (.istore_n 2, 1) := by decide +kernel
theorem dX8_waiting_9 : decode cX8_waiting 9 = .ok (.iload_n 2, 1) := by decide +kernel
theorem dX8_waiting_10 : decode cX8_waiting 10 = .ok (.aload_n 0, 1) := by decide +kernel
theorem dX8_waiting_11 : decode cX8_waiting 11 = .ok (.getfield 143, 3) := by decide +kernel
theorem dX8_waiting_14 : decode cX8_waiting 14 = .ok (.if_icmp .ge 26, 3) := by decide +kernel
theorem dX8_waiting_17 : decode cX8_waiting 17 = .ok (.iload_n 1, 1) := by decide +kernel
theorem dX8_waiting_18 : decode cX8_waiting 18 = .ok (.aload_n 0, 1) := by decide +kernel
theorem dX8_waiting_19 : decode cX8_waiting 19 = .ok (.getfield 49, 3) := by decide +kernel
theorem dX8_waiting_22 : decode cX8_waiting 22 = .ok (.iload_n 2, 1) := by decide +kernel
theorem dX8_waiting_23 : decode cX8_waiting 23 = .ok (.baload, 1) := by decide +kernel
theorem dX8_waiting_24 : decode cX8_waiting 24 = .ok (.ifCond .eq 7, 3) := by decide +kernel
theorem dX8_waiting_27 : decode cX8_waiting 27 = .ok (.iconst 1, 1) := by decide +kernel
theorem dX8_waiting_28 : decode cX8_waiting 28 = .ok (.goto 4, 3) := by decide +kernel
theorem dX8_waiting_31 : decode cX8_waiting 31 = .ok (.iconst 0, 1) := by decide +kernel
theorem dX8_waiting_32 : decode cX8_waiting 32 = .ok (.iadd, 1) := by decide +kernel
theorem dX8_waiting_33 : decode cX8_waiting 33 = .ok (.istore_n 1, 1) := by decide +kernel
theorem dX8_waiting_34 : decode cX8_waiting 34 = .ok (.iinc 2 1, 3) := by decide +kernel
theorem dX8_waiting_37 : decode cX8_waiting 37 = .ok (.goto (-28), 3) := by decide +kernel
theorem dX8_waiting_40 : decode cX8_waiting 40 = .ok (.iload_n 1, 1) := by decide +kernel
theorem dX8_waiting_41 : decode cX8_waiting 41 = .ok (.ireturn, 1) := by decide +kernel
theorem dX8_onSheet_0 : decode cX8_onSheet 0 = .ok (.aload_n 0, 1) := by decide +kernel
theorem dX8_onSheet_1 : decode cX8_onSheet 1 = .ok (.iload_n 2, 1) := by decide +kernel
theorem dX8_onSheet_2 : decode cX8_onSheet 2 = .ok (.iconst 0, 1) := by decide +kernel
theorem dX8_onSheet_3 : decode cX8_onSheet 3 = .ok (.bipush 7, 2) := by decide +kernel
theorem dX8_onSheet_5 : decode cX8_onSheet 5 = .ok (.invokestatic 75, 3) := by decide +kernel
theorem dX8_onSheet_8 : decode cX8_onSheet 8 = .ok (.ifCond .ne 7, 3) := by decide +kernel
theorem dX8_onSheet_11 : decode cX8_onSheet 11 = .ok (.iconst 1, 1) := by decide +kernel
theorem dX8_onSheet_12 : decode cX8_onSheet 12 = .ok (.goto 22, 3) := by decide +kernel
theorem dX8_onSheet_15 : decode cX8_onSheet 15 = .ok (.iload_n 1, 1) := by decide +kernel
theorem dX8_onSheet_16 : decode cX8_onSheet 16 = .ok (.iconst 0, 1) := by decide +kernel
theorem dX8_onSheet_17 : decode cX8_onSheet 17 = .ok (.aload_n 0, 1) := by decide +kernel
theorem dX8_onSheet_18 : decode cX8_onSheet 18 = .ok (.getfield 143, 3) := by decide +kernel
theorem dX8_onSheet_21 : decode cX8_onSheet 21 = .ok (.iconst 1, 1) := by decide +kernel
theorem dX8_onSheet_22 : decode cX8_onSheet 22 = .ok (.isub, 1) := by decide +kernel
theorem dX8_onSheet_23 : decode cX8_onSheet 23 = .ok (.invokestatic 75, 3) := by decide +kernel
theorem dX8_onSheet_26 : decode cX8_onSheet 26 = .ok (.ifCond .eq 7, 3) := by decide +kernel
theorem dX8_onSheet_29 : decode cX8_onSheet 29 = .ok (.iconst 0, 1) := by decide +kernel
theorem dX8_onSheet_30 : decode cX8_onSheet 30 = .ok (.goto 4, 3) := by decide +kernel
theorem dX8_onSheet_33 : decode cX8_onSheet 33 = .ok (.iconst 2, 1) := by decide +kernel
theorem dX8_onSheet_34 : decode cX8_onSheet 34 = .ok (.invokevirtual 109, 3) := by decide +kernel
theorem dX8_onSheet_37 : decode cX8_onSheet 37 = .ok (.ifCond .ne 5, 3) := by decide +kernel
theorem dX8_onSheet_40 : decode cX8_onSheet 40 = .ok (.iconst 0, 1) := by decide +kernel
theorem dX8_onSheet_41 : decode cX8_onSheet 41 = .ok (.ireturn, 1) := by decide +kernel
theorem dX8_onSheet_42 : decode cX8_onSheet 42 = .ok (.aload_n 0, 1) := by decide +kernel
theorem dX8_onSheet_43 : decode cX8_onSheet 43 = .ok (.getfield 46, 3) := by decide +kernel
theorem dX8_onSheet_46 : decode cX8_onSheet 46 = .ok (.bipush 8, 2) := by decide +kernel
theorem dX8_onSheet_48 : decode cX8_onSheet 48 = .ok (.iload_n 1, 1) := by decide +kernel
theorem dX8_onSheet_49 : decode cX8_onSheet 49 = .ok (.imul, 1) := by decide +kernel
theorem dX8_onSheet_50 : decode cX8_onSheet 50 = .ok (.iload_n 2, 1) := by decide +kernel
theorem dX8_onSheet_51 : decode cX8_onSheet 51 = .ok (.iadd, 1) := by decide +kernel
theorem dX8_onSheet_52 : decode cX8_onSheet 52 = .ok (.iaload, 1) := by decide +kernel
theorem dX8_onSheet_53 : decode cX8_onSheet 53 = .ok (.ireturn, 1) := by decide +kernel
theorem dX8_longest_0 : decode cX8_longest 0 = .ok (.iconst (-1), 1) := by decide +kernel
theorem dX8_longest_1 : decode cX8_longest 1 = .ok (.istore_n 1, 1) := by decide +kernel
theorem dX8_longest_2 : decode cX8_longest 2 = .ok (.aload_n 0, 1) := by decide +kernel
theorem dX8_longest_3 : decode cX8_longest 3 = .ok (.getfield 143, 3) := by decide +kernel
theorem dX8_longest_6 : decode cX8_longest 6 = .ok (.iconst 1, 1) := by decide +kernel
theorem dX8_longest_7 : decode cX8_longest 7 = .ok (.isub, 1) := by decide +kernel
theorem dX8_longest_8 : decode cX8_longest 8 = .ok (.istore_n 2, 1) := by decide +kernel
theorem dX8_longest_9 : decode cX8_longest 9 = .ok (.iload_n 2, 1) := by decide +kernel
theorem dX8_longest_10 : decode cX8_longest 10 = .ok (.ifCond .lt 24, 3) := by decide +kernel
theorem dX8_longest_13 : decode cX8_longest 13 = .ok (.aload_n 0, 1) := by decide +kernel
theorem dX8_longest_14 : decode cX8_longest 14 = .ok (.getfield 49, 3) := by decide +kernel
theorem dX8_longest_17 : decode cX8_longest 17 = .ok (.iload_n 2, 1) := by decide +kernel
theorem dX8_longest_18 : decode cX8_longest 18 = .ok (.baload, 1) := by decide +kernel
theorem dX8_longest_19 : decode cX8_longest 19 = .ok (.ifCond .eq 7, 3) := by decide +kernel
theorem dX8_longest_22 : decode cX8_longest 22 = .ok (.iload_n 2, 1) := by decide +kernel
theorem dX8_longest_23 : decode cX8_longest 23 = .ok (.goto 4, 3) := by decide +kernel
theorem dX8_longest_26 : decode cX8_longest 26 = .ok (.iload_n 1, 1) := by decide +kernel
theorem dX8_longest_27 : decode cX8_longest 27 = .ok (.istore_n 1, 1) := by decide +kernel
theorem dX8_longest_28 : decode cX8_longest 28 = .ok (.iinc 2 (-1), 3) := by decide +kernel
theorem dX8_longest_31 : decode cX8_longest 31 = .ok (.goto (-22), 3) := by decide +kernel
theorem dX8_longest_34 : decode cX8_longest 34 = .ok (.iload_n 1, 1) := by decide +kernel
theorem dX8_longest_35 : decode cX8_longest 35 = .ok (.ireturn, 1) := by decide +kernel
theorem dX8_isOn_0 : decode cX8_isOn 0 = .ok (.iload_n 1, 1) := by decide +kernel
theorem dX8_isOn_1 : decode cX8_isOn 1 = .ok (.bipush 43, 2) := by decide +kernel
theorem dX8_isOn_3 : decode cX8_isOn 3 = .ok (.idiv, 1) := by decide +kernel
theorem dX8_isOn_4 : decode cX8_isOn 4 = .ok (.iconst 3, 1) := by decide +kernel
theorem dX8_isOn_5 : decode cX8_isOn 5 = .ok (.idiv, 1) := by decide +kernel
theorem dX8_isOn_6 : decode cX8_isOn 6 = .ok (.aload_n 0, 1) := by decide +kernel
theorem dX8_isOn_7 : decode cX8_isOn 7 = .ok (.getfield 79, 3) := by decide +kernel
theorem dX8_isOn_10 : decode cX8_isOn 10 = .ok (.if_icmp .ge 37, 3) := by decide +kernel
theorem dX8_isOn_13 : decode cX8_isOn 13 = .ok (.aload_n 0, 1) := by decide +kernel
theorem dX8_isOn_14 : decode cX8_isOn 14 = .ok (.getfield 31, 3) := by decide +kernel
theorem dX8_isOn_17 : decode cX8_isOn 17 = .ok (.iload_n 1, 1) := by decide +kernel
theorem dX8_isOn_18 : decode cX8_isOn 18 = .ok (.iaload, 1) := by decide +kernel
theorem dX8_isOn_19 : decode cX8_isOn 19 = .ok (.iconst (-1), 1) := by decide +kernel
theorem dX8_isOn_20 : decode cX8_isOn 20 = .ok (.if_icmp .eq 27, 3) := by decide +kernel
theorem dX8_isOn_23 : decode cX8_isOn 23 = .ok (.aload_n 0, 1) := by decide +kernel
theorem dX8_isOn_24 : decode cX8_isOn 24 = .ok (.getfield 37, 3) := by decide +kernel
theorem dX8_isOn_27 : decode cX8_isOn 27 = .ok (.iload_n 1, 1) := by decide +kernel
theorem dX8_isOn_28 : decode cX8_isOn 28 = .ok (.iaload, 1) := by decide +kernel
theorem dX8_isOn_29 : decode cX8_isOn 29 = .ok (.iconst (-1), 1) := by decide +kernel
theorem dX8_isOn_30 : decode cX8_isOn 30 = .ok (.if_icmp .ne 17, 3) := by decide +kernel
theorem dX8_isOn_33 : decode cX8_isOn 33 = .ok (.aload_n 0, 1) := by decide +kernel
theorem dX8_isOn_34 : decode cX8_isOn 34 = .ok (.getfield 34, 3) := by decide +kernel
theorem dX8_isOn_37 : decode cX8_isOn 37 = .ok (.iload_n 1, 1) := by decide +kernel
theorem dX8_isOn_38 : decode cX8_isOn 38 = .ok (.iaload, 1) := by decide +kernel
theorem dX8_isOn_39 : decode cX8_isOn 39 = .ok (.iload_n 2, 1) := by decide +kernel
theorem dX8_isOn_40 : decode cX8_isOn 40 = .ok (.if_icmp .ne 7, 3) := by decide +kernel
theorem dX8_isOn_43 : decode cX8_isOn 43 = .ok (.iconst 1, 1) := by decide +kernel
theorem dX8_isOn_44 : decode cX8_isOn 44 = .ok (.goto 4, 3) := by decide +kernel
theorem dX8_isOn_47 : decode cX8_isOn 47 = .ok (.iconst 0, 1) := by decide +kernel
theorem dX8_isOn_48 : decode cX8_isOn 48 = .ok (.ireturn, 1) := by decide +kernel
theorem dX8_cut_0 : decode cX8_cut 0 = .ok (.aload_n 0, 1) := by decide +kernel
theorem dX8_cut_1 : decode cX8_cut 1 = .ok (.invokevirtual 149, 3) := by decide +kernel
theorem dX8_cut_4 : decode cX8_cut 4 = .ok (.istore_n 2, 1) := by decide +kernel
theorem dX8_cut_5 : decode cX8_cut 5 = .ok (.aload_n 0, 1) := by decide +kernel
theorem dX8_cut_6 : decode cX8_cut 6 = .ok (.iload_n 1, 1) := by decide +kernel
theorem dX8_cut_7 : decode cX8_cut 7 = .ok (.iconst 0, 1) := by decide +kernel
theorem dX8_cut_8 : decode cX8_cut 8 = .ok (.iconst 1, 1) := by decide +kernel
theorem dX8_cut_9 : decode cX8_cut 9 = .ok (.invokestatic 75, 3) := by decide +kernel
theorem dX8_cut_12 : decode cX8_cut 12 = .ok (.ifCond .ne 7, 3) := by decide +kernel
theorem dX8_cut_15 : decode cX8_cut 15 = .ok (.iconst 1, 1) := by decide +kernel
theorem dX8_cut_16 : decode cX8_cut 16 = .ok (.goto 13, 3) := by decide +kernel
theorem dX8_cut_19 : decode cX8_cut 19 = .ok (.iload_n 2, 1) := by decide +kernel
theorem dX8_cut_20 : decode cX8_cut 20 = .ok (.iconst (-1), 1) := by decide +kernel
theorem dX8_cut_21 : decode cX8_cut 21 = .ok (.if_icmp .ne 7, 3) := by decide +kernel
theorem dX8_cut_24 : decode cX8_cut 24 = .ok (.iconst 2, 1) := by decide +kernel
theorem dX8_cut_25 : decode cX8_cut 25 = .ok (.goto 4, 3) := by decide +kernel
theorem dX8_cut_28 : decode cX8_cut 28 = .ok (.iconst 0, 1) := by decide +kernel
theorem dX8_cut_29 : decode cX8_cut 29 = .ok (.invokevirtual 109, 3) := by decide +kernel
theorem dX8_cut_32 : decode cX8_cut 32 = .ok (.ifCond .ne 5, 3) := by decide +kernel
theorem dX8_cut_35 : decode cX8_cut 35 = .ok (.iconst 0, 1) := by decide +kernel
theorem dX8_cut_36 : decode cX8_cut 36 = .ok (.ireturn, 1) := by decide +kernel
theorem dX8_cut_37 : decode cX8_cut 37 = .ok (.aload_n 0, 1) := by decide +kernel
theorem dX8_cut_38 : decode cX8_cut 38 = .ok (.getfield 53, 3) := by decide +kernel
theorem dX8_cut_41 : decode cX8_cut 41 = .ok (.iload_n 1, 1) := by decide +kernel
theorem dX8_cut_42 : decode cX8_cut 42 = .ok (.iaload, 1) := by decide +kernel
theorem dX8_cut_43 : decode cX8_cut 43 = .ok (.iconst 4, 1) := by decide +kernel
theorem dX8_cut_44 : decode cX8_cut 44 = .ok (.idiv, 1) := by decide +kernel
theorem dX8_cut_45 : decode cX8_cut 45 = .ok (.istore_n 3, 1) := by decide +kernel
theorem dX8_cut_46 : decode cX8_cut 46 = .ok (.aload_n 0, 1) := by decide +kernel
theorem dX8_cut_47 : decode cX8_cut 47 = .ok (.getfield 53, 3) := by decide +kernel
theorem dX8_cut_50 : decode cX8_cut 50 = .ok (.iload_n 1, 1) := by decide +kernel
theorem dX8_cut_51 : decode cX8_cut 51 = .ok (.dup2, 1) := by decide +kernel
theorem dX8_cut_52 : decode cX8_cut 52 = .ok (.iaload, 1) := by decide +kernel
theorem dX8_cut_53 : decode cX8_cut 53 = .ok (.aload_n 0, 1) := by decide +kernel
theorem dX8_cut_54 : decode cX8_cut 54 = .ok (.getfield 53, 3) := by decide +kernel
theorem dX8_cut_57 : decode cX8_cut 57 = .ok (.iload_n 1, 1) := by decide +kernel
theorem dX8_cut_58 : decode cX8_cut 58 = .ok (.iaload, 1) := by decide +kernel
theorem dX8_cut_59 : decode cX8_cut 59 = .ok (.bipush 60, 2) := by decide +kernel
theorem dX8_cut_61 : decode cX8_cut 61 = .ok (.if_icmp .ge 7, 3) := by decide +kernel
theorem dX8_cut_64 : decode cX8_cut 64 = .ok (.iconst 1, 1) := by decide +kernel
theorem dX8_cut_65 : decode cX8_cut 65 = .ok (.goto 4, 3) := by decide +kernel
theorem dX8_cut_68 : decode cX8_cut 68 = .ok (.iconst 0, 1) := by decide +kernel
theorem dX8_cut_69 : decode cX8_cut 69 = .ok (.iadd, 1) := by decide +kernel
theorem dX8_cut_70 : decode cX8_cut 70 = .ok (.iastore, 1) := by decide +kernel
theorem dX8_cut_71 : decode cX8_cut 71 = .ok (.iconst 0, 1) := by decide +kernel
theorem dX8_cut_72 : decode cX8_cut 72 = .ok (.istore 4, 2) := by decide +kernel
theorem dX8_cut_74 : decode cX8_cut 74 = .ok (.iload 4, 2) := by decide +kernel
theorem dX8_cut_76 : decode cX8_cut 76 = .ok (.sipush 645, 3) := by decide +kernel
theorem dX8_cut_79 : decode cX8_cut 79 = .ok (.if_icmp .ge 37, 3) := by decide +kernel
theorem dX8_cut_82 : decode cX8_cut 82 = .ok (.aload_n 0, 1) := by decide +kernel
theorem dX8_cut_83 : decode cX8_cut 83 = .ok (.getfield 37, 3) := by decide +kernel
theorem dX8_cut_86 : decode cX8_cut 86 = .ok (.iload 4, 2) := by decide +kernel
theorem dX8_cut_88 : decode cX8_cut 88 = .ok (.aload_n 0, 1) := by decide +kernel
theorem dX8_cut_89 : decode cX8_cut 89 = .ok (.iload 4, 2) := by decide +kernel
theorem dX8_cut_91 : decode cX8_cut 91 = .ok (.iload_n 2, 1) := by decide +kernel
theorem dX8_cut_92 : decode cX8_cut 92 = .ok (.invokevirtual 153, 3) := by decide +kernel
theorem dX8_cut_95 : decode cX8_cut 95 = .ok (.ifCond .eq 7, 3) := by decide +kernel
theorem dX8_cut_98 : decode cX8_cut 98 = .ok (.iload_n 3, 1) := by decide +kernel
theorem dX8_cut_99 : decode cX8_cut 99 = .ok (.goto 10, 3) := by decide +kernel
theorem dX8_cut_102 : decode cX8_cut 102 = .ok (.aload_n 0, 1) := by decide +kernel
theorem dX8_cut_103 : decode cX8_cut 103 = .ok (.getfield 37, 3) := by decide +kernel
theorem dX8_cut_106 : decode cX8_cut 106 = .ok (.iload 4, 2) := by decide +kernel
theorem dX8_cut_108 : decode cX8_cut 108 = .ok (.iaload, 1) := by decide +kernel
theorem dX8_cut_109 : decode cX8_cut 109 = .ok (.iastore, 1) := by decide +kernel
theorem dX8_cut_110 : decode cX8_cut 110 = .ok (.iinc 4 1, 3) := by decide +kernel
theorem dX8_cut_113 : decode cX8_cut 113 = .ok (.goto (-39), 3) := by decide +kernel
theorem dX8_cut_116 : decode cX8_cut 116 = .ok (.aload_n 0, 1) := by decide +kernel
theorem dX8_cut_117 : decode cX8_cut 117 = .ok (.getfield 49, 3) := by decide +kernel
theorem dX8_cut_120 : decode cX8_cut 120 = .ok (.iload_n 2, 1) := by decide +kernel
theorem dX8_cut_121 : decode cX8_cut 121 = .ok (.iconst 0, 1) := by decide +kernel
theorem dX8_cut_122 : decode cX8_cut 122 = .ok (.bastore, 1) := by decide +kernel
theorem dX8_cut_123 : decode cX8_cut 123 = .ok (.iload_n 3, 1) := by decide +kernel
theorem dX8_cut_124 : decode cX8_cut 124 = .ok (.ireturn, 1) := by decide +kernel
theorem dX8_discard_0 : decode cX8_discard 0 = .ok (.aload_n 0, 1) := by decide +kernel
theorem dX8_discard_1 : decode cX8_discard 1 = .ok (.iconst 0, 1) := by decide +kernel
theorem dX8_discard_2 : decode cX8_discard 2 = .ok (.putfield 69, 3) := by decide +kernel
theorem dX8_discard_5 : decode cX8_discard 5 = .ok (.iconst 0, 1) := by decide +kernel
theorem dX8_discard_6 : decode cX8_discard 6 = .ok (.istore_n 1, 1) := by decide +kernel
theorem dX8_discard_7 : decode cX8_discard 7 = .ok (.iconst 0, 1) := by decide +kernel
theorem dX8_discard_8 : decode cX8_discard 8 = .ok (.istore_n 2, 1) := by decide +kernel
theorem dX8_discard_9 : decode cX8_discard 9 = .ok (.iload_n 2, 1) := by decide +kernel
theorem dX8_discard_10 : decode cX8_discard 10 = .ok (.aload_n 0, 1) := by decide +kernel
theorem dX8_discard_11 : decode cX8_discard 11 = .ok (.getfield 143, 3) := by decide +kernel
theorem dX8_discard_14 : decode cX8_discard 14 = .ok (.if_icmp .ge 75, 3) := by decide +kernel
theorem dX8_discard_17 : decode cX8_discard 17 = .ok (.aload_n 0, 1) := by decide +kernel
theorem dX8_discard_18 : decode cX8_discard 18 = .ok (.getfield 49, 3) := by decide +kernel
theorem dX8_discard_21 : decode cX8_discard 21 = .ok (.iload_n 2, 1) := by decide +kernel
theorem dX8_discard_22 : decode cX8_discard 22 = .ok (.baload, 1) := by decide +kernel
theorem dX8_discard_23 : decode cX8_discard 23 = .ok (.ifCond .ne 7, 3) := by decide +kernel
theorem dX8_discard_26 : decode cX8_discard 26 = .ok (.iconst 1, 1) := by decide +kernel
theorem dX8_discard_27 : decode cX8_discard 27 = .ok (.goto 4, 3) := by decide +kernel
theorem dX8_discard_30 : decode cX8_discard 30 = .ok (.iconst 0, 1) := by decide +kernel
theorem dX8_discard_31 : decode cX8_discard 31 = .ok (.istore_n 3, 1) := by decide +kernel
theorem dX8_discard_32 : decode cX8_discard 32 = .ok (.iconst 0, 1) := by decide +kernel
theorem dX8_discard_33 : decode cX8_discard 33 = .ok (.istore 4, 2) := by decide +kernel
theorem dX8_discard_35 : decode cX8_discard 35 = .ok (.iload 4, 2) := by decide +kernel
theorem dX8_discard_37 : decode cX8_discard 37 = .ok (.sipush 645, 3) := by decide +kernel
theorem dX8_discard_40 : decode cX8_discard 40 = .ok (.if_icmp .ge 29, 3) := by decide +kernel
theorem dX8_discard_43 : decode cX8_discard 43 = .ok (.iload_n 3, 1) := by decide +kernel
theorem dX8_discard_44 : decode cX8_discard 44 = .ok (.ifCond .ne 13, 3) := by decide +kernel
theorem dX8_discard_47 : decode cX8_discard 47 = .ok (.aload_n 0, 1) := by decide +kernel
theorem dX8_discard_48 : decode cX8_discard 48 = .ok (.iload 4, 2) := by decide +kernel
theorem dX8_discard_50 : decode cX8_discard 50 = .ok (.iload_n 2, 1) := by decide +kernel
theorem dX8_discard_51 : decode cX8_discard 51 = .ok (.invokevirtual 153, 3) := by decide +kernel
theorem dX8_discard_54 : decode cX8_discard 54 = .ok (.ifCond .eq 7, 3) := by decide +kernel
theorem dX8_discard_57 : decode cX8_discard 57 = .ok (.iconst 1, 1) := by decide +kernel
theorem dX8_discard_58 : decode cX8_discard 58 = .ok (.goto 4, 3) := by decide +kernel
theorem dX8_discard_61 : decode cX8_discard 61 = .ok (.iconst 0, 1) := by decide +kernel
theorem dX8_discard_62 : decode cX8_discard 62 = .ok (.istore_n 3, 1) := by decide +kernel
theorem dX8_discard_63 : decode cX8_discard 63 = .ok (.iinc 4 1, 3) := by decide +kernel
theorem dX8_discard_66 : decode cX8_discard 66 = .ok (.goto (-31), 3) := by decide +kernel
theorem dX8_discard_69 : decode cX8_discard 69 = .ok (.iload_n 3, 1) := by decide +kernel
theorem dX8_discard_70 : decode cX8_discard 70 = .ok (.ifCond .ne 13, 3) := by decide +kernel
theorem dX8_discard_73 : decode cX8_discard 73 = .ok (.aload_n 0, 1) := by decide +kernel
theorem dX8_discard_74 : decode cX8_discard 74 = .ok (.getfield 49, 3) := by decide +kernel
theorem dX8_discard_77 : decode cX8_discard 77 = .ok (.iload_n 2, 1) := by decide +kernel
theorem dX8_discard_78 : decode cX8_discard 78 = .ok (.iconst 0, 1) := by decide +kernel
theorem dX8_discard_79 : decode cX8_discard 79 = .ok (.bastore, 1) := by decide +kernel
theorem dX8_discard_80 : decode cX8_discard 80 = .ok (.iinc 1 1, 3) := by decide +kernel
theorem dX8_discard_83 : decode cX8_discard 83 = .ok (.iinc 2 1, 3) := by decide +kernel
theorem dX8_discard_86 : decode cX8_discard 86 = .ok (.goto (-77), 3) := by decide +kernel
theorem dX8_discard_89 : decode cX8_discard 89 = .ok (.iload_n 1, 1) := by decide +kernel
theorem dX8_discard_90 : decode cX8_discard 90 = .ok (.ireturn, 1) := by decide +kernel
theorem dX8_sharpen_0 : decode cX8_sharpen 0 = .ok (.aload_n 0, 1) := by decide +kernel
theorem dX8_sharpen_1 : decode cX8_sharpen 1 = .ok (.iload_n 1, 1) := by decide +kernel
theorem dX8_sharpen_2 : decode cX8_sharpen 2 = .ok (.iconst 0, 1) := by decide +kernel
theorem dX8_sharpen_3 : decode cX8_sharpen 3 = .ok (.iconst 1, 1) := by decide +kernel
theorem dX8_sharpen_4 : decode cX8_sharpen 4 = .ok (.invokestatic 75, 3) := by decide +kernel
theorem dX8_sharpen_7 : decode cX8_sharpen 7 = .ok (.ifCond .eq 7, 3) := by decide +kernel
theorem dX8_sharpen_10 : decode cX8_sharpen 10 = .ok (.iconst 0, 1) := by decide +kernel
theorem dX8_sharpen_11 : decode cX8_sharpen 11 = .ok (.goto 4, 3) := by decide +kernel
theorem dX8_sharpen_14 : decode cX8_sharpen 14 = .ok (.iconst 1, 1) := by decide +kernel
theorem dX8_sharpen_15 : decode cX8_sharpen 15 = .ok (.invokevirtual 109, 3) := by decide +kernel
theorem dX8_sharpen_18 : decode cX8_sharpen 18 = .ok (.ifCond .ne 5, 3) := by decide +kernel
theorem dX8_sharpen_21 : decode cX8_sharpen 21 = .ok (.iconst 0, 1) := by decide +kernel
theorem dX8_sharpen_22 : decode cX8_sharpen 22 = .ok (.ireturn, 1) := by decide +kernel
theorem dX8_sharpen_23 : decode cX8_sharpen 23 = .ok (.aload_n 0, 1) := by decide +kernel
theorem dX8_sharpen_24 : decode cX8_sharpen 24 = .ok (.getfield 53, 3) := by decide +kernel
theorem dX8_sharpen_27 : decode cX8_sharpen 27 = .ok (.iload_n 1, 1) := by decide +kernel
theorem dX8_sharpen_28 : decode cX8_sharpen 28 = .ok (.iaload, 1) := by decide +kernel
theorem dX8_sharpen_29 : decode cX8_sharpen 29 = .ok (.istore_n 2, 1) := by decide +kernel
theorem dX8_sharpen_30 : decode cX8_sharpen 30 = .ok (.aload_n 0, 1) := by decide +kernel
theorem dX8_sharpen_31 : decode cX8_sharpen 31 = .ok (.getfield 53, 3) := by decide +kernel
theorem dX8_sharpen_34 : decode cX8_sharpen 34 = .ok (.iload_n 1, 1) := by decide +kernel
theorem dX8_sharpen_35 : decode cX8_sharpen 35 = .ok (.iconst 0, 1) := by decide +kernel
theorem dX8_sharpen_36 : decode cX8_sharpen 36 = .ok (.iastore, 1) := by decide +kernel
theorem dX8_sharpen_37 : decode cX8_sharpen 37 = .ok (.iload_n 2, 1) := by decide +kernel
theorem dX8_sharpen_38 : decode cX8_sharpen 38 = .ok (.ireturn, 1) := by decide +kernel
theorem dX8_setTolerance_0 : decode cX8_setTolerance 0 = .ok (.aload_n 0, 1) := by decide +kernel
theorem dX8_setTolerance_1 : decode cX8_setTolerance 1 = .ok (.iload_n 1, 1) := by decide +kernel
theorem dX8_setTolerance_2 : decode cX8_setTolerance 2 = .ok (.iconst 0, 1) := by decide +kernel
theorem dX8_setTolerance_3 : decode cX8_setTolerance 3 = .ok (.bipush 15, 2) := by decide +kernel
theorem dX8_setTolerance_5 : decode cX8_setTolerance 5 = .ok (.invokestatic 75, 3) := by decide +kernel
theorem dX8_setTolerance_8 : decode cX8_setTolerance 8 = .ok (.ifCond .eq 7, 3) := by decide +kernel
theorem dX8_setTolerance_11 : decode cX8_setTolerance 11 = .ok (.iconst 0, 1) := by decide +kernel
theorem dX8_setTolerance_12 : decode cX8_setTolerance 12 = .ok (.goto 4, 3) := by decide +kernel
theorem dX8_setTolerance_15 : decode cX8_setTolerance 15 = .ok (.iconst 1, 1) := by decide +kernel
theorem dX8_setTolerance_16 : decode cX8_setTolerance 16 = .ok (.invokevirtual 109, 3) := by decide +kernel
theorem dX8_setTolerance_19 : decode cX8_setTolerance 19 = .ok (.ifCond .ne 5, 3) := by decide +kernel
theorem dX8_setTolerance_22 : decode cX8_setTolerance 22 = .ok (.iconst 0, 1) := by decide +kernel
theorem dX8_setTolerance_23 : decode cX8_setTolerance 23 = .ok (.ireturn, 1) := by decide +kernel
theorem dX8_setTolerance_24 : decode cX8_setTolerance 24 = .ok (.aload_n 0, 1) := by decide +kernel
theorem dX8_setTolerance_25 : decode cX8_setTolerance 25 = .ok (.getfield 56, 3) := by decide +kernel
theorem dX8_setTolerance_28 : decode cX8_setTolerance 28 = .ok (.istore_n 2, 1) := by decide +kernel
theorem dX8_setTolerance_29 : decode cX8_setTolerance 29 = .ok (.aload_n 0, 1) := by decide +kernel
theorem dX8_setTolerance_30 : decode cX8_setTolerance 30 = .ok (.iload_n 1, 1) := by decide +kernel
theorem dX8_setTolerance_31 : decode cX8_setTolerance 31 = .ok (.putfield 56, 3) := by decide +kernel
theorem dX8_setTolerance_34 : decode cX8_setTolerance 34 = .ok (.iload_n 2, 1) := by decide +kernel
theorem dX8_setTolerance_35 : decode cX8_setTolerance 35 = .ok (.ireturn, 1) := by decide +kernel
theorem dX8_isWhole_0 : decode cX8_isWhole 0 = .ok (.iconst 1, 1) := by decide +kernel
theorem dX8_isWhole_1 : decode cX8_isWhole 1 = .ok (.istore_n 3, 1) := by decide +kernel
theorem dX8_isWhole_2 : decode cX8_isWhole 2 = .ok (.iconst 0, 1) := by decide +kernel
theorem dX8_isWhole_3 : decode cX8_isWhole 3 = .ok (.istore 4, 2) := by decide +kernel
theorem dX8_isWhole_5 : decode cX8_isWhole 5 = .ok (.iload 4, 2) := by decide +kernel
theorem dX8_isWhole_7 : decode cX8_isWhole 7 = .ok (.aload_n 0, 1) := by decide +kernel
theorem dX8_isWhole_8 : decode cX8_isWhole 8 = .ok (.iload_n 1, 1) := by decide +kernel
theorem dX8_isWhole_9 : decode cX8_isWhole 9 = .ok (.invokevirtual 125, 3) := by decide +kernel
theorem dX8_isWhole_12 : decode cX8_isWhole 12 = .ok (.if_icmp .ge 35, 3) := by decide +kernel
theorem dX8_isWhole_15 : decode cX8_isWhole 15 = .ok (.iload_n 3, 1) := by decide +kernel
theorem dX8_isWhole_16 : decode cX8_isWhole 16 = .ok (.ifCond .eq 23, 3) := by decide +kernel
theorem dX8_isWhole_19 : decode cX8_isWhole 19 = .ok (.aload_n 0, 1) := by decide +kernel
theorem dX8_isWhole_20 : decode cX8_isWhole 20 = .ok (.getfield 37, 3) := by decide +kernel
theorem dX8_isWhole_23 : decode cX8_isWhole 23 = .ok (.iload_n 1, 1) := by decide +kernel
theorem dX8_isWhole_24 : decode cX8_isWhole 24 = .ok (.iload_n 2, 1) := by decide +kernel
theorem dX8_isWhole_25 : decode cX8_isWhole 25 = .ok (.iload 4, 2) := by decide +kernel
theorem dX8_isWhole_27 : decode cX8_isWhole 27 = .ok (.invokestatic 121, 3) := by decide +kernel
theorem dX8_isWhole_30 : decode cX8_isWhole 30 = .ok (.iaload, 1) := by decide +kernel
theorem dX8_isWhole_31 : decode cX8_isWhole 31 = .ok (.iconst (-1), 1) := by decide +kernel
theorem dX8_isWhole_32 : decode cX8_isWhole 32 = .ok (.if_icmp .eq 7, 3) := by decide +kernel
theorem dX8_isWhole_35 : decode cX8_isWhole 35 = .ok (.iconst 1, 1) := by decide +kernel
theorem dX8_isWhole_36 : decode cX8_isWhole 36 = .ok (.goto 4, 3) := by decide +kernel
theorem dX8_isWhole_39 : decode cX8_isWhole 39 = .ok (.iconst 0, 1) := by decide +kernel
theorem dX8_isWhole_40 : decode cX8_isWhole 40 = .ok (.istore_n 3, 1) := by decide +kernel
theorem dX8_isWhole_41 : decode cX8_isWhole 41 = .ok (.iinc 4 1, 3) := by decide +kernel
theorem dX8_isWhole_44 : decode cX8_isWhole 44 = .ok (.goto (-39), 3) := by decide +kernel
theorem dX8_isWhole_47 : decode cX8_isWhole 47 = .ok (.iload_n 3, 1) := by decide +kernel
theorem dX8_isWhole_48 : decode cX8_isWhole 48 = .ok (.ireturn, 1) := by decide +kernel
theorem dX8_bind_0 : decode cX8_bind 0 = .ok (.aload_n 0, 1) := by decide +kernel
theorem dX8_bind_1 : decode cX8_bind 1 = .ok (.aload_n 0, 1) := by decide +kernel
theorem dX8_bind_2 : decode cX8_bind 2 = .ok (.iload_n 1, 1) := by decide +kernel
theorem dX8_bind_3 : decode cX8_bind 3 = .ok (.iload_n 2, 1) := by decide +kernel
theorem dX8_bind_4 : decode cX8_bind 4 = .ok (.invokevirtual 156, 3) := by decide +kernel
theorem dX8_bind_7 : decode cX8_bind 7 = .ok (.ifCond .eq 7, 3) := by decide +kernel
theorem dX8_bind_10 : decode cX8_bind 10 = .ok (.iconst 0, 1) := by decide +kernel
theorem dX8_bind_11 : decode cX8_bind 11 = .ok (.goto 4, 3) := by decide +kernel
theorem dX8_bind_14 : decode cX8_bind 14 = .ok (.iconst 1, 1) := by decide +kernel
theorem dX8_bind_15 : decode cX8_bind 15 = .ok (.invokevirtual 109, 3) := by decide +kernel
theorem dX8_bind_18 : decode cX8_bind 18 = .ok (.ifCond .eq 33, 3) := by decide +kernel
theorem dX8_bind_21 : decode cX8_bind 21 = .ok (.aload_n 0, 1) := by decide +kernel
theorem dX8_bind_22 : decode cX8_bind 22 = .ok (.aload_n 0, 1) := by decide +kernel
theorem dX8_bind_23 : decode cX8_bind 23 = .ok (.iload_n 1, 1) := by decide +kernel
theorem dX8_bind_24 : decode cX8_bind 24 = .ok (.iload_n 2, 1) := by decide +kernel
theorem dX8_bind_25 : decode cX8_bind 25 = .ok (.invokevirtual 97, 3) := by decide +kernel
theorem dX8_bind_28 : decode cX8_bind 28 = .ok (.ifCond .ne 12, 3) := by decide +kernel
theorem dX8_bind_31 : decode cX8_bind 31 = .ok (.aload_n 0, 1) := by decide +kernel
theorem dX8_bind_32 : decode cX8_bind 32 = .ok (.iload_n 1, 1) := by decide +kernel
theorem dX8_bind_33 : decode cX8_bind 33 = .ok (.iload_n 2, 1) := by decide +kernel
theorem dX8_bind_34 : decode cX8_bind 34 = .ok (.invokevirtual 159, 3) := by decide +kernel
theorem dX8_bind_37 : decode cX8_bind 37 = .ok (.ifCond .ne 7, 3) := by decide +kernel
theorem dX8_bind_40 : decode cX8_bind 40 = .ok (.iconst 2, 1) := by decide +kernel
theorem dX8_bind_41 : decode cX8_bind 41 = .ok (.goto 4, 3) := by decide +kernel
theorem dX8_bind_44 : decode cX8_bind 44 = .ok (.iconst 0, 1) := by decide +kernel
theorem dX8_bind_45 : decode cX8_bind 45 = .ok (.invokevirtual 109, 3) := by decide +kernel
theorem dX8_bind_48 : decode cX8_bind 48 = .ok (.ifCond .ne 5, 3) := by decide +kernel
theorem dX8_bind_51 : decode cX8_bind 51 = .ok (.iconst 0, 1) := by decide +kernel
theorem dX8_bind_52 : decode cX8_bind 52 = .ok (.ireturn, 1) := by decide +kernel
theorem dX8_bind_53 : decode cX8_bind 53 = .ok (.aload_n 0, 1) := by decide +kernel
theorem dX8_bind_54 : decode cX8_bind 54 = .ok (.iload_n 1, 1) := by decide +kernel
theorem dX8_bind_55 : decode cX8_bind 55 = .ok (.invokevirtual 125, 3) := by decide +kernel
theorem dX8_bind_58 : decode cX8_bind 58 = .ok (.istore_n 3, 1) := by decide +kernel
theorem dX8_bind_59 : decode cX8_bind 59 = .ok (.bipush 60, 2) := by decide +kernel
theorem dX8_bind_61 : decode cX8_bind 61 = .ok (.istore 4, 2) := by decide +kernel
theorem dX8_bind_63 : decode cX8_bind 63 = .ok (.iconst 0, 1) := by decide +kernel
theorem dX8_bind_64 : decode cX8_bind 64 = .ok (.istore 5, 2) := by decide +kernel
theorem dX8_bind_66 : decode cX8_bind 66 = .ok (.iload 5, 2) := by decide +kernel
theorem dX8_bind_68 : decode cX8_bind 68 = .ok (.iload_n 3, 1) := by decide +kernel
theorem dX8_bind_69 : decode cX8_bind 69 = .ok (.if_icmp .ge 39, 3) := by decide +kernel
theorem dX8_bind_72 : decode cX8_bind 72 = .ok (.aload_n 0, 1) := by decide +kernel
theorem dX8_bind_73 : decode cX8_bind 73 = .ok (.getfield 37, 3) := by decide +kernel
theorem dX8_bind_76 : decode cX8_bind 76 = .ok (.iload_n 1, 1) := by decide +kernel
theorem dX8_bind_77 : decode cX8_bind 77 = .ok (.iload_n 2, 1) := by decide +kernel
theorem dX8_bind_78 : decode cX8_bind 78 = .ok (.iload 5, 2) := by decide +kernel
theorem dX8_bind_80 : decode cX8_bind 80 = .ok (.invokestatic 121, 3) := by decide +kernel
theorem dX8_bind_83 : decode cX8_bind 83 = .ok (.iaload, 1) := by decide +kernel
theorem dX8_bind_84 : decode cX8_bind 84 = .ok (.istore 6, 2) := by decide +kernel
theorem dX8_bind_86 : decode cX8_bind 86 = .ok (.iload 6, 2) := by decide +kernel
theorem dX8_bind_88 : decode cX8_bind 88 = .ok (.iload 4, 2) := by decide +kernel
theorem dX8_bind_90 : decode cX8_bind 90 = .ok (.if_icmp .ge 8, 3) := by decide +kernel
theorem dX8_bind_93 : decode cX8_bind 93 = .ok (.iload 6, 2) := by decide +kernel
theorem dX8_bind_95 : decode cX8_bind 95 = .ok (.goto 5, 3) := by decide +kernel
theorem dX8_bind_98 : decode cX8_bind 98 = .ok (.iload 4, 2) := by decide +kernel
theorem dX8_bind_100 : decode cX8_bind 100 = .ok (.istore 4, 2) := by decide +kernel
theorem dX8_bind_102 : decode cX8_bind 102 = .ok (.iinc 5 1, 3) := by decide +kernel
theorem dX8_bind_105 : decode cX8_bind 105 = .ok (.goto (-39), 3) := by decide +kernel
theorem dX8_bind_108 : decode cX8_bind 108 = .ok (.iconst 0, 1) := by decide +kernel
theorem dX8_bind_109 : decode cX8_bind 109 = .ok (.istore 5, 2) := by decide +kernel
theorem dX8_bind_111 : decode cX8_bind 111 = .ok (.iconst 0, 1) := by decide +kernel
theorem dX8_bind_112 : decode cX8_bind 112 = .ok (.istore 6, 2) := by decide +kernel
theorem dX8_bind_114 : decode cX8_bind 114 = .ok (.iload 6, 2) := by decide +kernel
theorem dX8_bind_116 : decode cX8_bind 116 = .ok (.iload_n 3, 1) := by decide +kernel
theorem dX8_bind_117 : decode cX8_bind 117 = .ok (.if_icmp .ge 45, 3) := by decide +kernel
theorem dX8_bind_120 : decode cX8_bind 120 = .ok (.aload_n 0, 1) := by decide +kernel
theorem dX8_bind_121 : decode cX8_bind 121 = .ok (.getfield 37, 3) := by decide +kernel
theorem dX8_bind_124 : decode cX8_bind 124 = .ok (.iload_n 1, 1) := by decide +kernel
theorem dX8_bind_125 : decode cX8_bind 125 = .ok (.iload_n 2, 1) := by decide +kernel
theorem dX8_bind_126 : decode cX8_bind 126 = .ok (.iload 6, 2) := by decide +kernel
theorem dX8_bind_128 : decode cX8_bind 128 = .ok (.invokestatic 121, 3) := by decide +kernel
theorem dX8_bind_131 : decode cX8_bind 131 = .ok (.iaload, 1) := by decide +kernel
theorem dX8_bind_132 : decode cX8_bind 132 = .ok (.iload 4, 2) := by decide +kernel
theorem dX8_bind_134 : decode cX8_bind 134 = .ok (.aload_n 0, 1) := by decide +kernel
theorem dX8_bind_135 : decode cX8_bind 135 = .ok (.getfield 56, 3) := by decide +kernel
theorem dX8_bind_138 : decode cX8_bind 138 = .ok (.iadd, 1) := by decide +kernel
theorem dX8_bind_139 : decode cX8_bind 139 = .ok (.if_icmp .le 17, 3) := by decide +kernel
theorem dX8_bind_142 : decode cX8_bind 142 = .ok (.aload_n 0, 1) := by decide +kernel
theorem dX8_bind_143 : decode cX8_bind 143 = .ok (.iload_n 1, 1) := by decide +kernel
theorem dX8_bind_144 : decode cX8_bind 144 = .ok (.iload_n 2, 1) := by decide +kernel
theorem dX8_bind_145 : decode cX8_bind 145 = .ok (.iload 6, 2) := by decide +kernel
theorem dX8_bind_147 : decode cX8_bind 147 = .ok (.invokestatic 121, 3) := by decide +kernel
theorem dX8_bind_150 : decode cX8_bind 150 = .ok (.invokevirtual 105, 3) := by decide +kernel
theorem dX8_bind_153 : decode cX8_bind 153 = .ok (.iinc 5 1, 3) := by decide +kernel
theorem dX8_bind_156 : decode cX8_bind 156 = .ok (.iinc 6 1, 3) := by decide +kernel
theorem dX8_bind_159 : decode cX8_bind 159 = .ok (.goto (-45), 3) := by decide +kernel
theorem dX8_bind_162 : decode cX8_bind 162 = .ok (.aload_n 0, 1) := by decide +kernel
theorem dX8_bind_163 : decode cX8_bind 163 = .ok (.getfield 28, 3) := by decide +kernel
theorem dX8_bind_166 : decode cX8_bind 166 = .ok (.iconst 3, 1) := by decide +kernel
theorem dX8_bind_167 : decode cX8_bind 167 = .ok (.iload_n 1, 1) := by decide +kernel
theorem dX8_bind_168 : decode cX8_bind 168 = .ok (.imul, 1) := by decide +kernel
theorem dX8_bind_169 : decode cX8_bind 169 = .ok (.iload_n 2, 1) := by decide +kernel
theorem dX8_bind_170 : decode cX8_bind 170 = .ok (.iadd, 1) := by decide +kernel
theorem dX8_bind_171 : decode cX8_bind 171 = .ok (.iload 5, 2) := by decide +kernel
theorem dX8_bind_173 : decode cX8_bind 173 = .ok (.ifCond .le 7, 3) := by decide +kernel
theorem dX8_bind_176 : decode cX8_bind 176 = .ok (.iconst (-1), 1) := by decide +kernel
theorem dX8_bind_177 : decode cX8_bind 177 = .ok (.goto 4, 3) := by decide +kernel
theorem dX8_bind_180 : decode cX8_bind 180 = .ok (.iload_n 3, 1) := by decide +kernel
theorem dX8_bind_181 : decode cX8_bind 181 = .ok (.iastore, 1) := by decide +kernel
theorem dX8_bind_182 : decode cX8_bind 182 = .ok (.iload 5, 2) := by decide +kernel
theorem dX8_bind_184 : decode cX8_bind 184 = .ok (.ifCond .le 9, 3) := by decide +kernel
theorem dX8_bind_187 : decode cX8_bind 187 = .ok (.iload 5, 2) := by decide +kernel
theorem dX8_bind_189 : decode cX8_bind 189 = .ok (.ineg, 1) := by decide +kernel
theorem dX8_bind_190 : decode cX8_bind 190 = .ok (.goto 4, 3) := by decide +kernel
theorem dX8_bind_193 : decode cX8_bind 193 = .ok (.iload_n 3, 1) := by decide +kernel
theorem dX8_bind_194 : decode cX8_bind 194 = .ok (.ireturn, 1) := by decide +kernel
theorem dX8_isBound_0 : decode cX8_isBound 0 = .ok (.aload_n 0, 1) := by decide +kernel
theorem dX8_isBound_1 : decode cX8_isBound 1 = .ok (.aload_n 0, 1) := by decide +kernel
theorem dX8_isBound_2 : decode cX8_isBound 2 = .ok (.iload_n 1, 1) := by decide +kernel
theorem dX8_isBound_3 : decode cX8_isBound 3 = .ok (.iload_n 2, 1) := by decide +kernel
theorem dX8_isBound_4 : decode cX8_isBound 4 = .ok (.invokevirtual 156, 3) := by decide +kernel
theorem dX8_isBound_7 : decode cX8_isBound 7 = .ok (.ifCond .eq 7, 3) := by decide +kernel
theorem dX8_isBound_10 : decode cX8_isBound 10 = .ok (.iconst 0, 1) := by decide +kernel
theorem dX8_isBound_11 : decode cX8_isBound 11 = .ok (.goto 4, 3) := by decide +kernel
theorem dX8_isBound_14 : decode cX8_isBound 14 = .ok (.iconst 1, 1) := by decide +kernel
theorem dX8_isBound_15 : decode cX8_isBound 15 = .ok (.invokevirtual 109, 3) := by decide +kernel
theorem dX8_isBound_18 : decode cX8_isBound 18 = .ok (.ifCond .eq 16, 3) := by decide +kernel
theorem dX8_isBound_21 : decode cX8_isBound 21 = .ok (.aload_n 0, 1) := by decide +kernel
theorem dX8_isBound_22 : decode cX8_isBound 22 = .ok (.iload_n 1, 1) := by decide +kernel
theorem dX8_isBound_23 : decode cX8_isBound 23 = .ok (.iload_n 2, 1) := by decide +kernel
theorem dX8_isBound_24 : decode cX8_isBound 24 = .ok (.invokevirtual 97, 3) := by decide +kernel
theorem dX8_isBound_27 : decode cX8_isBound 27 = .ok (.ifCond .eq 7, 3) := by decide +kernel
theorem dX8_isBound_30 : decode cX8_isBound 30 = .ok (.iconst 1, 1) := by decide +kernel
theorem dX8_isBound_31 : decode cX8_isBound 31 = .ok (.goto 4, 3) := by decide +kernel
theorem dX8_isBound_34 : decode cX8_isBound 34 = .ok (.iconst 0, 1) := by decide +kernel
theorem dX8_isBound_35 : decode cX8_isBound 35 = .ok (.ireturn, 1) := by decide +kernel
theorem dX8_hasFrame_0 : decode cX8_hasFrame 0 = .ok (.aload_n 0, 1) := by decide +kernel
theorem dX8_hasFrame_1 : decode cX8_hasFrame 1 = .ok (.iload_n 1, 1) := by decide +kernel
theorem dX8_hasFrame_2 : decode cX8_hasFrame 2 = .ok (.iload_n 2, 1) := by decide +kernel
theorem dX8_hasFrame_3 : decode cX8_hasFrame 3 = .ok (.invokevirtual 156, 3) := by decide +kernel
theorem dX8_hasFrame_6 : decode cX8_hasFrame 6 = .ok (.ifCond .ne 5, 3) := by decide +kernel
theorem dX8_hasFrame_9 : decode cX8_hasFrame 9 = .ok (.iconst 0, 1) := by decide +kernel
theorem dX8_hasFrame_10 : decode cX8_hasFrame 10 = .ok (.ireturn, 1) := by decide +kernel
theorem dX8_hasFrame_11 : decode cX8_hasFrame 11 = .ok (.iload_n 3, 1) := by decide +kernel
theorem dX8_hasFrame_12 : decode cX8_hasFrame 12 = .ok (.iconst 0, 1) := by decide +kernel
theorem dX8_hasFrame_13 : decode cX8_hasFrame 13 = .ok (.aload_n 0, 1) := by decide +kernel
theorem dX8_hasFrame_14 : decode cX8_hasFrame 14 = .ok (.iload_n 1, 1) := by decide +kernel
theorem dX8_hasFrame_15 : decode cX8_hasFrame 15 = .ok (.iload_n 2, 1) := by decide +kernel
theorem dX8_hasFrame_16 : decode cX8_hasFrame 16 = .ok (.invokevirtual 97, 3) := by decide +kernel
theorem dX8_hasFrame_19 : decode cX8_hasFrame 19 = .ok (.ifCond .eq 16, 3) := by decide +kernel
theorem dX8_hasFrame_22 : decode cX8_hasFrame 22 = .ok (.aload_n 0, 1) := by decide +kernel
theorem dX8_hasFrame_23 : decode cX8_hasFrame 23 = .ok (.getfield 28, 3) := by decide +kernel
theorem dX8_hasFrame_26 : decode cX8_hasFrame 26 = .ok (.iconst 3, 1) := by decide +kernel
theorem dX8_hasFrame_27 : decode cX8_hasFrame 27 = .ok (.iload_n 1, 1) := by decide +kernel
theorem dX8_hasFrame_28 : decode cX8_hasFrame 28 = .ok (.imul, 1) := by decide +kernel
theorem dX8_hasFrame_29 : decode cX8_hasFrame 29 = .ok (.iload_n 2, 1) := by decide +kernel
theorem dX8_hasFrame_30 : decode cX8_hasFrame 30 = .ok (.iadd, 1) := by decide +kernel
theorem dX8_hasFrame_31 : decode cX8_hasFrame 31 = .ok (.iaload, 1) := by decide +kernel
theorem dX8_hasFrame_32 : decode cX8_hasFrame 32 = .ok (.goto 8, 3) := by decide +kernel
theorem dX8_hasFrame_35 : decode cX8_hasFrame 35 = .ok (.aload_n 0, 1) := by decide +kernel
theorem dX8_hasFrame_36 : decode cX8_hasFrame 36 = .ok (.iload_n 1, 1) := by decide +kernel
theorem dX8_hasFrame_37 : decode cX8_hasFrame 37 = .ok (.invokevirtual 125, 3) := by decide +kernel
theorem dX8_hasFrame_40 : decode cX8_hasFrame 40 = .ok (.iconst 1, 1) := by decide +kernel
theorem dX8_hasFrame_41 : decode cX8_hasFrame 41 = .ok (.isub, 1) := by decide +kernel
theorem dX8_hasFrame_42 : decode cX8_hasFrame 42 = .ok (.invokestatic 75, 3) := by decide +kernel
theorem dX8_hasFrame_45 : decode cX8_hasFrame 45 = .ok (.ireturn, 1) := by decide +kernel
theorem dX8_trim_0 : decode cX8_trim 0 = .ok (.aload_n 0, 1) := by decide +kernel
theorem dX8_trim_1 : decode cX8_trim 1 = .ok (.aload_n 0, 1) := by decide +kernel
theorem dX8_trim_2 : decode cX8_trim 2 = .ok (.iload_n 1, 1) := by decide +kernel
theorem dX8_trim_3 : decode cX8_trim 3 = .ok (.iload_n 2, 1) := by decide +kernel
theorem dX8_trim_4 : decode cX8_trim 4 = .ok (.iload_n 3, 1) := by decide +kernel
theorem dX8_trim_5 : decode cX8_trim 5 = .ok (.invokevirtual 162, 3) := by decide +kernel
theorem dX8_trim_8 : decode cX8_trim 8 = .ok (.ifCond .eq 7, 3) := by decide +kernel
theorem dX8_trim_11 : decode cX8_trim 11 = .ok (.iconst 0, 1) := by decide +kernel
theorem dX8_trim_12 : decode cX8_trim 12 = .ok (.goto 4, 3) := by decide +kernel
theorem dX8_trim_15 : decode cX8_trim 15 = .ok (.iconst 1, 1) := by decide +kernel
theorem dX8_trim_16 : decode cX8_trim 16 = .ok (.invokevirtual 109, 3) := by decide +kernel
theorem dX8_trim_19 : decode cX8_trim 19 = .ok (.ifCond .eq 17, 3) := by decide +kernel
theorem dX8_trim_22 : decode cX8_trim 22 = .ok (.aload_n 0, 1) := by decide +kernel
theorem dX8_trim_23 : decode cX8_trim 23 = .ok (.getfield 37, 3) := by decide +kernel
theorem dX8_trim_26 : decode cX8_trim 26 = .ok (.iload_n 1, 1) := by decide +kernel
theorem dX8_trim_27 : decode cX8_trim 27 = .ok (.iload_n 2, 1) := by decide +kernel
theorem dX8_trim_28 : decode cX8_trim 28 = .ok (.iload_n 3, 1) := by decide +kernel
theorem dX8_trim_29 : decode cX8_trim 29 = .ok (.invokestatic 121, 3) := by decide +kernel
theorem dX8_trim_32 : decode cX8_trim 32 = .ok (.iaload, 1) := by decide +kernel
theorem dX8_trim_33 : decode cX8_trim 33 = .ok (.goto 4, 3) := by decide +kernel
theorem dX8_trim_36 : decode cX8_trim 36 = .ok (.iconst 0, 1) := by decide +kernel
theorem dX8_trim_37 : decode cX8_trim 37 = .ok (.ireturn, 1) := by decide +kernel
theorem dX8_leafShown_0 : decode cX8_leafShown 0 = .ok (.aload_n 0, 1) := by decide +kernel
theorem dX8_leafShown_1 : decode cX8_leafShown 1 = .ok (.aload_n 0, 1) := by decide +kernel
theorem dX8_leafShown_2 : decode cX8_leafShown 2 = .ok (.iload_n 1, 1) := by decide +kernel
theorem dX8_leafShown_3 : decode cX8_leafShown 3 = .ok (.iload_n 2, 1) := by decide +kernel
theorem dX8_leafShown_4 : decode cX8_leafShown 4 = .ok (.iload_n 3, 1) := by decide +kernel
theorem dX8_leafShown_5 : decode cX8_leafShown 5 = .ok (.invokevirtual 162, 3) := by decide +kernel
theorem dX8_leafShown_8 : decode cX8_leafShown 8 = .ok (.ifCond .eq 7, 3) := by decide +kernel
theorem dX8_leafShown_11 : decode cX8_leafShown 11 = .ok (.iconst 0, 1) := by decide +kernel
theorem dX8_leafShown_12 : decode cX8_leafShown 12 = .ok (.goto 4, 3) := by decide +kernel
theorem dX8_leafShown_15 : decode cX8_leafShown 15 = .ok (.iconst 1, 1) := by decide +kernel
theorem dX8_leafShown_16 : decode cX8_leafShown 16 = .ok (.invokevirtual 109, 3) := by decide +kernel
theorem dX8_leafShown_19 : decode cX8_leafShown 19 = .ok (.ifCond .ne 5, 3) := by decide +kernel
theorem dX8_leafShown_22 : decode cX8_leafShown 22 = .ok (.iconst 0, 1) := by decide +kernel
theorem dX8_leafShown_23 : decode cX8_leafShown 23 = .ok (.ireturn, 1) := by decide +kernel
theorem dX8_leafShown_24 : decode cX8_leafShown 24 = .ok (.iload_n 1, 1) := by decide +kernel
theorem dX8_leafShown_25 : decode cX8_leafShown 25 = .ok (.iload_n 2, 1) := by decide +kernel
theorem dX8_leafShown_26 : decode cX8_leafShown 26 = .ok (.iload_n 3, 1) := by decide +kernel
theorem dX8_leafShown_27 : decode cX8_leafShown 27 = .ok (.invokestatic 121, 3) := by decide +kernel
theorem dX8_leafShown_30 : decode cX8_leafShown 30 = .ok (.istore 4, 2) := by decide +kernel
theorem dX8_leafShown_32 : decode cX8_leafShown 32 = .ok (.aload_n 0, 1) := by decide +kernel
theorem dX8_leafShown_33 : decode cX8_leafShown 33 = .ok (.getfield 37, 3) := by decide +kernel
theorem dX8_leafShown_36 : decode cX8_leafShown 36 = .ok (.iload 4, 2) := by decide +kernel
theorem dX8_leafShown_38 : decode cX8_leafShown 38 = .ok (.iaload, 1) := by decide +kernel
theorem dX8_leafShown_39 : decode cX8_leafShown 39 = .ok (.iconst (-1), 1) := by decide +kernel
theorem dX8_leafShown_40 : decode cX8_leafShown 40 = .ok (.if_icmp .ne 7, 3) := by decide +kernel
theorem dX8_leafShown_43 : decode cX8_leafShown 43 = .ok (.iconst (-1), 1) := by decide +kernel
theorem dX8_leafShown_44 : decode cX8_leafShown 44 = .ok (.goto 10, 3) := by decide +kernel
theorem dX8_leafShown_47 : decode cX8_leafShown 47 = .ok (.aload_n 0, 1) := by decide +kernel
theorem dX8_leafShown_48 : decode cX8_leafShown 48 = .ok (.getfield 31, 3) := by decide +kernel
theorem dX8_leafShown_51 : decode cX8_leafShown 51 = .ok (.iload 4, 2) := by decide +kernel
theorem dX8_leafShown_53 : decode cX8_leafShown 53 = .ok (.iaload, 1) := by decide +kernel
theorem dX8_leafShown_54 : decode cX8_leafShown 54 = .ok (.ireturn, 1) := by decide +kernel
theorem dX8_leaf_0 : decode cX8_leaf 0 = .ok (.aload_n 0, 1) := by decide +kernel
theorem dX8_leaf_1 : decode cX8_leaf 1 = .ok (.iload_n 1, 1) := by decide +kernel
theorem dX8_leaf_2 : decode cX8_leaf 2 = .ok (.iload_n 2, 1) := by decide +kernel
theorem dX8_leaf_3 : decode cX8_leaf 3 = .ok (.iload_n 3, 1) := by decide +kernel
theorem dX8_leaf_4 : decode cX8_leaf 4 = .ok (.invokevirtual 165, 3) := by decide +kernel
theorem dX8_leaf_7 : decode cX8_leaf 7 = .ok (.ireturn, 1) := by decide +kernel
theorem dX8_leafByPiles_0 : decode cX8_leafByPiles 0 = .ok (.aload_n 0, 1) := by decide +kernel
theorem dX8_leafByPiles_1 : decode cX8_leafByPiles 1 = .ok (.iload_n 1, 1) := by decide +kernel
theorem dX8_leafByPiles_2 : decode cX8_leafByPiles 2 = .ok (.iload_n 2, 1) := by decide +kernel
theorem dX8_leafByPiles_3 : decode cX8_leafByPiles 3 = .ok (.iload_n 3, 1) := by decide +kernel
theorem dX8_leafByPiles_4 : decode cX8_leafByPiles 4 = .ok (.invokevirtual 165, 3) := by decide +kernel
theorem dX8_leafByPiles_7 : decode cX8_leafByPiles 7 = .ok (.ireturn, 1) := by decide +kernel
theorem dX8_spoiled_0 : decode cX8_spoiled 0 = .ok (.aload_n 0, 1) := by decide +kernel
theorem dX8_spoiled_1 : decode cX8_spoiled 1 = .ok (.iconst 0, 1) := by decide +kernel
theorem dX8_spoiled_2 : decode cX8_spoiled 2 = .ok (.putfield 69, 3) := by decide +kernel
theorem dX8_spoiled_5 : decode cX8_spoiled 5 = .ok (.aload_n 0, 1) := by decide +kernel
theorem dX8_spoiled_6 : decode cX8_spoiled 6 = .ok (.getfield 90, 3) := by decide +kernel
theorem dX8_spoiled_9 : decode cX8_spoiled 9 = .ok (.ireturn, 1) := by decide +kernel
