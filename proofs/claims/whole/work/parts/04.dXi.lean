theorem dX0_init_0 : decode cX0_init 0 = .ok (.aload_n 0, 1) := by decide +kernel
theorem dX0_init_1 : decode cX0_init 1 = .ok (.invokespecial 3, 3) := by decide +kernel
theorem dX0_init_4 : decode cX0_init 4 = .ok (.aload_n 0, 1) := by decide +kernel
theorem dX0_init_5 : decode cX0_init 5 = .ok (.bipush 8, 2) := by decide +kernel
theorem dX0_init_7 : decode cX0_init 7 = .ok (.newarray .int, 2) := by decide +kernel
theorem dX0_init_9 : decode cX0_init 9 = .ok (.putfield 9, 3) := by decide +kernel
theorem dX0_init_12 : decode cX0_init 12 = .ok (.aload_n 0, 1) := by decide +kernel
theorem dX0_init_13 : decode cX0_init 13 = .ok (.bipush 8, 2) := by decide +kernel
theorem dX0_init_15 : decode cX0_init 15 = .ok (.newarray .int, 2) := by decide +kernel
theorem dX0_init_17 : decode cX0_init 17 = .ok (.putfield 15, 3) := by decide +kernel
theorem dX0_init_20 : decode cX0_init 20 = .ok (.aload_n 0, 1) := by decide +kernel
theorem dX0_init_21 : decode cX0_init 21 = .ok (.bipush 8, 2) := by decide +kernel
theorem dX0_init_23 : decode cX0_init 23 = .ok (.newarray .int, 2) := by decide +kernel
theorem dX0_init_25 : decode cX0_init 25 = .ok (.putfield 18, 3) := by decide +kernel
theorem dX0_init_28 : decode cX0_init 28 = .ok (.aload_n 0, 1) := by decide +kernel
theorem dX0_init_29 : decode cX0_init 29 = .ok (.bipush 43, 2) := by decide +kernel
theorem dX0_init_31 : decode cX0_init 31 = .ok (.newarray .int, 2) := by decide +kernel
theorem dX0_init_33 : decode cX0_init 33 = .ok (.putfield 21, 3) := by decide +kernel
theorem dX0_init_36 : decode cX0_init 36 = .ok (.aload_n 0, 1) := by decide +kernel
theorem dX0_init_37 : decode cX0_init 37 = .ok (.iconst 0, 1) := by decide +kernel
theorem dX0_init_38 : decode cX0_init 38 = .ok (.putfield 24, 3) := by decide +kernel
theorem dX0_init_41 : decode cX0_init 41 = .ok (.aload_n 0, 1) := by decide +kernel
theorem dX0_init_42 : decode cX0_init 42 = .ok (.iconst 0, 1) := by decide +kernel
theorem dX0_init_43 : decode cX0_init 43 = .ok (.putfield 28, 3) := by decide +kernel
theorem dX0_init_46 : decode cX0_init 46 = .ok (.return_, 1) := by decide +kernel
theorem dX0_insert_0 : decode cX0_insert 0 = .ok (.iload_n 1, 1) := by decide +kernel
theorem dX0_insert_1 : decode cX0_insert 1 = .ok (.ifCond .lt 20, 3) := by decide +kernel
theorem dX0_insert_4 : decode cX0_insert 4 = .ok (.iload_n 1, 1) := by decide +kernel
theorem dX0_insert_5 : decode cX0_insert 5 = .ok (.aload_n 0, 1) := by decide +kernel
theorem dX0_insert_6 : decode cX0_insert 6 = .ok (.getfield 24, 3) := by decide +kernel
theorem dX0_insert_9 : decode cX0_insert 9 = .ok (.if_icmp .gt 12, 3) := by decide +kernel
theorem dX0_insert_12 : decode cX0_insert 12 = .ok (.aload_n 0, 1) := by decide +kernel
theorem dX0_insert_13 : decode cX0_insert 13 = .ok (.getfield 24, 3) := by decide +kernel
theorem dX0_insert_16 : decode cX0_insert 16 = .ok (.bipush 8, 2) := by decide +kernel
theorem dX0_insert_18 : decode cX0_insert 18 = .ok (.if_icmp .lt 4, 3) := by decide +kernel
theorem dX0_insert_21 : decode cX0_insert 21 = .ok (.return_, 1) := by decide +kernel
theorem dX0_insert_22 : decode cX0_insert 22 = .ok (.aload_n 0, 1) := by decide +kernel
theorem dX0_insert_23 : decode cX0_insert 23 = .ok (.getfield 24, 3) := by decide +kernel
theorem dX0_insert_26 : decode cX0_insert 26 = .ok (.istore 5, 2) := by decide +kernel
theorem dX0_insert_28 : decode cX0_insert 28 = .ok (.iload 5, 2) := by decide +kernel
theorem dX0_insert_30 : decode cX0_insert 30 = .ok (.iload_n 1, 1) := by decide +kernel
theorem dX0_insert_31 : decode cX0_insert 31 = .ok (.if_icmp .le 19, 3) := by decide +kernel
theorem dX0_insert_34 : decode cX0_insert 34 = .ok (.aload_n 0, 1) := by decide +kernel
theorem dX0_insert_35 : decode cX0_insert 35 = .ok (.iload 5, 2) := by decide +kernel
theorem dX0_insert_37 : decode cX0_insert 37 = .ok (.iconst 1, 1) := by decide +kernel
theorem dX0_insert_38 : decode cX0_insert 38 = .ok (.isub, 1) := by decide +kernel
theorem dX0_insert_39 : decode cX0_insert 39 = .ok (.iload 5, 2) := by decide +kernel
theorem dX0_insert_41 : decode cX0_insert 41 = .ok (.invokevirtual 31, 3) := by decide +kernel
theorem dX0_insert_44 : decode cX0_insert 44 = .ok (.iinc 5 (-1), 3) := by decide +kernel
theorem dX0_insert_47 : decode cX0_insert 47 = .ok (.goto (-19), 3) := by decide +kernel
theorem dX0_insert_50 : decode cX0_insert 50 = .ok (.aload_n 0, 1) := by decide +kernel
theorem dX0_insert_51 : decode cX0_insert 51 = .ok (.getfield 9, 3) := by decide +kernel
theorem dX0_insert_54 : decode cX0_insert 54 = .ok (.iload_n 1, 1) := by decide +kernel
theorem dX0_insert_55 : decode cX0_insert 55 = .ok (.iload_n 2, 1) := by decide +kernel
theorem dX0_insert_56 : decode cX0_insert 56 = .ok (.iastore, 1) := by decide +kernel
theorem dX0_insert_57 : decode cX0_insert 57 = .ok (.aload_n 0, 1) := by decide +kernel
theorem dX0_insert_58 : decode cX0_insert 58 = .ok (.getfield 15, 3) := by decide +kernel
theorem dX0_insert_61 : decode cX0_insert 61 = .ok (.iload_n 1, 1) := by decide +kernel
theorem dX0_insert_62 : decode cX0_insert 62 = .ok (.iload_n 3, 1) := by decide +kernel
theorem dX0_insert_63 : decode cX0_insert 63 = .ok (.iastore, 1) := by decide +kernel
theorem dX0_insert_64 : decode cX0_insert 64 = .ok (.aload_n 0, 1) := by decide +kernel
theorem dX0_insert_65 : decode cX0_insert 65 = .ok (.getfield 18, 3) := by decide +kernel
theorem dX0_insert_68 : decode cX0_insert 68 = .ok (.iload_n 1, 1) := by decide +kernel
theorem dX0_insert_69 : decode cX0_insert 69 = .ok (.iload 4, 2) := by decide +kernel
theorem dX0_insert_71 : decode cX0_insert 71 = .ok (.iastore, 1) := by decide +kernel
theorem dX0_insert_72 : decode cX0_insert 72 = .ok (.aload_n 0, 1) := by decide +kernel
theorem dX0_insert_73 : decode cX0_insert 73 = .ok (.dup, 1) := by decide +kernel
theorem dX0_insert_74 : decode cX0_insert 74 = .ok (.getfield 24, 3) := by decide +kernel
theorem dX0_insert_77 : decode cX0_insert 77 = .ok (.iconst 1, 1) := by decide +kernel
theorem dX0_insert_78 : decode cX0_insert 78 = .ok (.iadd, 1) := by decide +kernel
theorem dX0_insert_79 : decode cX0_insert 79 = .ok (.putfield 24, 3) := by decide +kernel
theorem dX0_insert_82 : decode cX0_insert 82 = .ok (.aload_n 0, 1) := by decide +kernel
theorem dX0_insert_83 : decode cX0_insert 83 = .ok (.invokevirtual 35, 3) := by decide +kernel
theorem dX0_insert_86 : decode cX0_insert 86 = .ok (.return_, 1) := by decide +kernel
theorem dX0_takeOut_0 : decode cX0_takeOut 0 = .ok (.iload_n 1, 1) := by decide +kernel
theorem dX0_takeOut_1 : decode cX0_takeOut 1 = .ok (.ifCond .lt 11, 3) := by decide +kernel
theorem dX0_takeOut_4 : decode cX0_takeOut 4 = .ok (.iload_n 1, 1) := by decide +kernel
theorem dX0_takeOut_5 : decode cX0_takeOut 5 = .ok (.aload_n 0, 1) := by decide +kernel
theorem dX0_takeOut_6 : decode cX0_takeOut 6 = .ok (.getfield 24, 3) := by decide +kernel
theorem dX0_takeOut_9 : decode cX0_takeOut 9 = .ok (.if_icmp .lt 4, 3) := by decide +kernel
theorem dX0_takeOut_12 : decode cX0_takeOut 12 = .ok (.return_, 1) := by decide +kernel
theorem dX0_takeOut_13 : decode cX0_takeOut 13 = .ok (.iload_n 1, 1) := by decide +kernel
theorem dX0_takeOut_14 : decode cX0_takeOut 14 = .ok (.iconst 1, 1) := by decide +kernel
theorem dX0_takeOut_15 : decode cX0_takeOut 15 = .ok (.iadd, 1) := by decide +kernel
theorem dX0_takeOut_16 : decode cX0_takeOut 16 = .ok (.istore_n 2, 1) := by decide +kernel
theorem dX0_takeOut_17 : decode cX0_takeOut 17 = .ok (.iload_n 2, 1) := by decide +kernel
theorem dX0_takeOut_18 : decode cX0_takeOut 18 = .ok (.aload_n 0, 1) := by decide +kernel
theorem dX0_takeOut_19 : decode cX0_takeOut 19 = .ok (.getfield 24, 3) := by decide +kernel
theorem dX0_takeOut_22 : decode cX0_takeOut 22 = .ok (.if_icmp .ge 17, 3) := by decide +kernel
theorem dX0_takeOut_25 : decode cX0_takeOut 25 = .ok (.aload_n 0, 1) := by decide +kernel
theorem dX0_takeOut_26 : decode cX0_takeOut 26 = .ok (.iload_n 2, 1) := by decide +kernel
theorem dX0_takeOut_27 : decode cX0_takeOut 27 = .ok (.iload_n 2, 1) := by decide +kernel
theorem dX0_takeOut_28 : decode cX0_takeOut 28 = .ok (.iconst 1, 1) := by decide +kernel
theorem dX0_takeOut_29 : decode cX0_takeOut 29 = .ok (.isub, 1) := by decide +kernel
theorem dX0_takeOut_30 : decode cX0_takeOut 30 = .ok (.invokevirtual 31, 3) := by decide +kernel
theorem dX0_takeOut_33 : decode cX0_takeOut 33 = .ok (.iinc 2 1, 3) := by decide +kernel
theorem dX0_takeOut_36 : decode cX0_takeOut 36 = .ok (.goto (-19), 3) := by decide +kernel
theorem dX0_takeOut_39 : decode cX0_takeOut 39 = .ok (.aload_n 0, 1) := by decide +kernel
theorem dX0_takeOut_40 : decode cX0_takeOut 40 = .ok (.dup, 1) := by decide +kernel
theorem dX0_takeOut_41 : decode cX0_takeOut 41 = .ok (.getfield 24, 3) := by decide +kernel
theorem dX0_takeOut_44 : decode cX0_takeOut 44 = .ok (.iconst 1, 1) := by decide +kernel
theorem dX0_takeOut_45 : decode cX0_takeOut 45 = .ok (.isub, 1) := by decide +kernel
theorem dX0_takeOut_46 : decode cX0_takeOut 46 = .ok (.putfield 24, 3) := by decide +kernel
theorem dX0_takeOut_49 : decode cX0_takeOut 49 = .ok (.aload_n 0, 1) := by decide +kernel
theorem dX0_takeOut_50 : decode cX0_takeOut 50 = .ok (.invokevirtual 35, 3) := by decide +kernel
theorem dX0_takeOut_53 : decode cX0_takeOut 53 = .ok (.return_, 1) := by decide +kernel
theorem dX0_putAt_0 : decode cX0_putAt 0 = .ok (.iload_n 1, 1) := by decide +kernel
theorem dX0_putAt_1 : decode cX0_putAt 1 = .ok (.ifCond .lt 11, 3) := by decide +kernel
theorem dX0_putAt_4 : decode cX0_putAt 4 = .ok (.iload_n 1, 1) := by decide +kernel
theorem dX0_putAt_5 : decode cX0_putAt 5 = .ok (.aload_n 0, 1) := by decide +kernel
theorem dX0_putAt_6 : decode cX0_putAt 6 = .ok (.getfield 24, 3) := by decide +kernel
theorem dX0_putAt_9 : decode cX0_putAt 9 = .ok (.if_icmp .lt 4, 3) := by decide +kernel
theorem dX0_putAt_12 : decode cX0_putAt 12 = .ok (.return_, 1) := by decide +kernel
theorem dX0_putAt_13 : decode cX0_putAt 13 = .ok (.aload_n 0, 1) := by decide +kernel
theorem dX0_putAt_14 : decode cX0_putAt 14 = .ok (.getfield 9, 3) := by decide +kernel
theorem dX0_putAt_17 : decode cX0_putAt 17 = .ok (.iload_n 1, 1) := by decide +kernel
theorem dX0_putAt_18 : decode cX0_putAt 18 = .ok (.iload_n 2, 1) := by decide +kernel
theorem dX0_putAt_19 : decode cX0_putAt 19 = .ok (.iastore, 1) := by decide +kernel
theorem dX0_putAt_20 : decode cX0_putAt 20 = .ok (.aload_n 0, 1) := by decide +kernel
theorem dX0_putAt_21 : decode cX0_putAt 21 = .ok (.invokevirtual 35, 3) := by decide +kernel
theorem dX0_putAt_24 : decode cX0_putAt 24 = .ok (.return_, 1) := by decide +kernel
theorem dX0_positionOf_0 : decode cX0_positionOf 0 = .ok (.iload_n 1, 1) := by decide +kernel
theorem dX0_positionOf_1 : decode cX0_positionOf 1 = .ok (.ifCond .lt 11, 3) := by decide +kernel
theorem dX0_positionOf_4 : decode cX0_positionOf 4 = .ok (.iload_n 1, 1) := by decide +kernel
theorem dX0_positionOf_5 : decode cX0_positionOf 5 = .ok (.aload_n 0, 1) := by decide +kernel
theorem dX0_positionOf_6 : decode cX0_positionOf 6 = .ok (.getfield 28, 3) := by decide +kernel
theorem dX0_positionOf_9 : decode cX0_positionOf 9 = .ok (.if_icmp .lt 7, 3) := by decide +kernel
theorem dX0_positionOf_12 : decode cX0_positionOf 12 = .ok (.iconst (-1), 1) := by decide +kernel
theorem dX0_positionOf_13 : decode cX0_positionOf 13 = .ok (.goto 9, 3) := by decide +kernel
theorem dX0_positionOf_16 : decode cX0_positionOf 16 = .ok (.aload_n 0, 1) := by decide +kernel
theorem dX0_positionOf_17 : decode cX0_positionOf 17 = .ok (.getfield 21, 3) := by decide +kernel
theorem dX0_positionOf_20 : decode cX0_positionOf 20 = .ok (.iload_n 1, 1) := by decide +kernel
theorem dX0_positionOf_21 : decode cX0_positionOf 21 = .ok (.iaload, 1) := by decide +kernel
theorem dX0_positionOf_22 : decode cX0_positionOf 22 = .ok (.ireturn, 1) := by decide +kernel
theorem dX0_copyDrawing_0 : decode cX0_copyDrawing 0 = .ok (.aload_n 0, 1) := by decide +kernel
theorem dX0_copyDrawing_1 : decode cX0_copyDrawing 1 = .ok (.getfield 9, 3) := by decide +kernel
theorem dX0_copyDrawing_4 : decode cX0_copyDrawing 4 = .ok (.iload_n 2, 1) := by decide +kernel
theorem dX0_copyDrawing_5 : decode cX0_copyDrawing 5 = .ok (.aload_n 0, 1) := by decide +kernel
theorem dX0_copyDrawing_6 : decode cX0_copyDrawing 6 = .ok (.getfield 9, 3) := by decide +kernel
theorem dX0_copyDrawing_9 : decode cX0_copyDrawing 9 = .ok (.iload_n 1, 1) := by decide +kernel
theorem dX0_copyDrawing_10 : decode cX0_copyDrawing 10 = .ok (.iaload, 1) := by decide +kernel
theorem dX0_copyDrawing_11 : decode cX0_copyDrawing 11 = .ok (.iastore, 1) := by decide +kernel
theorem dX0_copyDrawing_12 : decode cX0_copyDrawing 12 = .ok (.aload_n 0, 1) := by decide +kernel
theorem dX0_copyDrawing_13 : decode cX0_copyDrawing 13 = .ok (.getfield 15, 3) := by decide +kernel
theorem dX0_copyDrawing_16 : decode cX0_copyDrawing 16 = .ok (.iload_n 2, 1) := by decide +kernel
theorem dX0_copyDrawing_17 : decode cX0_copyDrawing 17 = .ok (.aload_n 0, 1) := by decide +kernel
theorem dX0_copyDrawing_18 : decode cX0_copyDrawing 18 = .ok (.getfield 15, 3) := by decide +kernel
theorem dX0_copyDrawing_21 : decode cX0_copyDrawing 21 = .ok (.iload_n 1, 1) := by decide +kernel
theorem dX0_copyDrawing_22 : decode cX0_copyDrawing 22 = .ok (.iaload, 1) := by decide +kernel
theorem dX0_copyDrawing_23 : decode cX0_copyDrawing 23 = .ok (.iastore, 1) := by decide +kernel
theorem dX0_copyDrawing_24 : decode cX0_copyDrawing 24 = .ok (.aload_n 0, 1) := by decide +kernel
theorem dX0_copyDrawing_25 : decode cX0_copyDrawing 25 = .ok (.getfield 18, 3) := by decide +kernel
theorem dX0_copyDrawing_28 : decode cX0_copyDrawing 28 = .ok (.iload_n 2, 1) := by decide +kernel
theorem dX0_copyDrawing_29 : decode cX0_copyDrawing 29 = .ok (.aload_n 0, 1) := by decide +kernel
theorem dX0_copyDrawing_30 : decode cX0_copyDrawing 30 = .ok (.getfield 18, 3) := by decide +kernel
theorem dX0_copyDrawing_33 : decode cX0_copyDrawing 33 = .ok (.iload_n 1, 1) := by decide +kernel
theorem dX0_copyDrawing_34 : decode cX0_copyDrawing 34 = .ok (.iaload, 1) := by decide +kernel
theorem dX0_copyDrawing_35 : decode cX0_copyDrawing 35 = .ok (.iastore, 1) := by decide +kernel
theorem dX0_copyDrawing_36 : decode cX0_copyDrawing 36 = .ok (.return_, 1) := by decide +kernel
theorem dX0_layFrames_0 : decode cX0_layFrames 0 = .ok (.aload_n 0, 1) := by decide +kernel
theorem dX0_layFrames_1 : decode cX0_layFrames 1 = .ok (.iconst 0, 1) := by decide +kernel
theorem dX0_layFrames_2 : decode cX0_layFrames 2 = .ok (.putfield 28, 3) := by decide +kernel
theorem dX0_layFrames_5 : decode cX0_layFrames 5 = .ok (.iconst 0, 1) := by decide +kernel
theorem dX0_layFrames_6 : decode cX0_layFrames 6 = .ok (.istore_n 1, 1) := by decide +kernel
theorem dX0_layFrames_7 : decode cX0_layFrames 7 = .ok (.iload_n 1, 1) := by decide +kernel
theorem dX0_layFrames_8 : decode cX0_layFrames 8 = .ok (.aload_n 0, 1) := by decide +kernel
theorem dX0_layFrames_9 : decode cX0_layFrames 9 = .ok (.getfield 24, 3) := by decide +kernel
theorem dX0_layFrames_12 : decode cX0_layFrames 12 = .ok (.if_icmp .ge 59, 3) := by decide +kernel
theorem dX0_layFrames_15 : decode cX0_layFrames 15 = .ok (.aload_n 0, 1) := by decide +kernel
theorem dX0_layFrames_16 : decode cX0_layFrames 16 = .ok (.aload_n 0, 1) := by decide +kernel
theorem dX0_layFrames_17 : decode cX0_layFrames 17 = .ok (.getfield 9, 3) := by decide +kernel
theorem dX0_layFrames_20 : decode cX0_layFrames 20 = .ok (.iload_n 1, 1) := by decide +kernel
theorem dX0_layFrames_21 : decode cX0_layFrames 21 = .ok (.iaload, 1) := by decide +kernel
theorem dX0_layFrames_22 : decode cX0_layFrames 22 = .ok (.invokevirtual 38, 3) := by decide +kernel
theorem dX0_layFrames_25 : decode cX0_layFrames 25 = .ok (.iload_n 1, 1) := by decide +kernel
theorem dX0_layFrames_26 : decode cX0_layFrames 26 = .ok (.iconst 1, 1) := by decide +kernel
theorem dX0_layFrames_27 : decode cX0_layFrames 27 = .ok (.iadd, 1) := by decide +kernel
theorem dX0_layFrames_28 : decode cX0_layFrames 28 = .ok (.aload_n 0, 1) := by decide +kernel
theorem dX0_layFrames_29 : decode cX0_layFrames 29 = .ok (.getfield 24, 3) := by decide +kernel
theorem dX0_layFrames_32 : decode cX0_layFrames 32 = .ok (.if_icmp .ge 33, 3) := by decide +kernel
theorem dX0_layFrames_35 : decode cX0_layFrames 35 = .ok (.aload_n 0, 1) := by decide +kernel
theorem dX0_layFrames_36 : decode cX0_layFrames 36 = .ok (.aload_n 0, 1) := by decide +kernel
theorem dX0_layFrames_37 : decode cX0_layFrames 37 = .ok (.getfield 9, 3) := by decide +kernel
theorem dX0_layFrames_40 : decode cX0_layFrames 40 = .ok (.iload_n 1, 1) := by decide +kernel
theorem dX0_layFrames_41 : decode cX0_layFrames 41 = .ok (.iaload, 1) := by decide +kernel
theorem dX0_layFrames_42 : decode cX0_layFrames 42 = .ok (.aload_n 0, 1) := by decide +kernel
theorem dX0_layFrames_43 : decode cX0_layFrames 43 = .ok (.getfield 9, 3) := by decide +kernel
theorem dX0_layFrames_46 : decode cX0_layFrames 46 = .ok (.iload_n 1, 1) := by decide +kernel
theorem dX0_layFrames_47 : decode cX0_layFrames 47 = .ok (.iconst 1, 1) := by decide +kernel
theorem dX0_layFrames_48 : decode cX0_layFrames 48 = .ok (.iadd, 1) := by decide +kernel
theorem dX0_layFrames_49 : decode cX0_layFrames 49 = .ok (.iaload, 1) := by decide +kernel
theorem dX0_layFrames_50 : decode cX0_layFrames 50 = .ok (.aload_n 0, 1) := by decide +kernel
theorem dX0_layFrames_51 : decode cX0_layFrames 51 = .ok (.getfield 15, 3) := by decide +kernel
theorem dX0_layFrames_54 : decode cX0_layFrames 54 = .ok (.iload_n 1, 1) := by decide +kernel
theorem dX0_layFrames_55 : decode cX0_layFrames 55 = .ok (.iaload, 1) := by decide +kernel
theorem dX0_layFrames_56 : decode cX0_layFrames 56 = .ok (.aload_n 0, 1) := by decide +kernel
theorem dX0_layFrames_57 : decode cX0_layFrames 57 = .ok (.getfield 18, 3) := by decide +kernel
theorem dX0_layFrames_60 : decode cX0_layFrames 60 = .ok (.iload_n 1, 1) := by decide +kernel
theorem dX0_layFrames_61 : decode cX0_layFrames 61 = .ok (.iaload, 1) := by decide +kernel
theorem dX0_layFrames_62 : decode cX0_layFrames 62 = .ok (.invokevirtual 42, 3) := by decide +kernel
theorem dX0_layFrames_65 : decode cX0_layFrames 65 = .ok (.iinc 1 1, 3) := by decide +kernel
theorem dX0_layFrames_68 : decode cX0_layFrames 68 = .ok (.goto (-61), 3) := by decide +kernel
theorem dX0_layFrames_71 : decode cX0_layFrames 71 = .ok (.return_, 1) := by decide +kernel
theorem dX0_addBetweens_0 : decode cX0_addBetweens 0 = .ok (.iload_n 3, 1) := by decide +kernel
theorem dX0_addBetweens_1 : decode cX0_addBetweens 1 = .ok (.iconst 1, 1) := by decide +kernel
theorem dX0_addBetweens_2 : decode cX0_addBetweens 2 = .ok (.iadd, 1) := by decide +kernel
theorem dX0_addBetweens_3 : decode cX0_addBetweens 3 = .ok (.istore 5, 2) := by decide +kernel
theorem dX0_addBetweens_5 : decode cX0_addBetweens 5 = .ok (.iload 5, 2) := by decide +kernel
theorem dX0_addBetweens_7 : decode cX0_addBetweens 7 = .ok (.iload 5, 2) := by decide +kernel
theorem dX0_addBetweens_9 : decode cX0_addBetweens 9 = .ok (.imul, 1) := by decide +kernel
theorem dX0_addBetweens_10 : decode cX0_addBetweens 10 = .ok (.istore 6, 2) := by decide +kernel
theorem dX0_addBetweens_12 : decode cX0_addBetweens 12 = .ok (.iload 6, 2) := by decide +kernel
theorem dX0_addBetweens_14 : decode cX0_addBetweens 14 = .ok (.ifCond .gt 4, 3) := by decide +kernel
theorem dX0_addBetweens_17 : decode cX0_addBetweens 17 = .ok (.return_, 1) := by decide +kernel
theorem dX0_addBetweens_18 : decode cX0_addBetweens 18 = .ok (.iconst 1, 1) := by decide +kernel
theorem dX0_addBetweens_19 : decode cX0_addBetweens 19 = .ok (.istore 7, 2) := by decide +kernel
theorem dX0_addBetweens_21 : decode cX0_addBetweens 21 = .ok (.iload 7, 2) := by decide +kernel
theorem dX0_addBetweens_23 : decode cX0_addBetweens 23 = .ok (.iload_n 3, 1) := by decide +kernel
theorem dX0_addBetweens_24 : decode cX0_addBetweens 24 = .ok (.if_icmp .gt 31, 3) := by decide +kernel
theorem dX0_addBetweens_27 : decode cX0_addBetweens 27 = .ok (.aload_n 0, 1) := by decide +kernel
theorem dX0_addBetweens_28 : decode cX0_addBetweens 28 = .ok (.iload_n 1, 1) := by decide +kernel
theorem dX0_addBetweens_29 : decode cX0_addBetweens 29 = .ok (.iload_n 2, 1) := by decide +kernel
theorem dX0_addBetweens_30 : decode cX0_addBetweens 30 = .ok (.iload_n 1, 1) := by decide +kernel
theorem dX0_addBetweens_31 : decode cX0_addBetweens 31 = .ok (.isub, 1) := by decide +kernel
theorem dX0_addBetweens_32 : decode cX0_addBetweens 32 = .ok (.iload 7, 2) := by decide +kernel
theorem dX0_addBetweens_34 : decode cX0_addBetweens 34 = .ok (.iload 5, 2) := by decide +kernel
theorem dX0_addBetweens_36 : decode cX0_addBetweens 36 = .ok (.iload 4, 2) := by decide +kernel
theorem dX0_addBetweens_38 : decode cX0_addBetweens 38 = .ok (.invokestatic 46, 3) := by decide +kernel
theorem dX0_addBetweens_41 : decode cX0_addBetweens 41 = .ok (.imul, 1) := by decide +kernel
theorem dX0_addBetweens_42 : decode cX0_addBetweens 42 = .ok (.iload 6, 2) := by decide +kernel
theorem dX0_addBetweens_44 : decode cX0_addBetweens 44 = .ok (.idiv, 1) := by decide +kernel
theorem dX0_addBetweens_45 : decode cX0_addBetweens 45 = .ok (.iadd, 1) := by decide +kernel
theorem dX0_addBetweens_46 : decode cX0_addBetweens 46 = .ok (.invokevirtual 38, 3) := by decide +kernel
theorem dX0_addBetweens_49 : decode cX0_addBetweens 49 = .ok (.iinc 7 1, 3) := by decide +kernel
theorem dX0_addBetweens_52 : decode cX0_addBetweens 52 = .ok (.goto (-31), 3) := by decide +kernel
theorem dX0_addBetweens_55 : decode cX0_addBetweens 55 = .ok (.return_, 1) := by decide +kernel
theorem dX0_addFrame_0 : decode cX0_addFrame 0 = .ok (.aload_n 0, 1) := by decide +kernel
theorem dX0_addFrame_1 : decode cX0_addFrame 1 = .ok (.getfield 28, 3) := by decide +kernel
theorem dX0_addFrame_4 : decode cX0_addFrame 4 = .ok (.bipush 43, 2) := by decide +kernel
theorem dX0_addFrame_6 : decode cX0_addFrame 6 = .ok (.if_icmp .ge 23, 3) := by decide +kernel
theorem dX0_addFrame_9 : decode cX0_addFrame 9 = .ok (.aload_n 0, 1) := by decide +kernel
theorem dX0_addFrame_10 : decode cX0_addFrame 10 = .ok (.getfield 21, 3) := by decide +kernel
theorem dX0_addFrame_13 : decode cX0_addFrame 13 = .ok (.aload_n 0, 1) := by decide +kernel
theorem dX0_addFrame_14 : decode cX0_addFrame 14 = .ok (.getfield 28, 3) := by decide +kernel
theorem dX0_addFrame_17 : decode cX0_addFrame 17 = .ok (.iload_n 1, 1) := by decide +kernel
theorem dX0_addFrame_18 : decode cX0_addFrame 18 = .ok (.iastore, 1) := by decide +kernel
theorem dX0_addFrame_19 : decode cX0_addFrame 19 = .ok (.aload_n 0, 1) := by decide +kernel
theorem dX0_addFrame_20 : decode cX0_addFrame 20 = .ok (.dup, 1) := by decide +kernel
theorem dX0_addFrame_21 : decode cX0_addFrame 21 = .ok (.getfield 28, 3) := by decide +kernel
theorem dX0_addFrame_24 : decode cX0_addFrame 24 = .ok (.iconst 1, 1) := by decide +kernel
theorem dX0_addFrame_25 : decode cX0_addFrame 25 = .ok (.iadd, 1) := by decide +kernel
theorem dX0_addFrame_26 : decode cX0_addFrame 26 = .ok (.putfield 28, 3) := by decide +kernel
theorem dX0_addFrame_29 : decode cX0_addFrame 29 = .ok (.return_, 1) := by decide +kernel
theorem dX0_shareOfWay_0 : decode cX0_shareOfWay 0 = .ok (.iload_n 1, 1) := by decide +kernel
theorem dX0_shareOfWay_1 : decode cX0_shareOfWay 1 = .ok (.iload_n 0, 1) := by decide +kernel
theorem dX0_shareOfWay_2 : decode cX0_shareOfWay 2 = .ok (.isub, 1) := by decide +kernel
theorem dX0_shareOfWay_3 : decode cX0_shareOfWay 3 = .ok (.istore_n 3, 1) := by decide +kernel
theorem dX0_shareOfWay_4 : decode cX0_shareOfWay 4 = .ok (.iload_n 2, 1) := by decide +kernel
theorem dX0_shareOfWay_5 : decode cX0_shareOfWay 5 = .ok (.tableswitch 64 1 3 #[27, 31, 39], 27) := by decide +kernel
theorem dX0_shareOfWay_32 : decode cX0_shareOfWay 32 = .ok (.iload_n 0, 1) := by decide +kernel
theorem dX0_shareOfWay_33 : decode cX0_shareOfWay 33 = .ok (.iload_n 0, 1) := by decide +kernel
theorem dX0_shareOfWay_34 : decode cX0_shareOfWay 34 = .ok (.imul, 1) := by decide +kernel
theorem dX0_shareOfWay_35 : decode cX0_shareOfWay 35 = .ok (.ireturn, 1) := by decide +kernel
theorem dX0_shareOfWay_36 : decode cX0_shareOfWay 36 = .ok (.iload_n 1, 1) := by decide +kernel
theorem dX0_shareOfWay_37 : decode cX0_shareOfWay 37 = .ok (.iload_n 1, 1) := by decide +kernel
theorem dX0_shareOfWay_38 : decode cX0_shareOfWay 38 = .ok (.imul, 1) := by decide +kernel
theorem dX0_shareOfWay_39 : decode cX0_shareOfWay 39 = .ok (.iload_n 3, 1) := by decide +kernel
theorem dX0_shareOfWay_40 : decode cX0_shareOfWay 40 = .ok (.iload_n 3, 1) := by decide +kernel
theorem dX0_shareOfWay_41 : decode cX0_shareOfWay 41 = .ok (.imul, 1) := by decide +kernel
theorem dX0_shareOfWay_42 : decode cX0_shareOfWay 42 = .ok (.isub, 1) := by decide +kernel
theorem dX0_shareOfWay_43 : decode cX0_shareOfWay 43 = .ok (.ireturn, 1) := by decide +kernel
theorem dX0_shareOfWay_44 : decode cX0_shareOfWay 44 = .ok (.iconst 2, 1) := by decide +kernel
theorem dX0_shareOfWay_45 : decode cX0_shareOfWay 45 = .ok (.iload_n 0, 1) := by decide +kernel
theorem dX0_shareOfWay_46 : decode cX0_shareOfWay 46 = .ok (.imul, 1) := by decide +kernel
theorem dX0_shareOfWay_47 : decode cX0_shareOfWay 47 = .ok (.iload_n 1, 1) := by decide +kernel
theorem dX0_shareOfWay_48 : decode cX0_shareOfWay 48 = .ok (.if_icmp .gt 11, 3) := by decide +kernel
theorem dX0_shareOfWay_51 : decode cX0_shareOfWay 51 = .ok (.iconst 2, 1) := by decide +kernel
theorem dX0_shareOfWay_52 : decode cX0_shareOfWay 52 = .ok (.iload_n 0, 1) := by decide +kernel
theorem dX0_shareOfWay_53 : decode cX0_shareOfWay 53 = .ok (.imul, 1) := by decide +kernel
theorem dX0_shareOfWay_54 : decode cX0_shareOfWay 54 = .ok (.iload_n 0, 1) := by decide +kernel
theorem dX0_shareOfWay_55 : decode cX0_shareOfWay 55 = .ok (.imul, 1) := by decide +kernel
theorem dX0_shareOfWay_56 : decode cX0_shareOfWay 56 = .ok (.goto 12, 3) := by decide +kernel
theorem dX0_shareOfWay_59 : decode cX0_shareOfWay 59 = .ok (.iload_n 1, 1) := by decide +kernel
theorem dX0_shareOfWay_60 : decode cX0_shareOfWay 60 = .ok (.iload_n 1, 1) := by decide +kernel
theorem dX0_shareOfWay_61 : decode cX0_shareOfWay 61 = .ok (.imul, 1) := by decide +kernel
theorem dX0_shareOfWay_62 : decode cX0_shareOfWay 62 = .ok (.iconst 2, 1) := by decide +kernel
theorem dX0_shareOfWay_63 : decode cX0_shareOfWay 63 = .ok (.iload_n 3, 1) := by decide +kernel
theorem dX0_shareOfWay_64 : decode cX0_shareOfWay 64 = .ok (.imul, 1) := by decide +kernel
theorem dX0_shareOfWay_65 : decode cX0_shareOfWay 65 = .ok (.iload_n 3, 1) := by decide +kernel
theorem dX0_shareOfWay_66 : decode cX0_shareOfWay 66 = .ok (.imul, 1) := by decide +kernel
theorem dX0_shareOfWay_67 : decode cX0_shareOfWay 67 = .ok (.isub, 1) := by decide +kernel
theorem dX0_shareOfWay_68 : decode cX0_shareOfWay 68 = .ok (.ireturn, 1) := by decide +kernel
theorem dX0_shareOfWay_69 : decode cX0_shareOfWay 69 = .ok (.iload_n 0, 1) := by decide +kernel
theorem dX0_shareOfWay_70 : decode cX0_shareOfWay 70 = .ok (.iload_n 1, 1) := by decide +kernel
theorem dX0_shareOfWay_71 : decode cX0_shareOfWay 71 = .ok (.imul, 1) := by decide +kernel
theorem dX0_shareOfWay_72 : decode cX0_shareOfWay 72 = .ok (.ireturn, 1) := by decide +kernel
theorem dX1_init_0 : decode cX1_init 0 = .ok (.aload_n 0, 1) := by decide +kernel
theorem dX1_init_1 : decode cX1_init 1 = .ok (.invokespecial 3, 3) := by decide +kernel
theorem dX1_init_4 : decode cX1_init 4 = .ok (.aload_n 0, 1) := by decide +kernel
theorem dX1_init_5 : decode cX1_init 5 = .ok (.bipush 43, 2) := by decide +kernel
theorem dX1_init_7 : decode cX1_init 7 = .ok (.anewarray 9, 3) := by decide +kernel
theorem dX1_init_10 : decode cX1_init 10 = .ok (.putfield 11, 3) := by decide +kernel
theorem dX1_init_13 : decode cX1_init 13 = .ok (.aload_n 0, 1) := by decide +kernel
theorem dX1_init_14 : decode cX1_init 14 = .ok (.iconst 0, 1) := by decide +kernel
theorem dX1_init_15 : decode cX1_init 15 = .ok (.putfield 17, 3) := by decide +kernel
theorem dX1_init_18 : decode cX1_init 18 = .ok (.aload_n 0, 1) := by decide +kernel
theorem dX1_init_19 : decode cX1_init 19 = .ok (.iconst 0, 1) := by decide +kernel
theorem dX1_init_20 : decode cX1_init 20 = .ok (.putfield 21, 3) := by decide +kernel
theorem dX1_init_23 : decode cX1_init 23 = .ok (.return_, 1) := by decide +kernel
theorem dX1_leafOf_0 : decode cX1_leafOf 0 = .ok (.iload_n 1, 1) := by decide +kernel
theorem dX1_leafOf_1 : decode cX1_leafOf 1 = .ok (.ifCond .lt 12, 3) := by decide +kernel
theorem dX1_leafOf_4 : decode cX1_leafOf 4 = .ok (.iload_n 1, 1) := by decide +kernel
theorem dX1_leafOf_5 : decode cX1_leafOf 5 = .ok (.aload_n 0, 1) := by decide +kernel
theorem dX1_leafOf_6 : decode cX1_leafOf 6 = .ok (.getfield 11, 3) := by decide +kernel
theorem dX1_leafOf_9 : decode cX1_leafOf 9 = .ok (.arraylength, 1) := by decide +kernel
theorem dX1_leafOf_10 : decode cX1_leafOf 10 = .ok (.if_icmp .lt 7, 3) := by decide +kernel
theorem dX1_leafOf_13 : decode cX1_leafOf 13 = .ok (.aconst_null, 1) := by decide +kernel
theorem dX1_leafOf_14 : decode cX1_leafOf 14 = .ok (.goto 9, 3) := by decide +kernel
theorem dX1_leafOf_17 : decode cX1_leafOf 17 = .ok (.aload_n 0, 1) := by decide +kernel
theorem dX1_leafOf_18 : decode cX1_leafOf 18 = .ok (.getfield 11, 3) := by decide +kernel
theorem dX1_leafOf_21 : decode cX1_leafOf 21 = .ok (.iload_n 1, 1) := by decide +kernel
theorem dX1_leafOf_22 : decode cX1_leafOf 22 = .ok (.aaload, 1) := by decide +kernel
theorem dX1_leafOf_23 : decode cX1_leafOf 23 = .ok (.areturn, 1) := by decide +kernel
theorem dX1_take_0 : decode cX1_take 0 = .ok (.aload_n 1, 1) := by decide +kernel
theorem dX1_take_1 : decode cX1_take 1 = .ok (.getfield 25, 3) := by decide +kernel
theorem dX1_take_4 : decode cX1_take 4 = .ok (.ifCond .lt 25, 3) := by decide +kernel
theorem dX1_take_7 : decode cX1_take 7 = .ok (.aload_n 1, 1) := by decide +kernel
theorem dX1_take_8 : decode cX1_take 8 = .ok (.getfield 25, 3) := by decide +kernel
theorem dX1_take_11 : decode cX1_take 11 = .ok (.aload_n 0, 1) := by decide +kernel
theorem dX1_take_12 : decode cX1_take 12 = .ok (.getfield 11, 3) := by decide +kernel
theorem dX1_take_15 : decode cX1_take 15 = .ok (.arraylength, 1) := by decide +kernel
theorem dX1_take_16 : decode cX1_take 16 = .ok (.if_icmp .ge 13, 3) := by decide +kernel
theorem dX1_take_19 : decode cX1_take 19 = .ok (.aload_n 0, 1) := by decide +kernel
theorem dX1_take_20 : decode cX1_take 20 = .ok (.getfield 11, 3) := by decide +kernel
theorem dX1_take_23 : decode cX1_take 23 = .ok (.aload_n 1, 1) := by decide +kernel
theorem dX1_take_24 : decode cX1_take 24 = .ok (.getfield 25, 3) := by decide +kernel
theorem dX1_take_27 : decode cX1_take 27 = .ok (.aload_n 1, 1) := by decide +kernel
theorem dX1_take_28 : decode cX1_take 28 = .ok (.aastore, 1) := by decide +kernel
theorem dX1_take_29 : decode cX1_take 29 = .ok (.return_, 1) := by decide +kernel
theorem dX1_isLacking_0 : decode cX1_isLacking 0 = .ok (.aload_n 0, 1) := by decide +kernel
theorem dX1_isLacking_1 : decode cX1_isLacking 1 = .ok (.getfield 17, 3) := by decide +kernel
theorem dX1_isLacking_4 : decode cX1_isLacking 4 = .ok (.ifCond .ne 15, 3) := by decide +kernel
theorem dX1_isLacking_7 : decode cX1_isLacking 7 = .ok (.aload_n 0, 1) := by decide +kernel
theorem dX1_isLacking_8 : decode cX1_isLacking 8 = .ok (.iload_n 1, 1) := by decide +kernel
theorem dX1_isLacking_9 : decode cX1_isLacking 9 = .ok (.invokevirtual 28, 3) := by decide +kernel
theorem dX1_isLacking_12 : decode cX1_isLacking 12 = .ok (.ifnonnull 7, 3) := by decide +kernel
theorem dX1_isLacking_15 : decode cX1_isLacking 15 = .ok (.iconst 1, 1) := by decide +kernel
theorem dX1_isLacking_16 : decode cX1_isLacking 16 = .ok (.goto 4, 3) := by decide +kernel
theorem dX1_isLacking_19 : decode cX1_isLacking 19 = .ok (.iconst 0, 1) := by decide +kernel
theorem dX1_isLacking_20 : decode cX1_isLacking 20 = .ok (.ireturn, 1) := by decide +kernel
theorem dX1_countLacking_0 : decode cX1_countLacking 0 = .ok (.iconst 0, 1) := by decide +kernel
theorem dX1_countLacking_1 : decode cX1_countLacking 1 = .ok (.istore_n 2, 1) := by decide +kernel
theorem dX1_countLacking_2 : decode cX1_countLacking 2 = .ok (.iconst 0, 1) := by decide +kernel
theorem dX1_countLacking_3 : decode cX1_countLacking 3 = .ok (.istore_n 3, 1) := by decide +kernel
theorem dX1_countLacking_4 : decode cX1_countLacking 4 = .ok (.iload_n 3, 1) := by decide +kernel
theorem dX1_countLacking_5 : decode cX1_countLacking 5 = .ok (.iload_n 1, 1) := by decide +kernel
theorem dX1_countLacking_6 : decode cX1_countLacking 6 = .ok (.if_icmp .ge 20, 3) := by decide +kernel
theorem dX1_countLacking_9 : decode cX1_countLacking 9 = .ok (.aload_n 0, 1) := by decide +kernel
theorem dX1_countLacking_10 : decode cX1_countLacking 10 = .ok (.iload_n 3, 1) := by decide +kernel
theorem dX1_countLacking_11 : decode cX1_countLacking 11 = .ok (.invokevirtual 32, 3) := by decide +kernel
theorem dX1_countLacking_14 : decode cX1_countLacking 14 = .ok (.ifCond .eq 6, 3) := by decide +kernel
theorem dX1_countLacking_17 : decode cX1_countLacking 17 = .ok (.iinc 2 1, 3) := by decide +kernel
theorem dX1_countLacking_20 : decode cX1_countLacking 20 = .ok (.iinc 3 1, 3) := by decide +kernel
theorem dX1_countLacking_23 : decode cX1_countLacking 23 = .ok (.goto (-19), 3) := by decide +kernel
theorem dX1_countLacking_26 : decode cX1_countLacking 26 = .ok (.iload_n 2, 1) := by decide +kernel
theorem dX1_countLacking_27 : decode cX1_countLacking 27 = .ok (.ireturn, 1) := by decide +kernel
theorem dX1_isAllCut_0 : decode cX1_isAllCut 0 = .ok (.iconst 0, 1) := by decide +kernel
theorem dX1_isAllCut_1 : decode cX1_isAllCut 1 = .ok (.istore_n 2, 1) := by decide +kernel
theorem dX1_isAllCut_2 : decode cX1_isAllCut 2 = .ok (.iload_n 2, 1) := by decide +kernel
theorem dX1_isAllCut_3 : decode cX1_isAllCut 3 = .ok (.iload_n 1, 1) := by decide +kernel
theorem dX1_isAllCut_4 : decode cX1_isAllCut 4 = .ok (.if_icmp .ge 31, 3) := by decide +kernel
theorem dX1_isAllCut_7 : decode cX1_isAllCut 7 = .ok (.aload_n 0, 1) := by decide +kernel
theorem dX1_isAllCut_8 : decode cX1_isAllCut 8 = .ok (.iload_n 2, 1) := by decide +kernel
theorem dX1_isAllCut_9 : decode cX1_isAllCut 9 = .ok (.invokevirtual 28, 3) := by decide +kernel
theorem dX1_isAllCut_12 : decode cX1_isAllCut 12 = .ok (.astore_n 3, 1) := by decide +kernel
theorem dX1_isAllCut_13 : decode cX1_isAllCut 13 = .ok (.aload_n 3, 1) := by decide +kernel
theorem dX1_isAllCut_14 : decode cX1_isAllCut 14 = .ok (.ifnull 13, 3) := by decide +kernel
theorem dX1_isAllCut_17 : decode cX1_isAllCut 17 = .ok (.aload_n 3, 1) := by decide +kernel
theorem dX1_isAllCut_18 : decode cX1_isAllCut 18 = .ok (.getfield 36, 3) := by decide +kernel
theorem dX1_isAllCut_21 : decode cX1_isAllCut 21 = .ok (.invokevirtual 40, 3) := by decide +kernel
theorem dX1_isAllCut_24 : decode cX1_isAllCut 24 = .ok (.ifCond .ne 5, 3) := by decide +kernel
theorem dX1_isAllCut_27 : decode cX1_isAllCut 27 = .ok (.iconst 0, 1) := by decide +kernel
theorem dX1_isAllCut_28 : decode cX1_isAllCut 28 = .ok (.ireturn, 1) := by decide +kernel
theorem dX1_isAllCut_29 : decode cX1_isAllCut 29 = .ok (.iinc 2 1, 3) := by decide +kernel
theorem dX1_isAllCut_32 : decode cX1_isAllCut 32 = .ok (.goto (-30), 3) := by decide +kernel
theorem dX1_isAllCut_35 : decode cX1_isAllCut 35 = .ok (.iconst 1, 1) := by decide +kernel
theorem dX1_isAllCut_36 : decode cX1_isAllCut 36 = .ok (.ireturn, 1) := by decide +kernel
theorem dX1_leastTrim_0 : decode cX1_leastTrim 0 = .ok (.bipush 15, 2) := by decide +kernel
theorem dX1_leastTrim_2 : decode cX1_leastTrim 2 = .ok (.istore_n 2, 1) := by decide +kernel
theorem dX1_leastTrim_3 : decode cX1_leastTrim 3 = .ok (.iconst 0, 1) := by decide +kernel
theorem dX1_leastTrim_4 : decode cX1_leastTrim 4 = .ok (.istore_n 3, 1) := by decide +kernel
theorem dX1_leastTrim_5 : decode cX1_leastTrim 5 = .ok (.iload_n 3, 1) := by decide +kernel
theorem dX1_leastTrim_6 : decode cX1_leastTrim 6 = .ok (.iload_n 1, 1) := by decide +kernel
theorem dX1_leastTrim_7 : decode cX1_leastTrim 7 = .ok (.if_icmp .ge 34, 3) := by decide +kernel
theorem dX1_leastTrim_10 : decode cX1_leastTrim 10 = .ok (.aload_n 0, 1) := by decide +kernel
theorem dX1_leastTrim_11 : decode cX1_leastTrim 11 = .ok (.iload_n 3, 1) := by decide +kernel
theorem dX1_leastTrim_12 : decode cX1_leastTrim 12 = .ok (.invokevirtual 28, 3) := by decide +kernel
theorem dX1_leastTrim_15 : decode cX1_leastTrim 15 = .ok (.astore 4, 2) := by decide +kernel
theorem dX1_leastTrim_17 : decode cX1_leastTrim 17 = .ok (.aload 4, 2) := by decide +kernel
theorem dX1_leastTrim_19 : decode cX1_leastTrim 19 = .ok (.ifnull 16, 3) := by decide +kernel
theorem dX1_leastTrim_22 : decode cX1_leastTrim 22 = .ok (.iload_n 2, 1) := by decide +kernel
theorem dX1_leastTrim_23 : decode cX1_leastTrim 23 = .ok (.aload 4, 2) := by decide +kernel
theorem dX1_leastTrim_25 : decode cX1_leastTrim 25 = .ok (.getfield 36, 3) := by decide +kernel
theorem dX1_leastTrim_28 : decode cX1_leastTrim 28 = .ok (.getfield 46, 3) := by decide +kernel
theorem dX1_leastTrim_31 : decode cX1_leastTrim 31 = .ok (.invokestatic 49, 3) := by decide +kernel
theorem dX1_leastTrim_34 : decode cX1_leastTrim 34 = .ok (.istore_n 2, 1) := by decide +kernel
theorem dX1_leastTrim_35 : decode cX1_leastTrim 35 = .ok (.iinc 3 1, 3) := by decide +kernel
theorem dX1_leastTrim_38 : decode cX1_leastTrim 38 = .ok (.goto (-33), 3) := by decide +kernel
theorem dX1_leastTrim_41 : decode cX1_leastTrim 41 = .ok (.iload_n 2, 1) := by decide +kernel
theorem dX1_leastTrim_42 : decode cX1_leastTrim 42 = .ok (.ireturn, 1) := by decide +kernel
theorem dX1_spoilAbove_0 : decode cX1_spoilAbove 0 = .ok (.iconst 0, 1) := by decide +kernel
theorem dX1_spoilAbove_1 : decode cX1_spoilAbove 1 = .ok (.istore_n 2, 1) := by decide +kernel
theorem dX1_spoilAbove_2 : decode cX1_spoilAbove 2 = .ok (.iconst 0, 1) := by decide +kernel
theorem dX1_spoilAbove_3 : decode cX1_spoilAbove 3 = .ok (.istore_n 3, 1) := by decide +kernel
theorem dX1_spoilAbove_4 : decode cX1_spoilAbove 4 = .ok (.iload_n 3, 1) := by decide +kernel
theorem dX1_spoilAbove_5 : decode cX1_spoilAbove 5 = .ok (.aload_n 0, 1) := by decide +kernel
theorem dX1_spoilAbove_6 : decode cX1_spoilAbove 6 = .ok (.getfield 11, 3) := by decide +kernel
theorem dX1_spoilAbove_9 : decode cX1_spoilAbove 9 = .ok (.arraylength, 1) := by decide +kernel
theorem dX1_spoilAbove_10 : decode cX1_spoilAbove 10 = .ok (.if_icmp .ge 43, 3) := by decide +kernel
theorem dX1_spoilAbove_13 : decode cX1_spoilAbove 13 = .ok (.aload_n 0, 1) := by decide +kernel
theorem dX1_spoilAbove_14 : decode cX1_spoilAbove 14 = .ok (.getfield 11, 3) := by decide +kernel
theorem dX1_spoilAbove_17 : decode cX1_spoilAbove 17 = .ok (.iload_n 3, 1) := by decide +kernel
theorem dX1_spoilAbove_18 : decode cX1_spoilAbove 18 = .ok (.aaload, 1) := by decide +kernel
theorem dX1_spoilAbove_19 : decode cX1_spoilAbove 19 = .ok (.astore 4, 2) := by decide +kernel
theorem dX1_spoilAbove_21 : decode cX1_spoilAbove 21 = .ok (.aload 4, 2) := by decide +kernel
theorem dX1_spoilAbove_23 : decode cX1_spoilAbove 23 = .ok (.ifnull 24, 3) := by decide +kernel
theorem dX1_spoilAbove_26 : decode cX1_spoilAbove 26 = .ok (.aload 4, 2) := by decide +kernel
theorem dX1_spoilAbove_28 : decode cX1_spoilAbove 28 = .ok (.getfield 36, 3) := by decide +kernel
theorem dX1_spoilAbove_31 : decode cX1_spoilAbove 31 = .ok (.getfield 46, 3) := by decide +kernel
theorem dX1_spoilAbove_34 : decode cX1_spoilAbove 34 = .ok (.iload_n 1, 1) := by decide +kernel
theorem dX1_spoilAbove_35 : decode cX1_spoilAbove 35 = .ok (.if_icmp .le 12, 3) := by decide +kernel
theorem dX1_spoilAbove_38 : decode cX1_spoilAbove 38 = .ok (.aload_n 0, 1) := by decide +kernel
theorem dX1_spoilAbove_39 : decode cX1_spoilAbove 39 = .ok (.aload 4, 2) := by decide +kernel
theorem dX1_spoilAbove_41 : decode cX1_spoilAbove 41 = .ok (.invokevirtual 55, 3) := by decide +kernel
theorem dX1_spoilAbove_44 : decode cX1_spoilAbove 44 = .ok (.iinc 2 1, 3) := by decide +kernel
theorem dX1_spoilAbove_47 : decode cX1_spoilAbove 47 = .ok (.iinc 3 1, 3) := by decide +kernel
theorem dX1_spoilAbove_50 : decode cX1_spoilAbove 50 = .ok (.goto (-46), 3) := by decide +kernel
theorem dX1_spoilAbove_53 : decode cX1_spoilAbove 53 = .ok (.iload_n 2, 1) := by decide +kernel
theorem dX1_spoilAbove_54 : decode cX1_spoilAbove 54 = .ok (.ireturn, 1) := by decide +kernel
theorem dX1_spoilChanged_0 : decode cX1_spoilChanged 0 = .ok (.aload_n 0, 1) := by decide +kernel
theorem dX1_spoilChanged_1 : decode cX1_spoilChanged 1 = .ok (.getfield 17, 3) := by decide +kernel
theorem dX1_spoilChanged_4 : decode cX1_spoilChanged 4 = .ok (.ifCond .eq 5, 3) := by decide +kernel
theorem dX1_spoilChanged_7 : decode cX1_spoilChanged 7 = .ok (.iconst 0, 1) := by decide +kernel
theorem dX1_spoilChanged_8 : decode cX1_spoilChanged 8 = .ok (.ireturn, 1) := by decide +kernel
theorem dX1_spoilChanged_9 : decode cX1_spoilChanged 9 = .ok (.iconst 0, 1) := by decide +kernel
theorem dX1_spoilChanged_10 : decode cX1_spoilChanged 10 = .ok (.istore_n 2, 1) := by decide +kernel
theorem dX1_spoilChanged_11 : decode cX1_spoilChanged 11 = .ok (.iconst 0, 1) := by decide +kernel
theorem dX1_spoilChanged_12 : decode cX1_spoilChanged 12 = .ok (.istore_n 3, 1) := by decide +kernel
theorem dX1_spoilChanged_13 : decode cX1_spoilChanged 13 = .ok (.iload_n 3, 1) := by decide +kernel
theorem dX1_spoilChanged_14 : decode cX1_spoilChanged 14 = .ok (.aload_n 0, 1) := by decide +kernel
theorem dX1_spoilChanged_15 : decode cX1_spoilChanged 15 = .ok (.getfield 11, 3) := by decide +kernel
theorem dX1_spoilChanged_18 : decode cX1_spoilChanged 18 = .ok (.arraylength, 1) := by decide +kernel
theorem dX1_spoilChanged_19 : decode cX1_spoilChanged 19 = .ok (.if_icmp .ge 44, 3) := by decide +kernel
theorem dX1_spoilChanged_22 : decode cX1_spoilChanged 22 = .ok (.aload_n 0, 1) := by decide +kernel
theorem dX1_spoilChanged_23 : decode cX1_spoilChanged 23 = .ok (.getfield 11, 3) := by decide +kernel
theorem dX1_spoilChanged_26 : decode cX1_spoilChanged 26 = .ok (.iload_n 3, 1) := by decide +kernel
theorem dX1_spoilChanged_27 : decode cX1_spoilChanged 27 = .ok (.aaload, 1) := by decide +kernel
theorem dX1_spoilChanged_28 : decode cX1_spoilChanged 28 = .ok (.astore 4, 2) := by decide +kernel
theorem dX1_spoilChanged_30 : decode cX1_spoilChanged 30 = .ok (.aload 4, 2) := by decide +kernel
theorem dX1_spoilChanged_32 : decode cX1_spoilChanged 32 = .ok (.ifnull 25, 3) := by decide +kernel
theorem dX1_spoilChanged_35 : decode cX1_spoilChanged 35 = .ok (.aload 4, 2) := by decide +kernel
theorem dX1_spoilChanged_37 : decode cX1_spoilChanged 37 = .ok (.getfield 59, 3) := by decide +kernel
theorem dX1_spoilChanged_40 : decode cX1_spoilChanged 40 = .ok (.aload_n 1, 1) := by decide +kernel
theorem dX1_spoilChanged_41 : decode cX1_spoilChanged 41 = .ok (.iload_n 3, 1) := by decide +kernel
theorem dX1_spoilChanged_42 : decode cX1_spoilChanged 42 = .ok (.invokevirtual 62, 3) := by decide +kernel
theorem dX1_spoilChanged_45 : decode cX1_spoilChanged 45 = .ok (.if_icmp .eq 12, 3) := by decide +kernel
theorem dX1_spoilChanged_48 : decode cX1_spoilChanged 48 = .ok (.aload_n 0, 1) := by decide +kernel
theorem dX1_spoilChanged_49 : decode cX1_spoilChanged 49 = .ok (.aload 4, 2) := by decide +kernel
theorem dX1_spoilChanged_51 : decode cX1_spoilChanged 51 = .ok (.invokevirtual 55, 3) := by decide +kernel
theorem dX1_spoilChanged_54 : decode cX1_spoilChanged 54 = .ok (.iinc 2 1, 3) := by decide +kernel
theorem dX1_spoilChanged_57 : decode cX1_spoilChanged 57 = .ok (.iinc 3 1, 3) := by decide +kernel
theorem dX1_spoilChanged_60 : decode cX1_spoilChanged 60 = .ok (.goto (-47), 3) := by decide +kernel
theorem dX1_spoilChanged_63 : decode cX1_spoilChanged 63 = .ok (.iload_n 2, 1) := by decide +kernel
theorem dX1_spoilChanged_64 : decode cX1_spoilChanged 64 = .ok (.ireturn, 1) := by decide +kernel
theorem dX1_spoil_0 : decode cX1_spoil 0 = .ok (.aload_n 1, 1) := by decide +kernel
theorem dX1_spoil_1 : decode cX1_spoil 1 = .ok (.iconst 1, 1) := by decide +kernel
theorem dX1_spoil_2 : decode cX1_spoil 2 = .ok (.putfield 68, 3) := by decide +kernel
theorem dX1_spoil_5 : decode cX1_spoil 5 = .ok (.aload_n 1, 1) := by decide +kernel
theorem dX1_spoil_6 : decode cX1_spoil 6 = .ok (.getfield 25, 3) := by decide +kernel
theorem dX1_spoil_9 : decode cX1_spoil 9 = .ok (.ifCond .lt 25, 3) := by decide +kernel
theorem dX1_spoil_12 : decode cX1_spoil 12 = .ok (.aload_n 1, 1) := by decide +kernel
theorem dX1_spoil_13 : decode cX1_spoil 13 = .ok (.getfield 25, 3) := by decide +kernel
theorem dX1_spoil_16 : decode cX1_spoil 16 = .ok (.aload_n 0, 1) := by decide +kernel
theorem dX1_spoil_17 : decode cX1_spoil 17 = .ok (.getfield 11, 3) := by decide +kernel
theorem dX1_spoil_20 : decode cX1_spoil 20 = .ok (.arraylength, 1) := by decide +kernel
theorem dX1_spoil_21 : decode cX1_spoil 21 = .ok (.if_icmp .ge 13, 3) := by decide +kernel
theorem dX1_spoil_24 : decode cX1_spoil 24 = .ok (.aload_n 0, 1) := by decide +kernel
theorem dX1_spoil_25 : decode cX1_spoil 25 = .ok (.getfield 11, 3) := by decide +kernel
theorem dX1_spoil_28 : decode cX1_spoil 28 = .ok (.aload_n 1, 1) := by decide +kernel
theorem dX1_spoil_29 : decode cX1_spoil 29 = .ok (.getfield 25, 3) := by decide +kernel
theorem dX1_spoil_32 : decode cX1_spoil 32 = .ok (.aconst_null, 1) := by decide +kernel
theorem dX1_spoil_33 : decode cX1_spoil 33 = .ok (.aastore, 1) := by decide +kernel
theorem dX1_spoil_34 : decode cX1_spoil 34 = .ok (.return_, 1) := by decide +kernel
theorem dX2_init_0 : decode cX2_init 0 = .ok (.aload_n 0, 1) := by decide +kernel
theorem dX2_init_1 : decode cX2_init 1 = .ok (.invokespecial 3, 3) := by decide +kernel
theorem dX2_init_4 : decode cX2_init 4 = .ok (.aload_n 0, 1) := by decide +kernel
theorem dX2_init_5 : decode cX2_init 5 = .ok (.iconst 3, 1) := by decide +kernel
theorem dX2_init_6 : decode cX2_init 6 = .ok (.newarray .int, 2) := by decide +kernel
theorem dX2_init_8 : decode cX2_init 8 = .ok (.putfield 9, 3) := by decide +kernel
theorem dX2_init_11 : decode cX2_init 11 = .ok (.aload_n 0, 1) := by decide +kernel
theorem dX2_init_12 : decode cX2_init 12 = .ok (.getfield 9, 3) := by decide +kernel
theorem dX2_init_15 : decode cX2_init 15 = .ok (.iconst 0, 1) := by decide +kernel
theorem dX2_init_16 : decode cX2_init 16 = .ok (.iload_n 1, 1) := by decide +kernel
theorem dX2_init_17 : decode cX2_init 17 = .ok (.iastore, 1) := by decide +kernel
theorem dX2_init_18 : decode cX2_init 18 = .ok (.aload_n 0, 1) := by decide +kernel
theorem dX2_init_19 : decode cX2_init 19 = .ok (.getfield 9, 3) := by decide +kernel
theorem dX2_init_22 : decode cX2_init 22 = .ok (.iconst 1, 1) := by decide +kernel
theorem dX2_init_23 : decode cX2_init 23 = .ok (.iload_n 2, 1) := by decide +kernel
theorem dX2_init_24 : decode cX2_init 24 = .ok (.iastore, 1) := by decide +kernel
theorem dX2_init_25 : decode cX2_init 25 = .ok (.aload_n 0, 1) := by decide +kernel
theorem dX2_init_26 : decode cX2_init 26 = .ok (.getfield 9, 3) := by decide +kernel
theorem dX2_init_29 : decode cX2_init 29 = .ok (.iconst 2, 1) := by decide +kernel
theorem dX2_init_30 : decode cX2_init 30 = .ok (.iload_n 3, 1) := by decide +kernel
theorem dX2_init_31 : decode cX2_init 31 = .ok (.iastore, 1) := by decide +kernel
theorem dX2_init_32 : decode cX2_init 32 = .ok (.return_, 1) := by decide +kernel
theorem dX2_unfold_0 : decode cX2_unfold 0 = .ok (.iconst 0, 1) := by decide +kernel
theorem dX2_unfold_1 : decode cX2_unfold 1 = .ok (.istore_n 2, 1) := by decide +kernel
theorem dX2_unfold_2 : decode cX2_unfold 2 = .ok (.iconst 0, 1) := by decide +kernel
theorem dX2_unfold_3 : decode cX2_unfold 3 = .ok (.istore_n 3, 1) := by decide +kernel
theorem dX2_unfold_4 : decode cX2_unfold 4 = .ok (.iconst 1, 1) := by decide +kernel
theorem dX2_unfold_5 : decode cX2_unfold 5 = .ok (.istore 4, 2) := by decide +kernel
theorem dX2_unfold_7 : decode cX2_unfold 7 = .ok (.iconst 1, 1) := by decide +kernel
theorem dX2_unfold_8 : decode cX2_unfold 8 = .ok (.istore 5, 2) := by decide +kernel
theorem dX2_unfold_10 : decode cX2_unfold 10 = .ok (.iload_n 1, 1) := by decide +kernel
theorem dX2_unfold_11 : decode cX2_unfold 11 = .ok (.istore 6, 2) := by decide +kernel
theorem dX2_unfold_13 : decode cX2_unfold 13 = .ok (.iconst 4, 1) := by decide +kernel
theorem dX2_unfold_14 : decode cX2_unfold 14 = .ok (.istore 7, 2) := by decide +kernel
theorem dX2_unfold_16 : decode cX2_unfold 16 = .ok (.iconst 2, 1) := by decide +kernel
theorem dX2_unfold_17 : decode cX2_unfold 17 = .ok (.istore 8, 2) := by decide +kernel
theorem dX2_unfold_19 : decode cX2_unfold 19 = .ok (.iload 8, 2) := by decide +kernel
theorem dX2_unfold_21 : decode cX2_unfold 21 = .ok (.ifCond .lt 126, 3) := by decide +kernel
theorem dX2_unfold_24 : decode cX2_unfold 24 = .ok (.iload 6, 2) := by decide +kernel
theorem dX2_unfold_26 : decode cX2_unfold 26 = .ok (.iload 7, 2) := by decide +kernel
theorem dX2_unfold_28 : decode cX2_unfold 28 = .ok (.if_icmp .ge 7, 3) := by decide +kernel
theorem dX2_unfold_31 : decode cX2_unfold 31 = .ok (.iconst 1, 1) := by decide +kernel
theorem dX2_unfold_32 : decode cX2_unfold 32 = .ok (.goto 4, 3) := by decide +kernel
theorem dX2_unfold_35 : decode cX2_unfold 35 = .ok (.iconst 0, 1) := by decide +kernel
theorem dX2_unfold_36 : decode cX2_unfold 36 = .ok (.istore 9, 2) := by decide +kernel
theorem dX2_unfold_38 : decode cX2_unfold 38 = .ok (.iload 9, 2) := by decide +kernel
theorem dX2_unfold_40 : decode cX2_unfold 40 = .ok (.ifCond .eq 13, 3) := by decide +kernel
theorem dX2_unfold_43 : decode cX2_unfold 43 = .ok (.iload 7, 2) := by decide +kernel
theorem dX2_unfold_45 : decode cX2_unfold 45 = .ok (.iconst 1, 1) := by decide +kernel
theorem dX2_unfold_46 : decode cX2_unfold 46 = .ok (.isub, 1) := by decide +kernel
theorem dX2_unfold_47 : decode cX2_unfold 47 = .ok (.iload 6, 2) := by decide +kernel
theorem dX2_unfold_49 : decode cX2_unfold 49 = .ok (.isub, 1) := by decide +kernel
theorem dX2_unfold_50 : decode cX2_unfold 50 = .ok (.goto 8, 3) := by decide +kernel
theorem dX2_unfold_53 : decode cX2_unfold 53 = .ok (.iload 6, 2) := by decide +kernel
theorem dX2_unfold_55 : decode cX2_unfold 55 = .ok (.iload 7, 2) := by decide +kernel
theorem dX2_unfold_57 : decode cX2_unfold 57 = .ok (.isub, 1) := by decide +kernel
theorem dX2_unfold_58 : decode cX2_unfold 58 = .ok (.istore 6, 2) := by decide +kernel
theorem dX2_unfold_60 : decode cX2_unfold 60 = .ok (.iload 7, 2) := by decide +kernel
theorem dX2_unfold_62 : decode cX2_unfold 62 = .ok (.iconst 2, 1) := by decide +kernel
theorem dX2_unfold_63 : decode cX2_unfold 63 = .ok (.idiv, 1) := by decide +kernel
theorem dX2_unfold_64 : decode cX2_unfold 64 = .ok (.istore 7, 2) := by decide +kernel
theorem dX2_unfold_66 : decode cX2_unfold 66 = .ok (.aload_n 0, 1) := by decide +kernel
theorem dX2_unfold_67 : decode cX2_unfold 67 = .ok (.getfield 9, 3) := by decide +kernel
theorem dX2_unfold_70 : decode cX2_unfold 70 = .ok (.iload 8, 2) := by decide +kernel
theorem dX2_unfold_72 : decode cX2_unfold 72 = .ok (.iaload, 1) := by decide +kernel
theorem dX2_unfold_73 : decode cX2_unfold 73 = .ok (.istore 10, 2) := by decide +kernel
theorem dX2_unfold_75 : decode cX2_unfold 75 = .ok (.iload 10, 2) := by decide +kernel
theorem dX2_unfold_77 : decode cX2_unfold 77 = .ok (.ifCond .eq 9, 3) := by decide +kernel
theorem dX2_unfold_80 : decode cX2_unfold 80 = .ok (.iload 10, 2) := by decide +kernel
theorem dX2_unfold_82 : decode cX2_unfold 82 = .ok (.iconst 1, 1) := by decide +kernel
theorem dX2_unfold_83 : decode cX2_unfold 83 = .ok (.if_icmp .ne 32, 3) := by decide +kernel
theorem dX2_unfold_86 : decode cX2_unfold 86 = .ok (.iload_n 3, 1) := by decide +kernel
theorem dX2_unfold_87 : decode cX2_unfold 87 = .ok (.iload 5, 2) := by decide +kernel
theorem dX2_unfold_89 : decode cX2_unfold 89 = .ok (.iload 9, 2) := by decide +kernel
theorem dX2_unfold_91 : decode cX2_unfold 91 = .ok (.iload 10, 2) := by decide +kernel
theorem dX2_unfold_93 : decode cX2_unfold 93 = .ok (.iconst 1, 1) := by decide +kernel
theorem dX2_unfold_94 : decode cX2_unfold 94 = .ok (.if_icmp .ne 7, 3) := by decide +kernel
theorem dX2_unfold_97 : decode cX2_unfold 97 = .ok (.iconst 1, 1) := by decide +kernel
theorem dX2_unfold_98 : decode cX2_unfold 98 = .ok (.goto 4, 3) := by decide +kernel
theorem dX2_unfold_101 : decode cX2_unfold 101 = .ok (.iconst 0, 1) := by decide +kernel
theorem dX2_unfold_102 : decode cX2_unfold 102 = .ok (.invokestatic 15, 3) := by decide +kernel
theorem dX2_unfold_105 : decode cX2_unfold 105 = .ok (.istore_n 3, 1) := by decide +kernel
theorem dX2_unfold_106 : decode cX2_unfold 106 = .ok (.iload 5, 2) := by decide +kernel
theorem dX2_unfold_108 : decode cX2_unfold 108 = .ok (.iconst 2, 1) := by decide +kernel
theorem dX2_unfold_109 : decode cX2_unfold 109 = .ok (.imul, 1) := by decide +kernel
theorem dX2_unfold_110 : decode cX2_unfold 110 = .ok (.istore 5, 2) := by decide +kernel
theorem dX2_unfold_112 : decode cX2_unfold 112 = .ok (.goto 29, 3) := by decide +kernel
theorem dX2_unfold_115 : decode cX2_unfold 115 = .ok (.iload_n 2, 1) := by decide +kernel
theorem dX2_unfold_116 : decode cX2_unfold 116 = .ok (.iload 4, 2) := by decide +kernel
theorem dX2_unfold_118 : decode cX2_unfold 118 = .ok (.iload 9, 2) := by decide +kernel
theorem dX2_unfold_120 : decode cX2_unfold 120 = .ok (.iload 10, 2) := by decide +kernel
theorem dX2_unfold_122 : decode cX2_unfold 122 = .ok (.iconst 2, 1) := by decide +kernel
theorem dX2_unfold_123 : decode cX2_unfold 123 = .ok (.if_icmp .ne 7, 3) := by decide +kernel
theorem dX2_unfold_126 : decode cX2_unfold 126 = .ok (.iconst 1, 1) := by decide +kernel
theorem dX2_unfold_127 : decode cX2_unfold 127 = .ok (.goto 4, 3) := by decide +kernel
theorem dX2_unfold_130 : decode cX2_unfold 130 = .ok (.iconst 0, 1) := by decide +kernel
theorem dX2_unfold_131 : decode cX2_unfold 131 = .ok (.invokestatic 15, 3) := by decide +kernel
theorem dX2_unfold_134 : decode cX2_unfold 134 = .ok (.istore_n 2, 1) := by decide +kernel
theorem dX2_unfold_135 : decode cX2_unfold 135 = .ok (.iload 4, 2) := by decide +kernel
theorem dX2_unfold_137 : decode cX2_unfold 137 = .ok (.iconst 2, 1) := by decide +kernel
theorem dX2_unfold_138 : decode cX2_unfold 138 = .ok (.imul, 1) := by decide +kernel
theorem dX2_unfold_139 : decode cX2_unfold 139 = .ok (.istore 4, 2) := by decide +kernel
theorem dX2_unfold_141 : decode cX2_unfold 141 = .ok (.iinc 8 (-1), 3) := by decide +kernel
theorem dX2_unfold_144 : decode cX2_unfold 144 = .ok (.goto (-125), 3) := by decide +kernel
theorem dX2_unfold_147 : decode cX2_unfold 147 = .ok (.iload_n 2, 1) := by decide +kernel
theorem dX2_unfold_148 : decode cX2_unfold 148 = .ok (.iconst 4, 1) := by decide +kernel
theorem dX2_unfold_149 : decode cX2_unfold 149 = .ok (.imul, 1) := by decide +kernel
theorem dX2_unfold_150 : decode cX2_unfold 150 = .ok (.iload_n 3, 1) := by decide +kernel
theorem dX2_unfold_151 : decode cX2_unfold 151 = .ok (.iadd, 1) := by decide +kernel
theorem dX2_unfold_152 : decode cX2_unfold 152 = .ok (.ireturn, 1) := by decide +kernel
theorem dX2_unfoldLine_0 : decode cX2_unfoldLine 0 = .ok (.iload_n 3, 1) := by decide +kernel
theorem dX2_unfoldLine_1 : decode cX2_unfoldLine 1 = .ok (.ifCond .eq 7, 3) := by decide +kernel
theorem dX2_unfoldLine_4 : decode cX2_unfoldLine 4 = .ok (.iload_n 0, 1) := by decide +kernel
theorem dX2_unfoldLine_5 : decode cX2_unfoldLine 5 = .ok (.goto 6, 3) := by decide +kernel
theorem dX2_unfoldLine_8 : decode cX2_unfoldLine 8 = .ok (.iload_n 1, 1) := by decide +kernel
theorem dX2_unfoldLine_9 : decode cX2_unfoldLine 9 = .ok (.iload_n 0, 1) := by decide +kernel
theorem dX2_unfoldLine_10 : decode cX2_unfoldLine 10 = .ok (.iadd, 1) := by decide +kernel
theorem dX2_unfoldLine_11 : decode cX2_unfoldLine 11 = .ok (.istore 4, 2) := by decide +kernel
theorem dX2_unfoldLine_13 : decode cX2_unfoldLine 13 = .ok (.iload_n 2, 1) := by decide +kernel
theorem dX2_unfoldLine_14 : decode cX2_unfoldLine 14 = .ok (.ifCond .eq 14, 3) := by decide +kernel
theorem dX2_unfoldLine_17 : decode cX2_unfoldLine 17 = .ok (.iconst 2, 1) := by decide +kernel
theorem dX2_unfoldLine_18 : decode cX2_unfoldLine 18 = .ok (.iload_n 1, 1) := by decide +kernel
theorem dX2_unfoldLine_19 : decode cX2_unfoldLine 19 = .ok (.imul, 1) := by decide +kernel
theorem dX2_unfoldLine_20 : decode cX2_unfoldLine 20 = .ok (.iconst 1, 1) := by decide +kernel
theorem dX2_unfoldLine_21 : decode cX2_unfoldLine 21 = .ok (.isub, 1) := by decide +kernel
theorem dX2_unfoldLine_22 : decode cX2_unfoldLine 22 = .ok (.iload 4, 2) := by decide +kernel
theorem dX2_unfoldLine_24 : decode cX2_unfoldLine 24 = .ok (.isub, 1) := by decide +kernel
theorem dX2_unfoldLine_25 : decode cX2_unfoldLine 25 = .ok (.goto 5, 3) := by decide +kernel
theorem dX2_unfoldLine_28 : decode cX2_unfoldLine 28 = .ok (.iload 4, 2) := by decide +kernel
theorem dX2_unfoldLine_30 : decode cX2_unfoldLine 30 = .ok (.ireturn, 1) := by decide +kernel
theorem dX3_init_0 : decode cX3_init 0 = .ok (.aload_n 0, 1) := by decide +kernel
theorem dX3_init_1 : decode cX3_init 1 = .ok (.invokespecial 3, 3) := by decide +kernel
theorem dX3_init_4 : decode cX3_init 4 = .ok (.aload_n 0, 1) := by decide +kernel
theorem dX3_init_5 : decode cX3_init 5 = .ok (.iconst 0, 1) := by decide +kernel
theorem dX3_init_6 : decode cX3_init 6 = .ok (.putfield 9, 3) := by decide +kernel
theorem dX3_init_9 : decode cX3_init 9 = .ok (.aload_n 0, 1) := by decide +kernel
theorem dX3_init_10 : decode cX3_init 10 = .ok (.iload_n 1, 1) := by decide +kernel
theorem dX3_init_11 : decode cX3_init 11 = .ok (.putfield 15, 3) := by decide +kernel
theorem dX3_init_14 : decode cX3_init 14 = .ok (.aload_n 0, 1) := by decide +kernel
theorem dX3_init_15 : decode cX3_init 15 = .ok (.iload_n 2, 1) := by decide +kernel
theorem dX3_init_16 : decode cX3_init 16 = .ok (.putfield 19, 3) := by decide +kernel
theorem dX3_init_19 : decode cX3_init 19 = .ok (.aload_n 0, 1) := by decide +kernel
theorem dX3_init_20 : decode cX3_init 20 = .ok (.iload_n 3, 1) := by decide +kernel
theorem dX3_init_21 : decode cX3_init 21 = .ok (.putfield 22, 3) := by decide +kernel
theorem dX3_init_24 : decode cX3_init 24 = .ok (.aload_n 0, 1) := by decide +kernel
theorem dX3_init_25 : decode cX3_init 25 = .ok (.iload 4, 2) := by decide +kernel
theorem dX3_init_27 : decode cX3_init 27 = .ok (.putfield 25, 3) := by decide +kernel
theorem dX3_init_30 : decode cX3_init 30 = .ok (.aload_n 0, 1) := by decide +kernel
theorem dX3_init_31 : decode cX3_init 31 = .ok (.aload 5, 2) := by decide +kernel
theorem dX3_init_33 : decode cX3_init 33 = .ok (.putfield 28, 3) := by decide +kernel
theorem dX3_init_36 : decode cX3_init 36 = .ok (.return_, 1) := by decide +kernel
theorem dX3_code_0 : decode cX3_code 0 = .ok (.sipush 10000, 3) := by decide +kernel
theorem dX3_code_3 : decode cX3_code 3 = .ok (.aload_n 0, 1) := by decide +kernel
theorem dX3_code_4 : decode cX3_code 4 = .ok (.getfield 15, 3) := by decide +kernel
theorem dX3_code_7 : decode cX3_code 7 = .ok (.imul, 1) := by decide +kernel
theorem dX3_code_8 : decode cX3_code 8 = .ok (.sipush 1000, 3) := by decide +kernel
theorem dX3_code_11 : decode cX3_code 11 = .ok (.aload_n 0, 1) := by decide +kernel
theorem dX3_code_12 : decode cX3_code 12 = .ok (.getfield 19, 3) := by decide +kernel
theorem dX3_code_15 : decode cX3_code 15 = .ok (.imul, 1) := by decide +kernel
theorem dX3_code_16 : decode cX3_code 16 = .ok (.iadd, 1) := by decide +kernel
theorem dX3_code_17 : decode cX3_code 17 = .ok (.aload_n 0, 1) := by decide +kernel
theorem dX3_code_18 : decode cX3_code 18 = .ok (.getfield 22, 3) := by decide +kernel
theorem dX3_code_21 : decode cX3_code 21 = .ok (.iadd, 1) := by decide +kernel
theorem dX3_code_22 : decode cX3_code 22 = .ok (.ireturn, 1) := by decide +kernel
theorem dX3_belongsTo_0 : decode cX3_belongsTo 0 = .ok (.aload_n 0, 1) := by decide +kernel
theorem dX3_belongsTo_1 : decode cX3_belongsTo 1 = .ok (.getfield 15, 3) := by decide +kernel
theorem dX3_belongsTo_4 : decode cX3_belongsTo 4 = .ok (.iload_n 1, 1) := by decide +kernel
theorem dX3_belongsTo_5 : decode cX3_belongsTo 5 = .ok (.if_icmp .ne 23, 3) := by decide +kernel
theorem dX3_belongsTo_8 : decode cX3_belongsTo 8 = .ok (.aload_n 0, 1) := by decide +kernel
theorem dX3_belongsTo_9 : decode cX3_belongsTo 9 = .ok (.getfield 19, 3) := by decide +kernel
theorem dX3_belongsTo_12 : decode cX3_belongsTo 12 = .ok (.iload_n 2, 1) := by decide +kernel
theorem dX3_belongsTo_13 : decode cX3_belongsTo 13 = .ok (.if_icmp .ne 15, 3) := by decide +kernel
theorem dX3_belongsTo_16 : decode cX3_belongsTo 16 = .ok (.aload_n 0, 1) := by decide +kernel
theorem dX3_belongsTo_17 : decode cX3_belongsTo 17 = .ok (.getfield 22, 3) := by decide +kernel
theorem dX3_belongsTo_20 : decode cX3_belongsTo 20 = .ok (.iload_n 3, 1) := by decide +kernel
theorem dX3_belongsTo_21 : decode cX3_belongsTo 21 = .ok (.if_icmp .ne 7, 3) := by decide +kernel
theorem dX3_belongsTo_24 : decode cX3_belongsTo 24 = .ok (.iconst 1, 1) := by decide +kernel
theorem dX3_belongsTo_25 : decode cX3_belongsTo 25 = .ok (.goto 4, 3) := by decide +kernel
theorem dX3_belongsTo_28 : decode cX3_belongsTo 28 = .ok (.iconst 0, 1) := by decide +kernel
theorem dX3_belongsTo_29 : decode cX3_belongsTo 29 = .ok (.ireturn, 1) := by decide +kernel
theorem dX4_init_0 : decode cX4_init 0 = .ok (.aload_n 0, 1) := by decide +kernel
theorem dX4_init_1 : decode cX4_init 1 = .ok (.invokespecial 3, 3) := by decide +kernel
theorem dX4_init_4 : decode cX4_init 4 = .ok (.aload_n 0, 1) := by decide +kernel
theorem dX4_init_5 : decode cX4_init 5 = .ok (.new 9, 3) := by decide +kernel
theorem dX4_init_8 : decode cX4_init 8 = .ok (.dup, 1) := by decide +kernel
theorem dX4_init_9 : decode cX4_init 9 = .ok (.invokespecial 11, 3) := by decide +kernel
theorem dX4_init_12 : decode cX4_init 12 = .ok (.putfield 12, 3) := by decide +kernel
theorem dX4_init_15 : decode cX4_init 15 = .ok (.aload_n 0, 1) := by decide +kernel
theorem dX4_init_16 : decode cX4_init 16 = .ok (.iload_n 1, 1) := by decide +kernel
theorem dX4_init_17 : decode cX4_init 17 = .ok (.putfield 18, 3) := by decide +kernel
theorem dX4_init_20 : decode cX4_init 20 = .ok (.aload_n 0, 1) := by decide +kernel
theorem dX4_init_21 : decode cX4_init 21 = .ok (.aload_n 2, 1) := by decide +kernel
theorem dX4_init_22 : decode cX4_init 22 = .ok (.putfield 22, 3) := by decide +kernel
theorem dX4_init_25 : decode cX4_init 25 = .ok (.iconst 0, 1) := by decide +kernel
theorem dX4_init_26 : decode cX4_init 26 = .ok (.istore 4, 2) := by decide +kernel
theorem dX4_init_28 : decode cX4_init 28 = .ok (.iload 4, 2) := by decide +kernel
theorem dX4_init_30 : decode cX4_init 30 = .ok (.iload_n 3, 1) := by decide +kernel
theorem dX4_init_31 : decode cX4_init 31 = .ok (.if_icmp .ge 24, 3) := by decide +kernel
theorem dX4_init_34 : decode cX4_init 34 = .ok (.aload_n 0, 1) := by decide +kernel
theorem dX4_init_35 : decode cX4_init 35 = .ok (.getfield 12, 3) := by decide +kernel
theorem dX4_init_38 : decode cX4_init 38 = .ok (.new 26, 3) := by decide +kernel
theorem dX4_init_41 : decode cX4_init 41 = .ok (.dup, 1) := by decide +kernel
theorem dX4_init_42 : decode cX4_init 42 = .ok (.invokespecial 28, 3) := by decide +kernel
theorem dX4_init_45 : decode cX4_init 45 = .ok (.invokevirtual 29, 3) := by decide +kernel
theorem dX4_init_48 : decode cX4_init 48 = .ok (.pop, 1) := by decide +kernel
theorem dX4_init_49 : decode cX4_init 49 = .ok (.iinc 4 1, 3) := by decide +kernel
theorem dX4_init_52 : decode cX4_init 52 = .ok (.goto (-24), 3) := by decide +kernel
theorem dX4_init_55 : decode cX4_init 55 = .ok (.return_, 1) := by decide +kernel
theorem dX4_isAheadOf_0 : decode cX4_isAheadOf 0 = .ok (.aload_n 0, 1) := by decide +kernel
theorem dX4_isAheadOf_1 : decode cX4_isAheadOf 1 = .ok (.getfield 22, 3) := by decide +kernel
theorem dX4_isAheadOf_4 : decode cX4_isAheadOf 4 = .ok (.getfield 33, 3) := by decide +kernel
theorem dX4_isAheadOf_7 : decode cX4_isAheadOf 7 = .ok (.aload_n 1, 1) := by decide +kernel
theorem dX4_isAheadOf_8 : decode cX4_isAheadOf 8 = .ok (.getfield 22, 3) := by decide +kernel
theorem dX4_isAheadOf_11 : decode cX4_isAheadOf 11 = .ok (.getfield 33, 3) := by decide +kernel
theorem dX4_isAheadOf_14 : decode cX4_isAheadOf 14 = .ok (.if_icmp .eq 26, 3) := by decide +kernel
theorem dX4_isAheadOf_17 : decode cX4_isAheadOf 17 = .ok (.aload_n 0, 1) := by decide +kernel
theorem dX4_isAheadOf_18 : decode cX4_isAheadOf 18 = .ok (.getfield 22, 3) := by decide +kernel
theorem dX4_isAheadOf_21 : decode cX4_isAheadOf 21 = .ok (.getfield 33, 3) := by decide +kernel
theorem dX4_isAheadOf_24 : decode cX4_isAheadOf 24 = .ok (.aload_n 1, 1) := by decide +kernel
theorem dX4_isAheadOf_25 : decode cX4_isAheadOf 25 = .ok (.getfield 22, 3) := by decide +kernel
theorem dX4_isAheadOf_28 : decode cX4_isAheadOf 28 = .ok (.getfield 33, 3) := by decide +kernel
theorem dX4_isAheadOf_31 : decode cX4_isAheadOf 31 = .ok (.if_icmp .le 7, 3) := by decide +kernel
theorem dX4_isAheadOf_34 : decode cX4_isAheadOf 34 = .ok (.iconst 1, 1) := by decide +kernel
theorem dX4_isAheadOf_35 : decode cX4_isAheadOf 35 = .ok (.goto 4, 3) := by decide +kernel
theorem dX4_isAheadOf_38 : decode cX4_isAheadOf 38 = .ok (.iconst 0, 1) := by decide +kernel
theorem dX4_isAheadOf_39 : decode cX4_isAheadOf 39 = .ok (.ireturn, 1) := by decide +kernel
theorem dX4_isAheadOf_40 : decode cX4_isAheadOf 40 = .ok (.aload_n 0, 1) := by decide +kernel
theorem dX4_isAheadOf_41 : decode cX4_isAheadOf 41 = .ok (.getfield 18, 3) := by decide +kernel
theorem dX4_isAheadOf_44 : decode cX4_isAheadOf 44 = .ok (.aload_n 1, 1) := by decide +kernel
theorem dX4_isAheadOf_45 : decode cX4_isAheadOf 45 = .ok (.getfield 18, 3) := by decide +kernel
theorem dX4_isAheadOf_48 : decode cX4_isAheadOf 48 = .ok (.if_icmp .ge 7, 3) := by decide +kernel
theorem dX4_isAheadOf_51 : decode cX4_isAheadOf 51 = .ok (.iconst 1, 1) := by decide +kernel
theorem dX4_isAheadOf_52 : decode cX4_isAheadOf 52 = .ok (.goto 4, 3) := by decide +kernel
theorem dX4_isAheadOf_55 : decode cX4_isAheadOf 55 = .ok (.iconst 0, 1) := by decide +kernel
theorem dX4_isAheadOf_56 : decode cX4_isAheadOf 56 = .ok (.ireturn, 1) := by decide +kernel
theorem dX4_lengthOf_0 : decode cX4_lengthOf 0 = .ok (.aload_n 1, 1) := by decide +kernel
theorem dX4_lengthOf_1 : decode cX4_lengthOf 1 = .ok (.getfield 38, 3) := by decide +kernel
theorem dX4_lengthOf_4 : decode cX4_lengthOf 4 = .ok (.ifCond .eq 10, 3) := by decide +kernel
theorem dX4_lengthOf_7 : decode cX4_lengthOf 7 = .ok (.aload_n 1, 1) := by decide +kernel
theorem dX4_lengthOf_8 : decode cX4_lengthOf 8 = .ok (.getfield 42, 3) := by decide +kernel
theorem dX4_lengthOf_11 : decode cX4_lengthOf 11 = .ok (.goto 10, 3) := by decide +kernel
theorem dX4_lengthOf_14 : decode cX4_lengthOf 14 = .ok (.aload_n 0, 1) := by decide +kernel
theorem dX4_lengthOf_15 : decode cX4_lengthOf 15 = .ok (.getfield 22, 3) := by decide +kernel
theorem dX4_lengthOf_18 : decode cX4_lengthOf 18 = .ok (.getfield 33, 3) := by decide +kernel
theorem dX4_lengthOf_21 : decode cX4_lengthOf 21 = .ok (.ireturn, 1) := by decide +kernel
theorem dX4_countLacking_0 : decode cX4_countLacking 0 = .ok (.iconst 0, 1) := by decide +kernel
theorem dX4_countLacking_1 : decode cX4_countLacking 1 = .ok (.istore_n 1, 1) := by decide +kernel
theorem dX4_countLacking_2 : decode cX4_countLacking 2 = .ok (.iconst 0, 1) := by decide +kernel
theorem dX4_countLacking_3 : decode cX4_countLacking 3 = .ok (.istore_n 2, 1) := by decide +kernel
theorem dX4_countLacking_4 : decode cX4_countLacking 4 = .ok (.iload_n 2, 1) := by decide +kernel
theorem dX4_countLacking_5 : decode cX4_countLacking 5 = .ok (.aload_n 0, 1) := by decide +kernel
theorem dX4_countLacking_6 : decode cX4_countLacking 6 = .ok (.getfield 12, 3) := by decide +kernel
theorem dX4_countLacking_9 : decode cX4_countLacking 9 = .ok (.invokevirtual 45, 3) := by decide +kernel
theorem dX4_countLacking_12 : decode cX4_countLacking 12 = .ok (.if_icmp .ge 33, 3) := by decide +kernel
theorem dX4_countLacking_15 : decode cX4_countLacking 15 = .ok (.iload_n 1, 1) := by decide +kernel
theorem dX4_countLacking_16 : decode cX4_countLacking 16 = .ok (.aload_n 0, 1) := by decide +kernel
theorem dX4_countLacking_17 : decode cX4_countLacking 17 = .ok (.getfield 12, 3) := by decide +kernel
theorem dX4_countLacking_20 : decode cX4_countLacking 20 = .ok (.iload_n 2, 1) := by decide +kernel
theorem dX4_countLacking_21 : decode cX4_countLacking 21 = .ok (.invokevirtual 49, 3) := by decide +kernel
theorem dX4_countLacking_24 : decode cX4_countLacking 24 = .ok (.checkcast 26, 3) := by decide +kernel
theorem dX4_countLacking_27 : decode cX4_countLacking 27 = .ok (.aload_n 0, 1) := by decide +kernel
theorem dX4_countLacking_28 : decode cX4_countLacking 28 = .ok (.getfield 22, 3) := by decide +kernel
theorem dX4_countLacking_31 : decode cX4_countLacking 31 = .ok (.getfield 33, 3) := by decide +kernel
theorem dX4_countLacking_34 : decode cX4_countLacking 34 = .ok (.invokevirtual 53, 3) := by decide +kernel
theorem dX4_countLacking_37 : decode cX4_countLacking 37 = .ok (.iadd, 1) := by decide +kernel
theorem dX4_countLacking_38 : decode cX4_countLacking 38 = .ok (.istore_n 1, 1) := by decide +kernel
theorem dX4_countLacking_39 : decode cX4_countLacking 39 = .ok (.iinc 2 1, 3) := by decide +kernel
theorem dX4_countLacking_42 : decode cX4_countLacking 42 = .ok (.goto (-38), 3) := by decide +kernel
theorem dX4_countLacking_45 : decode cX4_countLacking 45 = .ok (.iload_n 1, 1) := by decide +kernel
theorem dX4_countLacking_46 : decode cX4_countLacking 46 = .ok (.ireturn, 1) := by decide +kernel
theorem dX4_spoilChanged_0 : decode cX4_spoilChanged 0 = .ok (.iconst 0, 1) := by decide +kernel
theorem dX4_spoilChanged_1 : decode cX4_spoilChanged 1 = .ok (.istore_n 1, 1) := by decide +kernel
theorem dX4_spoilChanged_2 : decode cX4_spoilChanged 2 = .ok (.iconst 0, 1) := by decide +kernel
theorem dX4_spoilChanged_3 : decode cX4_spoilChanged 3 = .ok (.istore_n 2, 1) := by decide +kernel
theorem dX4_spoilChanged_4 : decode cX4_spoilChanged 4 = .ok (.iload_n 2, 1) := by decide +kernel
theorem dX4_spoilChanged_5 : decode cX4_spoilChanged 5 = .ok (.aload_n 0, 1) := by decide +kernel
theorem dX4_spoilChanged_6 : decode cX4_spoilChanged 6 = .ok (.getfield 12, 3) := by decide +kernel
theorem dX4_spoilChanged_9 : decode cX4_spoilChanged 9 = .ok (.invokevirtual 45, 3) := by decide +kernel
theorem dX4_spoilChanged_12 : decode cX4_spoilChanged 12 = .ok (.if_icmp .ge 30, 3) := by decide +kernel
theorem dX4_spoilChanged_15 : decode cX4_spoilChanged 15 = .ok (.iload_n 1, 1) := by decide +kernel
theorem dX4_spoilChanged_16 : decode cX4_spoilChanged 16 = .ok (.aload_n 0, 1) := by decide +kernel
theorem dX4_spoilChanged_17 : decode cX4_spoilChanged 17 = .ok (.getfield 12, 3) := by decide +kernel
theorem dX4_spoilChanged_20 : decode cX4_spoilChanged 20 = .ok (.iload_n 2, 1) := by decide +kernel
theorem dX4_spoilChanged_21 : decode cX4_spoilChanged 21 = .ok (.invokevirtual 49, 3) := by decide +kernel
theorem dX4_spoilChanged_24 : decode cX4_spoilChanged 24 = .ok (.checkcast 26, 3) := by decide +kernel
theorem dX4_spoilChanged_27 : decode cX4_spoilChanged 27 = .ok (.aload_n 0, 1) := by decide +kernel
theorem dX4_spoilChanged_28 : decode cX4_spoilChanged 28 = .ok (.getfield 22, 3) := by decide +kernel
theorem dX4_spoilChanged_31 : decode cX4_spoilChanged 31 = .ok (.invokevirtual 57, 3) := by decide +kernel
theorem dX4_spoilChanged_34 : decode cX4_spoilChanged 34 = .ok (.iadd, 1) := by decide +kernel
theorem dX4_spoilChanged_35 : decode cX4_spoilChanged 35 = .ok (.istore_n 1, 1) := by decide +kernel
theorem dX4_spoilChanged_36 : decode cX4_spoilChanged 36 = .ok (.iinc 2 1, 3) := by decide +kernel
theorem dX4_spoilChanged_39 : decode cX4_spoilChanged 39 = .ok (.goto (-35), 3) := by decide +kernel
theorem dX4_spoilChanged_42 : decode cX4_spoilChanged 42 = .ok (.iload_n 1, 1) := by decide +kernel
theorem dX4_spoilChanged_43 : decode cX4_spoilChanged 43 = .ok (.ireturn, 1) := by decide +kernel
theorem dX4_fill_0 : decode cX4_fill 0 = .ok (.iload_n 2, 1) := by decide +kernel
theorem dX4_fill_1 : decode cX4_fill 1 = .ok (.istore_n 3, 1) := by decide +kernel
theorem dX4_fill_2 : decode cX4_fill 2 = .ok (.iconst 0, 1) := by decide +kernel
theorem dX4_fill_3 : decode cX4_fill 3 = .ok (.istore 4, 2) := by decide +kernel
theorem dX4_fill_5 : decode cX4_fill 5 = .ok (.iload 4, 2) := by decide +kernel
theorem dX4_fill_7 : decode cX4_fill 7 = .ok (.aload_n 0, 1) := by decide +kernel
theorem dX4_fill_8 : decode cX4_fill 8 = .ok (.getfield 12, 3) := by decide +kernel
theorem dX4_fill_11 : decode cX4_fill 11 = .ok (.invokevirtual 45, 3) := by decide +kernel
theorem dX4_fill_14 : decode cX4_fill 14 = .ok (.if_icmp .ge 104, 3) := by decide +kernel
theorem dX4_fill_17 : decode cX4_fill 17 = .ok (.aload_n 0, 1) := by decide +kernel
theorem dX4_fill_18 : decode cX4_fill 18 = .ok (.getfield 12, 3) := by decide +kernel
theorem dX4_fill_21 : decode cX4_fill 21 = .ok (.iload 4, 2) := by decide +kernel
theorem dX4_fill_23 : decode cX4_fill 23 = .ok (.invokevirtual 49, 3) := by decide +kernel
theorem dX4_fill_26 : decode cX4_fill 26 = .ok (.checkcast 26, 3) := by decide +kernel
theorem dX4_fill_29 : decode cX4_fill 29 = .ok (.astore 5, 2) := by decide +kernel
theorem dX4_fill_31 : decode cX4_fill 31 = .ok (.iconst 0, 1) := by decide +kernel
theorem dX4_fill_32 : decode cX4_fill 32 = .ok (.istore 6, 2) := by decide +kernel
theorem dX4_fill_34 : decode cX4_fill 34 = .ok (.iload 6, 2) := by decide +kernel
theorem dX4_fill_36 : decode cX4_fill 36 = .ok (.aload_n 0, 1) := by decide +kernel
theorem dX4_fill_37 : decode cX4_fill 37 = .ok (.getfield 22, 3) := by decide +kernel
theorem dX4_fill_40 : decode cX4_fill 40 = .ok (.getfield 33, 3) := by decide +kernel
theorem dX4_fill_43 : decode cX4_fill 43 = .ok (.if_icmp .ge 69, 3) := by decide +kernel
theorem dX4_fill_46 : decode cX4_fill 46 = .ok (.iload_n 3, 1) := by decide +kernel
theorem dX4_fill_47 : decode cX4_fill 47 = .ok (.bipush 8, 2) := by decide +kernel
theorem dX4_fill_49 : decode cX4_fill 49 = .ok (.if_icmp .ge 63, 3) := by decide +kernel
theorem dX4_fill_52 : decode cX4_fill 52 = .ok (.aload 5, 2) := by decide +kernel
theorem dX4_fill_54 : decode cX4_fill 54 = .ok (.iload 6, 2) := by decide +kernel
theorem dX4_fill_56 : decode cX4_fill 56 = .ok (.invokevirtual 61, 3) := by decide +kernel
theorem dX4_fill_59 : decode cX4_fill 59 = .ok (.ifCond .eq 47, 3) := by decide +kernel
theorem dX4_fill_62 : decode cX4_fill 62 = .ok (.new 65, 3) := by decide +kernel
theorem dX4_fill_65 : decode cX4_fill 65 = .ok (.dup, 1) := by decide +kernel
theorem dX4_fill_66 : decode cX4_fill 66 = .ok (.aload_n 0, 1) := by decide +kernel
theorem dX4_fill_67 : decode cX4_fill 67 = .ok (.getfield 18, 3) := by decide +kernel
theorem dX4_fill_70 : decode cX4_fill 70 = .ok (.iload 4, 2) := by decide +kernel
theorem dX4_fill_72 : decode cX4_fill 72 = .ok (.iload 6, 2) := by decide +kernel
theorem dX4_fill_74 : decode cX4_fill 74 = .ok (.aload_n 0, 1) := by decide +kernel
theorem dX4_fill_75 : decode cX4_fill 75 = .ok (.getfield 22, 3) := by decide +kernel
theorem dX4_fill_78 : decode cX4_fill 78 = .ok (.iload 6, 2) := by decide +kernel
theorem dX4_fill_80 : decode cX4_fill 80 = .ok (.invokevirtual 67, 3) := by decide +kernel
theorem dX4_fill_83 : decode cX4_fill 83 = .ok (.aload_n 1, 1) := by decide +kernel
theorem dX4_fill_84 : decode cX4_fill 84 = .ok (.invokespecial 70, 3) := by decide +kernel
theorem dX4_fill_87 : decode cX4_fill 87 = .ok (.astore 7, 2) := by decide +kernel
theorem dX4_fill_89 : decode cX4_fill 89 = .ok (.aload 5, 2) := by decide +kernel
theorem dX4_fill_91 : decode cX4_fill 91 = .ok (.aload 7, 2) := by decide +kernel
theorem dX4_fill_93 : decode cX4_fill 93 = .ok (.invokevirtual 73, 3) := by decide +kernel
theorem dX4_fill_96 : decode cX4_fill 96 = .ok (.aload_n 1, 1) := by decide +kernel
theorem dX4_fill_97 : decode cX4_fill 97 = .ok (.aload 7, 2) := by decide +kernel
theorem dX4_fill_99 : decode cX4_fill 99 = .ok (.iload_n 3, 1) := by decide +kernel
theorem dX4_fill_100 : decode cX4_fill 100 = .ok (.invokevirtual 77, 3) := by decide +kernel
theorem dX4_fill_103 : decode cX4_fill 103 = .ok (.iinc 3 1, 3) := by decide +kernel
theorem dX4_fill_106 : decode cX4_fill 106 = .ok (.iinc 6 1, 3) := by decide +kernel
theorem dX4_fill_109 : decode cX4_fill 109 = .ok (.goto (-75), 3) := by decide +kernel
theorem dX4_fill_112 : decode cX4_fill 112 = .ok (.iinc 4 1, 3) := by decide +kernel
theorem dX4_fill_115 : decode cX4_fill 115 = .ok (.goto (-110), 3) := by decide +kernel
theorem dX4_fill_118 : decode cX4_fill 118 = .ok (.iload_n 3, 1) := by decide +kernel
theorem dX4_fill_119 : decode cX4_fill 119 = .ok (.ireturn, 1) := by decide +kernel
theorem dX5_init_0 : decode cX5_init 0 = .ok (.aload_n 0, 1) := by decide +kernel
theorem dX5_init_1 : decode cX5_init 1 = .ok (.invokespecial 3, 3) := by decide +kernel
theorem dX5_init_4 : decode cX5_init 4 = .ok (.aload_n 0, 1) := by decide +kernel
theorem dX5_init_5 : decode cX5_init 5 = .ok (.bipush 64, 2) := by decide +kernel
theorem dX5_init_7 : decode cX5_init 7 = .ok (.newarray .int, 2) := by decide +kernel
theorem dX5_init_9 : decode cX5_init 9 = .ok (.putfield 9, 3) := by decide +kernel
theorem dX5_init_12 : decode cX5_init 12 = .ok (.aload_n 0, 1) := by decide +kernel
theorem dX5_init_13 : decode cX5_init 13 = .ok (.bipush 8, 2) := by decide +kernel
theorem dX5_init_15 : decode cX5_init 15 = .ok (.newarray .int, 2) := by decide +kernel
theorem dX5_init_17 : decode cX5_init 17 = .ok (.putfield 15, 3) := by decide +kernel
theorem dX5_init_20 : decode cX5_init 20 = .ok (.aload_n 0, 1) := by decide +kernel
theorem dX5_init_21 : decode cX5_init 21 = .ok (.iconst 0, 1) := by decide +kernel
theorem dX5_init_22 : decode cX5_init 22 = .ok (.putfield 18, 3) := by decide +kernel
theorem dX5_init_25 : decode cX5_init 25 = .ok (.aload_n 0, 1) := by decide +kernel
theorem dX5_init_26 : decode cX5_init 26 = .ok (.iconst 0, 1) := by decide +kernel
theorem dX5_init_27 : decode cX5_init 27 = .ok (.putfield 22, 3) := by decide +kernel
theorem dX5_init_30 : decode cX5_init 30 = .ok (.aload_n 0, 1) := by decide +kernel
theorem dX5_init_31 : decode cX5_init 31 = .ok (.iconst 2, 1) := by decide +kernel
theorem dX5_init_32 : decode cX5_init 32 = .ok (.putfield 25, 3) := by decide +kernel
theorem dX5_init_35 : decode cX5_init 35 = .ok (.aload_n 0, 1) := by decide +kernel
theorem dX5_init_36 : decode cX5_init 36 = .ok (.iconst 4, 1) := by decide +kernel
theorem dX5_init_37 : decode cX5_init 37 = .ok (.putfield 28, 3) := by decide +kernel
theorem dX5_init_40 : decode cX5_init 40 = .ok (.return_, 1) := by decide +kernel
theorem dX5_foldAll_0 : decode cX5_foldAll 0 = .ok (.aload_n 0, 1) := by decide +kernel
theorem dX5_foldAll_1 : decode cX5_foldAll 1 = .ok (.invokevirtual 31, 3) := by decide +kernel
theorem dX5_foldAll_4 : decode cX5_foldAll 4 = .ok (.iconst 0, 1) := by decide +kernel
theorem dX5_foldAll_5 : decode cX5_foldAll 5 = .ok (.istore_n 2, 1) := by decide +kernel
theorem dX5_foldAll_6 : decode cX5_foldAll 6 = .ok (.iload_n 2, 1) := by decide +kernel
theorem dX5_foldAll_7 : decode cX5_foldAll 7 = .ok (.iconst 3, 1) := by decide +kernel
theorem dX5_foldAll_8 : decode cX5_foldAll 8 = .ok (.if_icmp .ge 56, 3) := by decide +kernel
theorem dX5_foldAll_11 : decode cX5_foldAll 11 = .ok (.aload_n 1, 1) := by decide +kernel
theorem dX5_foldAll_12 : decode cX5_foldAll 12 = .ok (.getfield 34, 3) := by decide +kernel
theorem dX5_foldAll_15 : decode cX5_foldAll 15 = .ok (.iload_n 2, 1) := by decide +kernel
theorem dX5_foldAll_16 : decode cX5_foldAll 16 = .ok (.iaload, 1) := by decide +kernel
theorem dX5_foldAll_17 : decode cX5_foldAll 17 = .ok (.istore_n 3, 1) := by decide +kernel
theorem dX5_foldAll_18 : decode cX5_foldAll 18 = .ok (.iload_n 3, 1) := by decide +kernel
theorem dX5_foldAll_19 : decode cX5_foldAll 19 = .ok (.ifCond .eq 8, 3) := by decide +kernel
theorem dX5_foldAll_22 : decode cX5_foldAll 22 = .ok (.iload_n 3, 1) := by decide +kernel
theorem dX5_foldAll_23 : decode cX5_foldAll 23 = .ok (.iconst 1, 1) := by decide +kernel
theorem dX5_foldAll_24 : decode cX5_foldAll 24 = .ok (.if_icmp .ne 20, 3) := by decide +kernel
theorem dX5_foldAll_27 : decode cX5_foldAll 27 = .ok (.aload_n 0, 1) := by decide +kernel
theorem dX5_foldAll_28 : decode cX5_foldAll 28 = .ok (.iload_n 3, 1) := by decide +kernel
theorem dX5_foldAll_29 : decode cX5_foldAll 29 = .ok (.iconst 1, 1) := by decide +kernel
theorem dX5_foldAll_30 : decode cX5_foldAll 30 = .ok (.if_icmp .ne 7, 3) := by decide +kernel
theorem dX5_foldAll_33 : decode cX5_foldAll 33 = .ok (.iconst 1, 1) := by decide +kernel
theorem dX5_foldAll_34 : decode cX5_foldAll 34 = .ok (.goto 4, 3) := by decide +kernel
theorem dX5_foldAll_37 : decode cX5_foldAll 37 = .ok (.iconst 0, 1) := by decide +kernel
theorem dX5_foldAll_38 : decode cX5_foldAll 38 = .ok (.invokevirtual 39, 3) := by decide +kernel
theorem dX5_foldAll_41 : decode cX5_foldAll 41 = .ok (.goto 17, 3) := by decide +kernel
theorem dX5_foldAll_44 : decode cX5_foldAll 44 = .ok (.aload_n 0, 1) := by decide +kernel
theorem dX5_foldAll_45 : decode cX5_foldAll 45 = .ok (.iload_n 3, 1) := by decide +kernel
theorem dX5_foldAll_46 : decode cX5_foldAll 46 = .ok (.iconst 2, 1) := by decide +kernel
theorem dX5_foldAll_47 : decode cX5_foldAll 47 = .ok (.if_icmp .ne 7, 3) := by decide +kernel
theorem dX5_foldAll_50 : decode cX5_foldAll 50 = .ok (.iconst 1, 1) := by decide +kernel
theorem dX5_foldAll_51 : decode cX5_foldAll 51 = .ok (.goto 4, 3) := by decide +kernel
theorem dX5_foldAll_54 : decode cX5_foldAll 54 = .ok (.iconst 0, 1) := by decide +kernel
theorem dX5_foldAll_55 : decode cX5_foldAll 55 = .ok (.invokevirtual 43, 3) := by decide +kernel
theorem dX5_foldAll_58 : decode cX5_foldAll 58 = .ok (.iinc 2 1, 3) := by decide +kernel
theorem dX5_foldAll_61 : decode cX5_foldAll 61 = .ok (.goto (-55), 3) := by decide +kernel
theorem dX5_foldAll_64 : decode cX5_foldAll 64 = .ok (.return_, 1) := by decide +kernel
theorem dX5_cellAt_0 : decode cX5_cellAt 0 = .ok (.aload_n 0, 1) := by decide +kernel
theorem dX5_cellAt_1 : decode cX5_cellAt 1 = .ok (.iconst 0, 1) := by decide +kernel
theorem dX5_cellAt_2 : decode cX5_cellAt 2 = .ok (.iconst 0, 1) := by decide +kernel
theorem dX5_cellAt_3 : decode cX5_cellAt 3 = .ok (.invokevirtual 46, 3) := by decide +kernel
theorem dX5_cellAt_6 : decode cX5_cellAt 6 = .ok (.istore_n 2, 1) := by decide +kernel
theorem dX5_cellAt_7 : decode cX5_cellAt 7 = .ok (.iload_n 2, 1) := by decide +kernel
theorem dX5_cellAt_8 : decode cX5_cellAt 8 = .ok (.ifCond .lt 23, 3) := by decide +kernel
theorem dX5_cellAt_11 : decode cX5_cellAt 11 = .ok (.iload_n 2, 1) := by decide +kernel
theorem dX5_cellAt_12 : decode cX5_cellAt 12 = .ok (.bipush 8, 2) := by decide +kernel
theorem dX5_cellAt_14 : decode cX5_cellAt 14 = .ok (.if_icmp .ge 17, 3) := by decide +kernel
theorem dX5_cellAt_17 : decode cX5_cellAt 17 = .ok (.iload_n 1, 1) := by decide +kernel
theorem dX5_cellAt_18 : decode cX5_cellAt 18 = .ok (.ifCond .lt 13, 3) := by decide +kernel
theorem dX5_cellAt_21 : decode cX5_cellAt 21 = .ok (.iload_n 1, 1) := by decide +kernel
theorem dX5_cellAt_22 : decode cX5_cellAt 22 = .ok (.aload_n 0, 1) := by decide +kernel
theorem dX5_cellAt_23 : decode cX5_cellAt 23 = .ok (.getfield 15, 3) := by decide +kernel
theorem dX5_cellAt_26 : decode cX5_cellAt 26 = .ok (.iload_n 2, 1) := by decide +kernel
theorem dX5_cellAt_27 : decode cX5_cellAt 27 = .ok (.iaload, 1) := by decide +kernel
theorem dX5_cellAt_28 : decode cX5_cellAt 28 = .ok (.if_icmp .lt 5, 3) := by decide +kernel
theorem dX5_cellAt_31 : decode cX5_cellAt 31 = .ok (.iconst (-1), 1) := by decide +kernel
theorem dX5_cellAt_32 : decode cX5_cellAt 32 = .ok (.ireturn, 1) := by decide +kernel
theorem dX5_cellAt_33 : decode cX5_cellAt 33 = .ok (.aload_n 0, 1) := by decide +kernel
theorem dX5_cellAt_34 : decode cX5_cellAt 34 = .ok (.getfield 9, 3) := by decide +kernel
theorem dX5_cellAt_37 : decode cX5_cellAt 37 = .ok (.iload_n 2, 1) := by decide +kernel
theorem dX5_cellAt_38 : decode cX5_cellAt 38 = .ok (.bipush 8, 2) := by decide +kernel
theorem dX5_cellAt_40 : decode cX5_cellAt 40 = .ok (.imul, 1) := by decide +kernel
theorem dX5_cellAt_41 : decode cX5_cellAt 41 = .ok (.iload_n 1, 1) := by decide +kernel
theorem dX5_cellAt_42 : decode cX5_cellAt 42 = .ok (.iadd, 1) := by decide +kernel
theorem dX5_cellAt_43 : decode cX5_cellAt 43 = .ok (.iaload, 1) := by decide +kernel
theorem dX5_cellAt_44 : decode cX5_cellAt 44 = .ok (.ireturn, 1) := by decide +kernel
theorem dX5_spread_0 : decode cX5_spread 0 = .ok (.aload_n 0, 1) := by decide +kernel
theorem dX5_spread_1 : decode cX5_spread 1 = .ok (.iconst 0, 1) := by decide +kernel
theorem dX5_spread_2 : decode cX5_spread 2 = .ok (.putfield 18, 3) := by decide +kernel
theorem dX5_spread_5 : decode cX5_spread 5 = .ok (.aload_n 0, 1) := by decide +kernel
theorem dX5_spread_6 : decode cX5_spread 6 = .ok (.iconst 0, 1) := by decide +kernel
theorem dX5_spread_7 : decode cX5_spread 7 = .ok (.putfield 22, 3) := by decide +kernel
theorem dX5_spread_10 : decode cX5_spread 10 = .ok (.aload_n 0, 1) := by decide +kernel
theorem dX5_spread_11 : decode cX5_spread 11 = .ok (.iconst 2, 1) := by decide +kernel
theorem dX5_spread_12 : decode cX5_spread 12 = .ok (.putfield 25, 3) := by decide +kernel
theorem dX5_spread_15 : decode cX5_spread 15 = .ok (.aload_n 0, 1) := by decide +kernel
theorem dX5_spread_16 : decode cX5_spread 16 = .ok (.iconst 4, 1) := by decide +kernel
theorem dX5_spread_17 : decode cX5_spread 17 = .ok (.putfield 28, 3) := by decide +kernel
theorem dX5_spread_20 : decode cX5_spread 20 = .ok (.iconst 0, 1) := by decide +kernel
theorem dX5_spread_21 : decode cX5_spread 21 = .ok (.istore_n 1, 1) := by decide +kernel
theorem dX5_spread_22 : decode cX5_spread 22 = .ok (.iload_n 1, 1) := by decide +kernel
theorem dX5_spread_23 : decode cX5_spread 23 = .ok (.bipush 8, 2) := by decide +kernel
theorem dX5_spread_25 : decode cX5_spread 25 = .ok (.if_icmp .ge 26, 3) := by decide +kernel
theorem dX5_spread_28 : decode cX5_spread 28 = .ok (.aload_n 0, 1) := by decide +kernel
theorem dX5_spread_29 : decode cX5_spread 29 = .ok (.getfield 15, 3) := by decide +kernel
theorem dX5_spread_32 : decode cX5_spread 32 = .ok (.iload_n 1, 1) := by decide +kernel
theorem dX5_spread_33 : decode cX5_spread 33 = .ok (.iconst 1, 1) := by decide +kernel
theorem dX5_spread_34 : decode cX5_spread 34 = .ok (.iastore, 1) := by decide +kernel
theorem dX5_spread_35 : decode cX5_spread 35 = .ok (.aload_n 0, 1) := by decide +kernel
theorem dX5_spread_36 : decode cX5_spread 36 = .ok (.getfield 9, 3) := by decide +kernel
theorem dX5_spread_39 : decode cX5_spread 39 = .ok (.iload_n 1, 1) := by decide +kernel
theorem dX5_spread_40 : decode cX5_spread 40 = .ok (.bipush 8, 2) := by decide +kernel
theorem dX5_spread_42 : decode cX5_spread 42 = .ok (.imul, 1) := by decide +kernel
theorem dX5_spread_43 : decode cX5_spread 43 = .ok (.iload_n 1, 1) := by decide +kernel
theorem dX5_spread_44 : decode cX5_spread 44 = .ok (.iastore, 1) := by decide +kernel
theorem dX5_spread_45 : decode cX5_spread 45 = .ok (.iinc 1 1, 3) := by decide +kernel
theorem dX5_spread_48 : decode cX5_spread 48 = .ok (.goto (-26), 3) := by decide +kernel
theorem dX5_spread_51 : decode cX5_spread 51 = .ok (.return_, 1) := by decide +kernel
theorem dX5_pileAt_0 : decode cX5_pileAt 0 = .ok (.aload_n 0, 1) := by decide +kernel
theorem dX5_pileAt_1 : decode cX5_pileAt 1 = .ok (.getfield 18, 3) := by decide +kernel
theorem dX5_pileAt_4 : decode cX5_pileAt 4 = .ok (.iload_n 1, 1) := by decide +kernel
theorem dX5_pileAt_5 : decode cX5_pileAt 5 = .ok (.iadd, 1) := by decide +kernel
theorem dX5_pileAt_6 : decode cX5_pileAt 6 = .ok (.iconst 4, 1) := by decide +kernel
theorem dX5_pileAt_7 : decode cX5_pileAt 7 = .ok (.imul, 1) := by decide +kernel
theorem dX5_pileAt_8 : decode cX5_pileAt 8 = .ok (.aload_n 0, 1) := by decide +kernel
theorem dX5_pileAt_9 : decode cX5_pileAt 9 = .ok (.getfield 22, 3) := by decide +kernel
theorem dX5_pileAt_12 : decode cX5_pileAt 12 = .ok (.iadd, 1) := by decide +kernel
theorem dX5_pileAt_13 : decode cX5_pileAt 13 = .ok (.iload_n 2, 1) := by decide +kernel
theorem dX5_pileAt_14 : decode cX5_pileAt 14 = .ok (.iadd, 1) := by decide +kernel
theorem dX5_pileAt_15 : decode cX5_pileAt 15 = .ok (.ireturn, 1) := by decide +kernel
theorem dX5_foldSideways_0 : decode cX5_foldSideways 0 = .ok (.aload_n 0, 1) := by decide +kernel
theorem dX5_foldSideways_1 : decode cX5_foldSideways 1 = .ok (.getfield 28, 3) := by decide +kernel
theorem dX5_foldSideways_4 : decode cX5_foldSideways 4 = .ok (.iconst 2, 1) := by decide +kernel
theorem dX5_foldSideways_5 : decode cX5_foldSideways 5 = .ok (.idiv, 1) := by decide +kernel
theorem dX5_foldSideways_6 : decode cX5_foldSideways 6 = .ok (.istore_n 2, 1) := by decide +kernel
theorem dX5_foldSideways_7 : decode cX5_foldSideways 7 = .ok (.iconst 0, 1) := by decide +kernel
theorem dX5_foldSideways_8 : decode cX5_foldSideways 8 = .ok (.istore_n 3, 1) := by decide +kernel
theorem dX5_foldSideways_9 : decode cX5_foldSideways 9 = .ok (.iload_n 3, 1) := by decide +kernel
theorem dX5_foldSideways_10 : decode cX5_foldSideways 10 = .ok (.aload_n 0, 1) := by decide +kernel
theorem dX5_foldSideways_11 : decode cX5_foldSideways 11 = .ok (.getfield 25, 3) := by decide +kernel
theorem dX5_foldSideways_14 : decode cX5_foldSideways 14 = .ok (.if_icmp .ge 75, 3) := by decide +kernel
theorem dX5_foldSideways_17 : decode cX5_foldSideways 17 = .ok (.iconst 0, 1) := by decide +kernel
theorem dX5_foldSideways_18 : decode cX5_foldSideways 18 = .ok (.istore 4, 2) := by decide +kernel
theorem dX5_foldSideways_20 : decode cX5_foldSideways 20 = .ok (.iload 4, 2) := by decide +kernel
theorem dX5_foldSideways_22 : decode cX5_foldSideways 22 = .ok (.iload_n 2, 1) := by decide +kernel
theorem dX5_foldSideways_23 : decode cX5_foldSideways 23 = .ok (.if_icmp .ge 60, 3) := by decide +kernel
theorem dX5_foldSideways_26 : decode cX5_foldSideways 26 = .ok (.aload_n 0, 1) := by decide +kernel
theorem dX5_foldSideways_27 : decode cX5_foldSideways 27 = .ok (.iload_n 3, 1) := by decide +kernel
theorem dX5_foldSideways_28 : decode cX5_foldSideways 28 = .ok (.iload 4, 2) := by decide +kernel
theorem dX5_foldSideways_30 : decode cX5_foldSideways 30 = .ok (.invokevirtual 46, 3) := by decide +kernel
theorem dX5_foldSideways_33 : decode cX5_foldSideways 33 = .ok (.istore 5, 2) := by decide +kernel
theorem dX5_foldSideways_35 : decode cX5_foldSideways 35 = .ok (.aload_n 0, 1) := by decide +kernel
theorem dX5_foldSideways_36 : decode cX5_foldSideways 36 = .ok (.iload_n 3, 1) := by decide +kernel
theorem dX5_foldSideways_37 : decode cX5_foldSideways 37 = .ok (.aload_n 0, 1) := by decide +kernel
theorem dX5_foldSideways_38 : decode cX5_foldSideways 38 = .ok (.getfield 28, 3) := by decide +kernel
theorem dX5_foldSideways_41 : decode cX5_foldSideways 41 = .ok (.iconst 1, 1) := by decide +kernel
theorem dX5_foldSideways_42 : decode cX5_foldSideways 42 = .ok (.isub, 1) := by decide +kernel
theorem dX5_foldSideways_43 : decode cX5_foldSideways 43 = .ok (.iload 4, 2) := by decide +kernel
theorem dX5_foldSideways_45 : decode cX5_foldSideways 45 = .ok (.isub, 1) := by decide +kernel
theorem dX5_foldSideways_46 : decode cX5_foldSideways 46 = .ok (.invokevirtual 46, 3) := by decide +kernel
theorem dX5_foldSideways_49 : decode cX5_foldSideways 49 = .ok (.istore 6, 2) := by decide +kernel
theorem dX5_foldSideways_51 : decode cX5_foldSideways 51 = .ok (.aload_n 0, 1) := by decide +kernel
theorem dX5_foldSideways_52 : decode cX5_foldSideways 52 = .ok (.iload_n 1, 1) := by decide +kernel
theorem dX5_foldSideways_53 : decode cX5_foldSideways 53 = .ok (.ifCond .eq 8, 3) := by decide +kernel
theorem dX5_foldSideways_56 : decode cX5_foldSideways 56 = .ok (.iload 6, 2) := by decide +kernel
theorem dX5_foldSideways_58 : decode cX5_foldSideways 58 = .ok (.goto 5, 3) := by decide +kernel
theorem dX5_foldSideways_61 : decode cX5_foldSideways 61 = .ok (.iload 5, 2) := by decide +kernel
theorem dX5_foldSideways_63 : decode cX5_foldSideways 63 = .ok (.iload_n 1, 1) := by decide +kernel
theorem dX5_foldSideways_64 : decode cX5_foldSideways 64 = .ok (.ifCond .eq 8, 3) := by decide +kernel
theorem dX5_foldSideways_67 : decode cX5_foldSideways 67 = .ok (.iload 5, 2) := by decide +kernel
theorem dX5_foldSideways_69 : decode cX5_foldSideways 69 = .ok (.goto 5, 3) := by decide +kernel
theorem dX5_foldSideways_72 : decode cX5_foldSideways 72 = .ok (.iload 6, 2) := by decide +kernel
theorem dX5_foldSideways_74 : decode cX5_foldSideways 74 = .ok (.invokevirtual 50, 3) := by decide +kernel
theorem dX5_foldSideways_77 : decode cX5_foldSideways 77 = .ok (.iinc 4 1, 3) := by decide +kernel
theorem dX5_foldSideways_80 : decode cX5_foldSideways 80 = .ok (.goto (-60), 3) := by decide +kernel
theorem dX5_foldSideways_83 : decode cX5_foldSideways 83 = .ok (.iinc 3 1, 3) := by decide +kernel
theorem dX5_foldSideways_86 : decode cX5_foldSideways 86 = .ok (.goto (-77), 3) := by decide +kernel
theorem dX5_foldSideways_89 : decode cX5_foldSideways 89 = .ok (.aload_n 0, 1) := by decide +kernel
theorem dX5_foldSideways_90 : decode cX5_foldSideways 90 = .ok (.dup, 1) := by decide +kernel
theorem dX5_foldSideways_91 : decode cX5_foldSideways 91 = .ok (.getfield 22, 3) := by decide +kernel
theorem dX5_foldSideways_94 : decode cX5_foldSideways 94 = .ok (.iload_n 1, 1) := by decide +kernel
theorem dX5_foldSideways_95 : decode cX5_foldSideways 95 = .ok (.ifCond .eq 7, 3) := by decide +kernel
theorem dX5_foldSideways_98 : decode cX5_foldSideways 98 = .ok (.iconst 0, 1) := by decide +kernel
theorem dX5_foldSideways_99 : decode cX5_foldSideways 99 = .ok (.goto 4, 3) := by decide +kernel
theorem dX5_foldSideways_102 : decode cX5_foldSideways 102 = .ok (.iload_n 2, 1) := by decide +kernel
theorem dX5_foldSideways_103 : decode cX5_foldSideways 103 = .ok (.iadd, 1) := by decide +kernel
theorem dX5_foldSideways_104 : decode cX5_foldSideways 104 = .ok (.putfield 22, 3) := by decide +kernel
theorem dX5_foldSideways_107 : decode cX5_foldSideways 107 = .ok (.aload_n 0, 1) := by decide +kernel
theorem dX5_foldSideways_108 : decode cX5_foldSideways 108 = .ok (.iload_n 2, 1) := by decide +kernel
theorem dX5_foldSideways_109 : decode cX5_foldSideways 109 = .ok (.putfield 28, 3) := by decide +kernel
theorem dX5_foldSideways_112 : decode cX5_foldSideways 112 = .ok (.return_, 1) := by decide +kernel
theorem dX5_foldUpright_0 : decode cX5_foldUpright 0 = .ok (.aload_n 0, 1) := by decide +kernel
theorem dX5_foldUpright_1 : decode cX5_foldUpright 1 = .ok (.getfield 25, 3) := by decide +kernel
theorem dX5_foldUpright_4 : decode cX5_foldUpright 4 = .ok (.iconst 2, 1) := by decide +kernel
theorem dX5_foldUpright_5 : decode cX5_foldUpright 5 = .ok (.idiv, 1) := by decide +kernel
theorem dX5_foldUpright_6 : decode cX5_foldUpright 6 = .ok (.istore_n 2, 1) := by decide +kernel
theorem dX5_foldUpright_7 : decode cX5_foldUpright 7 = .ok (.iconst 0, 1) := by decide +kernel
theorem dX5_foldUpright_8 : decode cX5_foldUpright 8 = .ok (.istore_n 3, 1) := by decide +kernel
theorem dX5_foldUpright_9 : decode cX5_foldUpright 9 = .ok (.iload_n 3, 1) := by decide +kernel
theorem dX5_foldUpright_10 : decode cX5_foldUpright 10 = .ok (.iload_n 2, 1) := by decide +kernel
theorem dX5_foldUpright_11 : decode cX5_foldUpright 11 = .ok (.if_icmp .ge 78, 3) := by decide +kernel
theorem dX5_foldUpright_14 : decode cX5_foldUpright 14 = .ok (.iconst 0, 1) := by decide +kernel
theorem dX5_foldUpright_15 : decode cX5_foldUpright 15 = .ok (.istore 4, 2) := by decide +kernel
theorem dX5_foldUpright_17 : decode cX5_foldUpright 17 = .ok (.iload 4, 2) := by decide +kernel
theorem dX5_foldUpright_19 : decode cX5_foldUpright 19 = .ok (.aload_n 0, 1) := by decide +kernel
theorem dX5_foldUpright_20 : decode cX5_foldUpright 20 = .ok (.getfield 28, 3) := by decide +kernel
theorem dX5_foldUpright_23 : decode cX5_foldUpright 23 = .ok (.if_icmp .ge 60, 3) := by decide +kernel
theorem dX5_foldUpright_26 : decode cX5_foldUpright 26 = .ok (.aload_n 0, 1) := by decide +kernel
theorem dX5_foldUpright_27 : decode cX5_foldUpright 27 = .ok (.iload_n 3, 1) := by decide +kernel
theorem dX5_foldUpright_28 : decode cX5_foldUpright 28 = .ok (.iload 4, 2) := by decide +kernel
theorem dX5_foldUpright_30 : decode cX5_foldUpright 30 = .ok (.invokevirtual 46, 3) := by decide +kernel
theorem dX5_foldUpright_33 : decode cX5_foldUpright 33 = .ok (.istore 5, 2) := by decide +kernel
theorem dX5_foldUpright_35 : decode cX5_foldUpright 35 = .ok (.aload_n 0, 1) := by decide +kernel
theorem dX5_foldUpright_36 : decode cX5_foldUpright 36 = .ok (.aload_n 0, 1) := by decide +kernel
theorem dX5_foldUpright_37 : decode cX5_foldUpright 37 = .ok (.getfield 25, 3) := by decide +kernel
theorem dX5_foldUpright_40 : decode cX5_foldUpright 40 = .ok (.iconst 1, 1) := by decide +kernel
theorem dX5_foldUpright_41 : decode cX5_foldUpright 41 = .ok (.isub, 1) := by decide +kernel
theorem dX5_foldUpright_42 : decode cX5_foldUpright 42 = .ok (.iload_n 3, 1) := by decide +kernel
theorem dX5_foldUpright_43 : decode cX5_foldUpright 43 = .ok (.isub, 1) := by decide +kernel
theorem dX5_foldUpright_44 : decode cX5_foldUpright 44 = .ok (.iload 4, 2) := by decide +kernel
theorem dX5_foldUpright_46 : decode cX5_foldUpright 46 = .ok (.invokevirtual 46, 3) := by decide +kernel
theorem dX5_foldUpright_49 : decode cX5_foldUpright 49 = .ok (.istore 6, 2) := by decide +kernel
theorem dX5_foldUpright_51 : decode cX5_foldUpright 51 = .ok (.aload_n 0, 1) := by decide +kernel
theorem dX5_foldUpright_52 : decode cX5_foldUpright 52 = .ok (.iload_n 1, 1) := by decide +kernel
theorem dX5_foldUpright_53 : decode cX5_foldUpright 53 = .ok (.ifCond .eq 8, 3) := by decide +kernel
theorem dX5_foldUpright_56 : decode cX5_foldUpright 56 = .ok (.iload 6, 2) := by decide +kernel
theorem dX5_foldUpright_58 : decode cX5_foldUpright 58 = .ok (.goto 5, 3) := by decide +kernel
theorem dX5_foldUpright_61 : decode cX5_foldUpright 61 = .ok (.iload 5, 2) := by decide +kernel
theorem dX5_foldUpright_63 : decode cX5_foldUpright 63 = .ok (.iload_n 1, 1) := by decide +kernel
theorem dX5_foldUpright_64 : decode cX5_foldUpright 64 = .ok (.ifCond .eq 8, 3) := by decide +kernel
theorem dX5_foldUpright_67 : decode cX5_foldUpright 67 = .ok (.iload 5, 2) := by decide +kernel
theorem dX5_foldUpright_69 : decode cX5_foldUpright 69 = .ok (.goto 5, 3) := by decide +kernel
theorem dX5_foldUpright_72 : decode cX5_foldUpright 72 = .ok (.iload 6, 2) := by decide +kernel
theorem dX5_foldUpright_74 : decode cX5_foldUpright 74 = .ok (.invokevirtual 50, 3) := by decide +kernel
theorem dX5_foldUpright_77 : decode cX5_foldUpright 77 = .ok (.iinc 4 1, 3) := by decide +kernel
theorem dX5_foldUpright_80 : decode cX5_foldUpright 80 = .ok (.goto (-63), 3) := by decide +kernel
theorem dX5_foldUpright_83 : decode cX5_foldUpright 83 = .ok (.iinc 3 1, 3) := by decide +kernel
theorem dX5_foldUpright_86 : decode cX5_foldUpright 86 = .ok (.goto (-77), 3) := by decide +kernel
theorem dX5_foldUpright_89 : decode cX5_foldUpright 89 = .ok (.aload_n 0, 1) := by decide +kernel
theorem dX5_foldUpright_90 : decode cX5_foldUpright 90 = .ok (.dup, 1) := by decide +kernel
theorem dX5_foldUpright_91 : decode cX5_foldUpright 91 = .ok (.getfield 18, 3) := by decide +kernel
theorem dX5_foldUpright_94 : decode cX5_foldUpright 94 = .ok (.iload_n 1, 1) := by decide +kernel
theorem dX5_foldUpright_95 : decode cX5_foldUpright 95 = .ok (.ifCond .eq 7, 3) := by decide +kernel
theorem dX5_foldUpright_98 : decode cX5_foldUpright 98 = .ok (.iconst 0, 1) := by decide +kernel
theorem dX5_foldUpright_99 : decode cX5_foldUpright 99 = .ok (.goto 4, 3) := by decide +kernel
theorem dX5_foldUpright_102 : decode cX5_foldUpright 102 = .ok (.iload_n 2, 1) := by decide +kernel
theorem dX5_foldUpright_103 : decode cX5_foldUpright 103 = .ok (.iadd, 1) := by decide +kernel
theorem dX5_foldUpright_104 : decode cX5_foldUpright 104 = .ok (.putfield 18, 3) := by decide +kernel
theorem dX5_foldUpright_107 : decode cX5_foldUpright 107 = .ok (.aload_n 0, 1) := by decide +kernel
theorem dX5_foldUpright_108 : decode cX5_foldUpright 108 = .ok (.iload_n 2, 1) := by decide +kernel
theorem dX5_foldUpright_109 : decode cX5_foldUpright 109 = .ok (.putfield 25, 3) := by decide +kernel
theorem dX5_foldUpright_112 : decode cX5_foldUpright 112 = .ok (.return_, 1) := by decide +kernel
theorem dX5_turnOnto_0 : decode cX5_turnOnto 0 = .ok (.iload_n 1, 1) := by decide +kernel
theorem dX5_turnOnto_1 : decode cX5_turnOnto 1 = .ok (.ifCond .lt 19, 3) := by decide +kernel
theorem dX5_turnOnto_4 : decode cX5_turnOnto 4 = .ok (.iload_n 1, 1) := by decide +kernel
theorem dX5_turnOnto_5 : decode cX5_turnOnto 5 = .ok (.bipush 8, 2) := by decide +kernel
theorem dX5_turnOnto_7 : decode cX5_turnOnto 7 = .ok (.if_icmp .ge 13, 3) := by decide +kernel
theorem dX5_turnOnto_10 : decode cX5_turnOnto 10 = .ok (.iload_n 2, 1) := by decide +kernel
theorem dX5_turnOnto_11 : decode cX5_turnOnto 11 = .ok (.ifCond .lt 9, 3) := by decide +kernel
theorem dX5_turnOnto_14 : decode cX5_turnOnto 14 = .ok (.iload_n 2, 1) := by decide +kernel
theorem dX5_turnOnto_15 : decode cX5_turnOnto 15 = .ok (.bipush 8, 2) := by decide +kernel
theorem dX5_turnOnto_17 : decode cX5_turnOnto 17 = .ok (.if_icmp .lt 4, 3) := by decide +kernel
theorem dX5_turnOnto_20 : decode cX5_turnOnto 20 = .ok (.return_, 1) := by decide +kernel
theorem dX5_turnOnto_21 : decode cX5_turnOnto 21 = .ok (.aload_n 0, 1) := by decide +kernel
theorem dX5_turnOnto_22 : decode cX5_turnOnto 22 = .ok (.getfield 15, 3) := by decide +kernel
theorem dX5_turnOnto_25 : decode cX5_turnOnto 25 = .ok (.iload_n 1, 1) := by decide +kernel
theorem dX5_turnOnto_26 : decode cX5_turnOnto 26 = .ok (.iaload, 1) := by decide +kernel
theorem dX5_turnOnto_27 : decode cX5_turnOnto 27 = .ok (.istore_n 3, 1) := by decide +kernel
theorem dX5_turnOnto_28 : decode cX5_turnOnto 28 = .ok (.aload_n 0, 1) := by decide +kernel
theorem dX5_turnOnto_29 : decode cX5_turnOnto 29 = .ok (.getfield 15, 3) := by decide +kernel
theorem dX5_turnOnto_32 : decode cX5_turnOnto 32 = .ok (.iload_n 2, 1) := by decide +kernel
theorem dX5_turnOnto_33 : decode cX5_turnOnto 33 = .ok (.iaload, 1) := by decide +kernel
theorem dX5_turnOnto_34 : decode cX5_turnOnto 34 = .ok (.istore 4, 2) := by decide +kernel
theorem dX5_turnOnto_36 : decode cX5_turnOnto 36 = .ok (.iload_n 3, 1) := by decide +kernel
theorem dX5_turnOnto_37 : decode cX5_turnOnto 37 = .ok (.iload 4, 2) := by decide +kernel
theorem dX5_turnOnto_39 : decode cX5_turnOnto 39 = .ok (.iadd, 1) := by decide +kernel
theorem dX5_turnOnto_40 : decode cX5_turnOnto 40 = .ok (.bipush 8, 2) := by decide +kernel
theorem dX5_turnOnto_42 : decode cX5_turnOnto 42 = .ok (.if_icmp .le 4, 3) := by decide +kernel
theorem dX5_turnOnto_45 : decode cX5_turnOnto 45 = .ok (.return_, 1) := by decide +kernel
theorem dX5_turnOnto_46 : decode cX5_turnOnto 46 = .ok (.iload 4, 2) := by decide +kernel
theorem dX5_turnOnto_48 : decode cX5_turnOnto 48 = .ok (.iconst 1, 1) := by decide +kernel
theorem dX5_turnOnto_49 : decode cX5_turnOnto 49 = .ok (.isub, 1) := by decide +kernel
theorem dX5_turnOnto_50 : decode cX5_turnOnto 50 = .ok (.istore 5, 2) := by decide +kernel
theorem dX5_turnOnto_52 : decode cX5_turnOnto 52 = .ok (.iload 5, 2) := by decide +kernel
theorem dX5_turnOnto_54 : decode cX5_turnOnto 54 = .ok (.ifCond .lt 35, 3) := by decide +kernel
theorem dX5_turnOnto_57 : decode cX5_turnOnto 57 = .ok (.aload_n 0, 1) := by decide +kernel
theorem dX5_turnOnto_58 : decode cX5_turnOnto 58 = .ok (.getfield 9, 3) := by decide +kernel
theorem dX5_turnOnto_61 : decode cX5_turnOnto 61 = .ok (.iload_n 2, 1) := by decide +kernel
theorem dX5_turnOnto_62 : decode cX5_turnOnto 62 = .ok (.bipush 8, 2) := by decide +kernel
theorem dX5_turnOnto_64 : decode cX5_turnOnto 64 = .ok (.imul, 1) := by decide +kernel
theorem dX5_turnOnto_65 : decode cX5_turnOnto 65 = .ok (.iload_n 3, 1) := by decide +kernel
theorem dX5_turnOnto_66 : decode cX5_turnOnto 66 = .ok (.iadd, 1) := by decide +kernel
theorem dX5_turnOnto_67 : decode cX5_turnOnto 67 = .ok (.iload 5, 2) := by decide +kernel
theorem dX5_turnOnto_69 : decode cX5_turnOnto 69 = .ok (.iadd, 1) := by decide +kernel
theorem dX5_turnOnto_70 : decode cX5_turnOnto 70 = .ok (.aload_n 0, 1) := by decide +kernel
theorem dX5_turnOnto_71 : decode cX5_turnOnto 71 = .ok (.getfield 9, 3) := by decide +kernel
theorem dX5_turnOnto_74 : decode cX5_turnOnto 74 = .ok (.iload_n 2, 1) := by decide +kernel
theorem dX5_turnOnto_75 : decode cX5_turnOnto 75 = .ok (.bipush 8, 2) := by decide +kernel
theorem dX5_turnOnto_77 : decode cX5_turnOnto 77 = .ok (.imul, 1) := by decide +kernel
theorem dX5_turnOnto_78 : decode cX5_turnOnto 78 = .ok (.iload 5, 2) := by decide +kernel
theorem dX5_turnOnto_80 : decode cX5_turnOnto 80 = .ok (.iadd, 1) := by decide +kernel
theorem dX5_turnOnto_81 : decode cX5_turnOnto 81 = .ok (.iaload, 1) := by decide +kernel
theorem dX5_turnOnto_82 : decode cX5_turnOnto 82 = .ok (.iastore, 1) := by decide +kernel
theorem dX5_turnOnto_83 : decode cX5_turnOnto 83 = .ok (.iinc 5 (-1), 3) := by decide +kernel
theorem dX5_turnOnto_86 : decode cX5_turnOnto 86 = .ok (.goto (-34), 3) := by decide +kernel
theorem dX5_turnOnto_89 : decode cX5_turnOnto 89 = .ok (.iconst 0, 1) := by decide +kernel
theorem dX5_turnOnto_90 : decode cX5_turnOnto 90 = .ok (.istore 5, 2) := by decide +kernel
theorem dX5_turnOnto_92 : decode cX5_turnOnto 92 = .ok (.iload 5, 2) := by decide +kernel
theorem dX5_turnOnto_94 : decode cX5_turnOnto 94 = .ok (.iload_n 3, 1) := by decide +kernel
theorem dX5_turnOnto_95 : decode cX5_turnOnto 95 = .ok (.if_icmp .ge 37, 3) := by decide +kernel
theorem dX5_turnOnto_98 : decode cX5_turnOnto 98 = .ok (.aload_n 0, 1) := by decide +kernel
theorem dX5_turnOnto_99 : decode cX5_turnOnto 99 = .ok (.getfield 9, 3) := by decide +kernel
theorem dX5_turnOnto_102 : decode cX5_turnOnto 102 = .ok (.iload_n 2, 1) := by decide +kernel
theorem dX5_turnOnto_103 : decode cX5_turnOnto 103 = .ok (.bipush 8, 2) := by decide +kernel
theorem dX5_turnOnto_105 : decode cX5_turnOnto 105 = .ok (.imul, 1) := by decide +kernel
theorem dX5_turnOnto_106 : decode cX5_turnOnto 106 = .ok (.iload 5, 2) := by decide +kernel
theorem dX5_turnOnto_108 : decode cX5_turnOnto 108 = .ok (.iadd, 1) := by decide +kernel
theorem dX5_turnOnto_109 : decode cX5_turnOnto 109 = .ok (.aload_n 0, 1) := by decide +kernel
theorem dX5_turnOnto_110 : decode cX5_turnOnto 110 = .ok (.getfield 9, 3) := by decide +kernel
theorem dX5_turnOnto_113 : decode cX5_turnOnto 113 = .ok (.iload_n 1, 1) := by decide +kernel
theorem dX5_turnOnto_114 : decode cX5_turnOnto 114 = .ok (.bipush 8, 2) := by decide +kernel
theorem dX5_turnOnto_116 : decode cX5_turnOnto 116 = .ok (.imul, 1) := by decide +kernel
theorem dX5_turnOnto_117 : decode cX5_turnOnto 117 = .ok (.iload_n 3, 1) := by decide +kernel
theorem dX5_turnOnto_118 : decode cX5_turnOnto 118 = .ok (.iadd, 1) := by decide +kernel
theorem dX5_turnOnto_119 : decode cX5_turnOnto 119 = .ok (.iconst 1, 1) := by decide +kernel
theorem dX5_turnOnto_120 : decode cX5_turnOnto 120 = .ok (.isub, 1) := by decide +kernel
theorem dX5_turnOnto_121 : decode cX5_turnOnto 121 = .ok (.iload 5, 2) := by decide +kernel
theorem dX5_turnOnto_123 : decode cX5_turnOnto 123 = .ok (.isub, 1) := by decide +kernel
theorem dX5_turnOnto_124 : decode cX5_turnOnto 124 = .ok (.iaload, 1) := by decide +kernel
theorem dX5_turnOnto_125 : decode cX5_turnOnto 125 = .ok (.iastore, 1) := by decide +kernel
theorem dX5_turnOnto_126 : decode cX5_turnOnto 126 = .ok (.iinc 5 1, 3) := by decide +kernel
theorem dX5_turnOnto_129 : decode cX5_turnOnto 129 = .ok (.goto (-37), 3) := by decide +kernel
theorem dX5_turnOnto_132 : decode cX5_turnOnto 132 = .ok (.aload_n 0, 1) := by decide +kernel
theorem dX5_turnOnto_133 : decode cX5_turnOnto 133 = .ok (.getfield 15, 3) := by decide +kernel
theorem dX5_turnOnto_136 : decode cX5_turnOnto 136 = .ok (.iload_n 2, 1) := by decide +kernel
theorem dX5_turnOnto_137 : decode cX5_turnOnto 137 = .ok (.iload_n 3, 1) := by decide +kernel
theorem dX5_turnOnto_138 : decode cX5_turnOnto 138 = .ok (.iload 4, 2) := by decide +kernel
theorem dX5_turnOnto_140 : decode cX5_turnOnto 140 = .ok (.iadd, 1) := by decide +kernel
theorem dX5_turnOnto_141 : decode cX5_turnOnto 141 = .ok (.iastore, 1) := by decide +kernel
theorem dX5_turnOnto_142 : decode cX5_turnOnto 142 = .ok (.aload_n 0, 1) := by decide +kernel
theorem dX5_turnOnto_143 : decode cX5_turnOnto 143 = .ok (.getfield 15, 3) := by decide +kernel
theorem dX5_turnOnto_146 : decode cX5_turnOnto 146 = .ok (.iload_n 1, 1) := by decide +kernel
theorem dX5_turnOnto_147 : decode cX5_turnOnto 147 = .ok (.iconst 0, 1) := by decide +kernel
theorem dX5_turnOnto_148 : decode cX5_turnOnto 148 = .ok (.iastore, 1) := by decide +kernel
theorem dX5_turnOnto_149 : decode cX5_turnOnto 149 = .ok (.return_, 1) := by decide +kernel
theorem dX6_init_0 : decode cX6_init 0 = .ok (.aload_n 0, 1) := by decide +kernel
theorem dX6_init_1 : decode cX6_init 1 = .ok (.invokespecial 3, 3) := by decide +kernel
theorem dX6_init_4 : decode cX6_init 4 = .ok (.aload_n 0, 1) := by decide +kernel
theorem dX6_init_5 : decode cX6_init 5 = .ok (.bipush 8, 2) := by decide +kernel
theorem dX6_init_7 : decode cX6_init 7 = .ok (.anewarray 9, 3) := by decide +kernel
theorem dX6_init_10 : decode cX6_init 10 = .ok (.putfield 11, 3) := by decide +kernel
theorem dX6_init_13 : decode cX6_init 13 = .ok (.aload_n 0, 1) := by decide +kernel
theorem dX6_init_14 : decode cX6_init 14 = .ok (.iconst 1, 1) := by decide +kernel
theorem dX6_init_15 : decode cX6_init 15 = .ok (.putfield 17, 3) := by decide +kernel
theorem dX6_init_18 : decode cX6_init 18 = .ok (.aload_n 0, 1) := by decide +kernel
theorem dX6_init_19 : decode cX6_init 19 = .ok (.iconst (-1), 1) := by decide +kernel
theorem dX6_init_20 : decode cX6_init 20 = .ok (.putfield 21, 3) := by decide +kernel
theorem dX6_init_23 : decode cX6_init 23 = .ok (.aload_n 0, 1) := by decide +kernel
theorem dX6_init_24 : decode cX6_init 24 = .ok (.aload_n 1, 1) := by decide +kernel
theorem dX6_init_25 : decode cX6_init 25 = .ok (.putfield 25, 3) := by decide +kernel
theorem dX6_init_28 : decode cX6_init 28 = .ok (.return_, 1) := by decide +kernel
theorem dX6_leafIn_0 : decode cX6_leafIn 0 = .ok (.iload_n 1, 1) := by decide +kernel
theorem dX6_leafIn_1 : decode cX6_leafIn 1 = .ok (.ifCond .lt 12, 3) := by decide +kernel
theorem dX6_leafIn_4 : decode cX6_leafIn 4 = .ok (.iload_n 1, 1) := by decide +kernel
theorem dX6_leafIn_5 : decode cX6_leafIn 5 = .ok (.aload_n 0, 1) := by decide +kernel
theorem dX6_leafIn_6 : decode cX6_leafIn 6 = .ok (.getfield 11, 3) := by decide +kernel
theorem dX6_leafIn_9 : decode cX6_leafIn 9 = .ok (.arraylength, 1) := by decide +kernel
theorem dX6_leafIn_10 : decode cX6_leafIn 10 = .ok (.if_icmp .lt 7, 3) := by decide +kernel
theorem dX6_leafIn_13 : decode cX6_leafIn 13 = .ok (.aconst_null, 1) := by decide +kernel
theorem dX6_leafIn_14 : decode cX6_leafIn 14 = .ok (.goto 9, 3) := by decide +kernel
theorem dX6_leafIn_17 : decode cX6_leafIn 17 = .ok (.aload_n 0, 1) := by decide +kernel
theorem dX6_leafIn_18 : decode cX6_leafIn 18 = .ok (.getfield 11, 3) := by decide +kernel
theorem dX6_leafIn_21 : decode cX6_leafIn 21 = .ok (.iload_n 1, 1) := by decide +kernel
theorem dX6_leafIn_22 : decode cX6_leafIn 22 = .ok (.aaload, 1) := by decide +kernel
theorem dX6_leafIn_23 : decode cX6_leafIn 23 = .ok (.areturn, 1) := by decide +kernel
theorem dX6_lay_0 : decode cX6_lay 0 = .ok (.aload_n 0, 1) := by decide +kernel
theorem dX6_lay_1 : decode cX6_lay 1 = .ok (.getfield 25, 3) := by decide +kernel
theorem dX6_lay_4 : decode cX6_lay 4 = .ok (.iload_n 2, 1) := by decide +kernel
theorem dX6_lay_5 : decode cX6_lay 5 = .ok (.invokevirtual 29, 3) := by decide +kernel
theorem dX6_lay_8 : decode cX6_lay 8 = .ok (.istore_n 3, 1) := by decide +kernel
theorem dX6_lay_9 : decode cX6_lay 9 = .ok (.iload_n 3, 1) := by decide +kernel
theorem dX6_lay_10 : decode cX6_lay 10 = .ok (.ifCond .lt 19, 3) := by decide +kernel
theorem dX6_lay_13 : decode cX6_lay 13 = .ok (.iload_n 3, 1) := by decide +kernel
theorem dX6_lay_14 : decode cX6_lay 14 = .ok (.aload_n 0, 1) := by decide +kernel
theorem dX6_lay_15 : decode cX6_lay 15 = .ok (.getfield 11, 3) := by decide +kernel
theorem dX6_lay_18 : decode cX6_lay 18 = .ok (.arraylength, 1) := by decide +kernel
theorem dX6_lay_19 : decode cX6_lay 19 = .ok (.if_icmp .ge 10, 3) := by decide +kernel
theorem dX6_lay_22 : decode cX6_lay 22 = .ok (.aload_n 0, 1) := by decide +kernel
theorem dX6_lay_23 : decode cX6_lay 23 = .ok (.getfield 11, 3) := by decide +kernel
theorem dX6_lay_26 : decode cX6_lay 26 = .ok (.iload_n 3, 1) := by decide +kernel
theorem dX6_lay_27 : decode cX6_lay 27 = .ok (.aload_n 1, 1) := by decide +kernel
theorem dX6_lay_28 : decode cX6_lay 28 = .ok (.aastore, 1) := by decide +kernel
theorem dX6_lay_29 : decode cX6_lay 29 = .ok (.return_, 1) := by decide +kernel
theorem dX6_cutWith_0 : decode cX6_cutWith 0 = .ok (.aload_n 0, 1) := by decide +kernel
theorem dX6_cutWith_1 : decode cX6_cutWith 1 = .ok (.iconst 0, 1) := by decide +kernel
theorem dX6_cutWith_2 : decode cX6_cutWith 2 = .ok (.putfield 17, 3) := by decide +kernel
theorem dX6_cutWith_5 : decode cX6_cutWith 5 = .ok (.aload_n 0, 1) := by decide +kernel
theorem dX6_cutWith_6 : decode cX6_cutWith 6 = .ok (.iload_n 1, 1) := by decide +kernel
theorem dX6_cutWith_7 : decode cX6_cutWith 7 = .ok (.putfield 21, 3) := by decide +kernel
theorem dX6_cutWith_10 : decode cX6_cutWith 10 = .ok (.return_, 1) := by decide +kernel
theorem dX6_isCut_0 : decode cX6_isCut 0 = .ok (.aload_n 0, 1) := by decide +kernel
theorem dX6_isCut_1 : decode cX6_isCut 1 = .ok (.getfield 21, 3) := by decide +kernel
theorem dX6_isCut_4 : decode cX6_isCut 4 = .ok (.iconst (-1), 1) := by decide +kernel
theorem dX6_isCut_5 : decode cX6_isCut 5 = .ok (.if_icmp .eq 7, 3) := by decide +kernel
theorem dX6_isCut_8 : decode cX6_isCut 8 = .ok (.iconst 1, 1) := by decide +kernel
theorem dX6_isCut_9 : decode cX6_isCut 9 = .ok (.goto 4, 3) := by decide +kernel
theorem dX6_isCut_12 : decode cX6_isCut 12 = .ok (.iconst 0, 1) := by decide +kernel
theorem dX6_isCut_13 : decode cX6_isCut 13 = .ok (.ireturn, 1) := by decide +kernel
theorem dX6_isOfUse_0 : decode cX6_isOfUse 0 = .ok (.iconst 0, 1) := by decide +kernel
theorem dX6_isOfUse_1 : decode cX6_isOfUse 1 = .ok (.istore_n 1, 1) := by decide +kernel
theorem dX6_isOfUse_2 : decode cX6_isOfUse 2 = .ok (.iload_n 1, 1) := by decide +kernel
theorem dX6_isOfUse_3 : decode cX6_isOfUse 3 = .ok (.aload_n 0, 1) := by decide +kernel
theorem dX6_isOfUse_4 : decode cX6_isOfUse 4 = .ok (.getfield 11, 3) := by decide +kernel
theorem dX6_isOfUse_7 : decode cX6_isOfUse 7 = .ok (.arraylength, 1) := by decide +kernel
theorem dX6_isOfUse_8 : decode cX6_isOfUse 8 = .ok (.if_icmp .ge 29, 3) := by decide +kernel
theorem dX6_isOfUse_11 : decode cX6_isOfUse 11 = .ok (.aload_n 0, 1) := by decide +kernel
theorem dX6_isOfUse_12 : decode cX6_isOfUse 12 = .ok (.getfield 11, 3) := by decide +kernel
theorem dX6_isOfUse_15 : decode cX6_isOfUse 15 = .ok (.iload_n 1, 1) := by decide +kernel
theorem dX6_isOfUse_16 : decode cX6_isOfUse 16 = .ok (.aaload, 1) := by decide +kernel
theorem dX6_isOfUse_17 : decode cX6_isOfUse 17 = .ok (.astore_n 2, 1) := by decide +kernel
theorem dX6_isOfUse_18 : decode cX6_isOfUse 18 = .ok (.aload_n 2, 1) := by decide +kernel
theorem dX6_isOfUse_19 : decode cX6_isOfUse 19 = .ok (.ifnull 12, 3) := by decide +kernel
theorem dX6_isOfUse_22 : decode cX6_isOfUse 22 = .ok (.aload_n 2, 1) := by decide +kernel
theorem dX6_isOfUse_23 : decode cX6_isOfUse 23 = .ok (.getfield 35, 3) := by decide +kernel
theorem dX6_isOfUse_26 : decode cX6_isOfUse 26 = .ok (.ifCond .ne 5, 3) := by decide +kernel
theorem dX6_isOfUse_29 : decode cX6_isOfUse 29 = .ok (.iconst 1, 1) := by decide +kernel
theorem dX6_isOfUse_30 : decode cX6_isOfUse 30 = .ok (.ireturn, 1) := by decide +kernel
theorem dX6_isOfUse_31 : decode cX6_isOfUse 31 = .ok (.iinc 1 1, 3) := by decide +kernel
theorem dX6_isOfUse_34 : decode cX6_isOfUse 34 = .ok (.goto (-32), 3) := by decide +kernel
theorem dX6_isOfUse_37 : decode cX6_isOfUse 37 = .ok (.iconst 0, 1) := by decide +kernel
theorem dX6_isOfUse_38 : decode cX6_isOfUse 38 = .ok (.ireturn, 1) := by decide +kernel
