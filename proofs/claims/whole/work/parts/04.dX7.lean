theorem dX7_init_0 : decode cX7_init 0 = .ok (.aload_n 0, 1) := by decide +kernel
theorem dX7_init_1 : decode cX7_init 1 = .ok (.invokespecial 3, 3) := by decide +kernel
theorem dX7_init_4 : decode cX7_init 4 = .ok (.aload_n 0, 1) := by decide +kernel
theorem dX7_init_5 : decode cX7_init 5 = .ok (.new 9, 3) := by decide +kernel
theorem dX7_init_8 : decode cX7_init 8 = .ok (.dup, 1) := by decide +kernel
theorem dX7_init_9 : decode cX7_init 9 = .ok (.invokespecial 11, 3) := by decide +kernel
theorem dX7_init_12 : decode cX7_init 12 = .ok (.putfield 12, 3) := by decide +kernel
theorem dX7_init_15 : decode cX7_init 15 = .ok (.aload_n 0, 1) := by decide +kernel
theorem dX7_init_16 : decode cX7_init 16 = .ok (.new 9, 3) := by decide +kernel
theorem dX7_init_19 : decode cX7_init 19 = .ok (.dup, 1) := by decide +kernel
theorem dX7_init_20 : decode cX7_init 20 = .ok (.invokespecial 11, 3) := by decide +kernel
theorem dX7_init_23 : decode cX7_init 23 = .ok (.putfield 16, 3) := by decide +kernel
theorem dX7_init_26 : decode cX7_init 26 = .ok (.aload_n 0, 1) := by decide +kernel
theorem dX7_init_27 : decode cX7_init 27 = .ok (.new 9, 3) := by decide +kernel
theorem dX7_init_30 : decode cX7_init 30 = .ok (.dup, 1) := by decide +kernel
theorem dX7_init_31 : decode cX7_init 31 = .ok (.invokespecial 11, 3) := by decide +kernel
theorem dX7_init_34 : decode cX7_init 34 = .ok (.putfield 19, 3) := by decide +kernel
theorem dX7_init_37 : decode cX7_init 37 = .ok (.aload_n 0, 1) := by decide +kernel
theorem dX7_init_38 : decode cX7_init 38 = .ok (.iconst 5, 1) := by decide +kernel
theorem dX7_init_39 : decode cX7_init 39 = .ok (.newarray .int, 2) := by decide +kernel
theorem dX7_init_41 : decode cX7_init 41 = .ok (.putfield 22, 3) := by decide +kernel
theorem dX7_init_44 : decode cX7_init 44 = .ok (.aload_n 0, 1) := by decide +kernel
theorem dX7_init_45 : decode cX7_init 45 = .ok (.iconst 2, 1) := by decide +kernel
theorem dX7_init_46 : decode cX7_init 46 = .ok (.newarray .int, 2) := by decide +kernel
theorem dX7_init_48 : decode cX7_init 48 = .ok (.putfield 26, 3) := by decide +kernel
theorem dX7_init_51 : decode cX7_init 51 = .ok (.aload_n 0, 1) := by decide +kernel
theorem dX7_init_52 : decode cX7_init 52 = .ok (.new 29, 3) := by decide +kernel
theorem dX7_init_55 : decode cX7_init 55 = .ok (.dup, 1) := by decide +kernel
theorem dX7_init_56 : decode cX7_init 56 = .ok (.invokespecial 31, 3) := by decide +kernel
theorem dX7_init_59 : decode cX7_init 59 = .ok (.putfield 32, 3) := by decide +kernel
theorem dX7_init_62 : decode cX7_init 62 = .ok (.aload_n 0, 1) := by decide +kernel
theorem dX7_init_63 : decode cX7_init 63 = .ok (.new 36, 3) := by decide +kernel
theorem dX7_init_66 : decode cX7_init 66 = .ok (.dup, 1) := by decide +kernel
theorem dX7_init_67 : decode cX7_init 67 = .ok (.iconst 1, 1) := by decide +kernel
theorem dX7_init_68 : decode cX7_init 68 = .ok (.iconst 1, 1) := by decide +kernel
theorem dX7_init_69 : decode cX7_init 69 = .ok (.iconst 2, 1) := by decide +kernel
theorem dX7_init_70 : decode cX7_init 70 = .ok (.invokespecial 38, 3) := by decide +kernel
theorem dX7_init_73 : decode cX7_init 73 = .ok (.putfield 41, 3) := by decide +kernel
theorem dX7_init_76 : decode cX7_init 76 = .ok (.aload_n 0, 1) := by decide +kernel
theorem dX7_init_77 : decode cX7_init 77 = .ok (.iconst 2, 1) := by decide +kernel
theorem dX7_init_78 : decode cX7_init 78 = .ok (.putfield 45, 3) := by decide +kernel
theorem dX7_init_81 : decode cX7_init 81 = .ok (.aload_n 0, 1) := by decide +kernel
theorem dX7_init_82 : decode cX7_init 82 = .ok (.iconst 0, 1) := by decide +kernel
theorem dX7_init_83 : decode cX7_init 83 = .ok (.putfield 49, 3) := by decide +kernel
theorem dX7_init_86 : decode cX7_init 86 = .ok (.return_, 1) := by decide +kernel
theorem dX7_addBook_0 : decode cX7_addBook 0 = .ok (.aload_n 0, 1) := by decide +kernel
theorem dX7_addBook_1 : decode cX7_addBook 1 = .ok (.getfield 12, 3) := by decide +kernel
theorem dX7_addBook_4 : decode cX7_addBook 4 = .ok (.invokevirtual 52, 3) := by decide +kernel
theorem dX7_addBook_7 : decode cX7_addBook 7 = .ok (.iconst 4, 1) := by decide +kernel
theorem dX7_addBook_8 : decode cX7_addBook 8 = .ok (.if_icmp .lt 13, 3) := by decide +kernel
theorem dX7_addBook_11 : decode cX7_addBook 11 = .ok (.new 56, 3) := by decide +kernel
theorem dX7_addBook_14 : decode cX7_addBook 14 = .ok (.dup, 1) := by decide +kernel
theorem dX7_addBook_15 : decode cX7_addBook 15 = .ok (.ldc 58, 2) := by decide +kernel
theorem dX7_addBook_17 : decode cX7_addBook 17 = .ok (.invokespecial 60, 3) := by decide +kernel
theorem dX7_addBook_20 : decode cX7_addBook 20 = .ok (.athrow, 1) := by decide +kernel
theorem dX7_addBook_21 : decode cX7_addBook 21 = .ok (.aload_n 0, 1) := by decide +kernel
theorem dX7_addBook_22 : decode cX7_addBook 22 = .ok (.getfield 12, 3) := by decide +kernel
theorem dX7_addBook_25 : decode cX7_addBook 25 = .ok (.new 63, 3) := by decide +kernel
theorem dX7_addBook_28 : decode cX7_addBook 28 = .ok (.dup, 1) := by decide +kernel
theorem dX7_addBook_29 : decode cX7_addBook 29 = .ok (.invokespecial 65, 3) := by decide +kernel
theorem dX7_addBook_32 : decode cX7_addBook 32 = .ok (.invokevirtual 66, 3) := by decide +kernel
theorem dX7_addBook_35 : decode cX7_addBook 35 = .ok (.pop, 1) := by decide +kernel
theorem dX7_addBook_36 : decode cX7_addBook 36 = .ok (.aload_n 0, 1) := by decide +kernel
theorem dX7_addBook_37 : decode cX7_addBook 37 = .ok (.getfield 12, 3) := by decide +kernel
theorem dX7_addBook_40 : decode cX7_addBook 40 = .ok (.invokevirtual 52, 3) := by decide +kernel
theorem dX7_addBook_43 : decode cX7_addBook 43 = .ok (.iconst 1, 1) := by decide +kernel
theorem dX7_addBook_44 : decode cX7_addBook 44 = .ok (.isub, 1) := by decide +kernel
theorem dX7_addBook_45 : decode cX7_addBook 45 = .ok (.ireturn, 1) := by decide +kernel
theorem dX7_draw_0 : decode cX7_draw 0 = .ok (.aload_n 0, 1) := by decide +kernel
theorem dX7_draw_1 : decode cX7_draw 1 = .ok (.iload_n 1, 1) := by decide +kernel
theorem dX7_draw_2 : decode cX7_draw 2 = .ok (.invokevirtual 70, 3) := by decide +kernel
theorem dX7_draw_5 : decode cX7_draw 5 = .ok (.astore 6, 2) := by decide +kernel
theorem dX7_draw_7 : decode cX7_draw 7 = .ok (.iload_n 2, 1) := by decide +kernel
theorem dX7_draw_8 : decode cX7_draw 8 = .ok (.ifCond .lt 12, 3) := by decide +kernel
theorem dX7_draw_11 : decode cX7_draw 11 = .ok (.iload_n 2, 1) := by decide +kernel
theorem dX7_draw_12 : decode cX7_draw 12 = .ok (.aload 6, 2) := by decide +kernel
theorem dX7_draw_14 : decode cX7_draw 14 = .ok (.getfield 74, 3) := by decide +kernel
theorem dX7_draw_17 : decode cX7_draw 17 = .ok (.if_icmp .le 13, 3) := by decide +kernel
theorem dX7_draw_20 : decode cX7_draw 20 = .ok (.new 77, 3) := by decide +kernel
theorem dX7_draw_23 : decode cX7_draw 23 = .ok (.dup, 1) := by decide +kernel
theorem dX7_draw_24 : decode cX7_draw 24 = .ok (.ldc 79, 2) := by decide +kernel
theorem dX7_draw_26 : decode cX7_draw 26 = .ok (.invokespecial 81, 3) := by decide +kernel
theorem dX7_draw_29 : decode cX7_draw 29 = .ok (.athrow, 1) := by decide +kernel
theorem dX7_draw_30 : decode cX7_draw 30 = .ok (.iload_n 3, 1) := by decide +kernel
theorem dX7_draw_31 : decode cX7_draw 31 = .ok (.iconst 0, 1) := by decide +kernel
theorem dX7_draw_32 : decode cX7_draw 32 = .ok (.sipush 999, 3) := by decide +kernel
theorem dX7_draw_35 : decode cX7_draw 35 = .ok (.invokestatic 82, 3) := by decide +kernel
theorem dX7_draw_38 : decode cX7_draw 38 = .ok (.iload 4, 2) := by decide +kernel
theorem dX7_draw_40 : decode cX7_draw 40 = .ok (.iconst 0, 1) := by decide +kernel
theorem dX7_draw_41 : decode cX7_draw 41 = .ok (.iconst 5, 1) := by decide +kernel
theorem dX7_draw_42 : decode cX7_draw 42 = .ok (.invokestatic 82, 3) := by decide +kernel
theorem dX7_draw_45 : decode cX7_draw 45 = .ok (.iload 5, 2) := by decide +kernel
theorem dX7_draw_47 : decode cX7_draw 47 = .ok (.iconst 0, 1) := by decide +kernel
theorem dX7_draw_48 : decode cX7_draw 48 = .ok (.iconst 3, 1) := by decide +kernel
theorem dX7_draw_49 : decode cX7_draw 49 = .ok (.invokestatic 82, 3) := by decide +kernel
theorem dX7_draw_52 : decode cX7_draw 52 = .ok (.aload 6, 2) := by decide +kernel
theorem dX7_draw_54 : decode cX7_draw 54 = .ok (.getfield 74, 3) := by decide +kernel
theorem dX7_draw_57 : decode cX7_draw 57 = .ok (.bipush 8, 2) := by decide +kernel
theorem dX7_draw_59 : decode cX7_draw 59 = .ok (.if_icmp .lt 13, 3) := by decide +kernel
theorem dX7_draw_62 : decode cX7_draw 62 = .ok (.new 56, 3) := by decide +kernel
theorem dX7_draw_65 : decode cX7_draw 65 = .ok (.dup, 1) := by decide +kernel
theorem dX7_draw_66 : decode cX7_draw 66 = .ok (.ldc 85, 2) := by decide +kernel
theorem dX7_draw_68 : decode cX7_draw 68 = .ok (.invokespecial 60, 3) := by decide +kernel
theorem dX7_draw_71 : decode cX7_draw 71 = .ok (.athrow, 1) := by decide +kernel
theorem dX7_draw_72 : decode cX7_draw 72 = .ok (.aload 6, 2) := by decide +kernel
theorem dX7_draw_74 : decode cX7_draw 74 = .ok (.iload_n 2, 1) := by decide +kernel
theorem dX7_draw_75 : decode cX7_draw 75 = .ok (.iload_n 3, 1) := by decide +kernel
theorem dX7_draw_76 : decode cX7_draw 76 = .ok (.iload 4, 2) := by decide +kernel
theorem dX7_draw_78 : decode cX7_draw 78 = .ok (.iload 5, 2) := by decide +kernel
theorem dX7_draw_80 : decode cX7_draw 80 = .ok (.invokevirtual 87, 3) := by decide +kernel
theorem dX7_draw_83 : decode cX7_draw 83 = .ok (.aload_n 0, 1) := by decide +kernel
theorem dX7_draw_84 : decode cX7_draw 84 = .ok (.aload 6, 2) := by decide +kernel
theorem dX7_draw_86 : decode cX7_draw 86 = .ok (.invokevirtual 91, 3) := by decide +kernel
theorem dX7_draw_89 : decode cX7_draw 89 = .ok (.ireturn, 1) := by decide +kernel
theorem dX7_erase_0 : decode cX7_erase 0 = .ok (.aload_n 0, 1) := by decide +kernel
theorem dX7_erase_1 : decode cX7_erase 1 = .ok (.iload_n 1, 1) := by decide +kernel
theorem dX7_erase_2 : decode cX7_erase 2 = .ok (.invokevirtual 70, 3) := by decide +kernel
theorem dX7_erase_5 : decode cX7_erase 5 = .ok (.astore_n 3, 1) := by decide +kernel
theorem dX7_erase_6 : decode cX7_erase 6 = .ok (.iload_n 2, 1) := by decide +kernel
theorem dX7_erase_7 : decode cX7_erase 7 = .ok (.aload_n 3, 1) := by decide +kernel
theorem dX7_erase_8 : decode cX7_erase 8 = .ok (.getfield 74, 3) := by decide +kernel
theorem dX7_erase_11 : decode cX7_erase 11 = .ok (.invokestatic 95, 3) := by decide +kernel
theorem dX7_erase_14 : decode cX7_erase 14 = .ok (.aload_n 3, 1) := by decide +kernel
theorem dX7_erase_15 : decode cX7_erase 15 = .ok (.iload_n 2, 1) := by decide +kernel
theorem dX7_erase_16 : decode cX7_erase 16 = .ok (.invokevirtual 99, 3) := by decide +kernel
theorem dX7_erase_19 : decode cX7_erase 19 = .ok (.aload_n 0, 1) := by decide +kernel
theorem dX7_erase_20 : decode cX7_erase 20 = .ok (.aload_n 3, 1) := by decide +kernel
theorem dX7_erase_21 : decode cX7_erase 21 = .ok (.invokevirtual 91, 3) := by decide +kernel
theorem dX7_erase_24 : decode cX7_erase 24 = .ok (.ireturn, 1) := by decide +kernel
theorem dX7_move_0 : decode cX7_move 0 = .ok (.aload_n 0, 1) := by decide +kernel
theorem dX7_move_1 : decode cX7_move 1 = .ok (.iload_n 1, 1) := by decide +kernel
theorem dX7_move_2 : decode cX7_move 2 = .ok (.invokevirtual 70, 3) := by decide +kernel
theorem dX7_move_5 : decode cX7_move 5 = .ok (.astore 4, 2) := by decide +kernel
theorem dX7_move_7 : decode cX7_move 7 = .ok (.iload_n 2, 1) := by decide +kernel
theorem dX7_move_8 : decode cX7_move 8 = .ok (.aload 4, 2) := by decide +kernel
theorem dX7_move_10 : decode cX7_move 10 = .ok (.getfield 74, 3) := by decide +kernel
theorem dX7_move_13 : decode cX7_move 13 = .ok (.invokestatic 95, 3) := by decide +kernel
theorem dX7_move_16 : decode cX7_move 16 = .ok (.iload_n 3, 1) := by decide +kernel
theorem dX7_move_17 : decode cX7_move 17 = .ok (.iconst 0, 1) := by decide +kernel
theorem dX7_move_18 : decode cX7_move 18 = .ok (.sipush 999, 3) := by decide +kernel
theorem dX7_move_21 : decode cX7_move 21 = .ok (.invokestatic 82, 3) := by decide +kernel
theorem dX7_move_24 : decode cX7_move 24 = .ok (.aload 4, 2) := by decide +kernel
theorem dX7_move_26 : decode cX7_move 26 = .ok (.iload_n 2, 1) := by decide +kernel
theorem dX7_move_27 : decode cX7_move 27 = .ok (.iload_n 3, 1) := by decide +kernel
theorem dX7_move_28 : decode cX7_move 28 = .ok (.invokevirtual 103, 3) := by decide +kernel
theorem dX7_move_31 : decode cX7_move 31 = .ok (.aload_n 0, 1) := by decide +kernel
theorem dX7_move_32 : decode cX7_move 32 = .ok (.aload 4, 2) := by decide +kernel
theorem dX7_move_34 : decode cX7_move 34 = .ok (.invokevirtual 91, 3) := by decide +kernel
theorem dX7_move_37 : decode cX7_move 37 = .ok (.ireturn, 1) := by decide +kernel
theorem dX7_frames_0 : decode cX7_frames 0 = .ok (.aload_n 0, 1) := by decide +kernel
theorem dX7_frames_1 : decode cX7_frames 1 = .ok (.iload_n 1, 1) := by decide +kernel
theorem dX7_frames_2 : decode cX7_frames 2 = .ok (.invokevirtual 70, 3) := by decide +kernel
theorem dX7_frames_5 : decode cX7_frames 5 = .ok (.getfield 106, 3) := by decide +kernel
theorem dX7_frames_8 : decode cX7_frames 8 = .ok (.ireturn, 1) := by decide +kernel
theorem dX7_frameAt_0 : decode cX7_frameAt 0 = .ok (.aload_n 0, 1) := by decide +kernel
theorem dX7_frameAt_1 : decode cX7_frameAt 1 = .ok (.iload_n 1, 1) := by decide +kernel
theorem dX7_frameAt_2 : decode cX7_frameAt 2 = .ok (.invokevirtual 70, 3) := by decide +kernel
theorem dX7_frameAt_5 : decode cX7_frameAt 5 = .ok (.astore_n 3, 1) := by decide +kernel
theorem dX7_frameAt_6 : decode cX7_frameAt 6 = .ok (.iload_n 2, 1) := by decide +kernel
theorem dX7_frameAt_7 : decode cX7_frameAt 7 = .ok (.aload_n 3, 1) := by decide +kernel
theorem dX7_frameAt_8 : decode cX7_frameAt 8 = .ok (.getfield 106, 3) := by decide +kernel
theorem dX7_frameAt_11 : decode cX7_frameAt 11 = .ok (.invokestatic 95, 3) := by decide +kernel
theorem dX7_frameAt_14 : decode cX7_frameAt 14 = .ok (.aload_n 3, 1) := by decide +kernel
theorem dX7_frameAt_15 : decode cX7_frameAt 15 = .ok (.iload_n 2, 1) := by decide +kernel
theorem dX7_frameAt_16 : decode cX7_frameAt 16 = .ok (.invokevirtual 109, 3) := by decide +kernel
theorem dX7_frameAt_19 : decode cX7_frameAt 19 = .ok (.ireturn, 1) := by decide +kernel
theorem dX7_order_0 : decode cX7_order 0 = .ok (.aload_n 0, 1) := by decide +kernel
theorem dX7_order_1 : decode cX7_order 1 = .ok (.iload_n 1, 1) := by decide +kernel
theorem dX7_order_2 : decode cX7_order 2 = .ok (.invokevirtual 70, 3) := by decide +kernel
theorem dX7_order_5 : decode cX7_order 5 = .ok (.astore_n 3, 1) := by decide +kernel
theorem dX7_order_6 : decode cX7_order 6 = .ok (.iload_n 2, 1) := by decide +kernel
theorem dX7_order_7 : decode cX7_order 7 = .ok (.iconst 1, 1) := by decide +kernel
theorem dX7_order_8 : decode cX7_order 8 = .ok (.iconst 3, 1) := by decide +kernel
theorem dX7_order_9 : decode cX7_order 9 = .ok (.invokestatic 82, 3) := by decide +kernel
theorem dX7_order_12 : decode cX7_order 12 = .ok (.aload_n 0, 1) := by decide +kernel
theorem dX7_order_13 : decode cX7_order 13 = .ok (.getfield 16, 3) := by decide +kernel
theorem dX7_order_16 : decode cX7_order 16 = .ok (.invokevirtual 52, 3) := by decide +kernel
theorem dX7_order_19 : decode cX7_order 19 = .ok (.iconst 5, 1) := by decide +kernel
theorem dX7_order_20 : decode cX7_order 20 = .ok (.if_icmp .lt 13, 3) := by decide +kernel
theorem dX7_order_23 : decode cX7_order 23 = .ok (.new 56, 3) := by decide +kernel
theorem dX7_order_26 : decode cX7_order 26 = .ok (.dup, 1) := by decide +kernel
theorem dX7_order_27 : decode cX7_order 27 = .ok (.ldc 113, 2) := by decide +kernel
theorem dX7_order_29 : decode cX7_order 29 = .ok (.invokespecial 60, 3) := by decide +kernel
theorem dX7_order_32 : decode cX7_order 32 = .ok (.athrow, 1) := by decide +kernel
theorem dX7_order_33 : decode cX7_order 33 = .ok (.aload_n 0, 1) := by decide +kernel
theorem dX7_order_34 : decode cX7_order 34 = .ok (.getfield 16, 3) := by decide +kernel
theorem dX7_order_37 : decode cX7_order 37 = .ok (.new 115, 3) := by decide +kernel
theorem dX7_order_40 : decode cX7_order 40 = .ok (.dup, 1) := by decide +kernel
theorem dX7_order_41 : decode cX7_order 41 = .ok (.aload_n 0, 1) := by decide +kernel
theorem dX7_order_42 : decode cX7_order 42 = .ok (.getfield 16, 3) := by decide +kernel
theorem dX7_order_45 : decode cX7_order 45 = .ok (.invokevirtual 52, 3) := by decide +kernel
theorem dX7_order_48 : decode cX7_order 48 = .ok (.aload_n 3, 1) := by decide +kernel
theorem dX7_order_49 : decode cX7_order 49 = .ok (.iload_n 2, 1) := by decide +kernel
theorem dX7_order_50 : decode cX7_order 50 = .ok (.invokespecial 117, 3) := by decide +kernel
theorem dX7_order_53 : decode cX7_order 53 = .ok (.invokevirtual 66, 3) := by decide +kernel
theorem dX7_order_56 : decode cX7_order 56 = .ok (.pop, 1) := by decide +kernel
theorem dX7_order_57 : decode cX7_order 57 = .ok (.aload_n 0, 1) := by decide +kernel
theorem dX7_order_58 : decode cX7_order 58 = .ok (.getfield 16, 3) := by decide +kernel
theorem dX7_order_61 : decode cX7_order 61 = .ok (.invokevirtual 52, 3) := by decide +kernel
theorem dX7_order_64 : decode cX7_order 64 = .ok (.iconst 1, 1) := by decide +kernel
theorem dX7_order_65 : decode cX7_order 65 = .ok (.isub, 1) := by decide +kernel
theorem dX7_order_66 : decode cX7_order 66 = .ok (.ireturn, 1) := by decide +kernel
theorem dX7_lacking_0 : decode cX7_lacking 0 = .ok (.aload_n 0, 1) := by decide +kernel
theorem dX7_lacking_1 : decode cX7_lacking 1 = .ok (.iload_n 1, 1) := by decide +kernel
theorem dX7_lacking_2 : decode cX7_lacking 2 = .ok (.invokevirtual 120, 3) := by decide +kernel
theorem dX7_lacking_5 : decode cX7_lacking 5 = .ok (.invokevirtual 124, 3) := by decide +kernel
theorem dX7_lacking_8 : decode cX7_lacking 8 = .ok (.ireturn, 1) := by decide +kernel
theorem dX7_waits_0 : decode cX7_waits 0 = .ok (.aload_n 0, 1) := by decide +kernel
theorem dX7_waits_1 : decode cX7_waits 1 = .ok (.iload_n 1, 1) := by decide +kernel
theorem dX7_waits_2 : decode cX7_waits 2 = .ok (.invokevirtual 120, 3) := by decide +kernel
theorem dX7_waits_5 : decode cX7_waits 5 = .ok (.astore_n 2, 1) := by decide +kernel
theorem dX7_waits_6 : decode cX7_waits 6 = .ok (.aload_n 2, 1) := by decide +kernel
theorem dX7_waits_7 : decode cX7_waits 7 = .ok (.invokevirtual 124, 3) := by decide +kernel
theorem dX7_waits_10 : decode cX7_waits 10 = .ok (.istore_n 3, 1) := by decide +kernel
theorem dX7_waits_11 : decode cX7_waits 11 = .ok (.iload_n 3, 1) := by decide +kernel
theorem dX7_waits_12 : decode cX7_waits 12 = .ok (.ifCond .ne 5, 3) := by decide +kernel
theorem dX7_waits_15 : decode cX7_waits 15 = .ok (.iconst 0, 1) := by decide +kernel
theorem dX7_waits_16 : decode cX7_waits 16 = .ok (.ireturn, 1) := by decide +kernel
theorem dX7_waits_17 : decode cX7_waits 17 = .ok (.iconst 0, 1) := by decide +kernel
theorem dX7_waits_18 : decode cX7_waits 18 = .ok (.istore 4, 2) := by decide +kernel
theorem dX7_waits_20 : decode cX7_waits 20 = .ok (.iconst 0, 1) := by decide +kernel
theorem dX7_waits_21 : decode cX7_waits 21 = .ok (.istore 5, 2) := by decide +kernel
theorem dX7_waits_23 : decode cX7_waits 23 = .ok (.iload 5, 2) := by decide +kernel
theorem dX7_waits_25 : decode cX7_waits 25 = .ok (.aload_n 0, 1) := by decide +kernel
theorem dX7_waits_26 : decode cX7_waits 26 = .ok (.getfield 16, 3) := by decide +kernel
theorem dX7_waits_29 : decode cX7_waits 29 = .ok (.invokevirtual 52, 3) := by decide +kernel
theorem dX7_waits_32 : decode cX7_waits 32 = .ok (.if_icmp .ge 42, 3) := by decide +kernel
theorem dX7_waits_35 : decode cX7_waits 35 = .ok (.aload_n 0, 1) := by decide +kernel
theorem dX7_waits_36 : decode cX7_waits 36 = .ok (.getfield 16, 3) := by decide +kernel
theorem dX7_waits_39 : decode cX7_waits 39 = .ok (.iload 5, 2) := by decide +kernel
theorem dX7_waits_41 : decode cX7_waits 41 = .ok (.invokevirtual 127, 3) := by decide +kernel
theorem dX7_waits_44 : decode cX7_waits 44 = .ok (.checkcast 115, 3) := by decide +kernel
theorem dX7_waits_47 : decode cX7_waits 47 = .ok (.astore 6, 2) := by decide +kernel
theorem dX7_waits_49 : decode cX7_waits 49 = .ok (.aload 6, 2) := by decide +kernel
theorem dX7_waits_51 : decode cX7_waits 51 = .ok (.aload_n 2, 1) := by decide +kernel
theorem dX7_waits_52 : decode cX7_waits 52 = .ok (.invokevirtual 131, 3) := by decide +kernel
theorem dX7_waits_55 : decode cX7_waits 55 = .ok (.ifCond .eq 13, 3) := by decide +kernel
theorem dX7_waits_58 : decode cX7_waits 58 = .ok (.iload 4, 2) := by decide +kernel
theorem dX7_waits_60 : decode cX7_waits 60 = .ok (.aload 6, 2) := by decide +kernel
theorem dX7_waits_62 : decode cX7_waits 62 = .ok (.invokevirtual 124, 3) := by decide +kernel
theorem dX7_waits_65 : decode cX7_waits 65 = .ok (.iadd, 1) := by decide +kernel
theorem dX7_waits_66 : decode cX7_waits 66 = .ok (.istore 4, 2) := by decide +kernel
theorem dX7_waits_68 : decode cX7_waits 68 = .ok (.iinc 5 1, 3) := by decide +kernel
theorem dX7_waits_71 : decode cX7_waits 71 = .ok (.goto (-48), 3) := by decide +kernel
theorem dX7_waits_74 : decode cX7_waits 74 = .ok (.iload 4, 2) := by decide +kernel
theorem dX7_waits_76 : decode cX7_waits 76 = .ok (.iload_n 3, 1) := by decide +kernel
theorem dX7_waits_77 : decode cX7_waits 77 = .ok (.iadd, 1) := by decide +kernel
theorem dX7_waits_78 : decode cX7_waits 78 = .ok (.invokestatic 135, 3) := by decide +kernel
theorem dX7_waits_81 : decode cX7_waits 81 = .ok (.ireturn, 1) := by decide +kernel
theorem dX7_setFolds_0 : decode cX7_setFolds 0 = .ok (.iload_n 1, 1) := by decide +kernel
theorem dX7_setFolds_1 : decode cX7_setFolds 1 = .ok (.iconst 0, 1) := by decide +kernel
theorem dX7_setFolds_2 : decode cX7_setFolds 2 = .ok (.iconst 3, 1) := by decide +kernel
theorem dX7_setFolds_3 : decode cX7_setFolds 3 = .ok (.invokestatic 82, 3) := by decide +kernel
theorem dX7_setFolds_6 : decode cX7_setFolds 6 = .ok (.iload_n 2, 1) := by decide +kernel
theorem dX7_setFolds_7 : decode cX7_setFolds 7 = .ok (.iconst 0, 1) := by decide +kernel
theorem dX7_setFolds_8 : decode cX7_setFolds 8 = .ok (.iconst 3, 1) := by decide +kernel
theorem dX7_setFolds_9 : decode cX7_setFolds 9 = .ok (.invokestatic 82, 3) := by decide +kernel
theorem dX7_setFolds_12 : decode cX7_setFolds 12 = .ok (.iload_n 3, 1) := by decide +kernel
theorem dX7_setFolds_13 : decode cX7_setFolds 13 = .ok (.iconst 0, 1) := by decide +kernel
theorem dX7_setFolds_14 : decode cX7_setFolds 14 = .ok (.iconst 3, 1) := by decide +kernel
theorem dX7_setFolds_15 : decode cX7_setFolds 15 = .ok (.invokestatic 82, 3) := by decide +kernel
theorem dX7_setFolds_18 : decode cX7_setFolds 18 = .ok (.iload_n 1, 1) := by decide +kernel
theorem dX7_setFolds_19 : decode cX7_setFolds 19 = .ok (.invokestatic 138, 3) := by decide +kernel
theorem dX7_setFolds_22 : decode cX7_setFolds 22 = .ok (.iload_n 2, 1) := by decide +kernel
theorem dX7_setFolds_23 : decode cX7_setFolds 23 = .ok (.invokestatic 138, 3) := by decide +kernel
theorem dX7_setFolds_26 : decode cX7_setFolds 26 = .ok (.iadd, 1) := by decide +kernel
theorem dX7_setFolds_27 : decode cX7_setFolds 27 = .ok (.iload_n 3, 1) := by decide +kernel
theorem dX7_setFolds_28 : decode cX7_setFolds 28 = .ok (.invokestatic 138, 3) := by decide +kernel
theorem dX7_setFolds_31 : decode cX7_setFolds 31 = .ok (.iadd, 1) := by decide +kernel
theorem dX7_setFolds_32 : decode cX7_setFolds 32 = .ok (.istore 4, 2) := by decide +kernel
theorem dX7_setFolds_34 : decode cX7_setFolds 34 = .ok (.iload 4, 2) := by decide +kernel
theorem dX7_setFolds_36 : decode cX7_setFolds 36 = .ok (.iconst 2, 1) := by decide +kernel
theorem dX7_setFolds_37 : decode cX7_setFolds 37 = .ok (.if_icmp .eq 13, 3) := by decide +kernel
theorem dX7_setFolds_40 : decode cX7_setFolds 40 = .ok (.new 141, 3) := by decide +kernel
theorem dX7_setFolds_43 : decode cX7_setFolds 43 = .ok (.dup, 1) := by decide +kernel
theorem dX7_setFolds_44 : decode cX7_setFolds 44 = .ok (.ldc 143, 2) := by decide +kernel
theorem dX7_setFolds_46 : decode cX7_setFolds 46 = .ok (.invokespecial 145, 3) := by decide +kernel
theorem dX7_setFolds_49 : decode cX7_setFolds 49 = .ok (.athrow, 1) := by decide +kernel
theorem dX7_setFolds_50 : decode cX7_setFolds 50 = .ok (.aload_n 0, 1) := by decide +kernel
theorem dX7_setFolds_51 : decode cX7_setFolds 51 = .ok (.new 36, 3) := by decide +kernel
theorem dX7_setFolds_54 : decode cX7_setFolds 54 = .ok (.dup, 1) := by decide +kernel
theorem dX7_setFolds_55 : decode cX7_setFolds 55 = .ok (.iload_n 1, 1) := by decide +kernel
theorem dX7_setFolds_56 : decode cX7_setFolds 56 = .ok (.iload_n 2, 1) := by decide +kernel
theorem dX7_setFolds_57 : decode cX7_setFolds 57 = .ok (.iload_n 3, 1) := by decide +kernel
theorem dX7_setFolds_58 : decode cX7_setFolds 58 = .ok (.invokespecial 38, 3) := by decide +kernel
theorem dX7_setFolds_61 : decode cX7_setFolds 61 = .ok (.putfield 41, 3) := by decide +kernel
theorem dX7_setFolds_64 : decode cX7_setFolds 64 = .ok (.return_, 1) := by decide +kernel
theorem dX7_cellOf_0 : decode cX7_cellOf 0 = .ok (.iload_n 1, 1) := by decide +kernel
theorem dX7_cellOf_1 : decode cX7_cellOf 1 = .ok (.bipush 8, 2) := by decide +kernel
theorem dX7_cellOf_3 : decode cX7_cellOf 3 = .ok (.invokestatic 95, 3) := by decide +kernel
theorem dX7_cellOf_6 : decode cX7_cellOf 6 = .ok (.aload_n 0, 1) := by decide +kernel
theorem dX7_cellOf_7 : decode cX7_cellOf 7 = .ok (.getfield 41, 3) := by decide +kernel
theorem dX7_cellOf_10 : decode cX7_cellOf 10 = .ok (.iload_n 1, 1) := by decide +kernel
theorem dX7_cellOf_11 : decode cX7_cellOf 11 = .ok (.invokevirtual 146, 3) := by decide +kernel
theorem dX7_cellOf_14 : decode cX7_cellOf 14 = .ok (.ireturn, 1) := by decide +kernel
theorem dX7_placeOf_0 : decode cX7_placeOf 0 = .ok (.iload_n 1, 1) := by decide +kernel
theorem dX7_placeOf_1 : decode cX7_placeOf 1 = .ok (.bipush 8, 2) := by decide +kernel
theorem dX7_placeOf_3 : decode cX7_placeOf 3 = .ok (.invokestatic 95, 3) := by decide +kernel
theorem dX7_placeOf_6 : decode cX7_placeOf 6 = .ok (.aload_n 0, 1) := by decide +kernel
theorem dX7_placeOf_7 : decode cX7_placeOf 7 = .ok (.getfield 32, 3) := by decide +kernel
theorem dX7_placeOf_10 : decode cX7_placeOf 10 = .ok (.aload_n 0, 1) := by decide +kernel
theorem dX7_placeOf_11 : decode cX7_placeOf 11 = .ok (.getfield 41, 3) := by decide +kernel
theorem dX7_placeOf_14 : decode cX7_placeOf 14 = .ok (.invokevirtual 149, 3) := by decide +kernel
theorem dX7_placeOf_17 : decode cX7_placeOf 17 = .ok (.iconst 0, 1) := by decide +kernel
theorem dX7_placeOf_18 : decode cX7_placeOf 18 = .ok (.istore_n 2, 1) := by decide +kernel
theorem dX7_placeOf_19 : decode cX7_placeOf 19 = .ok (.iload_n 2, 1) := by decide +kernel
theorem dX7_placeOf_20 : decode cX7_placeOf 20 = .ok (.bipush 8, 2) := by decide +kernel
theorem dX7_placeOf_22 : decode cX7_placeOf 22 = .ok (.if_icmp .ge 23, 3) := by decide +kernel
theorem dX7_placeOf_25 : decode cX7_placeOf 25 = .ok (.aload_n 0, 1) := by decide +kernel
theorem dX7_placeOf_26 : decode cX7_placeOf 26 = .ok (.getfield 32, 3) := by decide +kernel
theorem dX7_placeOf_29 : decode cX7_placeOf 29 = .ok (.iload_n 2, 1) := by decide +kernel
theorem dX7_placeOf_30 : decode cX7_placeOf 30 = .ok (.invokevirtual 153, 3) := by decide +kernel
theorem dX7_placeOf_33 : decode cX7_placeOf 33 = .ok (.iload_n 1, 1) := by decide +kernel
theorem dX7_placeOf_34 : decode cX7_placeOf 34 = .ok (.if_icmp .ne 5, 3) := by decide +kernel
theorem dX7_placeOf_37 : decode cX7_placeOf 37 = .ok (.iload_n 2, 1) := by decide +kernel
theorem dX7_placeOf_38 : decode cX7_placeOf 38 = .ok (.ireturn, 1) := by decide +kernel
theorem dX7_placeOf_39 : decode cX7_placeOf 39 = .ok (.iinc 2 1, 3) := by decide +kernel
theorem dX7_placeOf_42 : decode cX7_placeOf 42 = .ok (.goto (-23), 3) := by decide +kernel
theorem dX7_placeOf_45 : decode cX7_placeOf 45 = .ok (.iconst (-1), 1) := by decide +kernel
theorem dX7_placeOf_46 : decode cX7_placeOf 46 = .ok (.ireturn, 1) := by decide +kernel
theorem dX7_print_0 : decode cX7_print 0 = .ok (.iload_n 1, 1) := by decide +kernel
theorem dX7_print_1 : decode cX7_print 1 = .ok (.iconst 1, 1) := by decide +kernel
theorem dX7_print_2 : decode cX7_print 2 = .ok (.bipush 10, 2) := by decide +kernel
theorem dX7_print_4 : decode cX7_print 4 = .ok (.invokestatic 82, 3) := by decide +kernel
theorem dX7_print_7 : decode cX7_print 7 = .ok (.iload_n 1, 1) := by decide +kernel
theorem dX7_print_8 : decode cX7_print 8 = .ok (.aload_n 0, 1) := by decide +kernel
theorem dX7_print_9 : decode cX7_print 9 = .ok (.invokevirtual 156, 3) := by decide +kernel
theorem dX7_print_12 : decode cX7_print 12 = .ok (.invokestatic 135, 3) := by decide +kernel
theorem dX7_print_15 : decode cX7_print 15 = .ok (.invokestatic 159, 3) := by decide +kernel
theorem dX7_print_18 : decode cX7_print 18 = .ok (.istore_n 2, 1) := by decide +kernel
theorem dX7_print_19 : decode cX7_print 19 = .ok (.aload_n 0, 1) := by decide +kernel
theorem dX7_print_20 : decode cX7_print 20 = .ok (.getfield 19, 3) := by decide +kernel
theorem dX7_print_23 : decode cX7_print 23 = .ok (.invokevirtual 52, 3) := by decide +kernel
theorem dX7_print_26 : decode cX7_print 26 = .ok (.iload_n 2, 1) := by decide +kernel
theorem dX7_print_27 : decode cX7_print 27 = .ok (.iadd, 1) := by decide +kernel
theorem dX7_print_28 : decode cX7_print 28 = .ok (.bipush 50, 2) := by decide +kernel
theorem dX7_print_30 : decode cX7_print 30 = .ok (.if_icmp .le 13, 3) := by decide +kernel
theorem dX7_print_33 : decode cX7_print 33 = .ok (.new 56, 3) := by decide +kernel
theorem dX7_print_36 : decode cX7_print 36 = .ok (.dup, 1) := by decide +kernel
theorem dX7_print_37 : decode cX7_print 37 = .ok (.ldc 165, 2) := by decide +kernel
theorem dX7_print_39 : decode cX7_print 39 = .ok (.invokespecial 60, 3) := by decide +kernel
theorem dX7_print_42 : decode cX7_print 42 = .ok (.athrow, 1) := by decide +kernel
theorem dX7_print_43 : decode cX7_print 43 = .ok (.aload_n 0, 1) := by decide +kernel
theorem dX7_print_44 : decode cX7_print 44 = .ok (.invokevirtual 167, 3) := by decide +kernel
theorem dX7_print_47 : decode cX7_print 47 = .ok (.iconst 0, 1) := by decide +kernel
theorem dX7_print_48 : decode cX7_print 48 = .ok (.istore_n 3, 1) := by decide +kernel
theorem dX7_print_49 : decode cX7_print 49 = .ok (.iload_n 3, 1) := by decide +kernel
theorem dX7_print_50 : decode cX7_print 50 = .ok (.iload_n 2, 1) := by decide +kernel
theorem dX7_print_51 : decode cX7_print 51 = .ok (.if_icmp .ge 21, 3) := by decide +kernel
theorem dX7_print_54 : decode cX7_print 54 = .ok (.aload_n 0, 1) := by decide +kernel
theorem dX7_print_55 : decode cX7_print 55 = .ok (.getfield 19, 3) := by decide +kernel
theorem dX7_print_58 : decode cX7_print 58 = .ok (.aload_n 0, 1) := by decide +kernel
theorem dX7_print_59 : decode cX7_print 59 = .ok (.invokevirtual 170, 3) := by decide +kernel
theorem dX7_print_62 : decode cX7_print 62 = .ok (.invokevirtual 66, 3) := by decide +kernel
theorem dX7_print_65 : decode cX7_print 65 = .ok (.pop, 1) := by decide +kernel
theorem dX7_print_66 : decode cX7_print 66 = .ok (.iinc 3 1, 3) := by decide +kernel
theorem dX7_print_69 : decode cX7_print 69 = .ok (.goto (-20), 3) := by decide +kernel
theorem dX7_print_72 : decode cX7_print 72 = .ok (.iload_n 2, 1) := by decide +kernel
theorem dX7_print_73 : decode cX7_print 73 = .ok (.ireturn, 1) := by decide +kernel
theorem dX7_waiting_0 : decode cX7_waiting 0 = .ok (.iconst 0, 1) := by decide +kernel
theorem dX7_waiting_1 : decode cX7_waiting 1 = .ok (.istore_n 1, 1) := by decide +kernel
theorem dX7_waiting_2 : decode cX7_waiting 2 = .ok (.iconst 0, 1) := by decide +kernel
theorem dX7_waiting_3 : decode cX7_waiting 3 = .ok (.istore_n 2, 1) := by decide +kernel
theorem dX7_waiting_4 : decode cX7_waiting 4 = .ok (.iload_n 2, 1) := by decide +kernel
theorem dX7_waiting_5 : decode cX7_waiting 5 = .ok (.aload_n 0, 1) := by decide +kernel
theorem dX7_waiting_6 : decode cX7_waiting 6 = .ok (.getfield 19, 3) := by decide +kernel
theorem dX7_waiting_9 : decode cX7_waiting 9 = .ok (.invokevirtual 52, 3) := by decide +kernel
theorem dX7_waiting_12 : decode cX7_waiting 12 = .ok (.if_icmp .ge 29, 3) := by decide +kernel
theorem dX7_waiting_15 : decode cX7_waiting 15 = .ok (.aload_n 0, 1) := by decide +kernel
theorem dX7_waiting_16 : decode cX7_waiting 16 = .ok (.getfield 19, 3) := by decide +kernel
theorem dX7_waiting_19 : decode cX7_waiting 19 = .ok (.iload_n 2, 1) := by decide +kernel
theorem dX7_waiting_20 : decode cX7_waiting 20 = .ok (.invokevirtual 127, 3) := by decide +kernel
theorem dX7_waiting_23 : decode cX7_waiting 23 = .ok (.checkcast 174, 3) := by decide +kernel
theorem dX7_waiting_26 : decode cX7_waiting 26 = .ok (.getfield 176, 3) := by decide +kernel
theorem dX7_waiting_29 : decode cX7_waiting 29 = .ok (.ifCond .eq 6, 3) := by decide +kernel
theorem dX7_waiting_32 : decode cX7_waiting 32 = .ok (.iinc 1 1, 3) := by decide +kernel
theorem dX7_waiting_35 : decode cX7_waiting 35 = .ok (.iinc 2 1, 3) := by decide +kernel
theorem dX7_waiting_38 : decode cX7_waiting 38 = .ok (.goto (-34), 3) := by decide +kernel
theorem dX7_waiting_41 : decode cX7_waiting 41 = .ok (.iload_n 1, 1) := by decide +kernel
theorem dX7_waiting_42 : decode cX7_waiting 42 = .ok (.ireturn, 1) := by decide +kernel
theorem dX7_onSheet_0 : decode cX7_onSheet 0 = .ok (.iload_n 2, 1) := by decide +kernel
theorem dX7_onSheet_1 : decode cX7_onSheet 1 = .ok (.bipush 8, 2) := by decide +kernel
theorem dX7_onSheet_3 : decode cX7_onSheet 3 = .ok (.invokestatic 95, 3) := by decide +kernel
theorem dX7_onSheet_6 : decode cX7_onSheet 6 = .ok (.iload_n 1, 1) := by decide +kernel
theorem dX7_onSheet_7 : decode cX7_onSheet 7 = .ok (.ifCond .lt 14, 3) := by decide +kernel
theorem dX7_onSheet_10 : decode cX7_onSheet 10 = .ok (.iload_n 1, 1) := by decide +kernel
theorem dX7_onSheet_11 : decode cX7_onSheet 11 = .ok (.aload_n 0, 1) := by decide +kernel
theorem dX7_onSheet_12 : decode cX7_onSheet 12 = .ok (.getfield 19, 3) := by decide +kernel
theorem dX7_onSheet_15 : decode cX7_onSheet 15 = .ok (.invokevirtual 52, 3) := by decide +kernel
theorem dX7_onSheet_18 : decode cX7_onSheet 18 = .ok (.if_icmp .lt 13, 3) := by decide +kernel
theorem dX7_onSheet_21 : decode cX7_onSheet 21 = .ok (.new 180, 3) := by decide +kernel
theorem dX7_onSheet_24 : decode cX7_onSheet 24 = .ok (.dup, 1) := by decide +kernel
theorem dX7_onSheet_25 : decode cX7_onSheet 25 = .ok (.ldc 182, 2) := by decide +kernel
theorem dX7_onSheet_27 : decode cX7_onSheet 27 = .ok (.invokespecial 184, 3) := by decide +kernel
theorem dX7_onSheet_30 : decode cX7_onSheet 30 = .ok (.athrow, 1) := by decide +kernel
theorem dX7_onSheet_31 : decode cX7_onSheet 31 = .ok (.aload_n 0, 1) := by decide +kernel
theorem dX7_onSheet_32 : decode cX7_onSheet 32 = .ok (.getfield 19, 3) := by decide +kernel
theorem dX7_onSheet_35 : decode cX7_onSheet 35 = .ok (.iload_n 1, 1) := by decide +kernel
theorem dX7_onSheet_36 : decode cX7_onSheet 36 = .ok (.invokevirtual 127, 3) := by decide +kernel
theorem dX7_onSheet_39 : decode cX7_onSheet 39 = .ok (.checkcast 174, 3) := by decide +kernel
theorem dX7_onSheet_42 : decode cX7_onSheet 42 = .ok (.iload_n 2, 1) := by decide +kernel
theorem dX7_onSheet_43 : decode cX7_onSheet 43 = .ok (.invokevirtual 185, 3) := by decide +kernel
theorem dX7_onSheet_46 : decode cX7_onSheet 46 = .ok (.astore_n 3, 1) := by decide +kernel
theorem dX7_onSheet_47 : decode cX7_onSheet 47 = .ok (.aload_n 3, 1) := by decide +kernel
theorem dX7_onSheet_48 : decode cX7_onSheet 48 = .ok (.ifnonnull 7, 3) := by decide +kernel
theorem dX7_onSheet_51 : decode cX7_onSheet 51 = .ok (.iconst (-1), 1) := by decide +kernel
theorem dX7_onSheet_52 : decode cX7_onSheet 52 = .ok (.goto 7, 3) := by decide +kernel
theorem dX7_onSheet_55 : decode cX7_onSheet 55 = .ok (.aload_n 3, 1) := by decide +kernel
theorem dX7_onSheet_56 : decode cX7_onSheet 56 = .ok (.invokevirtual 189, 3) := by decide +kernel
theorem dX7_onSheet_59 : decode cX7_onSheet 59 = .ok (.ireturn, 1) := by decide +kernel
theorem dX7_cut_0 : decode cX7_cut 0 = .ok (.iload_n 1, 1) := by decide +kernel
theorem dX7_cut_1 : decode cX7_cut 1 = .ok (.iconst 2, 1) := by decide +kernel
theorem dX7_cut_2 : decode cX7_cut 2 = .ok (.invokestatic 95, 3) := by decide +kernel
theorem dX7_cut_5 : decode cX7_cut 5 = .ok (.aload_n 0, 1) := by decide +kernel
theorem dX7_cut_6 : decode cX7_cut 6 = .ok (.invokevirtual 194, 3) := by decide +kernel
theorem dX7_cut_9 : decode cX7_cut 9 = .ok (.astore_n 2, 1) := by decide +kernel
theorem dX7_cut_10 : decode cX7_cut 10 = .ok (.aload_n 2, 1) := by decide +kernel
theorem dX7_cut_11 : decode cX7_cut 11 = .ok (.ifnonnull 13, 3) := by decide +kernel
theorem dX7_cut_14 : decode cX7_cut 14 = .ok (.new 180, 3) := by decide +kernel
theorem dX7_cut_17 : decode cX7_cut 17 = .ok (.dup, 1) := by decide +kernel
theorem dX7_cut_18 : decode cX7_cut 18 = .ok (.ldc 197, 2) := by decide +kernel
theorem dX7_cut_20 : decode cX7_cut 20 = .ok (.invokespecial 184, 3) := by decide +kernel
theorem dX7_cut_23 : decode cX7_cut 23 = .ok (.athrow, 1) := by decide +kernel
theorem dX7_cut_24 : decode cX7_cut 24 = .ok (.aload_n 0, 1) := by decide +kernel
theorem dX7_cut_25 : decode cX7_cut 25 = .ok (.getfield 26, 3) := by decide +kernel
theorem dX7_cut_28 : decode cX7_cut 28 = .ok (.iload_n 1, 1) := by decide +kernel
theorem dX7_cut_29 : decode cX7_cut 29 = .ok (.iaload, 1) := by decide +kernel
theorem dX7_cut_30 : decode cX7_cut 30 = .ok (.iconst 4, 1) := by decide +kernel
theorem dX7_cut_31 : decode cX7_cut 31 = .ok (.idiv, 1) := by decide +kernel
theorem dX7_cut_32 : decode cX7_cut 32 = .ok (.istore_n 3, 1) := by decide +kernel
theorem dX7_cut_33 : decode cX7_cut 33 = .ok (.aload_n 0, 1) := by decide +kernel
theorem dX7_cut_34 : decode cX7_cut 34 = .ok (.getfield 26, 3) := by decide +kernel
theorem dX7_cut_37 : decode cX7_cut 37 = .ok (.iload_n 1, 1) := by decide +kernel
theorem dX7_cut_38 : decode cX7_cut 38 = .ok (.aload_n 0, 1) := by decide +kernel
theorem dX7_cut_39 : decode cX7_cut 39 = .ok (.getfield 26, 3) := by decide +kernel
theorem dX7_cut_42 : decode cX7_cut 42 = .ok (.iload_n 1, 1) := by decide +kernel
theorem dX7_cut_43 : decode cX7_cut 43 = .ok (.iaload, 1) := by decide +kernel
theorem dX7_cut_44 : decode cX7_cut 44 = .ok (.iconst 1, 1) := by decide +kernel
theorem dX7_cut_45 : decode cX7_cut 45 = .ok (.iadd, 1) := by decide +kernel
theorem dX7_cut_46 : decode cX7_cut 46 = .ok (.bipush 60, 2) := by decide +kernel
theorem dX7_cut_48 : decode cX7_cut 48 = .ok (.invokestatic 159, 3) := by decide +kernel
theorem dX7_cut_51 : decode cX7_cut 51 = .ok (.iastore, 1) := by decide +kernel
theorem dX7_cut_52 : decode cX7_cut 52 = .ok (.aload_n 2, 1) := by decide +kernel
theorem dX7_cut_53 : decode cX7_cut 53 = .ok (.iload_n 3, 1) := by decide +kernel
theorem dX7_cut_54 : decode cX7_cut 54 = .ok (.invokevirtual 199, 3) := by decide +kernel
theorem dX7_cut_57 : decode cX7_cut 57 = .ok (.iload_n 3, 1) := by decide +kernel
theorem dX7_cut_58 : decode cX7_cut 58 = .ok (.ireturn, 1) := by decide +kernel
theorem dX7_discard_0 : decode cX7_discard 0 = .ok (.iconst 0, 1) := by decide +kernel
theorem dX7_discard_1 : decode cX7_discard 1 = .ok (.istore_n 1, 1) := by decide +kernel
theorem dX7_discard_2 : decode cX7_discard 2 = .ok (.iconst 0, 1) := by decide +kernel
theorem dX7_discard_3 : decode cX7_discard 3 = .ok (.istore_n 2, 1) := by decide +kernel
theorem dX7_discard_4 : decode cX7_discard 4 = .ok (.iload_n 2, 1) := by decide +kernel
theorem dX7_discard_5 : decode cX7_discard 5 = .ok (.aload_n 0, 1) := by decide +kernel
theorem dX7_discard_6 : decode cX7_discard 6 = .ok (.getfield 19, 3) := by decide +kernel
theorem dX7_discard_9 : decode cX7_discard 9 = .ok (.invokevirtual 52, 3) := by decide +kernel
theorem dX7_discard_12 : decode cX7_discard 12 = .ok (.if_icmp .ge 43, 3) := by decide +kernel
theorem dX7_discard_15 : decode cX7_discard 15 = .ok (.aload_n 0, 1) := by decide +kernel
theorem dX7_discard_16 : decode cX7_discard 16 = .ok (.getfield 19, 3) := by decide +kernel
theorem dX7_discard_19 : decode cX7_discard 19 = .ok (.iload_n 2, 1) := by decide +kernel
theorem dX7_discard_20 : decode cX7_discard 20 = .ok (.invokevirtual 127, 3) := by decide +kernel
theorem dX7_discard_23 : decode cX7_discard 23 = .ok (.checkcast 174, 3) := by decide +kernel
theorem dX7_discard_26 : decode cX7_discard 26 = .ok (.astore_n 3, 1) := by decide +kernel
theorem dX7_discard_27 : decode cX7_discard 27 = .ok (.aload_n 3, 1) := by decide +kernel
theorem dX7_discard_28 : decode cX7_discard 28 = .ok (.getfield 176, 3) := by decide +kernel
theorem dX7_discard_31 : decode cX7_discard 31 = .ok (.ifCond .eq 18, 3) := by decide +kernel
theorem dX7_discard_34 : decode cX7_discard 34 = .ok (.aload_n 3, 1) := by decide +kernel
theorem dX7_discard_35 : decode cX7_discard 35 = .ok (.invokevirtual 202, 3) := by decide +kernel
theorem dX7_discard_38 : decode cX7_discard 38 = .ok (.ifCond .ne 11, 3) := by decide +kernel
theorem dX7_discard_41 : decode cX7_discard 41 = .ok (.aload_n 3, 1) := by decide +kernel
theorem dX7_discard_42 : decode cX7_discard 42 = .ok (.iconst 0, 1) := by decide +kernel
theorem dX7_discard_43 : decode cX7_discard 43 = .ok (.putfield 176, 3) := by decide +kernel
theorem dX7_discard_46 : decode cX7_discard 46 = .ok (.iinc 1 1, 3) := by decide +kernel
theorem dX7_discard_49 : decode cX7_discard 49 = .ok (.iinc 2 1, 3) := by decide +kernel
theorem dX7_discard_52 : decode cX7_discard 52 = .ok (.goto (-48), 3) := by decide +kernel
theorem dX7_discard_55 : decode cX7_discard 55 = .ok (.iload_n 1, 1) := by decide +kernel
theorem dX7_discard_56 : decode cX7_discard 56 = .ok (.ireturn, 1) := by decide +kernel
theorem dX7_sharpen_0 : decode cX7_sharpen 0 = .ok (.iload_n 1, 1) := by decide +kernel
theorem dX7_sharpen_1 : decode cX7_sharpen 1 = .ok (.iconst 2, 1) := by decide +kernel
theorem dX7_sharpen_2 : decode cX7_sharpen 2 = .ok (.invokestatic 95, 3) := by decide +kernel
theorem dX7_sharpen_5 : decode cX7_sharpen 5 = .ok (.aload_n 0, 1) := by decide +kernel
theorem dX7_sharpen_6 : decode cX7_sharpen 6 = .ok (.getfield 26, 3) := by decide +kernel
theorem dX7_sharpen_9 : decode cX7_sharpen 9 = .ok (.iload_n 1, 1) := by decide +kernel
theorem dX7_sharpen_10 : decode cX7_sharpen 10 = .ok (.iaload, 1) := by decide +kernel
theorem dX7_sharpen_11 : decode cX7_sharpen 11 = .ok (.istore_n 2, 1) := by decide +kernel
theorem dX7_sharpen_12 : decode cX7_sharpen 12 = .ok (.aload_n 0, 1) := by decide +kernel
theorem dX7_sharpen_13 : decode cX7_sharpen 13 = .ok (.getfield 26, 3) := by decide +kernel
theorem dX7_sharpen_16 : decode cX7_sharpen 16 = .ok (.iload_n 1, 1) := by decide +kernel
theorem dX7_sharpen_17 : decode cX7_sharpen 17 = .ok (.iconst 0, 1) := by decide +kernel
theorem dX7_sharpen_18 : decode cX7_sharpen 18 = .ok (.iastore, 1) := by decide +kernel
theorem dX7_sharpen_19 : decode cX7_sharpen 19 = .ok (.iload_n 2, 1) := by decide +kernel
theorem dX7_sharpen_20 : decode cX7_sharpen 20 = .ok (.ireturn, 1) := by decide +kernel
theorem dX7_setTolerance_0 : decode cX7_setTolerance 0 = .ok (.iload_n 1, 1) := by decide +kernel
theorem dX7_setTolerance_1 : decode cX7_setTolerance 1 = .ok (.iconst 0, 1) := by decide +kernel
theorem dX7_setTolerance_2 : decode cX7_setTolerance 2 = .ok (.bipush 15, 2) := by decide +kernel
theorem dX7_setTolerance_4 : decode cX7_setTolerance 4 = .ok (.invokestatic 82, 3) := by decide +kernel
theorem dX7_setTolerance_7 : decode cX7_setTolerance 7 = .ok (.aload_n 0, 1) := by decide +kernel
theorem dX7_setTolerance_8 : decode cX7_setTolerance 8 = .ok (.getfield 45, 3) := by decide +kernel
theorem dX7_setTolerance_11 : decode cX7_setTolerance 11 = .ok (.istore_n 2, 1) := by decide +kernel
theorem dX7_setTolerance_12 : decode cX7_setTolerance 12 = .ok (.aload_n 0, 1) := by decide +kernel
theorem dX7_setTolerance_13 : decode cX7_setTolerance 13 = .ok (.iload_n 1, 1) := by decide +kernel
theorem dX7_setTolerance_14 : decode cX7_setTolerance 14 = .ok (.putfield 45, 3) := by decide +kernel
theorem dX7_setTolerance_17 : decode cX7_setTolerance 17 = .ok (.iload_n 2, 1) := by decide +kernel
theorem dX7_setTolerance_18 : decode cX7_setTolerance 18 = .ok (.ireturn, 1) := by decide +kernel
theorem dX7_bind_0 : decode cX7_bind 0 = .ok (.aload_n 0, 1) := by decide +kernel
theorem dX7_bind_1 : decode cX7_bind 1 = .ok (.iload_n 1, 1) := by decide +kernel
theorem dX7_bind_2 : decode cX7_bind 2 = .ok (.invokevirtual 120, 3) := by decide +kernel
theorem dX7_bind_5 : decode cX7_bind 5 = .ok (.astore_n 3, 1) := by decide +kernel
theorem dX7_bind_6 : decode cX7_bind 6 = .ok (.aload_n 3, 1) := by decide +kernel
theorem dX7_bind_7 : decode cX7_bind 7 = .ok (.iload_n 2, 1) := by decide +kernel
theorem dX7_bind_8 : decode cX7_bind 8 = .ok (.invokestatic 206, 3) := by decide +kernel
theorem dX7_bind_11 : decode cX7_bind 11 = .ok (.astore 4, 2) := by decide +kernel
theorem dX7_bind_13 : decode cX7_bind 13 = .ok (.aload_n 3, 1) := by decide +kernel
theorem dX7_bind_14 : decode cX7_bind 14 = .ok (.getfield 210, 3) := by decide +kernel
theorem dX7_bind_17 : decode cX7_bind 17 = .ok (.getfield 106, 3) := by decide +kernel
theorem dX7_bind_20 : decode cX7_bind 20 = .ok (.istore 5, 2) := by decide +kernel
theorem dX7_bind_22 : decode cX7_bind 22 = .ok (.aload 4, 2) := by decide +kernel
theorem dX7_bind_24 : decode cX7_bind 24 = .ok (.getfield 214, 3) := by decide +kernel
theorem dX7_bind_27 : decode cX7_bind 27 = .ok (.ifCond .ne 13, 3) := by decide +kernel
theorem dX7_bind_30 : decode cX7_bind 30 = .ok (.aload 4, 2) := by decide +kernel
theorem dX7_bind_32 : decode cX7_bind 32 = .ok (.iload 5, 2) := by decide +kernel
theorem dX7_bind_34 : decode cX7_bind 34 = .ok (.invokevirtual 219, 3) := by decide +kernel
theorem dX7_bind_37 : decode cX7_bind 37 = .ok (.ifCond .ne 13, 3) := by decide +kernel
theorem dX7_bind_40 : decode cX7_bind 40 = .ok (.new 56, 3) := by decide +kernel
theorem dX7_bind_43 : decode cX7_bind 43 = .ok (.dup, 1) := by decide +kernel
theorem dX7_bind_44 : decode cX7_bind 44 = .ok (.ldc 223, 2) := by decide +kernel
theorem dX7_bind_46 : decode cX7_bind 46 = .ok (.invokespecial 60, 3) := by decide +kernel
theorem dX7_bind_49 : decode cX7_bind 49 = .ok (.athrow, 1) := by decide +kernel
theorem dX7_bind_50 : decode cX7_bind 50 = .ok (.aload 4, 2) := by decide +kernel
theorem dX7_bind_52 : decode cX7_bind 52 = .ok (.aload 4, 2) := by decide +kernel
theorem dX7_bind_54 : decode cX7_bind 54 = .ok (.iload 5, 2) := by decide +kernel
theorem dX7_bind_56 : decode cX7_bind 56 = .ok (.invokevirtual 225, 3) := by decide +kernel
theorem dX7_bind_59 : decode cX7_bind 59 = .ok (.aload_n 0, 1) := by decide +kernel
theorem dX7_bind_60 : decode cX7_bind 60 = .ok (.getfield 45, 3) := by decide +kernel
theorem dX7_bind_63 : decode cX7_bind 63 = .ok (.iadd, 1) := by decide +kernel
theorem dX7_bind_64 : decode cX7_bind 64 = .ok (.invokevirtual 228, 3) := by decide +kernel
theorem dX7_bind_67 : decode cX7_bind 67 = .ok (.istore 6, 2) := by decide +kernel
theorem dX7_bind_69 : decode cX7_bind 69 = .ok (.iload 6, 2) := by decide +kernel
theorem dX7_bind_71 : decode cX7_bind 71 = .ok (.ifCond .le 18, 3) := by decide +kernel
theorem dX7_bind_74 : decode cX7_bind 74 = .ok (.aload_n 0, 1) := by decide +kernel
theorem dX7_bind_75 : decode cX7_bind 75 = .ok (.dup, 1) := by decide +kernel
theorem dX7_bind_76 : decode cX7_bind 76 = .ok (.getfield 49, 3) := by decide +kernel
theorem dX7_bind_79 : decode cX7_bind 79 = .ok (.iload 6, 2) := by decide +kernel
theorem dX7_bind_81 : decode cX7_bind 81 = .ok (.iadd, 1) := by decide +kernel
theorem dX7_bind_82 : decode cX7_bind 82 = .ok (.putfield 49, 3) := by decide +kernel
theorem dX7_bind_85 : decode cX7_bind 85 = .ok (.iload 6, 2) := by decide +kernel
theorem dX7_bind_87 : decode cX7_bind 87 = .ok (.ineg, 1) := by decide +kernel
theorem dX7_bind_88 : decode cX7_bind 88 = .ok (.ireturn, 1) := by decide +kernel
theorem dX7_bind_89 : decode cX7_bind 89 = .ok (.aload 4, 2) := by decide +kernel
theorem dX7_bind_91 : decode cX7_bind 91 = .ok (.iconst 1, 1) := by decide +kernel
theorem dX7_bind_92 : decode cX7_bind 92 = .ok (.putfield 214, 3) := by decide +kernel
theorem dX7_bind_95 : decode cX7_bind 95 = .ok (.aload 4, 2) := by decide +kernel
theorem dX7_bind_97 : decode cX7_bind 97 = .ok (.iload 5, 2) := by decide +kernel
theorem dX7_bind_99 : decode cX7_bind 99 = .ok (.putfield 231, 3) := by decide +kernel
theorem dX7_bind_102 : decode cX7_bind 102 = .ok (.iload 5, 2) := by decide +kernel
theorem dX7_bind_104 : decode cX7_bind 104 = .ok (.ireturn, 1) := by decide +kernel
theorem dX7_isBound_0 : decode cX7_isBound 0 = .ok (.aload_n 0, 1) := by decide +kernel
theorem dX7_isBound_1 : decode cX7_isBound 1 = .ok (.iload_n 1, 1) := by decide +kernel
theorem dX7_isBound_2 : decode cX7_isBound 2 = .ok (.invokevirtual 120, 3) := by decide +kernel
theorem dX7_isBound_5 : decode cX7_isBound 5 = .ok (.iload_n 2, 1) := by decide +kernel
theorem dX7_isBound_6 : decode cX7_isBound 6 = .ok (.invokestatic 206, 3) := by decide +kernel
theorem dX7_isBound_9 : decode cX7_isBound 9 = .ok (.getfield 214, 3) := by decide +kernel
theorem dX7_isBound_12 : decode cX7_isBound 12 = .ok (.ireturn, 1) := by decide +kernel
theorem dX7_trim_0 : decode cX7_trim 0 = .ok (.aload_n 0, 1) := by decide +kernel
theorem dX7_trim_1 : decode cX7_trim 1 = .ok (.iload_n 1, 1) := by decide +kernel
theorem dX7_trim_2 : decode cX7_trim 2 = .ok (.iload_n 2, 1) := by decide +kernel
theorem dX7_trim_3 : decode cX7_trim 3 = .ok (.iload_n 3, 1) := by decide +kernel
theorem dX7_trim_4 : decode cX7_trim 4 = .ok (.invokevirtual 234, 3) := by decide +kernel
theorem dX7_trim_7 : decode cX7_trim 7 = .ok (.astore 4, 2) := by decide +kernel
theorem dX7_trim_9 : decode cX7_trim 9 = .ok (.aload 4, 2) := by decide +kernel
theorem dX7_trim_11 : decode cX7_trim 11 = .ok (.ifnonnull 7, 3) := by decide +kernel
theorem dX7_trim_14 : decode cX7_trim 14 = .ok (.iconst (-1), 1) := by decide +kernel
theorem dX7_trim_15 : decode cX7_trim 15 = .ok (.goto 11, 3) := by decide +kernel
theorem dX7_trim_18 : decode cX7_trim 18 = .ok (.aload 4, 2) := by decide +kernel
theorem dX7_trim_20 : decode cX7_trim 20 = .ok (.getfield 238, 3) := by decide +kernel
theorem dX7_trim_23 : decode cX7_trim 23 = .ok (.getfield 242, 3) := by decide +kernel
theorem dX7_trim_26 : decode cX7_trim 26 = .ok (.ireturn, 1) := by decide +kernel
theorem dX7_leaf_0 : decode cX7_leaf 0 = .ok (.aload_n 0, 1) := by decide +kernel
theorem dX7_leaf_1 : decode cX7_leaf 1 = .ok (.iload_n 1, 1) := by decide +kernel
theorem dX7_leaf_2 : decode cX7_leaf 2 = .ok (.iload_n 2, 1) := by decide +kernel
theorem dX7_leaf_3 : decode cX7_leaf 3 = .ok (.iload_n 3, 1) := by decide +kernel
theorem dX7_leaf_4 : decode cX7_leaf 4 = .ok (.invokevirtual 234, 3) := by decide +kernel
theorem dX7_leaf_7 : decode cX7_leaf 7 = .ok (.astore 4, 2) := by decide +kernel
theorem dX7_leaf_9 : decode cX7_leaf 9 = .ok (.aload 4, 2) := by decide +kernel
theorem dX7_leaf_11 : decode cX7_leaf 11 = .ok (.ifnonnull 7, 3) := by decide +kernel
theorem dX7_leaf_14 : decode cX7_leaf 14 = .ok (.iconst (-1), 1) := by decide +kernel
theorem dX7_leaf_15 : decode cX7_leaf 15 = .ok (.goto 8, 3) := by decide +kernel
theorem dX7_leaf_18 : decode cX7_leaf 18 = .ok (.aload 4, 2) := by decide +kernel
theorem dX7_leaf_20 : decode cX7_leaf 20 = .ok (.getfield 245, 3) := by decide +kernel
theorem dX7_leaf_23 : decode cX7_leaf 23 = .ok (.ireturn, 1) := by decide +kernel
theorem dX7_leafByPiles_0 : decode cX7_leafByPiles 0 = .ok (.aload_n 0, 1) := by decide +kernel
theorem dX7_leafByPiles_1 : decode cX7_leafByPiles 1 = .ok (.iload_n 1, 1) := by decide +kernel
theorem dX7_leafByPiles_2 : decode cX7_leafByPiles 2 = .ok (.invokevirtual 120, 3) := by decide +kernel
theorem dX7_leafByPiles_5 : decode cX7_leafByPiles 5 = .ok (.astore 4, 2) := by decide +kernel
theorem dX7_leafByPiles_7 : decode cX7_leafByPiles 7 = .ok (.aload 4, 2) := by decide +kernel
theorem dX7_leafByPiles_9 : decode cX7_leafByPiles 9 = .ok (.iload_n 2, 1) := by decide +kernel
theorem dX7_leafByPiles_10 : decode cX7_leafByPiles 10 = .ok (.invokestatic 206, 3) := by decide +kernel
theorem dX7_leafByPiles_13 : decode cX7_leafByPiles 13 = .ok (.astore 5, 2) := by decide +kernel
theorem dX7_leafByPiles_15 : decode cX7_leafByPiles 15 = .ok (.iload_n 3, 1) := by decide +kernel
theorem dX7_leafByPiles_16 : decode cX7_leafByPiles 16 = .ok (.aload 4, 2) := by decide +kernel
theorem dX7_leafByPiles_18 : decode cX7_leafByPiles 18 = .ok (.aload 5, 2) := by decide +kernel
theorem dX7_leafByPiles_20 : decode cX7_leafByPiles 20 = .ok (.invokevirtual 248, 3) := by decide +kernel
theorem dX7_leafByPiles_23 : decode cX7_leafByPiles 23 = .ok (.invokestatic 95, 3) := by decide +kernel
theorem dX7_leafByPiles_26 : decode cX7_leafByPiles 26 = .ok (.iconst 0, 1) := by decide +kernel
theorem dX7_leafByPiles_27 : decode cX7_leafByPiles 27 = .ok (.istore 6, 2) := by decide +kernel
theorem dX7_leafByPiles_29 : decode cX7_leafByPiles 29 = .ok (.iload 6, 2) := by decide +kernel
theorem dX7_leafByPiles_31 : decode cX7_leafByPiles 31 = .ok (.aload_n 0, 1) := by decide +kernel
theorem dX7_leafByPiles_32 : decode cX7_leafByPiles 32 = .ok (.getfield 19, 3) := by decide +kernel
theorem dX7_leafByPiles_35 : decode cX7_leafByPiles 35 = .ok (.invokevirtual 52, 3) := by decide +kernel
theorem dX7_leafByPiles_38 : decode cX7_leafByPiles 38 = .ok (.if_icmp .ge 53, 3) := by decide +kernel
theorem dX7_leafByPiles_41 : decode cX7_leafByPiles 41 = .ok (.aload_n 0, 1) := by decide +kernel
theorem dX7_leafByPiles_42 : decode cX7_leafByPiles 42 = .ok (.getfield 19, 3) := by decide +kernel
theorem dX7_leafByPiles_45 : decode cX7_leafByPiles 45 = .ok (.iload 6, 2) := by decide +kernel
theorem dX7_leafByPiles_47 : decode cX7_leafByPiles 47 = .ok (.invokevirtual 127, 3) := by decide +kernel
theorem dX7_leafByPiles_50 : decode cX7_leafByPiles 50 = .ok (.checkcast 174, 3) := by decide +kernel
theorem dX7_leafByPiles_53 : decode cX7_leafByPiles 53 = .ok (.astore 7, 2) := by decide +kernel
theorem dX7_leafByPiles_55 : decode cX7_leafByPiles 55 = .ok (.aload 7, 2) := by decide +kernel
theorem dX7_leafByPiles_57 : decode cX7_leafByPiles 57 = .ok (.invokevirtual 252, 3) := by decide +kernel
theorem dX7_leafByPiles_60 : decode cX7_leafByPiles 60 = .ok (.ifCond .eq 25, 3) := by decide +kernel
theorem dX7_leafByPiles_63 : decode cX7_leafByPiles 63 = .ok (.aload_n 0, 1) := by decide +kernel
theorem dX7_leafByPiles_64 : decode cX7_leafByPiles 64 = .ok (.aload 7, 2) := by decide +kernel
theorem dX7_leafByPiles_66 : decode cX7_leafByPiles 66 = .ok (.iload_n 1, 1) := by decide +kernel
theorem dX7_leafByPiles_67 : decode cX7_leafByPiles 67 = .ok (.iload_n 2, 1) := by decide +kernel
theorem dX7_leafByPiles_68 : decode cX7_leafByPiles 68 = .ok (.iload_n 3, 1) := by decide +kernel
theorem dX7_leafByPiles_69 : decode cX7_leafByPiles 69 = .ok (.invokevirtual 255, 3) := by decide +kernel
theorem dX7_leafByPiles_72 : decode cX7_leafByPiles 72 = .ok (.astore 8, 2) := by decide +kernel
theorem dX7_leafByPiles_74 : decode cX7_leafByPiles 74 = .ok (.aload 8, 2) := by decide +kernel
theorem dX7_leafByPiles_76 : decode cX7_leafByPiles 76 = .ok (.ifnull 9, 3) := by decide +kernel
theorem dX7_leafByPiles_79 : decode cX7_leafByPiles 79 = .ok (.aload 8, 2) := by decide +kernel
theorem dX7_leafByPiles_81 : decode cX7_leafByPiles 81 = .ok (.getfield 245, 3) := by decide +kernel
theorem dX7_leafByPiles_84 : decode cX7_leafByPiles 84 = .ok (.ireturn, 1) := by decide +kernel
theorem dX7_leafByPiles_85 : decode cX7_leafByPiles 85 = .ok (.iinc 6 1, 3) := by decide +kernel
theorem dX7_leafByPiles_88 : decode cX7_leafByPiles 88 = .ok (.goto (-59), 3) := by decide +kernel
theorem dX7_leafByPiles_91 : decode cX7_leafByPiles 91 = .ok (.iconst (-1), 1) := by decide +kernel
theorem dX7_leafByPiles_92 : decode cX7_leafByPiles 92 = .ok (.ireturn, 1) := by decide +kernel
theorem dX7_spoiled_0 : decode cX7_spoiled 0 = .ok (.aload_n 0, 1) := by decide +kernel
theorem dX7_spoiled_1 : decode cX7_spoiled 1 = .ok (.getfield 49, 3) := by decide +kernel
theorem dX7_spoiled_4 : decode cX7_spoiled 4 = .ok (.ireturn, 1) := by decide +kernel
theorem dX7_checkIndex_0 : decode cX7_checkIndex 0 = .ok (.iload_n 0, 1) := by decide +kernel
theorem dX7_checkIndex_1 : decode cX7_checkIndex 1 = .ok (.ifCond .lt 8, 3) := by decide +kernel
theorem dX7_checkIndex_4 : decode cX7_checkIndex 4 = .ok (.iload_n 0, 1) := by decide +kernel
theorem dX7_checkIndex_5 : decode cX7_checkIndex 5 = .ok (.iload_n 1, 1) := by decide +kernel
theorem dX7_checkIndex_6 : decode cX7_checkIndex 6 = .ok (.if_icmp .lt 14, 3) := by decide +kernel
theorem dX7_checkIndex_9 : decode cX7_checkIndex 9 = .ok (.new 77, 3) := by decide +kernel
theorem dX7_checkIndex_12 : decode cX7_checkIndex 12 = .ok (.dup, 1) := by decide +kernel
theorem dX7_checkIndex_13 : decode cX7_checkIndex 13 = .ok (.ldc_w 259, 3) := by decide +kernel
theorem dX7_checkIndex_16 : decode cX7_checkIndex 16 = .ok (.invokespecial 81, 3) := by decide +kernel
theorem dX7_checkIndex_19 : decode cX7_checkIndex 19 = .ok (.athrow, 1) := by decide +kernel
theorem dX7_checkIndex_20 : decode cX7_checkIndex 20 = .ok (.return_, 1) := by decide +kernel
theorem dX7_checkRange_0 : decode cX7_checkRange 0 = .ok (.iload_n 0, 1) := by decide +kernel
theorem dX7_checkRange_1 : decode cX7_checkRange 1 = .ok (.iload_n 1, 1) := by decide +kernel
theorem dX7_checkRange_2 : decode cX7_checkRange 2 = .ok (.if_icmp .lt 8, 3) := by decide +kernel
theorem dX7_checkRange_5 : decode cX7_checkRange 5 = .ok (.iload_n 0, 1) := by decide +kernel
theorem dX7_checkRange_6 : decode cX7_checkRange 6 = .ok (.iload_n 2, 1) := by decide +kernel
theorem dX7_checkRange_7 : decode cX7_checkRange 7 = .ok (.if_icmp .le 14, 3) := by decide +kernel
theorem dX7_checkRange_10 : decode cX7_checkRange 10 = .ok (.new 141, 3) := by decide +kernel
theorem dX7_checkRange_13 : decode cX7_checkRange 13 = .ok (.dup, 1) := by decide +kernel
theorem dX7_checkRange_14 : decode cX7_checkRange 14 = .ok (.ldc_w 261, 3) := by decide +kernel
theorem dX7_checkRange_17 : decode cX7_checkRange 17 = .ok (.invokespecial 145, 3) := by decide +kernel
theorem dX7_checkRange_20 : decode cX7_checkRange 20 = .ok (.athrow, 1) := by decide +kernel
theorem dX7_checkRange_21 : decode cX7_checkRange 21 = .ok (.return_, 1) := by decide +kernel
theorem dX7_bookNumbered_0 : decode cX7_bookNumbered 0 = .ok (.iload_n 1, 1) := by decide +kernel
theorem dX7_bookNumbered_1 : decode cX7_bookNumbered 1 = .ok (.aload_n 0, 1) := by decide +kernel
theorem dX7_bookNumbered_2 : decode cX7_bookNumbered 2 = .ok (.getfield 12, 3) := by decide +kernel
theorem dX7_bookNumbered_5 : decode cX7_bookNumbered 5 = .ok (.invokevirtual 52, 3) := by decide +kernel
theorem dX7_bookNumbered_8 : decode cX7_bookNumbered 8 = .ok (.invokestatic 95, 3) := by decide +kernel
theorem dX7_bookNumbered_11 : decode cX7_bookNumbered 11 = .ok (.aload_n 0, 1) := by decide +kernel
theorem dX7_bookNumbered_12 : decode cX7_bookNumbered 12 = .ok (.getfield 12, 3) := by decide +kernel
theorem dX7_bookNumbered_15 : decode cX7_bookNumbered 15 = .ok (.iload_n 1, 1) := by decide +kernel
theorem dX7_bookNumbered_16 : decode cX7_bookNumbered 16 = .ok (.invokevirtual 127, 3) := by decide +kernel
theorem dX7_bookNumbered_19 : decode cX7_bookNumbered 19 = .ok (.checkcast 63, 3) := by decide +kernel
theorem dX7_bookNumbered_22 : decode cX7_bookNumbered 22 = .ok (.areturn, 1) := by decide +kernel
theorem dX7_orderNumbered_0 : decode cX7_orderNumbered 0 = .ok (.iload_n 1, 1) := by decide +kernel
theorem dX7_orderNumbered_1 : decode cX7_orderNumbered 1 = .ok (.aload_n 0, 1) := by decide +kernel
theorem dX7_orderNumbered_2 : decode cX7_orderNumbered 2 = .ok (.getfield 16, 3) := by decide +kernel
theorem dX7_orderNumbered_5 : decode cX7_orderNumbered 5 = .ok (.invokevirtual 52, 3) := by decide +kernel
theorem dX7_orderNumbered_8 : decode cX7_orderNumbered 8 = .ok (.invokestatic 95, 3) := by decide +kernel
theorem dX7_orderNumbered_11 : decode cX7_orderNumbered 11 = .ok (.aload_n 0, 1) := by decide +kernel
theorem dX7_orderNumbered_12 : decode cX7_orderNumbered 12 = .ok (.getfield 16, 3) := by decide +kernel
theorem dX7_orderNumbered_15 : decode cX7_orderNumbered 15 = .ok (.iload_n 1, 1) := by decide +kernel
theorem dX7_orderNumbered_16 : decode cX7_orderNumbered 16 = .ok (.invokevirtual 127, 3) := by decide +kernel
theorem dX7_orderNumbered_19 : decode cX7_orderNumbered 19 = .ok (.checkcast 115, 3) := by decide +kernel
theorem dX7_orderNumbered_22 : decode cX7_orderNumbered 22 = .ok (.areturn, 1) := by decide +kernel
theorem dX7_copyNumbered_0 : decode cX7_copyNumbered 0 = .ok (.iload_n 1, 1) := by decide +kernel
theorem dX7_copyNumbered_1 : decode cX7_copyNumbered 1 = .ok (.aload_n 0, 1) := by decide +kernel
theorem dX7_copyNumbered_2 : decode cX7_copyNumbered 2 = .ok (.getfield 263, 3) := by decide +kernel
theorem dX7_copyNumbered_5 : decode cX7_copyNumbered 5 = .ok (.invokevirtual 52, 3) := by decide +kernel
theorem dX7_copyNumbered_8 : decode cX7_copyNumbered 8 = .ok (.invokestatic 95, 3) := by decide +kernel
theorem dX7_copyNumbered_11 : decode cX7_copyNumbered 11 = .ok (.aload_n 0, 1) := by decide +kernel
theorem dX7_copyNumbered_12 : decode cX7_copyNumbered 12 = .ok (.getfield 263, 3) := by decide +kernel
theorem dX7_copyNumbered_15 : decode cX7_copyNumbered 15 = .ok (.iload_n 1, 1) := by decide +kernel
theorem dX7_copyNumbered_16 : decode cX7_copyNumbered 16 = .ok (.invokevirtual 127, 3) := by decide +kernel
theorem dX7_copyNumbered_19 : decode cX7_copyNumbered 19 = .ok (.checkcast 215, 3) := by decide +kernel
theorem dX7_copyNumbered_22 : decode cX7_copyNumbered 22 = .ok (.areturn, 1) := by decide +kernel
theorem dX7_oneIfSideways_0 : decode cX7_oneIfSideways 0 = .ok (.iload_n 0, 1) := by decide +kernel
theorem dX7_oneIfSideways_1 : decode cX7_oneIfSideways 1 = .ok (.ifCond .eq 8, 3) := by decide +kernel
theorem dX7_oneIfSideways_4 : decode cX7_oneIfSideways 4 = .ok (.iload_n 0, 1) := by decide +kernel
theorem dX7_oneIfSideways_5 : decode cX7_oneIfSideways 5 = .ok (.iconst 1, 1) := by decide +kernel
theorem dX7_oneIfSideways_6 : decode cX7_oneIfSideways 6 = .ok (.if_icmp .ne 7, 3) := by decide +kernel
theorem dX7_oneIfSideways_9 : decode cX7_oneIfSideways 9 = .ok (.iconst 1, 1) := by decide +kernel
theorem dX7_oneIfSideways_10 : decode cX7_oneIfSideways 10 = .ok (.goto 4, 3) := by decide +kernel
theorem dX7_oneIfSideways_13 : decode cX7_oneIfSideways 13 = .ok (.iconst 0, 1) := by decide +kernel
theorem dX7_oneIfSideways_14 : decode cX7_oneIfSideways 14 = .ok (.ireturn, 1) := by decide +kernel
theorem dX7_sheetsFor_0 : decode cX7_sheetsFor 0 = .ok (.iload_n 0, 1) := by decide +kernel
theorem dX7_sheetsFor_1 : decode cX7_sheetsFor 1 = .ok (.bipush 8, 2) := by decide +kernel
theorem dX7_sheetsFor_3 : decode cX7_sheetsFor 3 = .ok (.iadd, 1) := by decide +kernel
theorem dX7_sheetsFor_4 : decode cX7_sheetsFor 4 = .ok (.iconst 1, 1) := by decide +kernel
theorem dX7_sheetsFor_5 : decode cX7_sheetsFor 5 = .ok (.isub, 1) := by decide +kernel
theorem dX7_sheetsFor_6 : decode cX7_sheetsFor 6 = .ok (.bipush 8, 2) := by decide +kernel
theorem dX7_sheetsFor_8 : decode cX7_sheetsFor 8 = .ok (.idiv, 1) := by decide +kernel
theorem dX7_sheetsFor_9 : decode cX7_sheetsFor 9 = .ok (.ireturn, 1) := by decide +kernel
theorem dX7_spoilChanged_0 : decode cX7_spoilChanged 0 = .ok (.iconst 0, 1) := by decide +kernel
theorem dX7_spoilChanged_1 : decode cX7_spoilChanged 1 = .ok (.istore_n 2, 1) := by decide +kernel
theorem dX7_spoilChanged_2 : decode cX7_spoilChanged 2 = .ok (.iconst 0, 1) := by decide +kernel
theorem dX7_spoilChanged_3 : decode cX7_spoilChanged 3 = .ok (.istore_n 3, 1) := by decide +kernel
theorem dX7_spoilChanged_4 : decode cX7_spoilChanged 4 = .ok (.iload_n 3, 1) := by decide +kernel
theorem dX7_spoilChanged_5 : decode cX7_spoilChanged 5 = .ok (.aload_n 0, 1) := by decide +kernel
theorem dX7_spoilChanged_6 : decode cX7_spoilChanged 6 = .ok (.getfield 16, 3) := by decide +kernel
theorem dX7_spoilChanged_9 : decode cX7_spoilChanged 9 = .ok (.invokevirtual 52, 3) := by decide +kernel
theorem dX7_spoilChanged_12 : decode cX7_spoilChanged 12 = .ok (.if_icmp .ge 39, 3) := by decide +kernel
theorem dX7_spoilChanged_15 : decode cX7_spoilChanged 15 = .ok (.aload_n 0, 1) := by decide +kernel
theorem dX7_spoilChanged_16 : decode cX7_spoilChanged 16 = .ok (.getfield 16, 3) := by decide +kernel
theorem dX7_spoilChanged_19 : decode cX7_spoilChanged 19 = .ok (.iload_n 3, 1) := by decide +kernel
theorem dX7_spoilChanged_20 : decode cX7_spoilChanged 20 = .ok (.invokevirtual 127, 3) := by decide +kernel
theorem dX7_spoilChanged_23 : decode cX7_spoilChanged 23 = .ok (.checkcast 115, 3) := by decide +kernel
theorem dX7_spoilChanged_26 : decode cX7_spoilChanged 26 = .ok (.astore 4, 2) := by decide +kernel
theorem dX7_spoilChanged_28 : decode cX7_spoilChanged 28 = .ok (.aload 4, 2) := by decide +kernel
theorem dX7_spoilChanged_30 : decode cX7_spoilChanged 30 = .ok (.getfield 210, 3) := by decide +kernel
theorem dX7_spoilChanged_33 : decode cX7_spoilChanged 33 = .ok (.aload_n 1, 1) := by decide +kernel
theorem dX7_spoilChanged_34 : decode cX7_spoilChanged 34 = .ok (.if_acmp .ne 11, 3) := by decide +kernel
theorem dX7_spoilChanged_37 : decode cX7_spoilChanged 37 = .ok (.iload_n 2, 1) := by decide +kernel
theorem dX7_spoilChanged_38 : decode cX7_spoilChanged 38 = .ok (.aload 4, 2) := by decide +kernel
theorem dX7_spoilChanged_40 : decode cX7_spoilChanged 40 = .ok (.invokevirtual 266, 3) := by decide +kernel
theorem dX7_spoilChanged_43 : decode cX7_spoilChanged 43 = .ok (.iadd, 1) := by decide +kernel
theorem dX7_spoilChanged_44 : decode cX7_spoilChanged 44 = .ok (.istore_n 2, 1) := by decide +kernel
theorem dX7_spoilChanged_45 : decode cX7_spoilChanged 45 = .ok (.iinc 3 1, 3) := by decide +kernel
theorem dX7_spoilChanged_48 : decode cX7_spoilChanged 48 = .ok (.goto (-44), 3) := by decide +kernel
theorem dX7_spoilChanged_51 : decode cX7_spoilChanged 51 = .ok (.aload_n 0, 1) := by decide +kernel
theorem dX7_spoilChanged_52 : decode cX7_spoilChanged 52 = .ok (.dup, 1) := by decide +kernel
theorem dX7_spoilChanged_53 : decode cX7_spoilChanged 53 = .ok (.getfield 49, 3) := by decide +kernel
theorem dX7_spoilChanged_56 : decode cX7_spoilChanged 56 = .ok (.iload_n 2, 1) := by decide +kernel
theorem dX7_spoilChanged_57 : decode cX7_spoilChanged 57 = .ok (.iadd, 1) := by decide +kernel
theorem dX7_spoilChanged_58 : decode cX7_spoilChanged 58 = .ok (.putfield 49, 3) := by decide +kernel
theorem dX7_spoilChanged_61 : decode cX7_spoilChanged 61 = .ok (.iload_n 2, 1) := by decide +kernel
theorem dX7_spoilChanged_62 : decode cX7_spoilChanged 62 = .ok (.ireturn, 1) := by decide +kernel
theorem dX7_countAllLacking_0 : decode cX7_countAllLacking 0 = .ok (.iconst 0, 1) := by decide +kernel
theorem dX7_countAllLacking_1 : decode cX7_countAllLacking 1 = .ok (.istore_n 1, 1) := by decide +kernel
theorem dX7_countAllLacking_2 : decode cX7_countAllLacking 2 = .ok (.iconst 0, 1) := by decide +kernel
theorem dX7_countAllLacking_3 : decode cX7_countAllLacking 3 = .ok (.istore_n 2, 1) := by decide +kernel
theorem dX7_countAllLacking_4 : decode cX7_countAllLacking 4 = .ok (.iload_n 2, 1) := by decide +kernel
theorem dX7_countAllLacking_5 : decode cX7_countAllLacking 5 = .ok (.aload_n 0, 1) := by decide +kernel
theorem dX7_countAllLacking_6 : decode cX7_countAllLacking 6 = .ok (.getfield 16, 3) := by decide +kernel
theorem dX7_countAllLacking_9 : decode cX7_countAllLacking 9 = .ok (.invokevirtual 52, 3) := by decide +kernel
theorem dX7_countAllLacking_12 : decode cX7_countAllLacking 12 = .ok (.if_icmp .ge 26, 3) := by decide +kernel
theorem dX7_countAllLacking_15 : decode cX7_countAllLacking 15 = .ok (.iload_n 1, 1) := by decide +kernel
theorem dX7_countAllLacking_16 : decode cX7_countAllLacking 16 = .ok (.aload_n 0, 1) := by decide +kernel
theorem dX7_countAllLacking_17 : decode cX7_countAllLacking 17 = .ok (.getfield 16, 3) := by decide +kernel
theorem dX7_countAllLacking_20 : decode cX7_countAllLacking 20 = .ok (.iload_n 2, 1) := by decide +kernel
theorem dX7_countAllLacking_21 : decode cX7_countAllLacking 21 = .ok (.invokevirtual 127, 3) := by decide +kernel
theorem dX7_countAllLacking_24 : decode cX7_countAllLacking 24 = .ok (.checkcast 115, 3) := by decide +kernel
theorem dX7_countAllLacking_27 : decode cX7_countAllLacking 27 = .ok (.invokevirtual 124, 3) := by decide +kernel
theorem dX7_countAllLacking_30 : decode cX7_countAllLacking 30 = .ok (.iadd, 1) := by decide +kernel
theorem dX7_countAllLacking_31 : decode cX7_countAllLacking 31 = .ok (.istore_n 1, 1) := by decide +kernel
theorem dX7_countAllLacking_32 : decode cX7_countAllLacking 32 = .ok (.iinc 2 1, 3) := by decide +kernel
theorem dX7_countAllLacking_35 : decode cX7_countAllLacking 35 = .ok (.goto (-31), 3) := by decide +kernel
theorem dX7_countAllLacking_38 : decode cX7_countAllLacking 38 = .ok (.iload_n 1, 1) := by decide +kernel
theorem dX7_countAllLacking_39 : decode cX7_countAllLacking 39 = .ok (.ireturn, 1) := by decide +kernel
theorem dX7_sortOrders_0 : decode cX7_sortOrders 0 = .ok (.iconst 0, 1) := by decide +kernel
theorem dX7_sortOrders_1 : decode cX7_sortOrders 1 = .ok (.istore_n 1, 1) := by decide +kernel
theorem dX7_sortOrders_2 : decode cX7_sortOrders 2 = .ok (.iload_n 1, 1) := by decide +kernel
theorem dX7_sortOrders_3 : decode cX7_sortOrders 3 = .ok (.aload_n 0, 1) := by decide +kernel
theorem dX7_sortOrders_4 : decode cX7_sortOrders 4 = .ok (.getfield 16, 3) := by decide +kernel
theorem dX7_sortOrders_7 : decode cX7_sortOrders 7 = .ok (.invokevirtual 52, 3) := by decide +kernel
theorem dX7_sortOrders_10 : decode cX7_sortOrders 10 = .ok (.if_icmp .ge 77, 3) := by decide +kernel
theorem dX7_sortOrders_13 : decode cX7_sortOrders 13 = .ok (.iconst 0, 1) := by decide +kernel
theorem dX7_sortOrders_14 : decode cX7_sortOrders 14 = .ok (.istore_n 2, 1) := by decide +kernel
theorem dX7_sortOrders_15 : decode cX7_sortOrders 15 = .ok (.iconst 0, 1) := by decide +kernel
theorem dX7_sortOrders_16 : decode cX7_sortOrders 16 = .ok (.istore_n 3, 1) := by decide +kernel
theorem dX7_sortOrders_17 : decode cX7_sortOrders 17 = .ok (.iload_n 3, 1) := by decide +kernel
theorem dX7_sortOrders_18 : decode cX7_sortOrders 18 = .ok (.aload_n 0, 1) := by decide +kernel
theorem dX7_sortOrders_19 : decode cX7_sortOrders 19 = .ok (.getfield 16, 3) := by decide +kernel
theorem dX7_sortOrders_22 : decode cX7_sortOrders 22 = .ok (.invokevirtual 52, 3) := by decide +kernel
theorem dX7_sortOrders_25 : decode cX7_sortOrders 25 = .ok (.if_icmp .ge 40, 3) := by decide +kernel
theorem dX7_sortOrders_28 : decode cX7_sortOrders 28 = .ok (.aload_n 0, 1) := by decide +kernel
theorem dX7_sortOrders_29 : decode cX7_sortOrders 29 = .ok (.getfield 16, 3) := by decide +kernel
theorem dX7_sortOrders_32 : decode cX7_sortOrders 32 = .ok (.iload_n 3, 1) := by decide +kernel
theorem dX7_sortOrders_33 : decode cX7_sortOrders 33 = .ok (.invokevirtual 127, 3) := by decide +kernel
theorem dX7_sortOrders_36 : decode cX7_sortOrders 36 = .ok (.checkcast 115, 3) := by decide +kernel
theorem dX7_sortOrders_39 : decode cX7_sortOrders 39 = .ok (.aload_n 0, 1) := by decide +kernel
theorem dX7_sortOrders_40 : decode cX7_sortOrders 40 = .ok (.getfield 16, 3) := by decide +kernel
theorem dX7_sortOrders_43 : decode cX7_sortOrders 43 = .ok (.iload_n 1, 1) := by decide +kernel
theorem dX7_sortOrders_44 : decode cX7_sortOrders 44 = .ok (.invokevirtual 127, 3) := by decide +kernel
theorem dX7_sortOrders_47 : decode cX7_sortOrders 47 = .ok (.checkcast 115, 3) := by decide +kernel
theorem dX7_sortOrders_50 : decode cX7_sortOrders 50 = .ok (.invokevirtual 131, 3) := by decide +kernel
theorem dX7_sortOrders_53 : decode cX7_sortOrders 53 = .ok (.ifCond .eq 6, 3) := by decide +kernel
theorem dX7_sortOrders_56 : decode cX7_sortOrders 56 = .ok (.iinc 2 1, 3) := by decide +kernel
theorem dX7_sortOrders_59 : decode cX7_sortOrders 59 = .ok (.iinc 3 1, 3) := by decide +kernel
theorem dX7_sortOrders_62 : decode cX7_sortOrders 62 = .ok (.goto (-45), 3) := by decide +kernel
theorem dX7_sortOrders_65 : decode cX7_sortOrders 65 = .ok (.iload_n 2, 1) := by decide +kernel
theorem dX7_sortOrders_66 : decode cX7_sortOrders 66 = .ok (.aload_n 0, 1) := by decide +kernel
theorem dX7_sortOrders_67 : decode cX7_sortOrders 67 = .ok (.getfield 22, 3) := by decide +kernel
theorem dX7_sortOrders_70 : decode cX7_sortOrders 70 = .ok (.arraylength, 1) := by decide +kernel
theorem dX7_sortOrders_71 : decode cX7_sortOrders 71 = .ok (.if_icmp .ge 10, 3) := by decide +kernel
theorem dX7_sortOrders_74 : decode cX7_sortOrders 74 = .ok (.aload_n 0, 1) := by decide +kernel
theorem dX7_sortOrders_75 : decode cX7_sortOrders 75 = .ok (.getfield 22, 3) := by decide +kernel
theorem dX7_sortOrders_78 : decode cX7_sortOrders 78 = .ok (.iload_n 2, 1) := by decide +kernel
theorem dX7_sortOrders_79 : decode cX7_sortOrders 79 = .ok (.iload_n 1, 1) := by decide +kernel
theorem dX7_sortOrders_80 : decode cX7_sortOrders 80 = .ok (.iastore, 1) := by decide +kernel
theorem dX7_sortOrders_81 : decode cX7_sortOrders 81 = .ok (.iinc 1 1, 3) := by decide +kernel
theorem dX7_sortOrders_84 : decode cX7_sortOrders 84 = .ok (.goto (-82), 3) := by decide +kernel
theorem dX7_sortOrders_87 : decode cX7_sortOrders 87 = .ok (.return_, 1) := by decide +kernel
theorem dX7_printSheet_0 : decode cX7_printSheet 0 = .ok (.new 174, 3) := by decide +kernel
theorem dX7_printSheet_3 : decode cX7_printSheet 3 = .ok (.dup, 1) := by decide +kernel
theorem dX7_printSheet_4 : decode cX7_printSheet 4 = .ok (.aload_n 0, 1) := by decide +kernel
theorem dX7_printSheet_5 : decode cX7_printSheet 5 = .ok (.getfield 41, 3) := by decide +kernel
theorem dX7_printSheet_8 : decode cX7_printSheet 8 = .ok (.invokespecial 268, 3) := by decide +kernel
theorem dX7_printSheet_11 : decode cX7_printSheet 11 = .ok (.astore_n 1, 1) := by decide +kernel
theorem dX7_printSheet_12 : decode cX7_printSheet 12 = .ok (.iconst 0, 1) := by decide +kernel
theorem dX7_printSheet_13 : decode cX7_printSheet 13 = .ok (.istore_n 2, 1) := by decide +kernel
theorem dX7_printSheet_14 : decode cX7_printSheet 14 = .ok (.iconst 0, 1) := by decide +kernel
theorem dX7_printSheet_15 : decode cX7_printSheet 15 = .ok (.istore_n 3, 1) := by decide +kernel
theorem dX7_printSheet_16 : decode cX7_printSheet 16 = .ok (.iload_n 3, 1) := by decide +kernel
theorem dX7_printSheet_17 : decode cX7_printSheet 17 = .ok (.aload_n 0, 1) := by decide +kernel
theorem dX7_printSheet_18 : decode cX7_printSheet 18 = .ok (.getfield 16, 3) := by decide +kernel
theorem dX7_printSheet_21 : decode cX7_printSheet 21 = .ok (.invokevirtual 52, 3) := by decide +kernel
theorem dX7_printSheet_24 : decode cX7_printSheet 24 = .ok (.if_icmp .ge 61, 3) := by decide +kernel
theorem dX7_printSheet_27 : decode cX7_printSheet 27 = .ok (.iload_n 3, 1) := by decide +kernel
theorem dX7_printSheet_28 : decode cX7_printSheet 28 = .ok (.aload_n 0, 1) := by decide +kernel
theorem dX7_printSheet_29 : decode cX7_printSheet 29 = .ok (.getfield 22, 3) := by decide +kernel
theorem dX7_printSheet_32 : decode cX7_printSheet 32 = .ok (.arraylength, 1) := by decide +kernel
theorem dX7_printSheet_33 : decode cX7_printSheet 33 = .ok (.if_icmp .ge 52, 3) := by decide +kernel
theorem dX7_printSheet_36 : decode cX7_printSheet 36 = .ok (.aload_n 0, 1) := by decide +kernel
theorem dX7_printSheet_37 : decode cX7_printSheet 37 = .ok (.getfield 22, 3) := by decide +kernel
theorem dX7_printSheet_40 : decode cX7_printSheet 40 = .ok (.iload_n 3, 1) := by decide +kernel
theorem dX7_printSheet_41 : decode cX7_printSheet 41 = .ok (.iaload, 1) := by decide +kernel
theorem dX7_printSheet_42 : decode cX7_printSheet 42 = .ok (.istore 4, 2) := by decide +kernel
theorem dX7_printSheet_44 : decode cX7_printSheet 44 = .ok (.iload 4, 2) := by decide +kernel
theorem dX7_printSheet_46 : decode cX7_printSheet 46 = .ok (.ifCond .lt 33, 3) := by decide +kernel
theorem dX7_printSheet_49 : decode cX7_printSheet 49 = .ok (.iload 4, 2) := by decide +kernel
theorem dX7_printSheet_51 : decode cX7_printSheet 51 = .ok (.aload_n 0, 1) := by decide +kernel
theorem dX7_printSheet_52 : decode cX7_printSheet 52 = .ok (.getfield 16, 3) := by decide +kernel
theorem dX7_printSheet_55 : decode cX7_printSheet 55 = .ok (.invokevirtual 52, 3) := by decide +kernel
theorem dX7_printSheet_58 : decode cX7_printSheet 58 = .ok (.if_icmp .ge 21, 3) := by decide +kernel
theorem dX7_printSheet_61 : decode cX7_printSheet 61 = .ok (.aload_n 0, 1) := by decide +kernel
theorem dX7_printSheet_62 : decode cX7_printSheet 62 = .ok (.getfield 16, 3) := by decide +kernel
theorem dX7_printSheet_65 : decode cX7_printSheet 65 = .ok (.iload 4, 2) := by decide +kernel
theorem dX7_printSheet_67 : decode cX7_printSheet 67 = .ok (.invokevirtual 127, 3) := by decide +kernel
theorem dX7_printSheet_70 : decode cX7_printSheet 70 = .ok (.checkcast 115, 3) := by decide +kernel
theorem dX7_printSheet_73 : decode cX7_printSheet 73 = .ok (.aload_n 1, 1) := by decide +kernel
theorem dX7_printSheet_74 : decode cX7_printSheet 74 = .ok (.iload_n 2, 1) := by decide +kernel
theorem dX7_printSheet_75 : decode cX7_printSheet 75 = .ok (.invokevirtual 270, 3) := by decide +kernel
theorem dX7_printSheet_78 : decode cX7_printSheet 78 = .ok (.istore_n 2, 1) := by decide +kernel
theorem dX7_printSheet_79 : decode cX7_printSheet 79 = .ok (.iinc 3 1, 3) := by decide +kernel
theorem dX7_printSheet_82 : decode cX7_printSheet 82 = .ok (.goto (-66), 3) := by decide +kernel
theorem dX7_printSheet_85 : decode cX7_printSheet 85 = .ok (.aload_n 1, 1) := by decide +kernel
theorem dX7_printSheet_86 : decode cX7_printSheet 86 = .ok (.areturn, 1) := by decide +kernel
theorem dX7_longestWaiting_0 : decode cX7_longestWaiting 0 = .ok (.iconst 0, 1) := by decide +kernel
theorem dX7_longestWaiting_1 : decode cX7_longestWaiting 1 = .ok (.istore_n 1, 1) := by decide +kernel
theorem dX7_longestWaiting_2 : decode cX7_longestWaiting 2 = .ok (.iload_n 1, 1) := by decide +kernel
theorem dX7_longestWaiting_3 : decode cX7_longestWaiting 3 = .ok (.aload_n 0, 1) := by decide +kernel
theorem dX7_longestWaiting_4 : decode cX7_longestWaiting 4 = .ok (.getfield 19, 3) := by decide +kernel
theorem dX7_longestWaiting_7 : decode cX7_longestWaiting 7 = .ok (.invokevirtual 52, 3) := by decide +kernel
theorem dX7_longestWaiting_10 : decode cX7_longestWaiting 10 = .ok (.if_icmp .ge 38, 3) := by decide +kernel
theorem dX7_longestWaiting_13 : decode cX7_longestWaiting 13 = .ok (.aload_n 0, 1) := by decide +kernel
theorem dX7_longestWaiting_14 : decode cX7_longestWaiting 14 = .ok (.getfield 19, 3) := by decide +kernel
theorem dX7_longestWaiting_17 : decode cX7_longestWaiting 17 = .ok (.iload_n 1, 1) := by decide +kernel
theorem dX7_longestWaiting_18 : decode cX7_longestWaiting 18 = .ok (.invokevirtual 127, 3) := by decide +kernel
theorem dX7_longestWaiting_21 : decode cX7_longestWaiting 21 = .ok (.checkcast 174, 3) := by decide +kernel
theorem dX7_longestWaiting_24 : decode cX7_longestWaiting 24 = .ok (.getfield 176, 3) := by decide +kernel
theorem dX7_longestWaiting_27 : decode cX7_longestWaiting 27 = .ok (.ifCond .eq 15, 3) := by decide +kernel
theorem dX7_longestWaiting_30 : decode cX7_longestWaiting 30 = .ok (.aload_n 0, 1) := by decide +kernel
theorem dX7_longestWaiting_31 : decode cX7_longestWaiting 31 = .ok (.getfield 19, 3) := by decide +kernel
theorem dX7_longestWaiting_34 : decode cX7_longestWaiting 34 = .ok (.iload_n 1, 1) := by decide +kernel
theorem dX7_longestWaiting_35 : decode cX7_longestWaiting 35 = .ok (.invokevirtual 127, 3) := by decide +kernel
theorem dX7_longestWaiting_38 : decode cX7_longestWaiting 38 = .ok (.checkcast 174, 3) := by decide +kernel
theorem dX7_longestWaiting_41 : decode cX7_longestWaiting 41 = .ok (.areturn, 1) := by decide +kernel
theorem dX7_longestWaiting_42 : decode cX7_longestWaiting 42 = .ok (.iinc 1 1, 3) := by decide +kernel
theorem dX7_longestWaiting_45 : decode cX7_longestWaiting 45 = .ok (.goto (-43), 3) := by decide +kernel
theorem dX7_longestWaiting_48 : decode cX7_longestWaiting 48 = .ok (.aconst_null, 1) := by decide +kernel
theorem dX7_longestWaiting_49 : decode cX7_longestWaiting 49 = .ok (.areturn, 1) := by decide +kernel
theorem dX7_keptLeaf_0 : decode cX7_keptLeaf 0 = .ok (.aload_n 0, 1) := by decide +kernel
theorem dX7_keptLeaf_1 : decode cX7_keptLeaf 1 = .ok (.iload_n 1, 1) := by decide +kernel
theorem dX7_keptLeaf_2 : decode cX7_keptLeaf 2 = .ok (.invokevirtual 120, 3) := by decide +kernel
theorem dX7_keptLeaf_5 : decode cX7_keptLeaf 5 = .ok (.astore 4, 2) := by decide +kernel
theorem dX7_keptLeaf_7 : decode cX7_keptLeaf 7 = .ok (.aload 4, 2) := by decide +kernel
theorem dX7_keptLeaf_9 : decode cX7_keptLeaf 9 = .ok (.iload_n 2, 1) := by decide +kernel
theorem dX7_keptLeaf_10 : decode cX7_keptLeaf 10 = .ok (.invokestatic 206, 3) := by decide +kernel
theorem dX7_keptLeaf_13 : decode cX7_keptLeaf 13 = .ok (.astore 5, 2) := by decide +kernel
theorem dX7_keptLeaf_15 : decode cX7_keptLeaf 15 = .ok (.iload_n 3, 1) := by decide +kernel
theorem dX7_keptLeaf_16 : decode cX7_keptLeaf 16 = .ok (.aload 4, 2) := by decide +kernel
theorem dX7_keptLeaf_18 : decode cX7_keptLeaf 18 = .ok (.aload 5, 2) := by decide +kernel
theorem dX7_keptLeaf_20 : decode cX7_keptLeaf 20 = .ok (.invokevirtual 248, 3) := by decide +kernel
theorem dX7_keptLeaf_23 : decode cX7_keptLeaf 23 = .ok (.invokestatic 95, 3) := by decide +kernel
theorem dX7_keptLeaf_26 : decode cX7_keptLeaf 26 = .ok (.aload 5, 2) := by decide +kernel
theorem dX7_keptLeaf_28 : decode cX7_keptLeaf 28 = .ok (.iload_n 3, 1) := by decide +kernel
theorem dX7_keptLeaf_29 : decode cX7_keptLeaf 29 = .ok (.invokevirtual 274, 3) := by decide +kernel
theorem dX7_keptLeaf_32 : decode cX7_keptLeaf 32 = .ok (.astore 6, 2) := by decide +kernel
theorem dX7_keptLeaf_34 : decode cX7_keptLeaf 34 = .ok (.aload 6, 2) := by decide +kernel
theorem dX7_keptLeaf_36 : decode cX7_keptLeaf 36 = .ok (.ifnull 19, 3) := by decide +kernel
theorem dX7_keptLeaf_39 : decode cX7_keptLeaf 39 = .ok (.aload 6, 2) := by decide +kernel
theorem dX7_keptLeaf_41 : decode cX7_keptLeaf 41 = .ok (.getfield 238, 3) := by decide +kernel
theorem dX7_keptLeaf_44 : decode cX7_keptLeaf 44 = .ok (.invokevirtual 252, 3) := by decide +kernel
theorem dX7_keptLeaf_47 : decode cX7_keptLeaf 47 = .ok (.ifCond .eq 8, 3) := by decide +kernel
theorem dX7_keptLeaf_50 : decode cX7_keptLeaf 50 = .ok (.aload 6, 2) := by decide +kernel
theorem dX7_keptLeaf_52 : decode cX7_keptLeaf 52 = .ok (.goto 4, 3) := by decide +kernel
theorem dX7_keptLeaf_55 : decode cX7_keptLeaf 55 = .ok (.aconst_null, 1) := by decide +kernel
theorem dX7_keptLeaf_56 : decode cX7_keptLeaf 56 = .ok (.areturn, 1) := by decide +kernel
theorem dX7_findInPile_0 : decode cX7_findInPile 0 = .ok (.aload_n 0, 1) := by decide +kernel
theorem dX7_findInPile_1 : decode cX7_findInPile 1 = .ok (.getfield 32, 3) := by decide +kernel
theorem dX7_findInPile_4 : decode cX7_findInPile 4 = .ok (.aload_n 1, 1) := by decide +kernel
theorem dX7_findInPile_5 : decode cX7_findInPile 5 = .ok (.getfield 277, 3) := by decide +kernel
theorem dX7_findInPile_8 : decode cX7_findInPile 8 = .ok (.invokevirtual 149, 3) := by decide +kernel
theorem dX7_findInPile_11 : decode cX7_findInPile 11 = .ok (.iconst 0, 1) := by decide +kernel
theorem dX7_findInPile_12 : decode cX7_findInPile 12 = .ok (.istore 5, 2) := by decide +kernel
theorem dX7_findInPile_14 : decode cX7_findInPile 14 = .ok (.iload 5, 2) := by decide +kernel
theorem dX7_findInPile_16 : decode cX7_findInPile 16 = .ok (.bipush 8, 2) := by decide +kernel
theorem dX7_findInPile_18 : decode cX7_findInPile 18 = .ok (.if_icmp .ge 52, 3) := by decide +kernel
theorem dX7_findInPile_21 : decode cX7_findInPile 21 = .ok (.aload_n 1, 1) := by decide +kernel
theorem dX7_findInPile_22 : decode cX7_findInPile 22 = .ok (.aload_n 0, 1) := by decide +kernel
theorem dX7_findInPile_23 : decode cX7_findInPile 23 = .ok (.getfield 32, 3) := by decide +kernel
theorem dX7_findInPile_26 : decode cX7_findInPile 26 = .ok (.iload 5, 2) := by decide +kernel
theorem dX7_findInPile_28 : decode cX7_findInPile 28 = .ok (.invokevirtual 153, 3) := by decide +kernel
theorem dX7_findInPile_31 : decode cX7_findInPile 31 = .ok (.invokevirtual 185, 3) := by decide +kernel
theorem dX7_findInPile_34 : decode cX7_findInPile 34 = .ok (.astore 6, 2) := by decide +kernel
theorem dX7_findInPile_36 : decode cX7_findInPile 36 = .ok (.aload 6, 2) := by decide +kernel
theorem dX7_findInPile_38 : decode cX7_findInPile 38 = .ok (.ifnull 26, 3) := by decide +kernel
theorem dX7_findInPile_41 : decode cX7_findInPile 41 = .ok (.aload 6, 2) := by decide +kernel
theorem dX7_findInPile_43 : decode cX7_findInPile 43 = .ok (.getfield 278, 3) := by decide +kernel
theorem dX7_findInPile_46 : decode cX7_findInPile 46 = .ok (.ifCond .ne 18, 3) := by decide +kernel
theorem dX7_findInPile_49 : decode cX7_findInPile 49 = .ok (.aload 6, 2) := by decide +kernel
theorem dX7_findInPile_51 : decode cX7_findInPile 51 = .ok (.iload_n 2, 1) := by decide +kernel
theorem dX7_findInPile_52 : decode cX7_findInPile 52 = .ok (.iload_n 3, 1) := by decide +kernel
theorem dX7_findInPile_53 : decode cX7_findInPile 53 = .ok (.iload 4, 2) := by decide +kernel
theorem dX7_findInPile_55 : decode cX7_findInPile 55 = .ok (.invokevirtual 281, 3) := by decide +kernel
theorem dX7_findInPile_58 : decode cX7_findInPile 58 = .ok (.ifCond .eq 6, 3) := by decide +kernel
theorem dX7_findInPile_61 : decode cX7_findInPile 61 = .ok (.aload 6, 2) := by decide +kernel
theorem dX7_findInPile_63 : decode cX7_findInPile 63 = .ok (.areturn, 1) := by decide +kernel
theorem dX7_findInPile_64 : decode cX7_findInPile 64 = .ok (.iinc 5 1, 3) := by decide +kernel
theorem dX7_findInPile_67 : decode cX7_findInPile 67 = .ok (.goto (-53), 3) := by decide +kernel
theorem dX7_findInPile_70 : decode cX7_findInPile 70 = .ok (.aconst_null, 1) := by decide +kernel
theorem dX7_findInPile_71 : decode cX7_findInPile 71 = .ok (.areturn, 1) := by decide +kernel
