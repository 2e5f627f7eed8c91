theorem dL_addBook_0 : decode cL_addBook 0 = .ok (.aload_n 1, 1) := by decide +kernel
theorem dL_addBook_1 : decode cL_addBook 1 = .ok (.iconst 0, 1) := by decide +kernel
theorem dL_addBook_2 : decode cL_addBook 2 = .ok (.aload_n 0, 1) := by decide +kernel
theorem dL_addBook_3 : decode cL_addBook 3 = .ok (.invokevirtual 7, 3) := by decide +kernel
theorem dL_addBook_6 : decode cL_addBook 6 = .ok (.i2l, 1) := by decide +kernel
theorem dL_addBook_7 : decode cL_addBook 7 = .ok (.lastore, 1) := by decide +kernel
theorem dL_addBook_8 : decode cL_addBook 8 = .ok (.goto 6, 3) := by decide +kernel
theorem dL_addBook_11 : decode cL_addBook 11 = .ok (.astore_n 2, 1) := by decide +kernel
theorem dL_addBook_12 : decode cL_addBook 12 = .ok (.iconst 1, 1) := by decide +kernel
theorem dL_addBook_13 : decode cL_addBook 13 = .ok (.ireturn, 1) := by decide +kernel
theorem dL_addBook_14 : decode cL_addBook 14 = .ok (.iconst 0, 1) := by decide +kernel
theorem dL_addBook_15 : decode cL_addBook 15 = .ok (.ireturn, 1) := by decide +kernel
theorem dL_draw_0 : decode cL_draw 0 = .ok (.aload 6, 2) := by decide +kernel
theorem dL_draw_2 : decode cL_draw 2 = .ok (.iconst 0, 1) := by decide +kernel
theorem dL_draw_3 : decode cL_draw 3 = .ok (.aload_n 0, 1) := by decide +kernel
theorem dL_draw_4 : decode cL_draw 4 = .ok (.iload_n 1, 1) := by decide +kernel
theorem dL_draw_5 : decode cL_draw 5 = .ok (.iload_n 2, 1) := by decide +kernel
theorem dL_draw_6 : decode cL_draw 6 = .ok (.iload_n 3, 1) := by decide +kernel
theorem dL_draw_7 : decode cL_draw 7 = .ok (.iload 4, 2) := by decide +kernel
theorem dL_draw_9 : decode cL_draw 9 = .ok (.iload 5, 2) := by decide +kernel
theorem dL_draw_11 : decode cL_draw 11 = .ok (.invokevirtual 15, 3) := by decide +kernel
theorem dL_draw_14 : decode cL_draw 14 = .ok (.i2l, 1) := by decide +kernel
theorem dL_draw_15 : decode cL_draw 15 = .ok (.lastore, 1) := by decide +kernel
theorem dL_draw_16 : decode cL_draw 16 = .ok (.goto 15, 3) := by decide +kernel
theorem dL_draw_19 : decode cL_draw 19 = .ok (.astore 7, 2) := by decide +kernel
theorem dL_draw_21 : decode cL_draw 21 = .ok (.iconst 1, 1) := by decide +kernel
theorem dL_draw_22 : decode cL_draw 22 = .ok (.ireturn, 1) := by decide +kernel
theorem dL_draw_23 : decode cL_draw 23 = .ok (.astore 7, 2) := by decide +kernel
theorem dL_draw_25 : decode cL_draw 25 = .ok (.iconst 2, 1) := by decide +kernel
theorem dL_draw_26 : decode cL_draw 26 = .ok (.ireturn, 1) := by decide +kernel
theorem dL_draw_27 : decode cL_draw 27 = .ok (.astore 7, 2) := by decide +kernel
theorem dL_draw_29 : decode cL_draw 29 = .ok (.iconst 3, 1) := by decide +kernel
theorem dL_draw_30 : decode cL_draw 30 = .ok (.ireturn, 1) := by decide +kernel
theorem dL_draw_31 : decode cL_draw 31 = .ok (.iconst 0, 1) := by decide +kernel
theorem dL_draw_32 : decode cL_draw 32 = .ok (.ireturn, 1) := by decide +kernel
theorem dL_erase_0 : decode cL_erase 0 = .ok (.aload_n 3, 1) := by decide +kernel
theorem dL_erase_1 : decode cL_erase 1 = .ok (.iconst 0, 1) := by decide +kernel
theorem dL_erase_2 : decode cL_erase 2 = .ok (.aload_n 0, 1) := by decide +kernel
theorem dL_erase_3 : decode cL_erase 3 = .ok (.iload_n 1, 1) := by decide +kernel
theorem dL_erase_4 : decode cL_erase 4 = .ok (.iload_n 2, 1) := by decide +kernel
theorem dL_erase_5 : decode cL_erase 5 = .ok (.invokevirtual 23, 3) := by decide +kernel
theorem dL_erase_8 : decode cL_erase 8 = .ok (.i2l, 1) := by decide +kernel
theorem dL_erase_9 : decode cL_erase 9 = .ok (.lastore, 1) := by decide +kernel
theorem dL_erase_10 : decode cL_erase 10 = .ok (.goto 7, 3) := by decide +kernel
theorem dL_erase_13 : decode cL_erase 13 = .ok (.astore 4, 2) := by decide +kernel
theorem dL_erase_15 : decode cL_erase 15 = .ok (.iconst 1, 1) := by decide +kernel
theorem dL_erase_16 : decode cL_erase 16 = .ok (.ireturn, 1) := by decide +kernel
theorem dL_erase_17 : decode cL_erase 17 = .ok (.iconst 0, 1) := by decide +kernel
theorem dL_erase_18 : decode cL_erase 18 = .ok (.ireturn, 1) := by decide +kernel
theorem dL_move_0 : decode cL_move 0 = .ok (.aload 4, 2) := by decide +kernel
theorem dL_move_2 : decode cL_move 2 = .ok (.iconst 0, 1) := by decide +kernel
theorem dL_move_3 : decode cL_move 3 = .ok (.aload_n 0, 1) := by decide +kernel
theorem dL_move_4 : decode cL_move 4 = .ok (.iload_n 1, 1) := by decide +kernel
theorem dL_move_5 : decode cL_move 5 = .ok (.iload_n 2, 1) := by decide +kernel
theorem dL_move_6 : decode cL_move 6 = .ok (.iload_n 3, 1) := by decide +kernel
theorem dL_move_7 : decode cL_move 7 = .ok (.invokevirtual 27, 3) := by decide +kernel
theorem dL_move_10 : decode cL_move 10 = .ok (.i2l, 1) := by decide +kernel
theorem dL_move_11 : decode cL_move 11 = .ok (.lastore, 1) := by decide +kernel
theorem dL_move_12 : decode cL_move 12 = .ok (.goto 11, 3) := by decide +kernel
theorem dL_move_15 : decode cL_move 15 = .ok (.astore 5, 2) := by decide +kernel
theorem dL_move_17 : decode cL_move 17 = .ok (.iconst 1, 1) := by decide +kernel
theorem dL_move_18 : decode cL_move 18 = .ok (.ireturn, 1) := by decide +kernel
theorem dL_move_19 : decode cL_move 19 = .ok (.astore 5, 2) := by decide +kernel
theorem dL_move_21 : decode cL_move 21 = .ok (.iconst 2, 1) := by decide +kernel
theorem dL_move_22 : decode cL_move 22 = .ok (.ireturn, 1) := by decide +kernel
theorem dL_move_23 : decode cL_move 23 = .ok (.iconst 0, 1) := by decide +kernel
theorem dL_move_24 : decode cL_move 24 = .ok (.ireturn, 1) := by decide +kernel
theorem dL_frames_0 : decode cL_frames 0 = .ok (.aload_n 2, 1) := by decide +kernel
theorem dL_frames_1 : decode cL_frames 1 = .ok (.iconst 0, 1) := by decide +kernel
theorem dL_frames_2 : decode cL_frames 2 = .ok (.aload_n 0, 1) := by decide +kernel
theorem dL_frames_3 : decode cL_frames 3 = .ok (.iload_n 1, 1) := by decide +kernel
theorem dL_frames_4 : decode cL_frames 4 = .ok (.invokevirtual 31, 3) := by decide +kernel
theorem dL_frames_7 : decode cL_frames 7 = .ok (.i2l, 1) := by decide +kernel
theorem dL_frames_8 : decode cL_frames 8 = .ok (.lastore, 1) := by decide +kernel
theorem dL_frames_9 : decode cL_frames 9 = .ok (.goto 6, 3) := by decide +kernel
theorem dL_frames_12 : decode cL_frames 12 = .ok (.astore_n 3, 1) := by decide +kernel
theorem dL_frames_13 : decode cL_frames 13 = .ok (.iconst 1, 1) := by decide +kernel
theorem dL_frames_14 : decode cL_frames 14 = .ok (.ireturn, 1) := by decide +kernel
theorem dL_frames_15 : decode cL_frames 15 = .ok (.iconst 0, 1) := by decide +kernel
theorem dL_frames_16 : decode cL_frames 16 = .ok (.ireturn, 1) := by decide +kernel
theorem dL_frameAt_0 : decode cL_frameAt 0 = .ok (.aload_n 3, 1) := by decide +kernel
theorem dL_frameAt_1 : decode cL_frameAt 1 = .ok (.iconst 0, 1) := by decide +kernel
theorem dL_frameAt_2 : decode cL_frameAt 2 = .ok (.aload_n 0, 1) := by decide +kernel
theorem dL_frameAt_3 : decode cL_frameAt 3 = .ok (.iload_n 1, 1) := by decide +kernel
theorem dL_frameAt_4 : decode cL_frameAt 4 = .ok (.iload_n 2, 1) := by decide +kernel
theorem dL_frameAt_5 : decode cL_frameAt 5 = .ok (.invokevirtual 35, 3) := by decide +kernel
theorem dL_frameAt_8 : decode cL_frameAt 8 = .ok (.i2l, 1) := by decide +kernel
theorem dL_frameAt_9 : decode cL_frameAt 9 = .ok (.lastore, 1) := by decide +kernel
theorem dL_frameAt_10 : decode cL_frameAt 10 = .ok (.goto 7, 3) := by decide +kernel
theorem dL_frameAt_13 : decode cL_frameAt 13 = .ok (.astore 4, 2) := by decide +kernel
theorem dL_frameAt_15 : decode cL_frameAt 15 = .ok (.iconst 1, 1) := by decide +kernel
theorem dL_frameAt_16 : decode cL_frameAt 16 = .ok (.ireturn, 1) := by decide +kernel
theorem dL_frameAt_17 : decode cL_frameAt 17 = .ok (.iconst 0, 1) := by decide +kernel
theorem dL_frameAt_18 : decode cL_frameAt 18 = .ok (.ireturn, 1) := by decide +kernel
theorem dL_order_0 : decode cL_order 0 = .ok (.aload_n 3, 1) := by decide +kernel
theorem dL_order_1 : decode cL_order 1 = .ok (.iconst 0, 1) := by decide +kernel
theorem dL_order_2 : decode cL_order 2 = .ok (.aload_n 0, 1) := by decide +kernel
theorem dL_order_3 : decode cL_order 3 = .ok (.iload_n 1, 1) := by decide +kernel
theorem dL_order_4 : decode cL_order 4 = .ok (.iload_n 2, 1) := by decide +kernel
theorem dL_order_5 : decode cL_order 5 = .ok (.invokevirtual 38, 3) := by decide +kernel
theorem dL_order_8 : decode cL_order 8 = .ok (.i2l, 1) := by decide +kernel
theorem dL_order_9 : decode cL_order 9 = .ok (.lastore, 1) := by decide +kernel
theorem dL_order_10 : decode cL_order 10 = .ok (.goto 15, 3) := by decide +kernel
theorem dL_order_13 : decode cL_order 13 = .ok (.astore 4, 2) := by decide +kernel
theorem dL_order_15 : decode cL_order 15 = .ok (.iconst 1, 1) := by decide +kernel
theorem dL_order_16 : decode cL_order 16 = .ok (.ireturn, 1) := by decide +kernel
theorem dL_order_17 : decode cL_order 17 = .ok (.astore 4, 2) := by decide +kernel
theorem dL_order_19 : decode cL_order 19 = .ok (.iconst 2, 1) := by decide +kernel
theorem dL_order_20 : decode cL_order 20 = .ok (.ireturn, 1) := by decide +kernel
theorem dL_order_21 : decode cL_order 21 = .ok (.astore 4, 2) := by decide +kernel
theorem dL_order_23 : decode cL_order 23 = .ok (.iconst 3, 1) := by decide +kernel
theorem dL_order_24 : decode cL_order 24 = .ok (.ireturn, 1) := by decide +kernel
theorem dL_order_25 : decode cL_order 25 = .ok (.iconst 0, 1) := by decide +kernel
theorem dL_order_26 : decode cL_order 26 = .ok (.ireturn, 1) := by decide +kernel
theorem dL_lacking_0 : decode cL_lacking 0 = .ok (.aload_n 2, 1) := by decide +kernel
theorem dL_lacking_1 : decode cL_lacking 1 = .ok (.iconst 0, 1) := by decide +kernel
theorem dL_lacking_2 : decode cL_lacking 2 = .ok (.aload_n 0, 1) := by decide +kernel
theorem dL_lacking_3 : decode cL_lacking 3 = .ok (.iload_n 1, 1) := by decide +kernel
theorem dL_lacking_4 : decode cL_lacking 4 = .ok (.invokevirtual 41, 3) := by decide +kernel
theorem dL_lacking_7 : decode cL_lacking 7 = .ok (.i2l, 1) := by decide +kernel
theorem dL_lacking_8 : decode cL_lacking 8 = .ok (.lastore, 1) := by decide +kernel
theorem dL_lacking_9 : decode cL_lacking 9 = .ok (.goto 6, 3) := by decide +kernel
theorem dL_lacking_12 : decode cL_lacking 12 = .ok (.astore_n 3, 1) := by decide +kernel
theorem dL_lacking_13 : decode cL_lacking 13 = .ok (.iconst 1, 1) := by decide +kernel
theorem dL_lacking_14 : decode cL_lacking 14 = .ok (.ireturn, 1) := by decide +kernel
theorem dL_lacking_15 : decode cL_lacking 15 = .ok (.iconst 0, 1) := by decide +kernel
theorem dL_lacking_16 : decode cL_lacking 16 = .ok (.ireturn, 1) := by decide +kernel
theorem dL_waits_0 : decode cL_waits 0 = .ok (.aload_n 2, 1) := by decide +kernel
theorem dL_waits_1 : decode cL_waits 1 = .ok (.iconst 0, 1) := by decide +kernel
theorem dL_waits_2 : decode cL_waits 2 = .ok (.aload_n 0, 1) := by decide +kernel
theorem dL_waits_3 : decode cL_waits 3 = .ok (.iload_n 1, 1) := by decide +kernel
theorem dL_waits_4 : decode cL_waits 4 = .ok (.invokevirtual 44, 3) := by decide +kernel
theorem dL_waits_7 : decode cL_waits 7 = .ok (.i2l, 1) := by decide +kernel
theorem dL_waits_8 : decode cL_waits 8 = .ok (.lastore, 1) := by decide +kernel
theorem dL_waits_9 : decode cL_waits 9 = .ok (.goto 6, 3) := by decide +kernel
theorem dL_waits_12 : decode cL_waits 12 = .ok (.astore_n 3, 1) := by decide +kernel
theorem dL_waits_13 : decode cL_waits 13 = .ok (.iconst 1, 1) := by decide +kernel
theorem dL_waits_14 : decode cL_waits 14 = .ok (.ireturn, 1) := by decide +kernel
theorem dL_waits_15 : decode cL_waits 15 = .ok (.iconst 0, 1) := by decide +kernel
theorem dL_waits_16 : decode cL_waits 16 = .ok (.ireturn, 1) := by decide +kernel
theorem dL_setFolds_0 : decode cL_setFolds 0 = .ok (.aload_n 0, 1) := by decide +kernel
theorem dL_setFolds_1 : decode cL_setFolds 1 = .ok (.iload_n 1, 1) := by decide +kernel
theorem dL_setFolds_2 : decode cL_setFolds 2 = .ok (.iload_n 2, 1) := by decide +kernel
theorem dL_setFolds_3 : decode cL_setFolds 3 = .ok (.iload_n 3, 1) := by decide +kernel
theorem dL_setFolds_4 : decode cL_setFolds 4 = .ok (.invokevirtual 47, 3) := by decide +kernel
theorem dL_setFolds_7 : decode cL_setFolds 7 = .ok (.goto 7, 3) := by decide +kernel
theorem dL_setFolds_10 : decode cL_setFolds 10 = .ok (.astore 4, 2) := by decide +kernel
theorem dL_setFolds_12 : decode cL_setFolds 12 = .ok (.iconst 1, 1) := by decide +kernel
theorem dL_setFolds_13 : decode cL_setFolds 13 = .ok (.ireturn, 1) := by decide +kernel
theorem dL_setFolds_14 : decode cL_setFolds 14 = .ok (.iconst 0, 1) := by decide +kernel
theorem dL_setFolds_15 : decode cL_setFolds 15 = .ok (.ireturn, 1) := by decide +kernel
theorem dL_cellOf_0 : decode cL_cellOf 0 = .ok (.aload_n 2, 1) := by decide +kernel
theorem dL_cellOf_1 : decode cL_cellOf 1 = .ok (.iconst 0, 1) := by decide +kernel
theorem dL_cellOf_2 : decode cL_cellOf 2 = .ok (.aload_n 0, 1) := by decide +kernel
theorem dL_cellOf_3 : decode cL_cellOf 3 = .ok (.iload_n 1, 1) := by decide +kernel
theorem dL_cellOf_4 : decode cL_cellOf 4 = .ok (.invokevirtual 51, 3) := by decide +kernel
theorem dL_cellOf_7 : decode cL_cellOf 7 = .ok (.i2l, 1) := by decide +kernel
theorem dL_cellOf_8 : decode cL_cellOf 8 = .ok (.lastore, 1) := by decide +kernel
theorem dL_cellOf_9 : decode cL_cellOf 9 = .ok (.goto 6, 3) := by decide +kernel
theorem dL_cellOf_12 : decode cL_cellOf 12 = .ok (.astore_n 3, 1) := by decide +kernel
theorem dL_cellOf_13 : decode cL_cellOf 13 = .ok (.iconst 1, 1) := by decide +kernel
theorem dL_cellOf_14 : decode cL_cellOf 14 = .ok (.ireturn, 1) := by decide +kernel
theorem dL_cellOf_15 : decode cL_cellOf 15 = .ok (.iconst 0, 1) := by decide +kernel
theorem dL_cellOf_16 : decode cL_cellOf 16 = .ok (.ireturn, 1) := by decide +kernel
theorem dL_placeOf_0 : decode cL_placeOf 0 = .ok (.aload_n 2, 1) := by decide +kernel
theorem dL_placeOf_1 : decode cL_placeOf 1 = .ok (.iconst 0, 1) := by decide +kernel
theorem dL_placeOf_2 : decode cL_placeOf 2 = .ok (.aload_n 0, 1) := by decide +kernel
theorem dL_placeOf_3 : decode cL_placeOf 3 = .ok (.iload_n 1, 1) := by decide +kernel
theorem dL_placeOf_4 : decode cL_placeOf 4 = .ok (.invokevirtual 54, 3) := by decide +kernel
theorem dL_placeOf_7 : decode cL_placeOf 7 = .ok (.i2l, 1) := by decide +kernel
theorem dL_placeOf_8 : decode cL_placeOf 8 = .ok (.lastore, 1) := by decide +kernel
theorem dL_placeOf_9 : decode cL_placeOf 9 = .ok (.goto 6, 3) := by decide +kernel
theorem dL_placeOf_12 : decode cL_placeOf 12 = .ok (.astore_n 3, 1) := by decide +kernel
theorem dL_placeOf_13 : decode cL_placeOf 13 = .ok (.iconst 1, 1) := by decide +kernel
theorem dL_placeOf_14 : decode cL_placeOf 14 = .ok (.ireturn, 1) := by decide +kernel
theorem dL_placeOf_15 : decode cL_placeOf 15 = .ok (.iconst 0, 1) := by decide +kernel
theorem dL_placeOf_16 : decode cL_placeOf 16 = .ok (.ireturn, 1) := by decide +kernel
theorem dL_print_0 : decode cL_print 0 = .ok (.aload_n 2, 1) := by decide +kernel
theorem dL_print_1 : decode cL_print 1 = .ok (.iconst 0, 1) := by decide +kernel
theorem dL_print_2 : decode cL_print 2 = .ok (.aload_n 0, 1) := by decide +kernel
theorem dL_print_3 : decode cL_print 3 = .ok (.iload_n 1, 1) := by decide +kernel
theorem dL_print_4 : decode cL_print 4 = .ok (.invokevirtual 57, 3) := by decide +kernel
theorem dL_print_7 : decode cL_print 7 = .ok (.i2l, 1) := by decide +kernel
theorem dL_print_8 : decode cL_print 8 = .ok (.lastore, 1) := by decide +kernel
theorem dL_print_9 : decode cL_print 9 = .ok (.goto 9, 3) := by decide +kernel
theorem dL_print_12 : decode cL_print 12 = .ok (.astore_n 3, 1) := by decide +kernel
theorem dL_print_13 : decode cL_print 13 = .ok (.iconst 1, 1) := by decide +kernel
theorem dL_print_14 : decode cL_print 14 = .ok (.ireturn, 1) := by decide +kernel
theorem dL_print_15 : decode cL_print 15 = .ok (.astore_n 3, 1) := by decide +kernel
theorem dL_print_16 : decode cL_print 16 = .ok (.iconst 2, 1) := by decide +kernel
theorem dL_print_17 : decode cL_print 17 = .ok (.ireturn, 1) := by decide +kernel
theorem dL_print_18 : decode cL_print 18 = .ok (.iconst 0, 1) := by decide +kernel
theorem dL_print_19 : decode cL_print 19 = .ok (.ireturn, 1) := by decide +kernel
theorem dL_onSheet_0 : decode cL_onSheet 0 = .ok (.aload_n 3, 1) := by decide +kernel
theorem dL_onSheet_1 : decode cL_onSheet 1 = .ok (.iconst 0, 1) := by decide +kernel
theorem dL_onSheet_2 : decode cL_onSheet 2 = .ok (.aload_n 0, 1) := by decide +kernel
theorem dL_onSheet_3 : decode cL_onSheet 3 = .ok (.iload_n 1, 1) := by decide +kernel
theorem dL_onSheet_4 : decode cL_onSheet 4 = .ok (.iload_n 2, 1) := by decide +kernel
theorem dL_onSheet_5 : decode cL_onSheet 5 = .ok (.invokevirtual 60, 3) := by decide +kernel
theorem dL_onSheet_8 : decode cL_onSheet 8 = .ok (.i2l, 1) := by decide +kernel
theorem dL_onSheet_9 : decode cL_onSheet 9 = .ok (.lastore, 1) := by decide +kernel
theorem dL_onSheet_10 : decode cL_onSheet 10 = .ok (.goto 11, 3) := by decide +kernel
theorem dL_onSheet_13 : decode cL_onSheet 13 = .ok (.astore 4, 2) := by decide +kernel
theorem dL_onSheet_15 : decode cL_onSheet 15 = .ok (.iconst 1, 1) := by decide +kernel
theorem dL_onSheet_16 : decode cL_onSheet 16 = .ok (.ireturn, 1) := by decide +kernel
theorem dL_onSheet_17 : decode cL_onSheet 17 = .ok (.astore 4, 2) := by decide +kernel
theorem dL_onSheet_19 : decode cL_onSheet 19 = .ok (.iconst 2, 1) := by decide +kernel
theorem dL_onSheet_20 : decode cL_onSheet 20 = .ok (.ireturn, 1) := by decide +kernel
theorem dL_onSheet_21 : decode cL_onSheet 21 = .ok (.iconst 0, 1) := by decide +kernel
theorem dL_onSheet_22 : decode cL_onSheet 22 = .ok (.ireturn, 1) := by decide +kernel
theorem dL_cut_0 : decode cL_cut 0 = .ok (.aload_n 2, 1) := by decide +kernel
theorem dL_cut_1 : decode cL_cut 1 = .ok (.iconst 0, 1) := by decide +kernel
theorem dL_cut_2 : decode cL_cut 2 = .ok (.aload_n 0, 1) := by decide +kernel
theorem dL_cut_3 : decode cL_cut 3 = .ok (.iload_n 1, 1) := by decide +kernel
theorem dL_cut_4 : decode cL_cut 4 = .ok (.invokevirtual 65, 3) := by decide +kernel
theorem dL_cut_7 : decode cL_cut 7 = .ok (.i2l, 1) := by decide +kernel
theorem dL_cut_8 : decode cL_cut 8 = .ok (.lastore, 1) := by decide +kernel
theorem dL_cut_9 : decode cL_cut 9 = .ok (.goto 9, 3) := by decide +kernel
theorem dL_cut_12 : decode cL_cut 12 = .ok (.astore_n 3, 1) := by decide +kernel
theorem dL_cut_13 : decode cL_cut 13 = .ok (.iconst 1, 1) := by decide +kernel
theorem dL_cut_14 : decode cL_cut 14 = .ok (.ireturn, 1) := by decide +kernel
theorem dL_cut_15 : decode cL_cut 15 = .ok (.astore_n 3, 1) := by decide +kernel
theorem dL_cut_16 : decode cL_cut 16 = .ok (.iconst 2, 1) := by decide +kernel
theorem dL_cut_17 : decode cL_cut 17 = .ok (.ireturn, 1) := by decide +kernel
theorem dL_cut_18 : decode cL_cut 18 = .ok (.iconst 0, 1) := by decide +kernel
theorem dL_cut_19 : decode cL_cut 19 = .ok (.ireturn, 1) := by decide +kernel
theorem dL_sharpen_0 : decode cL_sharpen 0 = .ok (.aload_n 2, 1) := by decide +kernel
theorem dL_sharpen_1 : decode cL_sharpen 1 = .ok (.iconst 0, 1) := by decide +kernel
theorem dL_sharpen_2 : decode cL_sharpen 2 = .ok (.aload_n 0, 1) := by decide +kernel
theorem dL_sharpen_3 : decode cL_sharpen 3 = .ok (.iload_n 1, 1) := by decide +kernel
theorem dL_sharpen_4 : decode cL_sharpen 4 = .ok (.invokevirtual 68, 3) := by decide +kernel
theorem dL_sharpen_7 : decode cL_sharpen 7 = .ok (.i2l, 1) := by decide +kernel
theorem dL_sharpen_8 : decode cL_sharpen 8 = .ok (.lastore, 1) := by decide +kernel
theorem dL_sharpen_9 : decode cL_sharpen 9 = .ok (.goto 6, 3) := by decide +kernel
theorem dL_sharpen_12 : decode cL_sharpen 12 = .ok (.astore_n 3, 1) := by decide +kernel
theorem dL_sharpen_13 : decode cL_sharpen 13 = .ok (.iconst 1, 1) := by decide +kernel
theorem dL_sharpen_14 : decode cL_sharpen 14 = .ok (.ireturn, 1) := by decide +kernel
theorem dL_sharpen_15 : decode cL_sharpen 15 = .ok (.iconst 0, 1) := by decide +kernel
theorem dL_sharpen_16 : decode cL_sharpen 16 = .ok (.ireturn, 1) := by decide +kernel
theorem dL_setTolerance_0 : decode cL_setTolerance 0 = .ok (.aload_n 2, 1) := by decide +kernel
theorem dL_setTolerance_1 : decode cL_setTolerance 1 = .ok (.iconst 0, 1) := by decide +kernel
theorem dL_setTolerance_2 : decode cL_setTolerance 2 = .ok (.aload_n 0, 1) := by decide +kernel
theorem dL_setTolerance_3 : decode cL_setTolerance 3 = .ok (.iload_n 1, 1) := by decide +kernel
theorem dL_setTolerance_4 : decode cL_setTolerance 4 = .ok (.invokevirtual 71, 3) := by decide +kernel
theorem dL_setTolerance_7 : decode cL_setTolerance 7 = .ok (.i2l, 1) := by decide +kernel
theorem dL_setTolerance_8 : decode cL_setTolerance 8 = .ok (.lastore, 1) := by decide +kernel
theorem dL_setTolerance_9 : decode cL_setTolerance 9 = .ok (.goto 6, 3) := by decide +kernel
theorem dL_setTolerance_12 : decode cL_setTolerance 12 = .ok (.astore_n 3, 1) := by decide +kernel
theorem dL_setTolerance_13 : decode cL_setTolerance 13 = .ok (.iconst 1, 1) := by decide +kernel
theorem dL_setTolerance_14 : decode cL_setTolerance 14 = .ok (.ireturn, 1) := by decide +kernel
theorem dL_setTolerance_15 : decode cL_setTolerance 15 = .ok (.iconst 0, 1) := by decide +kernel
theorem dL_setTolerance_16 : decode cL_setTolerance 16 = .ok (.ireturn, 1) := by decide +kernel
theorem dL_bind_0 : decode cL_bind 0 = .ok (.aload_n 3, 1) := by decide +kernel
theorem dL_bind_1 : decode cL_bind 1 = .ok (.iconst 0, 1) := by decide +kernel
theorem dL_bind_2 : decode cL_bind 2 = .ok (.aload_n 0, 1) := by decide +kernel
theorem dL_bind_3 : decode cL_bind 3 = .ok (.iload_n 1, 1) := by decide +kernel
theorem dL_bind_4 : decode cL_bind 4 = .ok (.iload_n 2, 1) := by decide +kernel
theorem dL_bind_5 : decode cL_bind 5 = .ok (.invokevirtual 74, 3) := by decide +kernel
theorem dL_bind_8 : decode cL_bind 8 = .ok (.i2l, 1) := by decide +kernel
theorem dL_bind_9 : decode cL_bind 9 = .ok (.lastore, 1) := by decide +kernel
theorem dL_bind_10 : decode cL_bind 10 = .ok (.goto 11, 3) := by decide +kernel
theorem dL_bind_13 : decode cL_bind 13 = .ok (.astore 4, 2) := by decide +kernel
theorem dL_bind_15 : decode cL_bind 15 = .ok (.iconst 1, 1) := by decide +kernel
theorem dL_bind_16 : decode cL_bind 16 = .ok (.ireturn, 1) := by decide +kernel
theorem dL_bind_17 : decode cL_bind 17 = .ok (.astore 4, 2) := by decide +kernel
theorem dL_bind_19 : decode cL_bind 19 = .ok (.iconst 2, 1) := by decide +kernel
theorem dL_bind_20 : decode cL_bind 20 = .ok (.ireturn, 1) := by decide +kernel
theorem dL_bind_21 : decode cL_bind 21 = .ok (.iconst 0, 1) := by decide +kernel
theorem dL_bind_22 : decode cL_bind 22 = .ok (.ireturn, 1) := by decide +kernel
theorem dL_isBound_0 : decode cL_isBound 0 = .ok (.aload_n 3, 1) := by decide +kernel
theorem dL_isBound_1 : decode cL_isBound 1 = .ok (.iconst 0, 1) := by decide +kernel
theorem dL_isBound_2 : decode cL_isBound 2 = .ok (.aload_n 0, 1) := by decide +kernel
theorem dL_isBound_3 : decode cL_isBound 3 = .ok (.iload_n 1, 1) := by decide +kernel
theorem dL_isBound_4 : decode cL_isBound 4 = .ok (.iload_n 2, 1) := by decide +kernel
theorem dL_isBound_5 : decode cL_isBound 5 = .ok (.invokevirtual 77, 3) := by decide +kernel
theorem dL_isBound_8 : decode cL_isBound 8 = .ok (.ifCond .eq 7, 3) := by decide +kernel
theorem dL_isBound_11 : decode cL_isBound 11 = .ok (.lconst 1, 1) := by decide +kernel
theorem dL_isBound_12 : decode cL_isBound 12 = .ok (.goto 4, 3) := by decide +kernel
theorem dL_isBound_15 : decode cL_isBound 15 = .ok (.lconst 0, 1) := by decide +kernel
theorem dL_isBound_16 : decode cL_isBound 16 = .ok (.lastore, 1) := by decide +kernel
theorem dL_isBound_17 : decode cL_isBound 17 = .ok (.goto 7, 3) := by decide +kernel
theorem dL_isBound_20 : decode cL_isBound 20 = .ok (.astore 4, 2) := by decide +kernel
theorem dL_isBound_22 : decode cL_isBound 22 = .ok (.iconst 1, 1) := by decide +kernel
theorem dL_isBound_23 : decode cL_isBound 23 = .ok (.ireturn, 1) := by decide +kernel
theorem dL_isBound_24 : decode cL_isBound 24 = .ok (.iconst 0, 1) := by decide +kernel
theorem dL_isBound_25 : decode cL_isBound 25 = .ok (.ireturn, 1) := by decide +kernel
theorem dL_trim_0 : decode cL_trim 0 = .ok (.aload 4, 2) := by decide +kernel
theorem dL_trim_2 : decode cL_trim 2 = .ok (.iconst 0, 1) := by decide +kernel
theorem dL_trim_3 : decode cL_trim 3 = .ok (.aload_n 0, 1) := by decide +kernel
theorem dL_trim_4 : decode cL_trim 4 = .ok (.iload_n 1, 1) := by decide +kernel
theorem dL_trim_5 : decode cL_trim 5 = .ok (.iload_n 2, 1) := by decide +kernel
theorem dL_trim_6 : decode cL_trim 6 = .ok (.iload_n 3, 1) := by decide +kernel
theorem dL_trim_7 : decode cL_trim 7 = .ok (.invokevirtual 81, 3) := by decide +kernel
theorem dL_trim_10 : decode cL_trim 10 = .ok (.i2l, 1) := by decide +kernel
theorem dL_trim_11 : decode cL_trim 11 = .ok (.lastore, 1) := by decide +kernel
theorem dL_trim_12 : decode cL_trim 12 = .ok (.goto 7, 3) := by decide +kernel
theorem dL_trim_15 : decode cL_trim 15 = .ok (.astore 5, 2) := by decide +kernel
theorem dL_trim_17 : decode cL_trim 17 = .ok (.iconst 1, 1) := by decide +kernel
theorem dL_trim_18 : decode cL_trim 18 = .ok (.ireturn, 1) := by decide +kernel
theorem dL_trim_19 : decode cL_trim 19 = .ok (.iconst 0, 1) := by decide +kernel
theorem dL_trim_20 : decode cL_trim 20 = .ok (.ireturn, 1) := by decide +kernel
theorem dL_leaf_0 : decode cL_leaf 0 = .ok (.aload 4, 2) := by decide +kernel
theorem dL_leaf_2 : decode cL_leaf 2 = .ok (.iconst 0, 1) := by decide +kernel
theorem dL_leaf_3 : decode cL_leaf 3 = .ok (.aload_n 0, 1) := by decide +kernel
theorem dL_leaf_4 : decode cL_leaf 4 = .ok (.iload_n 1, 1) := by decide +kernel
theorem dL_leaf_5 : decode cL_leaf 5 = .ok (.iload_n 2, 1) := by decide +kernel
theorem dL_leaf_6 : decode cL_leaf 6 = .ok (.iload_n 3, 1) := by decide +kernel
theorem dL_leaf_7 : decode cL_leaf 7 = .ok (.invokevirtual 84, 3) := by decide +kernel
theorem dL_leaf_10 : decode cL_leaf 10 = .ok (.i2l, 1) := by decide +kernel
theorem dL_leaf_11 : decode cL_leaf 11 = .ok (.lastore, 1) := by decide +kernel
theorem dL_leaf_12 : decode cL_leaf 12 = .ok (.goto 7, 3) := by decide +kernel
theorem dL_leaf_15 : decode cL_leaf 15 = .ok (.astore 5, 2) := by decide +kernel
theorem dL_leaf_17 : decode cL_leaf 17 = .ok (.iconst 1, 1) := by decide +kernel
theorem dL_leaf_18 : decode cL_leaf 18 = .ok (.ireturn, 1) := by decide +kernel
theorem dL_leaf_19 : decode cL_leaf 19 = .ok (.iconst 0, 1) := by decide +kernel
theorem dL_leaf_20 : decode cL_leaf 20 = .ok (.ireturn, 1) := by decide +kernel
theorem dL_leafByPiles_0 : decode cL_leafByPiles 0 = .ok (.aload 4, 2) := by decide +kernel
theorem dL_leafByPiles_2 : decode cL_leafByPiles 2 = .ok (.iconst 0, 1) := by decide +kernel
theorem dL_leafByPiles_3 : decode cL_leafByPiles 3 = .ok (.aload_n 0, 1) := by decide +kernel
theorem dL_leafByPiles_4 : decode cL_leafByPiles 4 = .ok (.iload_n 1, 1) := by decide +kernel
theorem dL_leafByPiles_5 : decode cL_leafByPiles 5 = .ok (.iload_n 2, 1) := by decide +kernel
theorem dL_leafByPiles_6 : decode cL_leafByPiles 6 = .ok (.iload_n 3, 1) := by decide +kernel
theorem dL_leafByPiles_7 : decode cL_leafByPiles 7 = .ok (.invokevirtual 87, 3) := by decide +kernel
theorem dL_leafByPiles_10 : decode cL_leafByPiles 10 = .ok (.i2l, 1) := by decide +kernel
theorem dL_leafByPiles_11 : decode cL_leafByPiles 11 = .ok (.lastore, 1) := by decide +kernel
theorem dL_leafByPiles_12 : decode cL_leafByPiles 12 = .ok (.goto 7, 3) := by decide +kernel
theorem dL_leafByPiles_15 : decode cL_leafByPiles 15 = .ok (.astore 5, 2) := by decide +kernel
theorem dL_leafByPiles_17 : decode cL_leafByPiles 17 = .ok (.iconst 1, 1) := by decide +kernel
theorem dL_leafByPiles_18 : decode cL_leafByPiles 18 = .ok (.ireturn, 1) := by decide +kernel
theorem dL_leafByPiles_19 : decode cL_leafByPiles 19 = .ok (.iconst 0, 1) := by decide +kernel
theorem dL_leafByPiles_20 : decode cL_leafByPiles 20 = .ok (.ireturn, 1) := by decide +kernel
