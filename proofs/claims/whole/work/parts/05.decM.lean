theorem dX9_init_0 : decode cX9_init 0 = .ok (.aload_n 0, 1) := by decide +kernel
theorem dX9_init_1 : decode cX9_init 1 = .ok (.invokespecial 1, 3) := by decide +kernel
theorem dX9_init_4 : decode cX9_init 4 = .ok (.aload_n 0, 1) := by decide +kernel
theorem dX9_init_5 : decode cX9_init 5 = .ok (.sipush 475, 3) := by decide +kernel
theorem dX9_init_8 : decode cX9_init 8 = .ok (.newarray .int, 2) := by decide +kernel
theorem dX9_init_10 : decode cX9_init 10 = .ok (.putfield 7, 3) := by decide +kernel
theorem dX9_init_13 : decode cX9_init 13 = .ok (.aload_n 0, 1) := by decide +kernel
theorem dX9_init_14 : decode cX9_init 14 = .ok (.sipush 475, 3) := by decide +kernel
theorem dX9_init_17 : decode cX9_init 17 = .ok (.newarray .int, 2) := by decide +kernel
theorem dX9_init_19 : decode cX9_init 19 = .ok (.putfield 13, 3) := by decide +kernel
theorem dX9_init_22 : decode cX9_init 22 = .ok (.aload_n 0, 1) := by decide +kernel
theorem dX9_init_23 : decode cX9_init 23 = .ok (.sipush 2850, 3) := by decide +kernel
theorem dX9_init_26 : decode cX9_init 26 = .ok (.newarray .int, 2) := by decide +kernel
theorem dX9_init_28 : decode cX9_init 28 = .ok (.putfield 16, 3) := by decide +kernel
theorem dX9_init_31 : decode cX9_init 31 = .ok (.aload_n 0, 1) := by decide +kernel
theorem dX9_init_32 : decode cX9_init 32 = .ok (.sipush 950, 3) := by decide +kernel
theorem dX9_init_35 : decode cX9_init 35 = .ok (.newarray .int, 2) := by decide +kernel
theorem dX9_init_37 : decode cX9_init 37 = .ok (.putfield 19, 3) := by decide +kernel
theorem dX9_init_40 : decode cX9_init 40 = .ok (.aload_n 0, 1) := by decide +kernel
theorem dX9_init_41 : decode cX9_init 41 = .ok (.iconst 2, 1) := by decide +kernel
theorem dX9_init_42 : decode cX9_init 42 = .ok (.newarray .boolean, 2) := by decide +kernel
theorem dX9_init_44 : decode cX9_init 44 = .ok (.putfield 22, 3) := by decide +kernel
theorem dX9_init_47 : decode cX9_init 47 = .ok (.aload_n 0, 1) := by decide +kernel
theorem dX9_init_48 : decode cX9_init 48 = .ok (.bipush 80, 2) := by decide +kernel
theorem dX9_init_50 : decode cX9_init 50 = .ok (.newarray .int, 2) := by decide +kernel
theorem dX9_init_52 : decode cX9_init 52 = .ok (.putfield 26, 3) := by decide +kernel
theorem dX9_init_55 : decode cX9_init 55 = .ok (.aload_n 0, 1) := by decide +kernel
theorem dX9_init_56 : decode cX9_init 56 = .ok (.bipush 123, 2) := by decide +kernel
theorem dX9_init_58 : decode cX9_init 58 = .ok (.newarray .int, 2) := by decide +kernel
theorem dX9_init_60 : decode cX9_init 60 = .ok (.putfield 29, 3) := by decide +kernel
theorem dX9_init_63 : decode cX9_init 63 = .ok (.aload_n 0, 1) := by decide +kernel
theorem dX9_init_64 : decode cX9_init 64 = .ok (.getfield 7, 3) := by decide +kernel
theorem dX9_init_67 : decode cX9_init 67 = .ok (.iconst 0, 1) := by decide +kernel
theorem dX9_init_68 : decode cX9_init 68 = .ok (.iconst 5, 1) := by decide +kernel
theorem dX9_init_69 : decode cX9_init 69 = .ok (.iastore, 1) := by decide +kernel
theorem dX9_init_70 : decode cX9_init 70 = .ok (.aload_n 0, 1) := by decide +kernel
theorem dX9_init_71 : decode cX9_init 71 = .ok (.getfield 7, 3) := by decide +kernel
theorem dX9_init_74 : decode cX9_init 74 = .ok (.iconst 1, 1) := by decide +kernel
theorem dX9_init_75 : decode cX9_init 75 = .ok (.bipush 30, 2) := by decide +kernel
theorem dX9_init_77 : decode cX9_init 77 = .ok (.iastore, 1) := by decide +kernel
theorem dX9_init_78 : decode cX9_init 78 = .ok (.iconst 0, 1) := by decide +kernel
theorem dX9_init_79 : decode cX9_init 79 = .ok (.istore_n 1, 1) := by decide +kernel
theorem dX9_init_80 : decode cX9_init 80 = .ok (.iload_n 1, 1) := by decide +kernel
theorem dX9_init_81 : decode cX9_init 81 = .ok (.bipush 12, 2) := by decide +kernel
theorem dX9_init_83 : decode cX9_init 83 = .ok (.if_icmp .ge 20, 3) := by decide +kernel
theorem dX9_init_86 : decode cX9_init 86 = .ok (.aload_n 0, 1) := by decide +kernel
theorem dX9_init_87 : decode cX9_init 87 = .ok (.getfield 7, 3) := by decide +kernel
theorem dX9_init_90 : decode cX9_init 90 = .ok (.bipush 9, 2) := by decide +kernel
theorem dX9_init_92 : decode cX9_init 92 = .ok (.iload_n 1, 1) := by decide +kernel
theorem dX9_init_93 : decode cX9_init 93 = .ok (.iadd, 1) := by decide +kernel
theorem dX9_init_94 : decode cX9_init 94 = .ok (.bipush (-6), 2) := by decide +kernel
theorem dX9_init_96 : decode cX9_init 96 = .ok (.iastore, 1) := by decide +kernel
theorem dX9_init_97 : decode cX9_init 97 = .ok (.iinc 1 1, 3) := by decide +kernel
theorem dX9_init_100 : decode cX9_init 100 = .ok (.goto (-20), 3) := by decide +kernel
theorem dX9_init_103 : decode cX9_init 103 = .ok (.return_, 1) := by decide +kernel
theorem dX9_in_0 : decode cX9_in 0 = .ok (.iload_n 0, 1) := by decide +kernel
theorem dX9_in_1 : decode cX9_in 1 = .ok (.iload_n 1, 1) := by decide +kernel
theorem dX9_in_2 : decode cX9_in 2 = .ok (.if_icmp .lt 12, 3) := by decide +kernel
theorem dX9_in_5 : decode cX9_in 5 = .ok (.iload_n 0, 1) := by decide +kernel
theorem dX9_in_6 : decode cX9_in 6 = .ok (.iload_n 2, 1) := by decide +kernel
theorem dX9_in_7 : decode cX9_in 7 = .ok (.if_icmp .gt 7, 3) := by decide +kernel
theorem dX9_in_10 : decode cX9_in 10 = .ok (.iconst 1, 1) := by decide +kernel
theorem dX9_in_11 : decode cX9_in 11 = .ok (.goto 4, 3) := by decide +kernel
theorem dX9_in_14 : decode cX9_in 14 = .ok (.iconst 0, 1) := by decide +kernel
theorem dX9_in_15 : decode cX9_in 15 = .ok (.ireturn, 1) := by decide +kernel
theorem dX9_isKey_0 : decode cX9_isKey 0 = .ok (.iload_n 0, 1) := by decide +kernel
theorem dX9_isKey_1 : decode cX9_isKey 1 = .ok (.iconst 0, 1) := by decide +kernel
theorem dX9_isKey_2 : decode cX9_isKey 2 = .ok (.bipush 11, 2) := by decide +kernel
theorem dX9_isKey_4 : decode cX9_isKey 4 = .ok (.invokestatic 32, 3) := by decide +kernel
theorem dX9_isKey_7 : decode cX9_isKey 7 = .ok (.ireturn, 1) := by decide +kernel
theorem dX9_isReader_0 : decode cX9_isReader 0 = .ok (.iload_n 1, 1) := by decide +kernel
theorem dX9_isReader_1 : decode cX9_isReader 1 = .ok (.iconst 0, 1) := by decide +kernel
theorem dX9_isReader_2 : decode cX9_isReader 2 = .ok (.aload_n 0, 1) := by decide +kernel
theorem dX9_isReader_3 : decode cX9_isReader 3 = .ok (.getfield 7, 3) := by decide +kernel
theorem dX9_isReader_6 : decode cX9_isReader 6 = .ok (.bipush 7, 2) := by decide +kernel
theorem dX9_isReader_8 : decode cX9_isReader 8 = .ok (.iaload, 1) := by decide +kernel
theorem dX9_isReader_9 : decode cX9_isReader 9 = .ok (.iconst 1, 1) := by decide +kernel
theorem dX9_isReader_10 : decode cX9_isReader 10 = .ok (.isub, 1) := by decide +kernel
theorem dX9_isReader_11 : decode cX9_isReader 11 = .ok (.invokestatic 32, 3) := by decide +kernel
theorem dX9_isReader_14 : decode cX9_isReader 14 = .ok (.ireturn, 1) := by decide +kernel
theorem dX9_isShot_0 : decode cX9_isShot 0 = .ok (.iload_n 1, 1) := by decide +kernel
theorem dX9_isShot_1 : decode cX9_isShot 1 = .ok (.iconst 0, 1) := by decide +kernel
theorem dX9_isShot_2 : decode cX9_isShot 2 = .ok (.aload_n 0, 1) := by decide +kernel
theorem dX9_isShot_3 : decode cX9_isShot 3 = .ok (.getfield 7, 3) := by decide +kernel
theorem dX9_isShot_6 : decode cX9_isShot 6 = .ok (.bipush 8, 2) := by decide +kernel
theorem dX9_isShot_8 : decode cX9_isShot 8 = .ok (.iaload, 1) := by decide +kernel
theorem dX9_isShot_9 : decode cX9_isShot 9 = .ok (.iconst 1, 1) := by decide +kernel
theorem dX9_isShot_10 : decode cX9_isShot 10 = .ok (.isub, 1) := by decide +kernel
theorem dX9_isShot_11 : decode cX9_isShot 11 = .ok (.invokestatic 32, 3) := by decide +kernel
theorem dX9_isShot_14 : decode cX9_isShot 14 = .ok (.ireturn, 1) := by decide +kernel
theorem dX9_row_0 : decode cX9_row 0 = .ok (.sipush 261, 3) := by decide +kernel
theorem dX9_row_3 : decode cX9_row 3 = .ok (.bipush 27, 2) := by decide +kernel
theorem dX9_row_5 : decode cX9_row 5 = .ok (.iload_n 0, 1) := by decide +kernel
theorem dX9_row_6 : decode cX9_row 6 = .ok (.imul, 1) := by decide +kernel
theorem dX9_row_7 : decode cX9_row 7 = .ok (.iadd, 1) := by decide +kernel
theorem dX9_row_8 : decode cX9_row 8 = .ok (.ireturn, 1) := by decide +kernel
theorem dX9_lays_0 : decode cX9_lays 0 = .ok (.iconst 0, 1) := by decide +kernel
theorem dX9_lays_1 : decode cX9_lays 1 = .ok (.istore 4, 2) := by decide +kernel
theorem dX9_lays_3 : decode cX9_lays 3 = .ok (.iload 4, 2) := by decide +kernel
theorem dX9_lays_5 : decode cX9_lays 5 = .ok (.sipush 475, 3) := by decide +kernel
theorem dX9_lays_8 : decode cX9_lays 8 = .ok (.if_icmp .ge 21, 3) := by decide +kernel
theorem dX9_lays_11 : decode cX9_lays 11 = .ok (.aload_n 2, 1) := by decide +kernel
theorem dX9_lays_12 : decode cX9_lays 12 = .ok (.iload_n 3, 1) := by decide +kernel
theorem dX9_lays_13 : decode cX9_lays 13 = .ok (.iload 4, 2) := by decide +kernel
theorem dX9_lays_15 : decode cX9_lays 15 = .ok (.iadd, 1) := by decide +kernel
theorem dX9_lays_16 : decode cX9_lays 16 = .ok (.aload_n 0, 1) := by decide +kernel
theorem dX9_lays_17 : decode cX9_lays 17 = .ok (.iload_n 1, 1) := by decide +kernel
theorem dX9_lays_18 : decode cX9_lays 18 = .ok (.iload 4, 2) := by decide +kernel
theorem dX9_lays_20 : decode cX9_lays 20 = .ok (.iadd, 1) := by decide +kernel
theorem dX9_lays_21 : decode cX9_lays 21 = .ok (.iaload, 1) := by decide +kernel
theorem dX9_lays_22 : decode cX9_lays 22 = .ok (.iastore, 1) := by decide +kernel
theorem dX9_lays_23 : decode cX9_lays 23 = .ok (.iinc 4 1, 3) := by decide +kernel
theorem dX9_lays_26 : decode cX9_lays 26 = .ok (.goto (-23), 3) := by decide +kernel
theorem dX9_lays_29 : decode cX9_lays 29 = .ok (.return_, 1) := by decide +kernel
theorem dX9_records_0 : decode cX9_records 0 = .ok (.aload_n 0, 1) := by decide +kernel
theorem dX9_records_1 : decode cX9_records 1 = .ok (.getfield 36, 3) := by decide +kernel
theorem dX9_records_4 : decode cX9_records 4 = .ok (.bipush 6, 2) := by decide +kernel
theorem dX9_records_6 : decode cX9_records 6 = .ok (.if_icmp .ne 44, 3) := by decide +kernel
theorem dX9_records_9 : decode cX9_records 9 = .ok (.iconst 0, 1) := by decide +kernel
theorem dX9_records_10 : decode cX9_records 10 = .ok (.istore_n 1, 1) := by decide +kernel
theorem dX9_records_11 : decode cX9_records 11 = .ok (.iload_n 1, 1) := by decide +kernel
theorem dX9_records_12 : decode cX9_records 12 = .ok (.sipush 2375, 3) := by decide +kernel
theorem dX9_records_15 : decode cX9_records 15 = .ok (.if_icmp .ge 25, 3) := by decide +kernel
theorem dX9_records_18 : decode cX9_records 18 = .ok (.aload_n 0, 1) := by decide +kernel
theorem dX9_records_19 : decode cX9_records 19 = .ok (.getfield 16, 3) := by decide +kernel
theorem dX9_records_22 : decode cX9_records 22 = .ok (.iload_n 1, 1) := by decide +kernel
theorem dX9_records_23 : decode cX9_records 23 = .ok (.aload_n 0, 1) := by decide +kernel
theorem dX9_records_24 : decode cX9_records 24 = .ok (.getfield 16, 3) := by decide +kernel
theorem dX9_records_27 : decode cX9_records 27 = .ok (.iload_n 1, 1) := by decide +kernel
theorem dX9_records_28 : decode cX9_records 28 = .ok (.sipush 475, 3) := by decide +kernel
theorem dX9_records_31 : decode cX9_records 31 = .ok (.iadd, 1) := by decide +kernel
theorem dX9_records_32 : decode cX9_records 32 = .ok (.iaload, 1) := by decide +kernel
theorem dX9_records_33 : decode cX9_records 33 = .ok (.iastore, 1) := by decide +kernel
theorem dX9_records_34 : decode cX9_records 34 = .ok (.iinc 1 1, 3) := by decide +kernel
theorem dX9_records_37 : decode cX9_records 37 = .ok (.goto (-26), 3) := by decide +kernel
theorem dX9_records_40 : decode cX9_records 40 = .ok (.aload_n 0, 1) := by decide +kernel
theorem dX9_records_41 : decode cX9_records 41 = .ok (.dup, 1) := by decide +kernel
theorem dX9_records_42 : decode cX9_records 42 = .ok (.getfield 36, 3) := by decide +kernel
theorem dX9_records_45 : decode cX9_records 45 = .ok (.iconst 1, 1) := by decide +kernel
theorem dX9_records_46 : decode cX9_records 46 = .ok (.isub, 1) := by decide +kernel
theorem dX9_records_47 : decode cX9_records 47 = .ok (.putfield 36, 3) := by decide +kernel
theorem dX9_records_50 : decode cX9_records 50 = .ok (.aload_n 0, 1) := by decide +kernel
theorem dX9_records_51 : decode cX9_records 51 = .ok (.getfield 7, 3) := by decide +kernel
theorem dX9_records_54 : decode cX9_records 54 = .ok (.iconst 0, 1) := by decide +kernel
theorem dX9_records_55 : decode cX9_records 55 = .ok (.aload_n 0, 1) := by decide +kernel
theorem dX9_records_56 : decode cX9_records 56 = .ok (.getfield 16, 3) := by decide +kernel
theorem dX9_records_59 : decode cX9_records 59 = .ok (.sipush 475, 3) := by decide +kernel
theorem dX9_records_62 : decode cX9_records 62 = .ok (.aload_n 0, 1) := by decide +kernel
theorem dX9_records_63 : decode cX9_records 63 = .ok (.getfield 36, 3) := by decide +kernel
theorem dX9_records_66 : decode cX9_records 66 = .ok (.imul, 1) := by decide +kernel
theorem dX9_records_67 : decode cX9_records 67 = .ok (.invokestatic 40, 3) := by decide +kernel
theorem dX9_records_70 : decode cX9_records 70 = .ok (.aload_n 0, 1) := by decide +kernel
theorem dX9_records_71 : decode cX9_records 71 = .ok (.dup, 1) := by decide +kernel
theorem dX9_records_72 : decode cX9_records 72 = .ok (.getfield 36, 3) := by decide +kernel
theorem dX9_records_75 : decode cX9_records 75 = .ok (.iconst 1, 1) := by decide +kernel
theorem dX9_records_76 : decode cX9_records 76 = .ok (.iadd, 1) := by decide +kernel
theorem dX9_records_77 : decode cX9_records 77 = .ok (.putfield 36, 3) := by decide +kernel
theorem dX9_records_80 : decode cX9_records 80 = .ok (.return_, 1) := by decide +kernel
theorem dX9_undo_0 : decode cX9_undo 0 = .ok (.aload_n 0, 1) := by decide +kernel
theorem dX9_undo_1 : decode cX9_undo 1 = .ok (.getfield 36, 3) := by decide +kernel
theorem dX9_undo_4 : decode cX9_undo 4 = .ok (.ifCond .ne 6, 3) := by decide +kernel
theorem dX9_undo_7 : decode cX9_undo 7 = .ok (.bipush (-5), 2) := by decide +kernel
theorem dX9_undo_9 : decode cX9_undo 9 = .ok (.ireturn, 1) := by decide +kernel
theorem dX9_undo_10 : decode cX9_undo 10 = .ok (.aload_n 0, 1) := by decide +kernel
theorem dX9_undo_11 : decode cX9_undo 11 = .ok (.dup, 1) := by decide +kernel
theorem dX9_undo_12 : decode cX9_undo 12 = .ok (.getfield 36, 3) := by decide +kernel
theorem dX9_undo_15 : decode cX9_undo 15 = .ok (.iconst 1, 1) := by decide +kernel
theorem dX9_undo_16 : decode cX9_undo 16 = .ok (.isub, 1) := by decide +kernel
theorem dX9_undo_17 : decode cX9_undo 17 = .ok (.putfield 36, 3) := by decide +kernel
theorem dX9_undo_20 : decode cX9_undo 20 = .ok (.aload_n 0, 1) := by decide +kernel
theorem dX9_undo_21 : decode cX9_undo 21 = .ok (.getfield 16, 3) := by decide +kernel
theorem dX9_undo_24 : decode cX9_undo 24 = .ok (.sipush 475, 3) := by decide +kernel
theorem dX9_undo_27 : decode cX9_undo 27 = .ok (.aload_n 0, 1) := by decide +kernel
theorem dX9_undo_28 : decode cX9_undo 28 = .ok (.getfield 36, 3) := by decide +kernel
theorem dX9_undo_31 : decode cX9_undo 31 = .ok (.imul, 1) := by decide +kernel
theorem dX9_undo_32 : decode cX9_undo 32 = .ok (.aload_n 0, 1) := by decide +kernel
theorem dX9_undo_33 : decode cX9_undo 33 = .ok (.getfield 7, 3) := by decide +kernel
theorem dX9_undo_36 : decode cX9_undo 36 = .ok (.iconst 0, 1) := by decide +kernel
theorem dX9_undo_37 : decode cX9_undo 37 = .ok (.invokestatic 40, 3) := by decide +kernel
theorem dX9_undo_40 : decode cX9_undo 40 = .ok (.aload_n 0, 1) := by decide +kernel
theorem dX9_undo_41 : decode cX9_undo 41 = .ok (.getfield 36, 3) := by decide +kernel
theorem dX9_undo_44 : decode cX9_undo 44 = .ok (.ireturn, 1) := by decide +kernel
theorem dX9_save_0 : decode cX9_save 0 = .ok (.iload_n 1, 1) := by decide +kernel
theorem dX9_save_1 : decode cX9_save 1 = .ok (.iconst 0, 1) := by decide +kernel
theorem dX9_save_2 : decode cX9_save 2 = .ok (.iconst 1, 1) := by decide +kernel
theorem dX9_save_3 : decode cX9_save 3 = .ok (.invokestatic 32, 3) := by decide +kernel
theorem dX9_save_6 : decode cX9_save 6 = .ok (.ifCond .ne 6, 3) := by decide +kernel
theorem dX9_save_9 : decode cX9_save 9 = .ok (.bipush (-2), 2) := by decide +kernel
theorem dX9_save_11 : decode cX9_save 11 = .ok (.ireturn, 1) := by decide +kernel
theorem dX9_save_12 : decode cX9_save 12 = .ok (.aload_n 0, 1) := by decide +kernel
theorem dX9_save_13 : decode cX9_save 13 = .ok (.getfield 7, 3) := by decide +kernel
theorem dX9_save_16 : decode cX9_save 16 = .ok (.iconst 0, 1) := by decide +kernel
theorem dX9_save_17 : decode cX9_save 17 = .ok (.aload_n 0, 1) := by decide +kernel
theorem dX9_save_18 : decode cX9_save 18 = .ok (.getfield 19, 3) := by decide +kernel
theorem dX9_save_21 : decode cX9_save 21 = .ok (.sipush 475, 3) := by decide +kernel
theorem dX9_save_24 : decode cX9_save 24 = .ok (.iload_n 1, 1) := by decide +kernel
theorem dX9_save_25 : decode cX9_save 25 = .ok (.imul, 1) := by decide +kernel
theorem dX9_save_26 : decode cX9_save 26 = .ok (.invokestatic 40, 3) := by decide +kernel
theorem dX9_save_29 : decode cX9_save 29 = .ok (.aload_n 0, 1) := by decide +kernel
theorem dX9_save_30 : decode cX9_save 30 = .ok (.getfield 22, 3) := by decide +kernel
theorem dX9_save_33 : decode cX9_save 33 = .ok (.iload_n 1, 1) := by decide +kernel
theorem dX9_save_34 : decode cX9_save 34 = .ok (.iconst 1, 1) := by decide +kernel
theorem dX9_save_35 : decode cX9_save 35 = .ok (.bastore, 1) := by decide +kernel
theorem dX9_save_36 : decode cX9_save 36 = .ok (.aload_n 0, 1) := by decide +kernel
theorem dX9_save_37 : decode cX9_save 37 = .ok (.getfield 7, 3) := by decide +kernel
theorem dX9_save_40 : decode cX9_save 40 = .ok (.bipush 6, 2) := by decide +kernel
theorem dX9_save_42 : decode cX9_save 42 = .ok (.iaload, 1) := by decide +kernel
theorem dX9_save_43 : decode cX9_save 43 = .ok (.ireturn, 1) := by decide +kernel
theorem dX9_restore_0 : decode cX9_restore 0 = .ok (.iload_n 1, 1) := by decide +kernel
theorem dX9_restore_1 : decode cX9_restore 1 = .ok (.iconst 0, 1) := by decide +kernel
theorem dX9_restore_2 : decode cX9_restore 2 = .ok (.iconst 1, 1) := by decide +kernel
theorem dX9_restore_3 : decode cX9_restore 3 = .ok (.invokestatic 32, 3) := by decide +kernel
theorem dX9_restore_6 : decode cX9_restore 6 = .ok (.ifCond .ne 6, 3) := by decide +kernel
theorem dX9_restore_9 : decode cX9_restore 9 = .ok (.bipush (-2), 2) := by decide +kernel
theorem dX9_restore_11 : decode cX9_restore 11 = .ok (.ireturn, 1) := by decide +kernel
theorem dX9_restore_12 : decode cX9_restore 12 = .ok (.aload_n 0, 1) := by decide +kernel
theorem dX9_restore_13 : decode cX9_restore 13 = .ok (.getfield 22, 3) := by decide +kernel
theorem dX9_restore_16 : decode cX9_restore 16 = .ok (.iload_n 1, 1) := by decide +kernel
theorem dX9_restore_17 : decode cX9_restore 17 = .ok (.baload, 1) := by decide +kernel
theorem dX9_restore_18 : decode cX9_restore 18 = .ok (.ifCond .ne 6, 3) := by decide +kernel
theorem dX9_restore_21 : decode cX9_restore 21 = .ok (.bipush (-5), 2) := by decide +kernel
theorem dX9_restore_23 : decode cX9_restore 23 = .ok (.ireturn, 1) := by decide +kernel
theorem dX9_restore_24 : decode cX9_restore 24 = .ok (.aload_n 0, 1) := by decide +kernel
theorem dX9_restore_25 : decode cX9_restore 25 = .ok (.invokevirtual 44, 3) := by decide +kernel
theorem dX9_restore_28 : decode cX9_restore 28 = .ok (.aload_n 0, 1) := by decide +kernel
theorem dX9_restore_29 : decode cX9_restore 29 = .ok (.getfield 19, 3) := by decide +kernel
theorem dX9_restore_32 : decode cX9_restore 32 = .ok (.sipush 475, 3) := by decide +kernel
theorem dX9_restore_35 : decode cX9_restore 35 = .ok (.iload_n 1, 1) := by decide +kernel
theorem dX9_restore_36 : decode cX9_restore 36 = .ok (.imul, 1) := by decide +kernel
theorem dX9_restore_37 : decode cX9_restore 37 = .ok (.aload_n 0, 1) := by decide +kernel
theorem dX9_restore_38 : decode cX9_restore 38 = .ok (.getfield 7, 3) := by decide +kernel
theorem dX9_restore_41 : decode cX9_restore 41 = .ok (.iconst 0, 1) := by decide +kernel
theorem dX9_restore_42 : decode cX9_restore 42 = .ok (.invokestatic 40, 3) := by decide +kernel
theorem dX9_restore_45 : decode cX9_restore 45 = .ok (.aload_n 0, 1) := by decide +kernel
theorem dX9_restore_46 : decode cX9_restore 46 = .ok (.getfield 7, 3) := by decide +kernel
theorem dX9_restore_49 : decode cX9_restore 49 = .ok (.bipush 6, 2) := by decide +kernel
theorem dX9_restore_51 : decode cX9_restore 51 = .ok (.iaload, 1) := by decide +kernel
theorem dX9_restore_52 : decode cX9_restore 52 = .ok (.ireturn, 1) := by decide +kernel
theorem dX9_of_0 : decode cX9_of 0 = .ok (.aload_n 0, 1) := by decide +kernel
theorem dX9_of_1 : decode cX9_of 1 = .ok (.bipush 21, 2) := by decide +kernel
theorem dX9_of_3 : decode cX9_of 3 = .ok (.iconst 4, 1) := by decide +kernel
theorem dX9_of_4 : decode cX9_of 4 = .ok (.iload_n 1, 1) := by decide +kernel
theorem dX9_of_5 : decode cX9_of 5 = .ok (.imul, 1) := by decide +kernel
theorem dX9_of_6 : decode cX9_of 6 = .ok (.iadd, 1) := by decide +kernel
theorem dX9_of_7 : decode cX9_of 7 = .ok (.iload_n 2, 1) := by decide +kernel
theorem dX9_of_8 : decode cX9_of 8 = .ok (.iadd, 1) := by decide +kernel
theorem dX9_of_9 : decode cX9_of 9 = .ok (.iaload, 1) := by decide +kernel
theorem dX9_of_10 : decode cX9_of 10 = .ok (.ireturn, 1) := by decide +kernel
theorem dX9_isClosed_0 : decode cX9_isClosed 0 = .ok (.aload_n 0, 1) := by decide +kernel
theorem dX9_isClosed_1 : decode cX9_isClosed 1 = .ok (.iload_n 1, 1) := by decide +kernel
theorem dX9_isClosed_2 : decode cX9_isClosed 2 = .ok (.iconst 0, 1) := by decide +kernel
theorem dX9_isClosed_3 : decode cX9_isClosed 3 = .ok (.invokestatic 47, 3) := by decide +kernel
theorem dX9_isClosed_6 : decode cX9_isClosed 6 = .ok (.aload_n 0, 1) := by decide +kernel
theorem dX9_isClosed_7 : decode cX9_isClosed 7 = .ok (.iconst 0, 1) := by decide +kernel
theorem dX9_isClosed_8 : decode cX9_isClosed 8 = .ok (.iaload, 1) := by decide +kernel
theorem dX9_isClosed_9 : decode cX9_isClosed 9 = .ok (.idiv, 1) := by decide +kernel
theorem dX9_isClosed_10 : decode cX9_isClosed 10 = .ok (.aload_n 0, 1) := by decide +kernel
theorem dX9_isClosed_11 : decode cX9_isClosed 11 = .ok (.iconst 3, 1) := by decide +kernel
theorem dX9_isClosed_12 : decode cX9_isClosed 12 = .ok (.iaload, 1) := by decide +kernel
theorem dX9_isClosed_13 : decode cX9_isClosed 13 = .ok (.aload_n 0, 1) := by decide +kernel
theorem dX9_isClosed_14 : decode cX9_isClosed 14 = .ok (.iconst 0, 1) := by decide +kernel
theorem dX9_isClosed_15 : decode cX9_isClosed 15 = .ok (.iaload, 1) := by decide +kernel
theorem dX9_isClosed_16 : decode cX9_isClosed 16 = .ok (.idiv, 1) := by decide +kernel
theorem dX9_isClosed_17 : decode cX9_isClosed 17 = .ok (.if_icmp .eq 7, 3) := by decide +kernel
theorem dX9_isClosed_20 : decode cX9_isClosed 20 = .ok (.iconst 1, 1) := by decide +kernel
theorem dX9_isClosed_21 : decode cX9_isClosed 21 = .ok (.goto 4, 3) := by decide +kernel
theorem dX9_isClosed_24 : decode cX9_isClosed 24 = .ok (.iconst 0, 1) := by decide +kernel
theorem dX9_isClosed_25 : decode cX9_isClosed 25 = .ok (.ireturn, 1) := by decide +kernel
theorem dX9_isLast_0 : decode cX9_isLast 0 = .ok (.iload_n 1, 1) := by decide +kernel
theorem dX9_isLast_1 : decode cX9_isLast 1 = .ok (.iconst 1, 1) := by decide +kernel
theorem dX9_isLast_2 : decode cX9_isLast 2 = .ok (.iadd, 1) := by decide +kernel
theorem dX9_isLast_3 : decode cX9_isLast 3 = .ok (.istore_n 2, 1) := by decide +kernel
theorem dX9_isLast_4 : decode cX9_isLast 4 = .ok (.iload_n 2, 1) := by decide +kernel
theorem dX9_isLast_5 : decode cX9_isLast 5 = .ok (.aload_n 0, 1) := by decide +kernel
theorem dX9_isLast_6 : decode cX9_isLast 6 = .ok (.bipush 6, 2) := by decide +kernel
theorem dX9_isLast_8 : decode cX9_isLast 8 = .ok (.iaload, 1) := by decide +kernel
theorem dX9_isLast_9 : decode cX9_isLast 9 = .ok (.if_icmp .ge 26, 3) := by decide +kernel
theorem dX9_isLast_12 : decode cX9_isLast 12 = .ok (.aload_n 0, 1) := by decide +kernel
theorem dX9_isLast_13 : decode cX9_isLast 13 = .ok (.iload_n 2, 1) := by decide +kernel
theorem dX9_isLast_14 : decode cX9_isLast 14 = .ok (.iconst 1, 1) := by decide +kernel
theorem dX9_isLast_15 : decode cX9_isLast 15 = .ok (.invokestatic 47, 3) := by decide +kernel
theorem dX9_isLast_18 : decode cX9_isLast 18 = .ok (.aload_n 0, 1) := by decide +kernel
theorem dX9_isLast_19 : decode cX9_isLast 19 = .ok (.iload_n 1, 1) := by decide +kernel
theorem dX9_isLast_20 : decode cX9_isLast 20 = .ok (.iconst 1, 1) := by decide +kernel
theorem dX9_isLast_21 : decode cX9_isLast 21 = .ok (.invokestatic 47, 3) := by decide +kernel
theorem dX9_isLast_24 : decode cX9_isLast 24 = .ok (.if_icmp .ne 5, 3) := by decide +kernel
theorem dX9_isLast_27 : decode cX9_isLast 27 = .ok (.iconst 0, 1) := by decide +kernel
theorem dX9_isLast_28 : decode cX9_isLast 28 = .ok (.ireturn, 1) := by decide +kernel
theorem dX9_isLast_29 : decode cX9_isLast 29 = .ok (.iinc 2 1, 3) := by decide +kernel
theorem dX9_isLast_32 : decode cX9_isLast 32 = .ok (.goto (-28), 3) := by decide +kernel
theorem dX9_isLast_35 : decode cX9_isLast 35 = .ok (.iconst 1, 1) := by decide +kernel
theorem dX9_isLast_36 : decode cX9_isLast 36 = .ok (.ireturn, 1) := by decide +kernel
theorem dX9_goes_0 : decode cX9_goes 0 = .ok (.aload_n 0, 1) := by decide +kernel
theorem dX9_goes_1 : decode cX9_goes 1 = .ok (.bipush 6, 2) := by decide +kernel
theorem dX9_goes_3 : decode cX9_goes 3 = .ok (.dup2, 1) := by decide +kernel
theorem dX9_goes_4 : decode cX9_goes 4 = .ok (.iaload, 1) := by decide +kernel
theorem dX9_goes_5 : decode cX9_goes 5 = .ok (.iconst 1, 1) := by decide +kernel
theorem dX9_goes_6 : decode cX9_goes 6 = .ok (.isub, 1) := by decide +kernel
theorem dX9_goes_7 : decode cX9_goes 7 = .ok (.iastore, 1) := by decide +kernel
theorem dX9_goes_8 : decode cX9_goes 8 = .ok (.aload_n 0, 1) := by decide +kernel
theorem dX9_goes_9 : decode cX9_goes 9 = .ok (.iconst 5, 1) := by decide +kernel
theorem dX9_goes_10 : decode cX9_goes 10 = .ok (.dup2, 1) := by decide +kernel
theorem dX9_goes_11 : decode cX9_goes 11 = .ok (.iaload, 1) := by decide +kernel
theorem dX9_goes_12 : decode cX9_goes 12 = .ok (.iconst 1, 1) := by decide +kernel
theorem dX9_goes_13 : decode cX9_goes 13 = .ok (.iadd, 1) := by decide +kernel
theorem dX9_goes_14 : decode cX9_goes 14 = .ok (.iastore, 1) := by decide +kernel
theorem dX9_goes_15 : decode cX9_goes 15 = .ok (.bipush 21, 2) := by decide +kernel
theorem dX9_goes_17 : decode cX9_goes 17 = .ok (.iconst 4, 1) := by decide +kernel
theorem dX9_goes_18 : decode cX9_goes 18 = .ok (.iload_n 1, 1) := by decide +kernel
theorem dX9_goes_19 : decode cX9_goes 19 = .ok (.imul, 1) := by decide +kernel
theorem dX9_goes_20 : decode cX9_goes 20 = .ok (.iadd, 1) := by decide +kernel
theorem dX9_goes_21 : decode cX9_goes 21 = .ok (.istore_n 2, 1) := by decide +kernel
theorem dX9_goes_22 : decode cX9_goes 22 = .ok (.iload_n 2, 1) := by decide +kernel
theorem dX9_goes_23 : decode cX9_goes 23 = .ok (.bipush 21, 2) := by decide +kernel
theorem dX9_goes_25 : decode cX9_goes 25 = .ok (.iconst 4, 1) := by decide +kernel
theorem dX9_goes_26 : decode cX9_goes 26 = .ok (.aload_n 0, 1) := by decide +kernel
theorem dX9_goes_27 : decode cX9_goes 27 = .ok (.bipush 6, 2) := by decide +kernel
theorem dX9_goes_29 : decode cX9_goes 29 = .ok (.iaload, 1) := by decide +kernel
theorem dX9_goes_30 : decode cX9_goes 30 = .ok (.imul, 1) := by decide +kernel
theorem dX9_goes_31 : decode cX9_goes 31 = .ok (.iadd, 1) := by decide +kernel
theorem dX9_goes_32 : decode cX9_goes 32 = .ok (.if_icmp .ge 17, 3) := by decide +kernel
theorem dX9_goes_35 : decode cX9_goes 35 = .ok (.aload_n 0, 1) := by decide +kernel
theorem dX9_goes_36 : decode cX9_goes 36 = .ok (.iload_n 2, 1) := by decide +kernel
theorem dX9_goes_37 : decode cX9_goes 37 = .ok (.aload_n 0, 1) := by decide +kernel
theorem dX9_goes_38 : decode cX9_goes 38 = .ok (.iload_n 2, 1) := by decide +kernel
theorem dX9_goes_39 : decode cX9_goes 39 = .ok (.iconst 4, 1) := by decide +kernel
theorem dX9_goes_40 : decode cX9_goes 40 = .ok (.iadd, 1) := by decide +kernel
theorem dX9_goes_41 : decode cX9_goes 41 = .ok (.iaload, 1) := by decide +kernel
theorem dX9_goes_42 : decode cX9_goes 42 = .ok (.iastore, 1) := by decide +kernel
theorem dX9_goes_43 : decode cX9_goes 43 = .ok (.iinc 2 1, 3) := by decide +kernel
theorem dX9_goes_46 : decode cX9_goes 46 = .ok (.goto (-24), 3) := by decide +kernel
theorem dX9_goes_49 : decode cX9_goes 49 = .ok (.return_, 1) := by decide +kernel
theorem dX9_thins_0 : decode cX9_thins 0 = .ok (.aload_n 0, 1) := by decide +kernel
theorem dX9_thins_1 : decode cX9_thins 1 = .ok (.bipush 6, 2) := by decide +kernel
theorem dX9_thins_3 : decode cX9_thins 3 = .ok (.iaload, 1) := by decide +kernel
theorem dX9_thins_4 : decode cX9_thins 4 = .ok (.istore_n 1, 1) := by decide +kernel
theorem dX9_thins_5 : decode cX9_thins 5 = .ok (.iload_n 1, 1) := by decide +kernel
theorem dX9_thins_6 : decode cX9_thins 6 = .ok (.iconst 1, 1) := by decide +kernel
theorem dX9_thins_7 : decode cX9_thins 7 = .ok (.isub, 1) := by decide +kernel
theorem dX9_thins_8 : decode cX9_thins 8 = .ok (.istore_n 2, 1) := by decide +kernel
theorem dX9_thins_9 : decode cX9_thins 9 = .ok (.iload_n 2, 1) := by decide +kernel
theorem dX9_thins_10 : decode cX9_thins 10 = .ok (.ifCond .lt 30, 3) := by decide +kernel
theorem dX9_thins_13 : decode cX9_thins 13 = .ok (.aload_n 0, 1) := by decide +kernel
theorem dX9_thins_14 : decode cX9_thins 14 = .ok (.iload_n 2, 1) := by decide +kernel
theorem dX9_thins_15 : decode cX9_thins 15 = .ok (.invokestatic 51, 3) := by decide +kernel
theorem dX9_thins_18 : decode cX9_thins 18 = .ok (.ifCond .eq 16, 3) := by decide +kernel
theorem dX9_thins_21 : decode cX9_thins 21 = .ok (.aload_n 0, 1) := by decide +kernel
theorem dX9_thins_22 : decode cX9_thins 22 = .ok (.iload_n 2, 1) := by decide +kernel
theorem dX9_thins_23 : decode cX9_thins 23 = .ok (.invokestatic 55, 3) := by decide +kernel
theorem dX9_thins_26 : decode cX9_thins 26 = .ok (.ifCond .ne 8, 3) := by decide +kernel
theorem dX9_thins_29 : decode cX9_thins 29 = .ok (.aload_n 0, 1) := by decide +kernel
theorem dX9_thins_30 : decode cX9_thins 30 = .ok (.iload_n 2, 1) := by decide +kernel
theorem dX9_thins_31 : decode cX9_thins 31 = .ok (.invokestatic 58, 3) := by decide +kernel
theorem dX9_thins_34 : decode cX9_thins 34 = .ok (.iinc 2 (-1), 3) := by decide +kernel
theorem dX9_thins_37 : decode cX9_thins 37 = .ok (.goto (-28), 3) := by decide +kernel
theorem dX9_thins_40 : decode cX9_thins 40 = .ok (.aload_n 0, 1) := by decide +kernel
theorem dX9_thins_41 : decode cX9_thins 41 = .ok (.bipush 6, 2) := by decide +kernel
theorem dX9_thins_43 : decode cX9_thins 43 = .ok (.iaload, 1) := by decide +kernel
theorem dX9_thins_44 : decode cX9_thins 44 = .ok (.iconst 1, 1) := by decide +kernel
theorem dX9_thins_45 : decode cX9_thins 45 = .ok (.isub, 1) := by decide +kernel
theorem dX9_thins_46 : decode cX9_thins 46 = .ok (.istore_n 2, 1) := by decide +kernel
theorem dX9_thins_47 : decode cX9_thins 47 = .ok (.iload_n 2, 1) := by decide +kernel
theorem dX9_thins_48 : decode cX9_thins 48 = .ok (.ifCond .lt 80, 3) := by decide +kernel
theorem dX9_thins_51 : decode cX9_thins 51 = .ok (.aload_n 0, 1) := by decide +kernel
theorem dX9_thins_52 : decode cX9_thins 52 = .ok (.iload_n 2, 1) := by decide +kernel
theorem dX9_thins_53 : decode cX9_thins 53 = .ok (.invokestatic 51, 3) := by decide +kernel
theorem dX9_thins_56 : decode cX9_thins 56 = .ok (.ifCond .eq 66, 3) := by decide +kernel
theorem dX9_thins_59 : decode cX9_thins 59 = .ok (.aload_n 0, 1) := by decide +kernel
theorem dX9_thins_60 : decode cX9_thins 60 = .ok (.iload_n 2, 1) := by decide +kernel
theorem dX9_thins_61 : decode cX9_thins 61 = .ok (.iconst 2, 1) := by decide +kernel
theorem dX9_thins_62 : decode cX9_thins 62 = .ok (.invokestatic 47, 3) := by decide +kernel
theorem dX9_thins_65 : decode cX9_thins 65 = .ok (.bipush (-6), 2) := by decide +kernel
theorem dX9_thins_67 : decode cX9_thins 67 = .ok (.if_icmp .ne 55, 3) := by decide +kernel
theorem dX9_thins_70 : decode cX9_thins 70 = .ok (.aload_n 0, 1) := by decide +kernel
theorem dX9_thins_71 : decode cX9_thins 71 = .ok (.iconst 2, 1) := by decide +kernel
theorem dX9_thins_72 : decode cX9_thins 72 = .ok (.iaload, 1) := by decide +kernel
theorem dX9_thins_73 : decode cX9_thins 73 = .ok (.aload_n 0, 1) := by decide +kernel
theorem dX9_thins_74 : decode cX9_thins 74 = .ok (.iload_n 2, 1) := by decide +kernel
theorem dX9_thins_75 : decode cX9_thins 75 = .ok (.iconst 3, 1) := by decide +kernel
theorem dX9_thins_76 : decode cX9_thins 76 = .ok (.invokestatic 47, 3) := by decide +kernel
theorem dX9_thins_79 : decode cX9_thins 79 = .ok (.isub, 1) := by decide +kernel
theorem dX9_thins_80 : decode cX9_thins 80 = .ok (.aload_n 0, 1) := by decide +kernel
theorem dX9_thins_81 : decode cX9_thins 81 = .ok (.iconst 1, 1) := by decide +kernel
theorem dX9_thins_82 : decode cX9_thins 82 = .ok (.iaload, 1) := by decide +kernel
theorem dX9_thins_83 : decode cX9_thins 83 = .ok (.if_icmp .le 39, 3) := by decide +kernel
theorem dX9_thins_86 : decode cX9_thins 86 = .ok (.aload_n 0, 1) := by decide +kernel
theorem dX9_thins_87 : decode cX9_thins 87 = .ok (.iconst 4, 1) := by decide +kernel
theorem dX9_thins_88 : decode cX9_thins 88 = .ok (.aload_n 0, 1) := by decide +kernel
theorem dX9_thins_89 : decode cX9_thins 89 = .ok (.iload_n 2, 1) := by decide +kernel
theorem dX9_thins_90 : decode cX9_thins 90 = .ok (.iconst 0, 1) := by decide +kernel
theorem dX9_thins_91 : decode cX9_thins 91 = .ok (.invokestatic 47, 3) := by decide +kernel
theorem dX9_thins_94 : decode cX9_thins 94 = .ok (.iconst 1, 1) := by decide +kernel
theorem dX9_thins_95 : decode cX9_thins 95 = .ok (.iadd, 1) := by decide +kernel
theorem dX9_thins_96 : decode cX9_thins 96 = .ok (.aload_n 0, 1) := by decide +kernel
theorem dX9_thins_97 : decode cX9_thins 97 = .ok (.iconst 4, 1) := by decide +kernel
theorem dX9_thins_98 : decode cX9_thins 98 = .ok (.iaload, 1) := by decide +kernel
theorem dX9_thins_99 : decode cX9_thins 99 = .ok (.if_icmp .le 14, 3) := by decide +kernel
theorem dX9_thins_102 : decode cX9_thins 102 = .ok (.aload_n 0, 1) := by decide +kernel
theorem dX9_thins_103 : decode cX9_thins 103 = .ok (.iload_n 2, 1) := by decide +kernel
theorem dX9_thins_104 : decode cX9_thins 104 = .ok (.iconst 0, 1) := by decide +kernel
theorem dX9_thins_105 : decode cX9_thins 105 = .ok (.invokestatic 47, 3) := by decide +kernel
theorem dX9_thins_108 : decode cX9_thins 108 = .ok (.iconst 1, 1) := by decide +kernel
theorem dX9_thins_109 : decode cX9_thins 109 = .ok (.iadd, 1) := by decide +kernel
theorem dX9_thins_110 : decode cX9_thins 110 = .ok (.goto 6, 3) := by decide +kernel
theorem dX9_thins_113 : decode cX9_thins 113 = .ok (.aload_n 0, 1) := by decide +kernel
theorem dX9_thins_114 : decode cX9_thins 114 = .ok (.iconst 4, 1) := by decide +kernel
theorem dX9_thins_115 : decode cX9_thins 115 = .ok (.iaload, 1) := by decide +kernel
theorem dX9_thins_116 : decode cX9_thins 116 = .ok (.iastore, 1) := by decide +kernel
theorem dX9_thins_117 : decode cX9_thins 117 = .ok (.aload_n 0, 1) := by decide +kernel
theorem dX9_thins_118 : decode cX9_thins 118 = .ok (.iload_n 2, 1) := by decide +kernel
theorem dX9_thins_119 : decode cX9_thins 119 = .ok (.invokestatic 58, 3) := by decide +kernel
theorem dX9_thins_122 : decode cX9_thins 122 = .ok (.iinc 2 (-1), 3) := by decide +kernel
theorem dX9_thins_125 : decode cX9_thins 125 = .ok (.goto (-78), 3) := by decide +kernel
theorem dX9_thins_128 : decode cX9_thins 128 = .ok (.iload_n 1, 1) := by decide +kernel
theorem dX9_thins_129 : decode cX9_thins 129 = .ok (.aload_n 0, 1) := by decide +kernel
theorem dX9_thins_130 : decode cX9_thins 130 = .ok (.bipush 6, 2) := by decide +kernel
theorem dX9_thins_132 : decode cX9_thins 132 = .ok (.iaload, 1) := by decide +kernel
theorem dX9_thins_133 : decode cX9_thins 133 = .ok (.isub, 1) := by decide +kernel
theorem dX9_thins_134 : decode cX9_thins 134 = .ok (.ireturn, 1) := by decide +kernel
theorem dX9_isLatePlace_0 : decode cX9_isLatePlace 0 = .ok (.iload_n 1, 1) := by decide +kernel
theorem dX9_isLatePlace_1 : decode cX9_isLatePlace 1 = .ok (.ifCond .le 14, 3) := by decide +kernel
theorem dX9_isLatePlace_4 : decode cX9_isLatePlace 4 = .ok (.iload_n 1, 1) := by decide +kernel
theorem dX9_isLatePlace_5 : decode cX9_isLatePlace 5 = .ok (.aload_n 0, 1) := by decide +kernel
theorem dX9_isLatePlace_6 : decode cX9_isLatePlace 6 = .ok (.iconst 4, 1) := by decide +kernel
theorem dX9_isLatePlace_7 : decode cX9_isLatePlace 7 = .ok (.iaload, 1) := by decide +kernel
theorem dX9_isLatePlace_8 : decode cX9_isLatePlace 8 = .ok (.if_icmp .ge 7, 3) := by decide +kernel
theorem dX9_isLatePlace_11 : decode cX9_isLatePlace 11 = .ok (.iconst 1, 1) := by decide +kernel
theorem dX9_isLatePlace_12 : decode cX9_isLatePlace 12 = .ok (.goto 4, 3) := by decide +kernel
theorem dX9_isLatePlace_15 : decode cX9_isLatePlace 15 = .ok (.iconst 0, 1) := by decide +kernel
theorem dX9_isLatePlace_16 : decode cX9_isLatePlace 16 = .ok (.ireturn, 1) := by decide +kernel
theorem dX9_isLate_0 : decode cX9_isLate 0 = .ok (.aload_n 0, 1) := by decide +kernel
theorem dX9_isLate_1 : decode cX9_isLate 1 = .ok (.aload_n 0, 1) := by decide +kernel
theorem dX9_isLate_2 : decode cX9_isLate 2 = .ok (.iload_n 1, 1) := by decide +kernel
theorem dX9_isLate_3 : decode cX9_isLate 3 = .ok (.invokestatic 62, 3) := by decide +kernel
theorem dX9_isLate_6 : decode cX9_isLate 6 = .ok (.iaload, 1) := by decide +kernel
theorem dX9_isLate_7 : decode cX9_isLate 7 = .ok (.invokestatic 66, 3) := by decide +kernel
theorem dX9_isLate_10 : decode cX9_isLate 10 = .ok (.ireturn, 1) := by decide +kernel
theorem dX9_lateOnes_0 : decode cX9_lateOnes 0 = .ok (.iconst 0, 1) := by decide +kernel
theorem dX9_lateOnes_1 : decode cX9_lateOnes 1 = .ok (.istore_n 1, 1) := by decide +kernel
theorem dX9_lateOnes_2 : decode cX9_lateOnes 2 = .ok (.iconst 0, 1) := by decide +kernel
theorem dX9_lateOnes_3 : decode cX9_lateOnes 3 = .ok (.istore_n 2, 1) := by decide +kernel
theorem dX9_lateOnes_4 : decode cX9_lateOnes 4 = .ok (.iload_n 2, 1) := by decide +kernel
theorem dX9_lateOnes_5 : decode cX9_lateOnes 5 = .ok (.aload_n 0, 1) := by decide +kernel
theorem dX9_lateOnes_6 : decode cX9_lateOnes 6 = .ok (.bipush 7, 2) := by decide +kernel
theorem dX9_lateOnes_8 : decode cX9_lateOnes 8 = .ok (.iaload, 1) := by decide +kernel
theorem dX9_lateOnes_9 : decode cX9_lateOnes 9 = .ok (.if_icmp .ge 27, 3) := by decide +kernel
theorem dX9_lateOnes_12 : decode cX9_lateOnes 12 = .ok (.iload_n 1, 1) := by decide +kernel
theorem dX9_lateOnes_13 : decode cX9_lateOnes 13 = .ok (.aload_n 0, 1) := by decide +kernel
theorem dX9_lateOnes_14 : decode cX9_lateOnes 14 = .ok (.iload_n 2, 1) := by decide +kernel
theorem dX9_lateOnes_15 : decode cX9_lateOnes 15 = .ok (.invokestatic 69, 3) := by decide +kernel
theorem dX9_lateOnes_18 : decode cX9_lateOnes 18 = .ok (.ifCond .eq 9, 3) := by decide +kernel
theorem dX9_lateOnes_21 : decode cX9_lateOnes 21 = .ok (.iconst 1, 1) := by decide +kernel
theorem dX9_lateOnes_22 : decode cX9_lateOnes 22 = .ok (.iload_n 2, 1) := by decide +kernel
theorem dX9_lateOnes_23 : decode cX9_lateOnes 23 = .ok (.ishl, 1) := by decide +kernel
theorem dX9_lateOnes_24 : decode cX9_lateOnes 24 = .ok (.goto 4, 3) := by decide +kernel
theorem dX9_lateOnes_27 : decode cX9_lateOnes 27 = .ok (.iconst 0, 1) := by decide +kernel
theorem dX9_lateOnes_28 : decode cX9_lateOnes 28 = .ok (.ior, 1) := by decide +kernel
theorem dX9_lateOnes_29 : decode cX9_lateOnes 29 = .ok (.istore_n 1, 1) := by decide +kernel
theorem dX9_lateOnes_30 : decode cX9_lateOnes 30 = .ok (.iinc 2 1, 3) := by decide +kernel
theorem dX9_lateOnes_33 : decode cX9_lateOnes 33 = .ok (.goto (-29), 3) := by decide +kernel
theorem dX9_lateOnes_36 : decode cX9_lateOnes 36 = .ok (.iload_n 1, 1) := by decide +kernel
theorem dX9_lateOnes_37 : decode cX9_lateOnes 37 = .ok (.ireturn, 1) := by decide +kernel
theorem dX9_ahead_0 : decode cX9_ahead 0 = .ok (.iconst 0, 1) := by decide +kernel
theorem dX9_ahead_1 : decode cX9_ahead 1 = .ok (.istore_n 2, 1) := by decide +kernel
theorem dX9_ahead_2 : decode cX9_ahead 2 = .ok (.iconst 0, 1) := by decide +kernel
theorem dX9_ahead_3 : decode cX9_ahead 3 = .ok (.istore_n 3, 1) := by decide +kernel
theorem dX9_ahead_4 : decode cX9_ahead 4 = .ok (.iload_n 3, 1) := by decide +kernel
theorem dX9_ahead_5 : decode cX9_ahead 5 = .ok (.aload_n 0, 1) := by decide +kernel
theorem dX9_ahead_6 : decode cX9_ahead 6 = .ok (.getfield 7, 3) := by decide +kernel
theorem dX9_ahead_9 : decode cX9_ahead 9 = .ok (.bipush 6, 2) := by decide +kernel
theorem dX9_ahead_11 : decode cX9_ahead 11 = .ok (.iaload, 1) := by decide +kernel
theorem dX9_ahead_12 : decode cX9_ahead 12 = .ok (.if_icmp .ge 30, 3) := by decide +kernel
theorem dX9_ahead_15 : decode cX9_ahead 15 = .ok (.iload_n 2, 1) := by decide +kernel
theorem dX9_ahead_16 : decode cX9_ahead 16 = .ok (.aload_n 0, 1) := by decide +kernel
theorem dX9_ahead_17 : decode cX9_ahead 17 = .ok (.getfield 7, 3) := by decide +kernel
theorem dX9_ahead_20 : decode cX9_ahead 20 = .ok (.iload_n 3, 1) := by decide +kernel
theorem dX9_ahead_21 : decode cX9_ahead 21 = .ok (.iconst 0, 1) := by decide +kernel
theorem dX9_ahead_22 : decode cX9_ahead 22 = .ok (.invokestatic 47, 3) := by decide +kernel
theorem dX9_ahead_25 : decode cX9_ahead 25 = .ok (.iload_n 1, 1) := by decide +kernel
theorem dX9_ahead_26 : decode cX9_ahead 26 = .ok (.if_icmp .lt 7, 3) := by decide +kernel
theorem dX9_ahead_29 : decode cX9_ahead 29 = .ok (.iconst 1, 1) := by decide +kernel
theorem dX9_ahead_30 : decode cX9_ahead 30 = .ok (.goto 4, 3) := by decide +kernel
theorem dX9_ahead_33 : decode cX9_ahead 33 = .ok (.iconst 0, 1) := by decide +kernel
theorem dX9_ahead_34 : decode cX9_ahead 34 = .ok (.iadd, 1) := by decide +kernel
theorem dX9_ahead_35 : decode cX9_ahead 35 = .ok (.istore_n 2, 1) := by decide +kernel
theorem dX9_ahead_36 : decode cX9_ahead 36 = .ok (.iinc 3 1, 3) := by decide +kernel
theorem dX9_ahead_39 : decode cX9_ahead 39 = .ok (.goto (-35), 3) := by decide +kernel
theorem dX9_ahead_42 : decode cX9_ahead 42 = .ok (.iload_n 2, 1) := by decide +kernel
theorem dX9_ahead_43 : decode cX9_ahead 43 = .ok (.ireturn, 1) := by decide +kernel
theorem dX9_turn_0 : decode cX9_turn 0 = .ok (.iload_n 1, 1) := by decide +kernel
theorem dX9_turn_1 : decode cX9_turn 1 = .ok (.ifCond .ne 16, 3) := by decide +kernel
theorem dX9_turn_4 : decode cX9_turn 4 = .ok (.iload_n 2, 1) := by decide +kernel
theorem dX9_turn_5 : decode cX9_turn 5 = .ok (.iconst 1, 1) := by decide +kernel
theorem dX9_turn_6 : decode cX9_turn 6 = .ok (.bipush 20, 2) := by decide +kernel
theorem dX9_turn_8 : decode cX9_turn 8 = .ok (.invokestatic 32, 3) := by decide +kernel
theorem dX9_turn_11 : decode cX9_turn 11 = .ok (.ifCond .ne 25, 3) := by decide +kernel
theorem dX9_turn_14 : decode cX9_turn 14 = .ok (.goto 19, 3) := by decide +kernel
theorem dX9_turn_17 : decode cX9_turn 17 = .ok (.iload_n 1, 1) := by decide +kernel
theorem dX9_turn_18 : decode cX9_turn 18 = .ok (.iconst 1, 1) := by decide +kernel
theorem dX9_turn_19 : decode cX9_turn 19 = .ok (.if_icmp .ne 14, 3) := by decide +kernel
theorem dX9_turn_22 : decode cX9_turn 22 = .ok (.iload_n 2, 1) := by decide +kernel
theorem dX9_turn_23 : decode cX9_turn 23 = .ok (.iconst 0, 1) := by decide +kernel
theorem dX9_turn_24 : decode cX9_turn 24 = .ok (.sipush 999, 3) := by decide +kernel
theorem dX9_turn_27 : decode cX9_turn 27 = .ok (.invokestatic 32, 3) := by decide +kernel
theorem dX9_turn_30 : decode cX9_turn 30 = .ok (.ifCond .ne 6, 3) := by decide +kernel
theorem dX9_turn_33 : decode cX9_turn 33 = .ok (.bipush (-2), 2) := by decide +kernel
theorem dX9_turn_35 : decode cX9_turn 35 = .ok (.ireturn, 1) := by decide +kernel
theorem dX9_turn_36 : decode cX9_turn 36 = .ok (.aload_n 0, 1) := by decide +kernel
theorem dX9_turn_37 : decode cX9_turn 37 = .ok (.invokevirtual 44, 3) := by decide +kernel
theorem dX9_turn_40 : decode cX9_turn 40 = .ok (.aload_n 0, 1) := by decide +kernel
theorem dX9_turn_41 : decode cX9_turn 41 = .ok (.getfield 7, 3) := by decide +kernel
theorem dX9_turn_44 : decode cX9_turn 44 = .ok (.iload_n 1, 1) := by decide +kernel
theorem dX9_turn_45 : decode cX9_turn 45 = .ok (.iaload, 1) := by decide +kernel
theorem dX9_turn_46 : decode cX9_turn 46 = .ok (.istore_n 3, 1) := by decide +kernel
theorem dX9_turn_47 : decode cX9_turn 47 = .ok (.aload_n 0, 1) := by decide +kernel
theorem dX9_turn_48 : decode cX9_turn 48 = .ok (.getfield 7, 3) := by decide +kernel
theorem dX9_turn_51 : decode cX9_turn 51 = .ok (.iload_n 1, 1) := by decide +kernel
theorem dX9_turn_52 : decode cX9_turn 52 = .ok (.iload_n 2, 1) := by decide +kernel
theorem dX9_turn_53 : decode cX9_turn 53 = .ok (.iastore, 1) := by decide +kernel
theorem dX9_turn_54 : decode cX9_turn 54 = .ok (.iload_n 3, 1) := by decide +kernel
theorem dX9_turn_55 : decode cX9_turn 55 = .ok (.ireturn, 1) := by decide +kernel
theorem dX9_maySet_0 : decode cX9_maySet 0 = .ok (.iload_n 1, 1) := by decide +kernel
theorem dX9_maySet_1 : decode cX9_maySet 1 = .ok (.invokestatic 72, 3) := by decide +kernel
theorem dX9_maySet_4 : decode cX9_maySet 4 = .ok (.ifCond .ne 5, 3) := by decide +kernel
theorem dX9_maySet_7 : decode cX9_maySet 7 = .ok (.iconst (-1), 1) := by decide +kernel
theorem dX9_maySet_8 : decode cX9_maySet 8 = .ok (.ireturn, 1) := by decide +kernel
theorem dX9_maySet_9 : decode cX9_maySet 9 = .ok (.iload_n 2, 1) := by decide +kernel
theorem dX9_maySet_10 : decode cX9_maySet 10 = .ok (.iconst 0, 1) := by decide +kernel
theorem dX9_maySet_11 : decode cX9_maySet 11 = .ok (.sipush 999, 3) := by decide +kernel
theorem dX9_maySet_14 : decode cX9_maySet 14 = .ok (.invokestatic 32, 3) := by decide +kernel
theorem dX9_maySet_17 : decode cX9_maySet 17 = .ok (.ifCond .ne 8, 3) := by decide +kernel
theorem dX9_maySet_20 : decode cX9_maySet 20 = .ok (.bipush (-2), 2) := by decide +kernel
theorem dX9_maySet_22 : decode cX9_maySet 22 = .ok (.goto 21, 3) := by decide +kernel
theorem dX9_maySet_25 : decode cX9_maySet 25 = .ok (.aload_n 0, 1) := by decide +kernel
theorem dX9_maySet_26 : decode cX9_maySet 26 = .ok (.getfield 7, 3) := by decide +kernel
theorem dX9_maySet_29 : decode cX9_maySet 29 = .ok (.bipush 6, 2) := by decide +kernel
theorem dX9_maySet_31 : decode cX9_maySet 31 = .ok (.iaload, 1) := by decide +kernel
theorem dX9_maySet_32 : decode cX9_maySet 32 = .ok (.bipush 60, 2) := by decide +kernel
theorem dX9_maySet_34 : decode cX9_maySet 34 = .ok (.if_icmp .ne 8, 3) := by decide +kernel
theorem dX9_maySet_37 : decode cX9_maySet 37 = .ok (.bipush (-4), 2) := by decide +kernel
theorem dX9_maySet_39 : decode cX9_maySet 39 = .ok (.goto 4, 3) := by decide +kernel
theorem dX9_maySet_42 : decode cX9_maySet 42 = .ok (.iconst 0, 1) := by decide +kernel
theorem dX9_maySet_43 : decode cX9_maySet 43 = .ok (.ireturn, 1) := by decide +kernel
theorem dX9_sets_0 : decode cX9_sets 0 = .ok (.bipush 21, 2) := by decide +kernel
theorem dX9_sets_2 : decode cX9_sets 2 = .ok (.iconst 4, 1) := by decide +kernel
theorem dX9_sets_3 : decode cX9_sets 3 = .ok (.aload_n 0, 1) := by decide +kernel
theorem dX9_sets_4 : decode cX9_sets 4 = .ok (.getfield 7, 3) := by decide +kernel
theorem dX9_sets_7 : decode cX9_sets 7 = .ok (.bipush 6, 2) := by decide +kernel
theorem dX9_sets_9 : decode cX9_sets 9 = .ok (.iaload, 1) := by decide +kernel
theorem dX9_sets_10 : decode cX9_sets 10 = .ok (.imul, 1) := by decide +kernel
theorem dX9_sets_11 : decode cX9_sets 11 = .ok (.iadd, 1) := by decide +kernel
theorem dX9_sets_12 : decode cX9_sets 12 = .ok (.istore_n 3, 1) := by decide +kernel
theorem dX9_sets_13 : decode cX9_sets 13 = .ok (.aload_n 0, 1) := by decide +kernel
theorem dX9_sets_14 : decode cX9_sets 14 = .ok (.getfield 7, 3) := by decide +kernel
theorem dX9_sets_17 : decode cX9_sets 17 = .ok (.iload_n 3, 1) := by decide +kernel
theorem dX9_sets_18 : decode cX9_sets 18 = .ok (.aload_n 0, 1) := by decide +kernel
theorem dX9_sets_19 : decode cX9_sets 19 = .ok (.getfield 7, 3) := by decide +kernel
theorem dX9_sets_22 : decode cX9_sets 22 = .ok (.iconst 3, 1) := by decide +kernel
theorem dX9_sets_23 : decode cX9_sets 23 = .ok (.iaload, 1) := by decide +kernel
theorem dX9_sets_24 : decode cX9_sets 24 = .ok (.iastore, 1) := by decide +kernel
theorem dX9_sets_25 : decode cX9_sets 25 = .ok (.aload_n 0, 1) := by decide +kernel
theorem dX9_sets_26 : decode cX9_sets 26 = .ok (.getfield 7, 3) := by decide +kernel
theorem dX9_sets_29 : decode cX9_sets 29 = .ok (.iload_n 3, 1) := by decide +kernel
theorem dX9_sets_30 : decode cX9_sets 30 = .ok (.iconst 1, 1) := by decide +kernel
theorem dX9_sets_31 : decode cX9_sets 31 = .ok (.iadd, 1) := by decide +kernel
theorem dX9_sets_32 : decode cX9_sets 32 = .ok (.iload_n 1, 1) := by decide +kernel
theorem dX9_sets_33 : decode cX9_sets 33 = .ok (.iastore, 1) := by decide +kernel
theorem dX9_sets_34 : decode cX9_sets 34 = .ok (.aload_n 0, 1) := by decide +kernel
theorem dX9_sets_35 : decode cX9_sets 35 = .ok (.getfield 7, 3) := by decide +kernel
theorem dX9_sets_38 : decode cX9_sets 38 = .ok (.iload_n 3, 1) := by decide +kernel
theorem dX9_sets_39 : decode cX9_sets 39 = .ok (.iconst 2, 1) := by decide +kernel
theorem dX9_sets_40 : decode cX9_sets 40 = .ok (.iadd, 1) := by decide +kernel
theorem dX9_sets_41 : decode cX9_sets 41 = .ok (.iload_n 2, 1) := by decide +kernel
theorem dX9_sets_42 : decode cX9_sets 42 = .ok (.iastore, 1) := by decide +kernel
theorem dX9_sets_43 : decode cX9_sets 43 = .ok (.aload_n 0, 1) := by decide +kernel
theorem dX9_sets_44 : decode cX9_sets 44 = .ok (.getfield 7, 3) := by decide +kernel
theorem dX9_sets_47 : decode cX9_sets 47 = .ok (.iload_n 3, 1) := by decide +kernel
theorem dX9_sets_48 : decode cX9_sets 48 = .ok (.iconst 3, 1) := by decide +kernel
theorem dX9_sets_49 : decode cX9_sets 49 = .ok (.iadd, 1) := by decide +kernel
theorem dX9_sets_50 : decode cX9_sets 50 = .ok (.aload_n 0, 1) := by decide +kernel
theorem dX9_sets_51 : decode cX9_sets 51 = .ok (.getfield 7, 3) := by decide +kernel
theorem dX9_sets_54 : decode cX9_sets 54 = .ok (.iconst 2, 1) := by decide +kernel
theorem dX9_sets_55 : decode cX9_sets 55 = .ok (.iaload, 1) := by decide +kernel
theorem dX9_sets_56 : decode cX9_sets 56 = .ok (.iastore, 1) := by decide +kernel
theorem dX9_sets_57 : decode cX9_sets 57 = .ok (.aload_n 0, 1) := by decide +kernel
theorem dX9_sets_58 : decode cX9_sets 58 = .ok (.getfield 7, 3) := by decide +kernel
theorem dX9_sets_61 : decode cX9_sets 61 = .ok (.bipush 6, 2) := by decide +kernel
theorem dX9_sets_63 : decode cX9_sets 63 = .ok (.dup2, 1) := by decide +kernel
theorem dX9_sets_64 : decode cX9_sets 64 = .ok (.iaload, 1) := by decide +kernel
theorem dX9_sets_65 : decode cX9_sets 65 = .ok (.iconst 1, 1) := by decide +kernel
theorem dX9_sets_66 : decode cX9_sets 66 = .ok (.iadd, 1) := by decide +kernel
theorem dX9_sets_67 : decode cX9_sets 67 = .ok (.iastore, 1) := by decide +kernel
theorem dX9_sets_68 : decode cX9_sets 68 = .ok (.aload_n 0, 1) := by decide +kernel
theorem dX9_sets_69 : decode cX9_sets 69 = .ok (.getfield 7, 3) := by decide +kernel
theorem dX9_sets_72 : decode cX9_sets 72 = .ok (.bipush 9, 2) := by decide +kernel
theorem dX9_sets_74 : decode cX9_sets 74 = .ok (.iload_n 1, 1) := by decide +kernel
theorem dX9_sets_75 : decode cX9_sets 75 = .ok (.iadd, 1) := by decide +kernel
theorem dX9_sets_76 : decode cX9_sets 76 = .ok (.iload_n 2, 1) := by decide +kernel
theorem dX9_sets_77 : decode cX9_sets 77 = .ok (.iastore, 1) := by decide +kernel
theorem dX9_sets_78 : decode cX9_sets 78 = .ok (.aload_n 0, 1) := by decide +kernel
theorem dX9_sets_79 : decode cX9_sets 79 = .ok (.getfield 7, 3) := by decide +kernel
theorem dX9_sets_82 : decode cX9_sets 82 = .ok (.iconst 3, 1) := by decide +kernel
theorem dX9_sets_83 : decode cX9_sets 83 = .ok (.dup2, 1) := by decide +kernel
theorem dX9_sets_84 : decode cX9_sets 84 = .ok (.iaload, 1) := by decide +kernel
theorem dX9_sets_85 : decode cX9_sets 85 = .ok (.iconst 1, 1) := by decide +kernel
theorem dX9_sets_86 : decode cX9_sets 86 = .ok (.iadd, 1) := by decide +kernel
theorem dX9_sets_87 : decode cX9_sets 87 = .ok (.iastore, 1) := by decide +kernel
theorem dX9_sets_88 : decode cX9_sets 88 = .ok (.aload_n 0, 1) := by decide +kernel
theorem dX9_sets_89 : decode cX9_sets 89 = .ok (.getfield 7, 3) := by decide +kernel
theorem dX9_sets_92 : decode cX9_sets 92 = .ok (.iconst 3, 1) := by decide +kernel
theorem dX9_sets_93 : decode cX9_sets 93 = .ok (.iaload, 1) := by decide +kernel
theorem dX9_sets_94 : decode cX9_sets 94 = .ok (.iconst 1, 1) := by decide +kernel
theorem dX9_sets_95 : decode cX9_sets 95 = .ok (.isub, 1) := by decide +kernel
theorem dX9_sets_96 : decode cX9_sets 96 = .ok (.ireturn, 1) := by decide +kernel
theorem dX9_set_0 : decode cX9_set 0 = .ok (.aload_n 0, 1) := by decide +kernel
theorem dX9_set_1 : decode cX9_set 1 = .ok (.iload_n 1, 1) := by decide +kernel
theorem dX9_set_2 : decode cX9_set 2 = .ok (.iload_n 2, 1) := by decide +kernel
theorem dX9_set_3 : decode cX9_set 3 = .ok (.invokevirtual 76, 3) := by decide +kernel
theorem dX9_set_6 : decode cX9_set 6 = .ok (.istore_n 3, 1) := by decide +kernel
theorem dX9_set_7 : decode cX9_set 7 = .ok (.iload_n 3, 1) := by decide +kernel
theorem dX9_set_8 : decode cX9_set 8 = .ok (.ifCond .eq 5, 3) := by decide +kernel
theorem dX9_set_11 : decode cX9_set 11 = .ok (.iload_n 3, 1) := by decide +kernel
theorem dX9_set_12 : decode cX9_set 12 = .ok (.ireturn, 1) := by decide +kernel
theorem dX9_set_13 : decode cX9_set 13 = .ok (.aload_n 0, 1) := by decide +kernel
theorem dX9_set_14 : decode cX9_set 14 = .ok (.invokevirtual 44, 3) := by decide +kernel
theorem dX9_set_17 : decode cX9_set 17 = .ok (.aload_n 0, 1) := by decide +kernel
theorem dX9_set_18 : decode cX9_set 18 = .ok (.iload_n 1, 1) := by decide +kernel
theorem dX9_set_19 : decode cX9_set 19 = .ok (.iload_n 2, 1) := by decide +kernel
theorem dX9_set_20 : decode cX9_set 20 = .ok (.invokevirtual 80, 3) := by decide +kernel
theorem dX9_set_23 : decode cX9_set 23 = .ok (.ireturn, 1) := by decide +kernel
theorem dX9_mayRemove_0 : decode cX9_mayRemove 0 = .ok (.iload_n 1, 1) := by decide +kernel
theorem dX9_mayRemove_1 : decode cX9_mayRemove 1 = .ok (.invokestatic 72, 3) := by decide +kernel
theorem dX9_mayRemove_4 : decode cX9_mayRemove 4 = .ok (.ifCond .ne 5, 3) := by decide +kernel
theorem dX9_mayRemove_7 : decode cX9_mayRemove 7 = .ok (.iconst (-1), 1) := by decide +kernel
theorem dX9_mayRemove_8 : decode cX9_mayRemove 8 = .ok (.ireturn, 1) := by decide +kernel
theorem dX9_mayRemove_9 : decode cX9_mayRemove 9 = .ok (.aload_n 0, 1) := by decide +kernel
theorem dX9_mayRemove_10 : decode cX9_mayRemove 10 = .ok (.getfield 7, 3) := by decide +kernel
theorem dX9_mayRemove_13 : decode cX9_mayRemove 13 = .ok (.bipush 6, 2) := by decide +kernel
theorem dX9_mayRemove_15 : decode cX9_mayRemove 15 = .ok (.iaload, 1) := by decide +kernel
theorem dX9_mayRemove_16 : decode cX9_mayRemove 16 = .ok (.bipush 60, 2) := by decide +kernel
theorem dX9_mayRemove_18 : decode cX9_mayRemove 18 = .ok (.if_icmp .ne 8, 3) := by decide +kernel
theorem dX9_mayRemove_21 : decode cX9_mayRemove 21 = .ok (.bipush (-4), 2) := by decide +kernel
theorem dX9_mayRemove_23 : decode cX9_mayRemove 23 = .ok (.goto 23, 3) := by decide +kernel
theorem dX9_mayRemove_26 : decode cX9_mayRemove 26 = .ok (.aload_n 0, 1) := by decide +kernel
theorem dX9_mayRemove_27 : decode cX9_mayRemove 27 = .ok (.getfield 7, 3) := by decide +kernel
theorem dX9_mayRemove_30 : decode cX9_mayRemove 30 = .ok (.bipush 9, 2) := by decide +kernel
theorem dX9_mayRemove_32 : decode cX9_mayRemove 32 = .ok (.iload_n 1, 1) := by decide +kernel
theorem dX9_mayRemove_33 : decode cX9_mayRemove 33 = .ok (.iadd, 1) := by decide +kernel
theorem dX9_mayRemove_34 : decode cX9_mayRemove 34 = .ok (.iaload, 1) := by decide +kernel
theorem dX9_mayRemove_35 : decode cX9_mayRemove 35 = .ok (.bipush (-6), 2) := by decide +kernel
theorem dX9_mayRemove_37 : decode cX9_mayRemove 37 = .ok (.if_icmp .ne 8, 3) := by decide +kernel
theorem dX9_mayRemove_40 : decode cX9_mayRemove 40 = .ok (.bipush (-5), 2) := by decide +kernel
theorem dX9_mayRemove_42 : decode cX9_mayRemove 42 = .ok (.goto 4, 3) := by decide +kernel
theorem dX9_mayRemove_45 : decode cX9_mayRemove 45 = .ok (.iconst 0, 1) := by decide +kernel
theorem dX9_mayRemove_46 : decode cX9_mayRemove 46 = .ok (.ireturn, 1) := by decide +kernel
theorem dX9_remove_0 : decode cX9_remove 0 = .ok (.aload_n 0, 1) := by decide +kernel
theorem dX9_remove_1 : decode cX9_remove 1 = .ok (.iload_n 1, 1) := by decide +kernel
theorem dX9_remove_2 : decode cX9_remove 2 = .ok (.invokevirtual 83, 3) := by decide +kernel
theorem dX9_remove_5 : decode cX9_remove 5 = .ok (.istore_n 2, 1) := by decide +kernel
theorem dX9_remove_6 : decode cX9_remove 6 = .ok (.iload_n 2, 1) := by decide +kernel
theorem dX9_remove_7 : decode cX9_remove 7 = .ok (.ifCond .eq 5, 3) := by decide +kernel
theorem dX9_remove_10 : decode cX9_remove 10 = .ok (.iload_n 2, 1) := by decide +kernel
theorem dX9_remove_11 : decode cX9_remove 11 = .ok (.ireturn, 1) := by decide +kernel
theorem dX9_remove_12 : decode cX9_remove 12 = .ok (.aload_n 0, 1) := by decide +kernel
theorem dX9_remove_13 : decode cX9_remove 13 = .ok (.invokevirtual 44, 3) := by decide +kernel
theorem dX9_remove_16 : decode cX9_remove 16 = .ok (.aload_n 0, 1) := by decide +kernel
theorem dX9_remove_17 : decode cX9_remove 17 = .ok (.iload_n 1, 1) := by decide +kernel
theorem dX9_remove_18 : decode cX9_remove 18 = .ok (.bipush (-6), 2) := by decide +kernel
theorem dX9_remove_20 : decode cX9_remove 20 = .ok (.invokevirtual 80, 3) := by decide +kernel
theorem dX9_remove_23 : decode cX9_remove 23 = .ok (.ireturn, 1) := by decide +kernel
theorem dX9_mayPass_0 : decode cX9_mayPass 0 = .ok (.iload_n 1, 1) := by decide +kernel
theorem dX9_mayPass_1 : decode cX9_mayPass 1 = .ok (.iconst 1, 1) := by decide +kernel
theorem dX9_mayPass_2 : decode cX9_mayPass 2 = .ok (.sipush 999, 3) := by decide +kernel
theorem dX9_mayPass_5 : decode cX9_mayPass 5 = .ok (.invokestatic 32, 3) := by decide +kernel
theorem dX9_mayPass_8 : decode cX9_mayPass 8 = .ok (.ifCond .ne 8, 3) := by decide +kernel
theorem dX9_mayPass_11 : decode cX9_mayPass 11 = .ok (.bipush (-2), 2) := by decide +kernel
theorem dX9_mayPass_13 : decode cX9_mayPass 13 = .ok (.goto 22, 3) := by decide +kernel
theorem dX9_mayPass_16 : decode cX9_mayPass 16 = .ok (.aload_n 0, 1) := by decide +kernel
theorem dX9_mayPass_17 : decode cX9_mayPass 17 = .ok (.getfield 7, 3) := by decide +kernel
theorem dX9_mayPass_20 : decode cX9_mayPass 20 = .ok (.iconst 2, 1) := by decide +kernel
theorem dX9_mayPass_21 : decode cX9_mayPass 21 = .ok (.iaload, 1) := by decide +kernel
theorem dX9_mayPass_22 : decode cX9_mayPass 22 = .ok (.iload_n 1, 1) := by decide +kernel
theorem dX9_mayPass_23 : decode cX9_mayPass 23 = .ok (.iadd, 1) := by decide +kernel
theorem dX9_mayPass_24 : decode cX9_mayPass 24 = .ok (.ldc 86, 2) := by decide +kernel
theorem dX9_mayPass_26 : decode cX9_mayPass 26 = .ok (.if_icmp .le 8, 3) := by decide +kernel
theorem dX9_mayPass_29 : decode cX9_mayPass 29 = .ok (.bipush (-4), 2) := by decide +kernel
theorem dX9_mayPass_31 : decode cX9_mayPass 31 = .ok (.goto 4, 3) := by decide +kernel
theorem dX9_mayPass_34 : decode cX9_mayPass 34 = .ok (.iconst 0, 1) := by decide +kernel
theorem dX9_mayPass_35 : decode cX9_mayPass 35 = .ok (.ireturn, 1) := by decide +kernel
theorem dX9_pass_0 : decode cX9_pass 0 = .ok (.aload_n 0, 1) := by decide +kernel
theorem dX9_pass_1 : decode cX9_pass 1 = .ok (.iload_n 1, 1) := by decide +kernel
theorem dX9_pass_2 : decode cX9_pass 2 = .ok (.invokevirtual 87, 3) := by decide +kernel
theorem dX9_pass_5 : decode cX9_pass 5 = .ok (.istore_n 2, 1) := by decide +kernel
theorem dX9_pass_6 : decode cX9_pass 6 = .ok (.iload_n 2, 1) := by decide +kernel
theorem dX9_pass_7 : decode cX9_pass 7 = .ok (.ifCond .eq 5, 3) := by decide +kernel
theorem dX9_pass_10 : decode cX9_pass 10 = .ok (.iload_n 2, 1) := by decide +kernel
theorem dX9_pass_11 : decode cX9_pass 11 = .ok (.ireturn, 1) := by decide +kernel
theorem dX9_pass_12 : decode cX9_pass 12 = .ok (.aload_n 0, 1) := by decide +kernel
theorem dX9_pass_13 : decode cX9_pass 13 = .ok (.invokevirtual 44, 3) := by decide +kernel
theorem dX9_pass_16 : decode cX9_pass 16 = .ok (.aload_n 0, 1) := by decide +kernel
theorem dX9_pass_17 : decode cX9_pass 17 = .ok (.getfield 7, 3) := by decide +kernel
theorem dX9_pass_20 : decode cX9_pass 20 = .ok (.iconst 2, 1) := by decide +kernel
theorem dX9_pass_21 : decode cX9_pass 21 = .ok (.dup2, 1) := by decide +kernel
theorem dX9_pass_22 : decode cX9_pass 22 = .ok (.iaload, 1) := by decide +kernel
theorem dX9_pass_23 : decode cX9_pass 23 = .ok (.iload_n 1, 1) := by decide +kernel
theorem dX9_pass_24 : decode cX9_pass 24 = .ok (.iadd, 1) := by decide +kernel
theorem dX9_pass_25 : decode cX9_pass 25 = .ok (.iastore, 1) := by decide +kernel
theorem dX9_pass_26 : decode cX9_pass 26 = .ok (.aload_n 0, 1) := by decide +kernel
theorem dX9_pass_27 : decode cX9_pass 27 = .ok (.getfield 7, 3) := by decide +kernel
theorem dX9_pass_30 : decode cX9_pass 30 = .ok (.iconst 2, 1) := by decide +kernel
theorem dX9_pass_31 : decode cX9_pass 31 = .ok (.iaload, 1) := by decide +kernel
theorem dX9_pass_32 : decode cX9_pass 32 = .ok (.ireturn, 1) := by decide +kernel
theorem dX9_thin_0 : decode cX9_thin 0 = .ok (.aload_n 0, 1) := by decide +kernel
theorem dX9_thin_1 : decode cX9_thin 1 = .ok (.invokevirtual 44, 3) := by decide +kernel
theorem dX9_thin_4 : decode cX9_thin 4 = .ok (.aload_n 0, 1) := by decide +kernel
theorem dX9_thin_5 : decode cX9_thin 5 = .ok (.getfield 7, 3) := by decide +kernel
theorem dX9_thin_8 : decode cX9_thin 8 = .ok (.invokestatic 90, 3) := by decide +kernel
theorem dX9_thin_11 : decode cX9_thin 11 = .ok (.ireturn, 1) := by decide +kernel
theorem dX9_shoots_0 : decode cX9_shoots 0 = .ok (.sipush 474, 3) := by decide +kernel
theorem dX9_shoots_3 : decode cX9_shoots 3 = .ok (.istore_n 1, 1) := by decide +kernel
theorem dX9_shoots_4 : decode cX9_shoots 4 = .ok (.iload_n 1, 1) := by decide +kernel
theorem dX9_shoots_5 : decode cX9_shoots 5 = .ok (.sipush 436, 3) := by decide +kernel
theorem dX9_shoots_8 : decode cX9_shoots 8 = .ok (.if_icmp .lt 24, 3) := by decide +kernel
theorem dX9_shoots_11 : decode cX9_shoots 11 = .ok (.aload_n 0, 1) := by decide +kernel
theorem dX9_shoots_12 : decode cX9_shoots 12 = .ok (.getfield 7, 3) := by decide +kernel
theorem dX9_shoots_15 : decode cX9_shoots 15 = .ok (.iload_n 1, 1) := by decide +kernel
theorem dX9_shoots_16 : decode cX9_shoots 16 = .ok (.aload_n 0, 1) := by decide +kernel
theorem dX9_shoots_17 : decode cX9_shoots 17 = .ok (.getfield 7, 3) := by decide +kernel
theorem dX9_shoots_20 : decode cX9_shoots 20 = .ok (.iload_n 1, 1) := by decide +kernel
theorem dX9_shoots_21 : decode cX9_shoots 21 = .ok (.bipush 13, 2) := by decide +kernel
theorem dX9_shoots_23 : decode cX9_shoots 23 = .ok (.isub, 1) := by decide +kernel
theorem dX9_shoots_24 : decode cX9_shoots 24 = .ok (.iaload, 1) := by decide +kernel
theorem dX9_shoots_25 : decode cX9_shoots 25 = .ok (.iastore, 1) := by decide +kernel
theorem dX9_shoots_26 : decode cX9_shoots 26 = .ok (.iinc 1 (-1), 3) := by decide +kernel
theorem dX9_shoots_29 : decode cX9_shoots 29 = .ok (.goto (-25), 3) := by decide +kernel
theorem dX9_shoots_32 : decode cX9_shoots 32 = .ok (.aload_n 0, 1) := by decide +kernel
theorem dX9_shoots_33 : decode cX9_shoots 33 = .ok (.getfield 7, 3) := by decide +kernel
theorem dX9_shoots_36 : decode cX9_shoots 36 = .ok (.sipush 423, 3) := by decide +kernel
theorem dX9_shoots_39 : decode cX9_shoots 39 = .ok (.aload_n 0, 1) := by decide +kernel
theorem dX9_shoots_40 : decode cX9_shoots 40 = .ok (.getfield 7, 3) := by decide +kernel
theorem dX9_shoots_43 : decode cX9_shoots 43 = .ok (.iconst 3, 1) := by decide +kernel
theorem dX9_shoots_44 : decode cX9_shoots 44 = .ok (.iaload, 1) := by decide +kernel
theorem dX9_shoots_45 : decode cX9_shoots 45 = .ok (.iastore, 1) := by decide +kernel
theorem dX9_shoots_46 : decode cX9_shoots 46 = .ok (.iconst 0, 1) := by decide +kernel
theorem dX9_shoots_47 : decode cX9_shoots 47 = .ok (.istore_n 1, 1) := by decide +kernel
theorem dX9_shoots_48 : decode cX9_shoots 48 = .ok (.iload_n 1, 1) := by decide +kernel
theorem dX9_shoots_49 : decode cX9_shoots 49 = .ok (.bipush 12, 2) := by decide +kernel
theorem dX9_shoots_51 : decode cX9_shoots 51 = .ok (.if_icmp .ge 28, 3) := by decide +kernel
theorem dX9_shoots_54 : decode cX9_shoots 54 = .ok (.aload_n 0, 1) := by decide +kernel
theorem dX9_shoots_55 : decode cX9_shoots 55 = .ok (.getfield 7, 3) := by decide +kernel
theorem dX9_shoots_58 : decode cX9_shoots 58 = .ok (.sipush 424, 3) := by decide +kernel
theorem dX9_shoots_61 : decode cX9_shoots 61 = .ok (.iload_n 1, 1) := by decide +kernel
theorem dX9_shoots_62 : decode cX9_shoots 62 = .ok (.iadd, 1) := by decide +kernel
theorem dX9_shoots_63 : decode cX9_shoots 63 = .ok (.aload_n 0, 1) := by decide +kernel
theorem dX9_shoots_64 : decode cX9_shoots 64 = .ok (.getfield 7, 3) := by decide +kernel
theorem dX9_shoots_67 : decode cX9_shoots 67 = .ok (.bipush 9, 2) := by decide +kernel
theorem dX9_shoots_69 : decode cX9_shoots 69 = .ok (.iload_n 1, 1) := by decide +kernel
theorem dX9_shoots_70 : decode cX9_shoots 70 = .ok (.iadd, 1) := by decide +kernel
theorem dX9_shoots_71 : decode cX9_shoots 71 = .ok (.iaload, 1) := by decide +kernel
theorem dX9_shoots_72 : decode cX9_shoots 72 = .ok (.iastore, 1) := by decide +kernel
theorem dX9_shoots_73 : decode cX9_shoots 73 = .ok (.iinc 1 1, 3) := by decide +kernel
theorem dX9_shoots_76 : decode cX9_shoots 76 = .ok (.goto (-28), 3) := by decide +kernel
theorem dX9_shoots_79 : decode cX9_shoots 79 = .ok (.aload_n 0, 1) := by decide +kernel
theorem dX9_shoots_80 : decode cX9_shoots 80 = .ok (.getfield 7, 3) := by decide +kernel
theorem dX9_shoots_83 : decode cX9_shoots 83 = .ok (.bipush 8, 2) := by decide +kernel
theorem dX9_shoots_85 : decode cX9_shoots 85 = .ok (.dup2, 1) := by decide +kernel
theorem dX9_shoots_86 : decode cX9_shoots 86 = .ok (.iaload, 1) := by decide +kernel
theorem dX9_shoots_87 : decode cX9_shoots 87 = .ok (.aload_n 0, 1) := by decide +kernel
theorem dX9_shoots_88 : decode cX9_shoots 88 = .ok (.getfield 7, 3) := by decide +kernel
theorem dX9_shoots_91 : decode cX9_shoots 91 = .ok (.bipush 8, 2) := by decide +kernel
theorem dX9_shoots_93 : decode cX9_shoots 93 = .ok (.iaload, 1) := by decide +kernel
theorem dX9_shoots_94 : decode cX9_shoots 94 = .ok (.iconst 4, 1) := by decide +kernel
theorem dX9_shoots_95 : decode cX9_shoots 95 = .ok (.if_icmp .ge 7, 3) := by decide +kernel
theorem dX9_shoots_98 : decode cX9_shoots 98 = .ok (.iconst 1, 1) := by decide +kernel
theorem dX9_shoots_99 : decode cX9_shoots 99 = .ok (.goto 4, 3) := by decide +kernel
theorem dX9_shoots_102 : decode cX9_shoots 102 = .ok (.iconst 0, 1) := by decide +kernel
theorem dX9_shoots_103 : decode cX9_shoots 103 = .ok (.iadd, 1) := by decide +kernel
theorem dX9_shoots_104 : decode cX9_shoots 104 = .ok (.iastore, 1) := by decide +kernel
theorem dX9_shoots_105 : decode cX9_shoots 105 = .ok (.aload_n 0, 1) := by decide +kernel
theorem dX9_shoots_106 : decode cX9_shoots 106 = .ok (.getfield 7, 3) := by decide +kernel
theorem dX9_shoots_109 : decode cX9_shoots 109 = .ok (.iconst 3, 1) := by decide +kernel
theorem dX9_shoots_110 : decode cX9_shoots 110 = .ok (.iaload, 1) := by decide +kernel
theorem dX9_shoots_111 : decode cX9_shoots 111 = .ok (.ireturn, 1) := by decide +kernel
theorem dX9_snapshot_0 : decode cX9_snapshot 0 = .ok (.aload_n 0, 1) := by decide +kernel
theorem dX9_snapshot_1 : decode cX9_snapshot 1 = .ok (.invokevirtual 44, 3) := by decide +kernel
theorem dX9_snapshot_4 : decode cX9_snapshot 4 = .ok (.aload_n 0, 1) := by decide +kernel
theorem dX9_snapshot_5 : decode cX9_snapshot 5 = .ok (.invokevirtual 94, 3) := by decide +kernel
theorem dX9_snapshot_8 : decode cX9_snapshot 8 = .ok (.ireturn, 1) := by decide +kernel
theorem dX9_begins_0 : decode cX9_begins 0 = .ok (.aload_n 0, 1) := by decide +kernel
theorem dX9_begins_1 : decode cX9_begins 1 = .ok (.getfield 7, 3) := by decide +kernel
theorem dX9_begins_4 : decode cX9_begins 4 = .ok (.iload_n 1, 1) := by decide +kernel
theorem dX9_begins_5 : decode cX9_begins 5 = .ok (.invokestatic 62, 3) := by decide +kernel
theorem dX9_begins_8 : decode cX9_begins 8 = .ok (.iload_n 2, 1) := by decide +kernel
theorem dX9_begins_9 : decode cX9_begins 9 = .ok (.iastore, 1) := by decide +kernel
theorem dX9_begins_10 : decode cX9_begins 10 = .ok (.aload_n 0, 1) := by decide +kernel
theorem dX9_begins_11 : decode cX9_begins 11 = .ok (.getfield 7, 3) := by decide +kernel
theorem dX9_begins_14 : decode cX9_begins 14 = .ok (.iload_n 1, 1) := by decide +kernel
theorem dX9_begins_15 : decode cX9_begins 15 = .ok (.invokestatic 62, 3) := by decide +kernel
theorem dX9_begins_18 : decode cX9_begins 18 = .ok (.iconst 1, 1) := by decide +kernel
theorem dX9_begins_19 : decode cX9_begins 19 = .ok (.iadd, 1) := by decide +kernel
theorem dX9_begins_20 : decode cX9_begins 20 = .ok (.iload_n 2, 1) := by decide +kernel
theorem dX9_begins_21 : decode cX9_begins 21 = .ok (.iastore, 1) := by decide +kernel
theorem dX9_begins_22 : decode cX9_begins 22 = .ok (.iconst 0, 1) := by decide +kernel
theorem dX9_begins_23 : decode cX9_begins 23 = .ok (.istore 4, 2) := by decide +kernel
theorem dX9_begins_25 : decode cX9_begins 25 = .ok (.iload 4, 2) := by decide +kernel
theorem dX9_begins_27 : decode cX9_begins 27 = .ok (.bipush 12, 2) := by decide +kernel
theorem dX9_begins_29 : decode cX9_begins 29 = .ok (.if_icmp .ge 62, 3) := by decide +kernel
theorem dX9_begins_32 : decode cX9_begins 32 = .ok (.iload_n 3, 1) := by decide +kernel
theorem dX9_begins_33 : decode cX9_begins 33 = .ok (.ifCond .ge 8, 3) := by decide +kernel
theorem dX9_begins_36 : decode cX9_begins 36 = .ok (.bipush (-6), 2) := by decide +kernel
theorem dX9_begins_38 : decode cX9_begins 38 = .ok (.goto 12, 3) := by decide +kernel
theorem dX9_begins_41 : decode cX9_begins 41 = .ok (.aload_n 0, 1) := by decide +kernel
theorem dX9_begins_42 : decode cX9_begins 42 = .ok (.getfield 7, 3) := by decide +kernel
theorem dX9_begins_45 : decode cX9_begins 45 = .ok (.iload_n 3, 1) := by decide +kernel
theorem dX9_begins_46 : decode cX9_begins 46 = .ok (.iload 4, 2) := by decide +kernel
theorem dX9_begins_48 : decode cX9_begins 48 = .ok (.iadd, 1) := by decide +kernel
theorem dX9_begins_49 : decode cX9_begins 49 = .ok (.iaload, 1) := by decide +kernel
theorem dX9_begins_50 : decode cX9_begins 50 = .ok (.istore 5, 2) := by decide +kernel
theorem dX9_begins_52 : decode cX9_begins 52 = .ok (.aload_n 0, 1) := by decide +kernel
theorem dX9_begins_53 : decode cX9_begins 53 = .ok (.getfield 7, 3) := by decide +kernel
theorem dX9_begins_56 : decode cX9_begins 56 = .ok (.iload_n 1, 1) := by decide +kernel
theorem dX9_begins_57 : decode cX9_begins 57 = .ok (.invokestatic 62, 3) := by decide +kernel
theorem dX9_begins_60 : decode cX9_begins 60 = .ok (.iconst 3, 1) := by decide +kernel
theorem dX9_begins_61 : decode cX9_begins 61 = .ok (.iadd, 1) := by decide +kernel
theorem dX9_begins_62 : decode cX9_begins 62 = .ok (.iload 4, 2) := by decide +kernel
theorem dX9_begins_64 : decode cX9_begins 64 = .ok (.iadd, 1) := by decide +kernel
theorem dX9_begins_65 : decode cX9_begins 65 = .ok (.iload 5, 2) := by decide +kernel
theorem dX9_begins_67 : decode cX9_begins 67 = .ok (.iastore, 1) := by decide +kernel
theorem dX9_begins_68 : decode cX9_begins 68 = .ok (.aload_n 0, 1) := by decide +kernel
theorem dX9_begins_69 : decode cX9_begins 69 = .ok (.getfield 7, 3) := by decide +kernel
theorem dX9_begins_72 : decode cX9_begins 72 = .ok (.iload_n 1, 1) := by decide +kernel
theorem dX9_begins_73 : decode cX9_begins 73 = .ok (.invokestatic 62, 3) := by decide +kernel
theorem dX9_begins_76 : decode cX9_begins 76 = .ok (.bipush 15, 2) := by decide +kernel
theorem dX9_begins_78 : decode cX9_begins 78 = .ok (.iadd, 1) := by decide +kernel
theorem dX9_begins_79 : decode cX9_begins 79 = .ok (.iload 4, 2) := by decide +kernel
theorem dX9_begins_81 : decode cX9_begins 81 = .ok (.iadd, 1) := by decide +kernel
theorem dX9_begins_82 : decode cX9_begins 82 = .ok (.iload 5, 2) := by decide +kernel
theorem dX9_begins_84 : decode cX9_begins 84 = .ok (.iastore, 1) := by decide +kernel
theorem dX9_begins_85 : decode cX9_begins 85 = .ok (.iinc 4 1, 3) := by decide +kernel
theorem dX9_begins_88 : decode cX9_begins 88 = .ok (.goto (-63), 3) := by decide +kernel
theorem dX9_begins_91 : decode cX9_begins 91 = .ok (.iload_n 2, 1) := by decide +kernel
theorem dX9_begins_92 : decode cX9_begins 92 = .ok (.ireturn, 1) := by decide +kernel
theorem dX9_comes_0 : decode cX9_comes 0 = .ok (.aload_n 0, 1) := by decide +kernel
theorem dX9_comes_1 : decode cX9_comes 1 = .ok (.getfield 7, 3) := by decide +kernel
theorem dX9_comes_4 : decode cX9_comes 4 = .ok (.aload_n 0, 1) := by decide +kernel
theorem dX9_comes_5 : decode cX9_comes 5 = .ok (.getfield 7, 3) := by decide +kernel
theorem dX9_comes_8 : decode cX9_comes 8 = .ok (.bipush 7, 2) := by decide +kernel
theorem dX9_comes_10 : decode cX9_comes 10 = .ok (.iaload, 1) := by decide +kernel
theorem dX9_comes_11 : decode cX9_comes 11 = .ok (.invokestatic 62, 3) := by decide +kernel
theorem dX9_comes_14 : decode cX9_comes 14 = .ok (.iconst 2, 1) := by decide +kernel
theorem dX9_comes_15 : decode cX9_comes 15 = .ok (.iadd, 1) := by decide +kernel
theorem dX9_comes_16 : decode cX9_comes 16 = .ok (.iconst 0, 1) := by decide +kernel
theorem dX9_comes_17 : decode cX9_comes 17 = .ok (.iastore, 1) := by decide +kernel
theorem dX9_comes_18 : decode cX9_comes 18 = .ok (.aload_n 0, 1) := by decide +kernel
theorem dX9_comes_19 : decode cX9_comes 19 = .ok (.aload_n 0, 1) := by decide +kernel
theorem dX9_comes_20 : decode cX9_comes 20 = .ok (.getfield 7, 3) := by decide +kernel
theorem dX9_comes_23 : decode cX9_comes 23 = .ok (.bipush 7, 2) := by decide +kernel
theorem dX9_comes_25 : decode cX9_comes 25 = .ok (.iaload, 1) := by decide +kernel
theorem dX9_comes_26 : decode cX9_comes 26 = .ok (.iconst 0, 1) := by decide +kernel
theorem dX9_comes_27 : decode cX9_comes 27 = .ok (.iconst (-1), 1) := by decide +kernel
theorem dX9_comes_28 : decode cX9_comes 28 = .ok (.invokevirtual 98, 3) := by decide +kernel
theorem dX9_comes_31 : decode cX9_comes 31 = .ok (.pop, 1) := by decide +kernel
theorem dX9_comes_32 : decode cX9_comes 32 = .ok (.aload_n 0, 1) := by decide +kernel
theorem dX9_comes_33 : decode cX9_comes 33 = .ok (.getfield 7, 3) := by decide +kernel
theorem dX9_comes_36 : decode cX9_comes 36 = .ok (.bipush 7, 2) := by decide +kernel
theorem dX9_comes_38 : decode cX9_comes 38 = .ok (.dup2, 1) := by decide +kernel
theorem dX9_comes_39 : decode cX9_comes 39 = .ok (.iaload, 1) := by decide +kernel
theorem dX9_comes_40 : decode cX9_comes 40 = .ok (.iconst 1, 1) := by decide +kernel
theorem dX9_comes_41 : decode cX9_comes 41 = .ok (.iadd, 1) := by decide +kernel
theorem dX9_comes_42 : decode cX9_comes 42 = .ok (.iastore, 1) := by decide +kernel
theorem dX9_comes_43 : decode cX9_comes 43 = .ok (.aload_n 0, 1) := by decide +kernel
theorem dX9_comes_44 : decode cX9_comes 44 = .ok (.getfield 7, 3) := by decide +kernel
theorem dX9_comes_47 : decode cX9_comes 47 = .ok (.bipush 7, 2) := by decide +kernel
theorem dX9_comes_49 : decode cX9_comes 49 = .ok (.iaload, 1) := by decide +kernel
theorem dX9_comes_50 : decode cX9_comes 50 = .ok (.iconst 1, 1) := by decide +kernel
theorem dX9_comes_51 : decode cX9_comes 51 = .ok (.isub, 1) := by decide +kernel
theorem dX9_comes_52 : decode cX9_comes 52 = .ok (.ireturn, 1) := by decide +kernel
theorem dX9_reader_0 : decode cX9_reader 0 = .ok (.aload_n 0, 1) := by decide +kernel
theorem dX9_reader_1 : decode cX9_reader 1 = .ok (.getfield 7, 3) := by decide +kernel
theorem dX9_reader_4 : decode cX9_reader 4 = .ok (.bipush 7, 2) := by decide +kernel
theorem dX9_reader_6 : decode cX9_reader 6 = .ok (.iaload, 1) := by decide +kernel
theorem dX9_reader_7 : decode cX9_reader 7 = .ok (.bipush 6, 2) := by decide +kernel
theorem dX9_reader_9 : decode cX9_reader 9 = .ok (.if_icmp .ne 6, 3) := by decide +kernel
theorem dX9_reader_12 : decode cX9_reader 12 = .ok (.bipush (-4), 2) := by decide +kernel
theorem dX9_reader_14 : decode cX9_reader 14 = .ok (.ireturn, 1) := by decide +kernel
theorem dX9_reader_15 : decode cX9_reader 15 = .ok (.aload_n 0, 1) := by decide +kernel
theorem dX9_reader_16 : decode cX9_reader 16 = .ok (.invokevirtual 44, 3) := by decide +kernel
theorem dX9_reader_19 : decode cX9_reader 19 = .ok (.aload_n 0, 1) := by decide +kernel
theorem dX9_reader_20 : decode cX9_reader 20 = .ok (.invokevirtual 102, 3) := by decide +kernel
theorem dX9_reader_23 : decode cX9_reader 23 = .ok (.ireturn, 1) := by decide +kernel
theorem dX9_mayRead_0 : decode cX9_mayRead 0 = .ok (.aload_n 0, 1) := by decide +kernel
theorem dX9_mayRead_1 : decode cX9_mayRead 1 = .ok (.iload_n 1, 1) := by decide +kernel
theorem dX9_mayRead_2 : decode cX9_mayRead 2 = .ok (.invokevirtual 105, 3) := by decide +kernel
theorem dX9_mayRead_5 : decode cX9_mayRead 5 = .ok (.ifCond .ne 5, 3) := by decide +kernel
theorem dX9_mayRead_8 : decode cX9_mayRead 8 = .ok (.iconst (-1), 1) := by decide +kernel
theorem dX9_mayRead_9 : decode cX9_mayRead 9 = .ok (.ireturn, 1) := by decide +kernel
theorem dX9_mayRead_10 : decode cX9_mayRead 10 = .ok (.iload_n 2, 1) := by decide +kernel
theorem dX9_mayRead_11 : decode cX9_mayRead 11 = .ok (.iconst 1, 1) := by decide +kernel
theorem dX9_mayRead_12 : decode cX9_mayRead 12 = .ok (.bipush 99, 2) := by decide +kernel
theorem dX9_mayRead_14 : decode cX9_mayRead 14 = .ok (.invokestatic 32, 3) := by decide +kernel
theorem dX9_mayRead_17 : decode cX9_mayRead 17 = .ok (.ifCond .ne 8, 3) := by decide +kernel
theorem dX9_mayRead_20 : decode cX9_mayRead 20 = .ok (.bipush (-2), 2) := by decide +kernel
theorem dX9_mayRead_22 : decode cX9_mayRead 22 = .ok (.goto 20, 3) := by decide +kernel
theorem dX9_mayRead_25 : decode cX9_mayRead 25 = .ok (.aload_n 0, 1) := by decide +kernel
theorem dX9_mayRead_26 : decode cX9_mayRead 26 = .ok (.getfield 7, 3) := by decide +kernel
theorem dX9_mayRead_29 : decode cX9_mayRead 29 = .ok (.iload_n 1, 1) := by decide +kernel
theorem dX9_mayRead_30 : decode cX9_mayRead 30 = .ok (.invokestatic 69, 3) := by decide +kernel
theorem dX9_mayRead_33 : decode cX9_mayRead 33 = .ok (.ifCond .eq 8, 3) := by decide +kernel
theorem dX9_mayRead_36 : decode cX9_mayRead 36 = .ok (.bipush (-5), 2) := by decide +kernel
theorem dX9_mayRead_38 : decode cX9_mayRead 38 = .ok (.goto 4, 3) := by decide +kernel
theorem dX9_mayRead_41 : decode cX9_mayRead 41 = .ok (.iconst 0, 1) := by decide +kernel
theorem dX9_mayRead_42 : decode cX9_mayRead 42 = .ok (.ireturn, 1) := by decide +kernel
theorem dX9_reads_0 : decode cX9_reads 0 = .ok (.iconst 0, 1) := by decide +kernel
theorem dX9_reads_1 : decode cX9_reads 1 = .ok (.istore_n 3, 1) := by decide +kernel
theorem dX9_reads_2 : decode cX9_reads 2 = .ok (.iconst 0, 1) := by decide +kernel
theorem dX9_reads_3 : decode cX9_reads 3 = .ok (.istore 4, 2) := by decide +kernel
theorem dX9_reads_5 : decode cX9_reads 5 = .ok (.iload 4, 2) := by decide +kernel
theorem dX9_reads_7 : decode cX9_reads 7 = .ok (.aload_n 0, 1) := by decide +kernel
theorem dX9_reads_8 : decode cX9_reads 8 = .ok (.getfield 7, 3) := by decide +kernel
theorem dX9_reads_11 : decode cX9_reads 11 = .ok (.bipush 6, 2) := by decide +kernel
theorem dX9_reads_13 : decode cX9_reads 13 = .ok (.iaload, 1) := by decide +kernel
theorem dX9_reads_14 : decode cX9_reads 14 = .ok (.if_icmp .ge 92, 3) := by decide +kernel
theorem dX9_reads_17 : decode cX9_reads 17 = .ok (.iload_n 3, 1) := by decide +kernel
theorem dX9_reads_18 : decode cX9_reads 18 = .ok (.iload_n 2, 1) := by decide +kernel
theorem dX9_reads_19 : decode cX9_reads 19 = .ok (.if_icmp .ge 87, 3) := by decide +kernel
theorem dX9_reads_22 : decode cX9_reads 22 = .ok (.aload_n 0, 1) := by decide +kernel
theorem dX9_reads_23 : decode cX9_reads 23 = .ok (.getfield 7, 3) := by decide +kernel
theorem dX9_reads_26 : decode cX9_reads 26 = .ok (.iload 4, 2) := by decide +kernel
theorem dX9_reads_28 : decode cX9_reads 28 = .ok (.iconst 0, 1) := by decide +kernel
theorem dX9_reads_29 : decode cX9_reads 29 = .ok (.invokestatic 47, 3) := by decide +kernel
theorem dX9_reads_32 : decode cX9_reads 32 = .ok (.aload_n 0, 1) := by decide +kernel
theorem dX9_reads_33 : decode cX9_reads 33 = .ok (.getfield 7, 3) := by decide +kernel
theorem dX9_reads_36 : decode cX9_reads 36 = .ok (.iload_n 1, 1) := by decide +kernel
theorem dX9_reads_37 : decode cX9_reads 37 = .ok (.invokestatic 62, 3) := by decide +kernel
theorem dX9_reads_40 : decode cX9_reads 40 = .ok (.iaload, 1) := by decide +kernel
theorem dX9_reads_41 : decode cX9_reads 41 = .ok (.if_icmp .lt 59, 3) := by decide +kernel
theorem dX9_reads_44 : decode cX9_reads 44 = .ok (.aload_n 0, 1) := by decide +kernel
theorem dX9_reads_45 : decode cX9_reads 45 = .ok (.getfield 7, 3) := by decide +kernel
theorem dX9_reads_48 : decode cX9_reads 48 = .ok (.iload_n 1, 1) := by decide +kernel
theorem dX9_reads_49 : decode cX9_reads 49 = .ok (.invokestatic 62, 3) := by decide +kernel
theorem dX9_reads_52 : decode cX9_reads 52 = .ok (.iconst 3, 1) := by decide +kernel
theorem dX9_reads_53 : decode cX9_reads 53 = .ok (.iadd, 1) := by decide +kernel
theorem dX9_reads_54 : decode cX9_reads 54 = .ok (.aload_n 0, 1) := by decide +kernel
theorem dX9_reads_55 : decode cX9_reads 55 = .ok (.getfield 7, 3) := by decide +kernel
theorem dX9_reads_58 : decode cX9_reads 58 = .ok (.iload 4, 2) := by decide +kernel
theorem dX9_reads_60 : decode cX9_reads 60 = .ok (.iconst 1, 1) := by decide +kernel
theorem dX9_reads_61 : decode cX9_reads 61 = .ok (.invokestatic 47, 3) := by decide +kernel
theorem dX9_reads_64 : decode cX9_reads 64 = .ok (.iadd, 1) := by decide +kernel
theorem dX9_reads_65 : decode cX9_reads 65 = .ok (.aload_n 0, 1) := by decide +kernel
theorem dX9_reads_66 : decode cX9_reads 66 = .ok (.getfield 7, 3) := by decide +kernel
theorem dX9_reads_69 : decode cX9_reads 69 = .ok (.iload 4, 2) := by decide +kernel
theorem dX9_reads_71 : decode cX9_reads 71 = .ok (.iconst 2, 1) := by decide +kernel
theorem dX9_reads_72 : decode cX9_reads 72 = .ok (.invokestatic 47, 3) := by decide +kernel
theorem dX9_reads_75 : decode cX9_reads 75 = .ok (.iastore, 1) := by decide +kernel
theorem dX9_reads_76 : decode cX9_reads 76 = .ok (.aload_n 0, 1) := by decide +kernel
theorem dX9_reads_77 : decode cX9_reads 77 = .ok (.getfield 7, 3) := by decide +kernel
theorem dX9_reads_80 : decode cX9_reads 80 = .ok (.iload_n 1, 1) := by decide +kernel
theorem dX9_reads_81 : decode cX9_reads 81 = .ok (.invokestatic 62, 3) := by decide +kernel
theorem dX9_reads_84 : decode cX9_reads 84 = .ok (.aload_n 0, 1) := by decide +kernel
theorem dX9_reads_85 : decode cX9_reads 85 = .ok (.getfield 7, 3) := by decide +kernel
theorem dX9_reads_88 : decode cX9_reads 88 = .ok (.iload 4, 2) := by decide +kernel
theorem dX9_reads_90 : decode cX9_reads 90 = .ok (.iconst 0, 1) := by decide +kernel
theorem dX9_reads_91 : decode cX9_reads 91 = .ok (.invokestatic 47, 3) := by decide +kernel
theorem dX9_reads_94 : decode cX9_reads 94 = .ok (.iconst 1, 1) := by decide +kernel
theorem dX9_reads_95 : decode cX9_reads 95 = .ok (.iadd, 1) := by decide +kernel
theorem dX9_reads_96 : decode cX9_reads 96 = .ok (.iastore, 1) := by decide +kernel
theorem dX9_reads_97 : decode cX9_reads 97 = .ok (.iinc 3 1, 3) := by decide +kernel
theorem dX9_reads_100 : decode cX9_reads 100 = .ok (.iinc 4 1, 3) := by decide +kernel
theorem dX9_reads_103 : decode cX9_reads 103 = .ok (.goto (-98), 3) := by decide +kernel
theorem dX9_reads_106 : decode cX9_reads 106 = .ok (.aload_n 0, 1) := by decide +kernel
theorem dX9_reads_107 : decode cX9_reads 107 = .ok (.getfield 7, 3) := by decide +kernel
theorem dX9_reads_110 : decode cX9_reads 110 = .ok (.iload_n 1, 1) := by decide +kernel
theorem dX9_reads_111 : decode cX9_reads 111 = .ok (.invokestatic 62, 3) := by decide +kernel
theorem dX9_reads_114 : decode cX9_reads 114 = .ok (.iconst 2, 1) := by decide +kernel
theorem dX9_reads_115 : decode cX9_reads 115 = .ok (.iadd, 1) := by decide +kernel
theorem dX9_reads_116 : decode cX9_reads 116 = .ok (.dup2, 1) := by decide +kernel
theorem dX9_reads_117 : decode cX9_reads 117 = .ok (.iaload, 1) := by decide +kernel
theorem dX9_reads_118 : decode cX9_reads 118 = .ok (.iload_n 3, 1) := by decide +kernel
theorem dX9_reads_119 : decode cX9_reads 119 = .ok (.iadd, 1) := by decide +kernel
theorem dX9_reads_120 : decode cX9_reads 120 = .ok (.iastore, 1) := by decide +kernel
theorem dX9_reads_121 : decode cX9_reads 121 = .ok (.iload_n 3, 1) := by decide +kernel
theorem dX9_reads_122 : decode cX9_reads 122 = .ok (.ireturn, 1) := by decide +kernel
theorem dX9_read_0 : decode cX9_read 0 = .ok (.aload_n 0, 1) := by decide +kernel
theorem dX9_read_1 : decode cX9_read 1 = .ok (.iload_n 1, 1) := by decide +kernel
theorem dX9_read_2 : decode cX9_read 2 = .ok (.iload_n 2, 1) := by decide +kernel
theorem dX9_read_3 : decode cX9_read 3 = .ok (.invokevirtual 108, 3) := by decide +kernel
theorem dX9_read_6 : decode cX9_read 6 = .ok (.istore_n 3, 1) := by decide +kernel
theorem dX9_read_7 : decode cX9_read 7 = .ok (.iload_n 3, 1) := by decide +kernel
theorem dX9_read_8 : decode cX9_read 8 = .ok (.ifCond .eq 5, 3) := by decide +kernel
theorem dX9_read_11 : decode cX9_read 11 = .ok (.iload_n 3, 1) := by decide +kernel
theorem dX9_read_12 : decode cX9_read 12 = .ok (.ireturn, 1) := by decide +kernel
theorem dX9_read_13 : decode cX9_read 13 = .ok (.aload_n 0, 1) := by decide +kernel
theorem dX9_read_14 : decode cX9_read 14 = .ok (.invokevirtual 44, 3) := by decide +kernel
theorem dX9_read_17 : decode cX9_read 17 = .ok (.aload_n 0, 1) := by decide +kernel
theorem dX9_read_18 : decode cX9_read 18 = .ok (.iload_n 1, 1) := by decide +kernel
theorem dX9_read_19 : decode cX9_read 19 = .ok (.iload_n 2, 1) := by decide +kernel
theorem dX9_read_20 : decode cX9_read 20 = .ok (.invokevirtual 111, 3) := by decide +kernel
theorem dX9_read_23 : decode cX9_read 23 = .ok (.ireturn, 1) := by decide +kernel
theorem dX9_takes_0 : decode cX9_takes 0 = .ok (.iload_n 2, 1) := by decide +kernel
theorem dX9_takes_1 : decode cX9_takes 1 = .ok (.ifCond .eq 7, 3) := by decide +kernel
theorem dX9_takes_4 : decode cX9_takes 4 = .ok (.iconst 3, 1) := by decide +kernel
theorem dX9_takes_5 : decode cX9_takes 5 = .ok (.goto 5, 3) := by decide +kernel
theorem dX9_takes_8 : decode cX9_takes 8 = .ok (.bipush 15, 2) := by decide +kernel
theorem dX9_takes_10 : decode cX9_takes 10 = .ok (.istore_n 3, 1) := by decide +kernel
theorem dX9_takes_11 : decode cX9_takes 11 = .ok (.iload_n 2, 1) := by decide +kernel
theorem dX9_takes_12 : decode cX9_takes 12 = .ok (.ifCond .eq 8, 3) := by decide +kernel
theorem dX9_takes_15 : decode cX9_takes 15 = .ok (.bipush 15, 2) := by decide +kernel
theorem dX9_takes_17 : decode cX9_takes 17 = .ok (.goto 4, 3) := by decide +kernel
theorem dX9_takes_20 : decode cX9_takes 20 = .ok (.iconst 3, 1) := by decide +kernel
theorem dX9_takes_21 : decode cX9_takes 21 = .ok (.istore 4, 2) := by decide +kernel
theorem dX9_takes_23 : decode cX9_takes 23 = .ok (.iconst 0, 1) := by decide +kernel
theorem dX9_takes_24 : decode cX9_takes 24 = .ok (.istore 5, 2) := by decide +kernel
theorem dX9_takes_26 : decode cX9_takes 26 = .ok (.iload 5, 2) := by decide +kernel
theorem dX9_takes_28 : decode cX9_takes 28 = .ok (.bipush 12, 2) := by decide +kernel
theorem dX9_takes_30 : decode cX9_takes 30 = .ok (.if_icmp .ge 38, 3) := by decide +kernel
theorem dX9_takes_33 : decode cX9_takes 33 = .ok (.aload_n 0, 1) := by decide +kernel
theorem dX9_takes_34 : decode cX9_takes 34 = .ok (.getfield 7, 3) := by decide +kernel
theorem dX9_takes_37 : decode cX9_takes 37 = .ok (.iload_n 1, 1) := by decide +kernel
theorem dX9_takes_38 : decode cX9_takes 38 = .ok (.invokestatic 62, 3) := by decide +kernel
theorem dX9_takes_41 : decode cX9_takes 41 = .ok (.iload 4, 2) := by decide +kernel
theorem dX9_takes_43 : decode cX9_takes 43 = .ok (.iadd, 1) := by decide +kernel
theorem dX9_takes_44 : decode cX9_takes 44 = .ok (.iload 5, 2) := by decide +kernel
theorem dX9_takes_46 : decode cX9_takes 46 = .ok (.iadd, 1) := by decide +kernel
theorem dX9_takes_47 : decode cX9_takes 47 = .ok (.aload_n 0, 1) := by decide +kernel
theorem dX9_takes_48 : decode cX9_takes 48 = .ok (.getfield 7, 3) := by decide +kernel
theorem dX9_takes_51 : decode cX9_takes 51 = .ok (.iload_n 1, 1) := by decide +kernel
theorem dX9_takes_52 : decode cX9_takes 52 = .ok (.invokestatic 62, 3) := by decide +kernel
theorem dX9_takes_55 : decode cX9_takes 55 = .ok (.iload_n 3, 1) := by decide +kernel
theorem dX9_takes_56 : decode cX9_takes 56 = .ok (.iadd, 1) := by decide +kernel
theorem dX9_takes_57 : decode cX9_takes 57 = .ok (.iload 5, 2) := by decide +kernel
theorem dX9_takes_59 : decode cX9_takes 59 = .ok (.iadd, 1) := by decide +kernel
theorem dX9_takes_60 : decode cX9_takes 60 = .ok (.iaload, 1) := by decide +kernel
theorem dX9_takes_61 : decode cX9_takes 61 = .ok (.iastore, 1) := by decide +kernel
theorem dX9_takes_62 : decode cX9_takes 62 = .ok (.iinc 5 1, 3) := by decide +kernel
theorem dX9_takes_65 : decode cX9_takes 65 = .ok (.goto (-39), 3) := by decide +kernel
theorem dX9_takes_68 : decode cX9_takes 68 = .ok (.aload_n 0, 1) := by decide +kernel
theorem dX9_takes_69 : decode cX9_takes 69 = .ok (.getfield 7, 3) := by decide +kernel
theorem dX9_takes_72 : decode cX9_takes 72 = .ok (.iload_n 1, 1) := by decide +kernel
theorem dX9_takes_73 : decode cX9_takes 73 = .ok (.invokestatic 62, 3) := by decide +kernel
theorem dX9_takes_76 : decode cX9_takes 76 = .ok (.iload_n 2, 1) := by decide +kernel
theorem dX9_takes_77 : decode cX9_takes 77 = .ok (.ifCond .eq 7, 3) := by decide +kernel
theorem dX9_takes_80 : decode cX9_takes 80 = .ok (.iconst 1, 1) := by decide +kernel
theorem dX9_takes_81 : decode cX9_takes 81 = .ok (.goto 4, 3) := by decide +kernel
theorem dX9_takes_84 : decode cX9_takes 84 = .ok (.iconst 0, 1) := by decide +kernel
theorem dX9_takes_85 : decode cX9_takes 85 = .ok (.iadd, 1) := by decide +kernel
theorem dX9_takes_86 : decode cX9_takes 86 = .ok (.aload_n 0, 1) := by decide +kernel
theorem dX9_takes_87 : decode cX9_takes 87 = .ok (.getfield 7, 3) := by decide +kernel
theorem dX9_takes_90 : decode cX9_takes 90 = .ok (.iload_n 1, 1) := by decide +kernel
theorem dX9_takes_91 : decode cX9_takes 91 = .ok (.invokestatic 62, 3) := by decide +kernel
theorem dX9_takes_94 : decode cX9_takes 94 = .ok (.iload_n 2, 1) := by decide +kernel
theorem dX9_takes_95 : decode cX9_takes 95 = .ok (.ifCond .eq 7, 3) := by decide +kernel
theorem dX9_takes_98 : decode cX9_takes 98 = .ok (.iconst 0, 1) := by decide +kernel
theorem dX9_takes_99 : decode cX9_takes 99 = .ok (.goto 4, 3) := by decide +kernel
theorem dX9_takes_102 : decode cX9_takes 102 = .ok (.iconst 1, 1) := by decide +kernel
theorem dX9_takes_103 : decode cX9_takes 103 = .ok (.iadd, 1) := by decide +kernel
theorem dX9_takes_104 : decode cX9_takes 104 = .ok (.iaload, 1) := by decide +kernel
theorem dX9_takes_105 : decode cX9_takes 105 = .ok (.iastore, 1) := by decide +kernel
theorem dX9_takes_106 : decode cX9_takes 106 = .ok (.aload_n 0, 1) := by decide +kernel
theorem dX9_takes_107 : decode cX9_takes 107 = .ok (.getfield 7, 3) := by decide +kernel
theorem dX9_takes_110 : decode cX9_takes 110 = .ok (.iload_n 1, 1) := by decide +kernel
theorem dX9_takes_111 : decode cX9_takes 111 = .ok (.invokestatic 62, 3) := by decide +kernel
theorem dX9_takes_114 : decode cX9_takes 114 = .ok (.iaload, 1) := by decide +kernel
theorem dX9_takes_115 : decode cX9_takes 115 = .ok (.ireturn, 1) := by decide +kernel
theorem dX9_confirm_0 : decode cX9_confirm 0 = .ok (.aload_n 0, 1) := by decide +kernel
theorem dX9_confirm_1 : decode cX9_confirm 1 = .ok (.iload_n 1, 1) := by decide +kernel
theorem dX9_confirm_2 : decode cX9_confirm 2 = .ok (.invokevirtual 105, 3) := by decide +kernel
theorem dX9_confirm_5 : decode cX9_confirm 5 = .ok (.ifCond .ne 5, 3) := by decide +kernel
theorem dX9_confirm_8 : decode cX9_confirm 8 = .ok (.iconst (-1), 1) := by decide +kernel
theorem dX9_confirm_9 : decode cX9_confirm 9 = .ok (.ireturn, 1) := by decide +kernel
theorem dX9_confirm_10 : decode cX9_confirm 10 = .ok (.aload_n 0, 1) := by decide +kernel
theorem dX9_confirm_11 : decode cX9_confirm 11 = .ok (.invokevirtual 44, 3) := by decide +kernel
theorem dX9_confirm_14 : decode cX9_confirm 14 = .ok (.aload_n 0, 1) := by decide +kernel
theorem dX9_confirm_15 : decode cX9_confirm 15 = .ok (.iload_n 1, 1) := by decide +kernel
theorem dX9_confirm_16 : decode cX9_confirm 16 = .ok (.iconst 1, 1) := by decide +kernel
theorem dX9_confirm_17 : decode cX9_confirm 17 = .ok (.invokevirtual 114, 3) := by decide +kernel
theorem dX9_confirm_20 : decode cX9_confirm 20 = .ok (.ireturn, 1) := by decide +kernel
theorem dX9_goBack_0 : decode cX9_goBack 0 = .ok (.aload_n 0, 1) := by decide +kernel
theorem dX9_goBack_1 : decode cX9_goBack 1 = .ok (.iload_n 1, 1) := by decide +kernel
theorem dX9_goBack_2 : decode cX9_goBack 2 = .ok (.invokevirtual 105, 3) := by decide +kernel
theorem dX9_goBack_5 : decode cX9_goBack 5 = .ok (.ifCond .ne 5, 3) := by decide +kernel
theorem dX9_goBack_8 : decode cX9_goBack 8 = .ok (.iconst (-1), 1) := by decide +kernel
theorem dX9_goBack_9 : decode cX9_goBack 9 = .ok (.ireturn, 1) := by decide +kernel
theorem dX9_goBack_10 : decode cX9_goBack 10 = .ok (.aload_n 0, 1) := by decide +kernel
theorem dX9_goBack_11 : decode cX9_goBack 11 = .ok (.invokevirtual 44, 3) := by decide +kernel
theorem dX9_goBack_14 : decode cX9_goBack 14 = .ok (.aload_n 0, 1) := by decide +kernel
theorem dX9_goBack_15 : decode cX9_goBack 15 = .ok (.iload_n 1, 1) := by decide +kernel
theorem dX9_goBack_16 : decode cX9_goBack 16 = .ok (.iconst 0, 1) := by decide +kernel
theorem dX9_goBack_17 : decode cX9_goBack 17 = .ok (.invokevirtual 114, 3) := by decide +kernel
theorem dX9_goBack_20 : decode cX9_goBack 20 = .ok (.ireturn, 1) := by decide +kernel
theorem dX9_beginAnew_0 : decode cX9_beginAnew 0 = .ok (.aload_n 0, 1) := by decide +kernel
theorem dX9_beginAnew_1 : decode cX9_beginAnew 1 = .ok (.iload_n 1, 1) := by decide +kernel
theorem dX9_beginAnew_2 : decode cX9_beginAnew 2 = .ok (.invokevirtual 105, 3) := by decide +kernel
theorem dX9_beginAnew_5 : decode cX9_beginAnew 5 = .ok (.ifCond .ne 5, 3) := by decide +kernel
theorem dX9_beginAnew_8 : decode cX9_beginAnew 8 = .ok (.iconst (-1), 1) := by decide +kernel
theorem dX9_beginAnew_9 : decode cX9_beginAnew 9 = .ok (.ireturn, 1) := by decide +kernel
theorem dX9_beginAnew_10 : decode cX9_beginAnew 10 = .ok (.aload_n 0, 1) := by decide +kernel
theorem dX9_beginAnew_11 : decode cX9_beginAnew 11 = .ok (.invokevirtual 44, 3) := by decide +kernel
theorem dX9_beginAnew_14 : decode cX9_beginAnew 14 = .ok (.aload_n 0, 1) := by decide +kernel
theorem dX9_beginAnew_15 : decode cX9_beginAnew 15 = .ok (.iload_n 1, 1) := by decide +kernel
theorem dX9_beginAnew_16 : decode cX9_beginAnew 16 = .ok (.iconst 0, 1) := by decide +kernel
theorem dX9_beginAnew_17 : decode cX9_beginAnew 17 = .ok (.iconst (-1), 1) := by decide +kernel
theorem dX9_beginAnew_18 : decode cX9_beginAnew 18 = .ok (.invokevirtual 98, 3) := by decide +kernel
theorem dX9_beginAnew_21 : decode cX9_beginAnew 21 = .ok (.pop, 1) := by decide +kernel
theorem dX9_beginAnew_22 : decode cX9_beginAnew 22 = .ok (.aload_n 0, 1) := by decide +kernel
theorem dX9_beginAnew_23 : decode cX9_beginAnew 23 = .ok (.getfield 7, 3) := by decide +kernel
theorem dX9_beginAnew_26 : decode cX9_beginAnew 26 = .ok (.bipush 6, 2) := by decide +kernel
theorem dX9_beginAnew_28 : decode cX9_beginAnew 28 = .ok (.iaload, 1) := by decide +kernel
theorem dX9_beginAnew_29 : decode cX9_beginAnew 29 = .ok (.ireturn, 1) := by decide +kernel
theorem dX9_mayLoad_0 : decode cX9_mayLoad 0 = .ok (.aload_n 0, 1) := by decide +kernel
theorem dX9_mayLoad_1 : decode cX9_mayLoad 1 = .ok (.iload_n 1, 1) := by decide +kernel
theorem dX9_mayLoad_2 : decode cX9_mayLoad 2 = .ok (.invokevirtual 105, 3) := by decide +kernel
theorem dX9_mayLoad_5 : decode cX9_mayLoad 5 = .ok (.ifCond .eq 11, 3) := by decide +kernel
theorem dX9_mayLoad_8 : decode cX9_mayLoad 8 = .ok (.aload_n 0, 1) := by decide +kernel
theorem dX9_mayLoad_9 : decode cX9_mayLoad 9 = .ok (.iload_n 2, 1) := by decide +kernel
theorem dX9_mayLoad_10 : decode cX9_mayLoad 10 = .ok (.invokevirtual 118, 3) := by decide +kernel
theorem dX9_mayLoad_13 : decode cX9_mayLoad 13 = .ok (.ifCond .ne 5, 3) := by decide +kernel
theorem dX9_mayLoad_16 : decode cX9_mayLoad 16 = .ok (.iconst (-1), 1) := by decide +kernel
theorem dX9_mayLoad_17 : decode cX9_mayLoad 17 = .ok (.ireturn, 1) := by decide +kernel
theorem dX9_mayLoad_18 : decode cX9_mayLoad 18 = .ok (.aload_n 0, 1) := by decide +kernel
theorem dX9_mayLoad_19 : decode cX9_mayLoad 19 = .ok (.getfield 7, 3) := by decide +kernel
theorem dX9_mayLoad_22 : decode cX9_mayLoad 22 = .ok (.aload_n 0, 1) := by decide +kernel
theorem dX9_mayLoad_23 : decode cX9_mayLoad 23 = .ok (.getfield 7, 3) := by decide +kernel
theorem dX9_mayLoad_26 : decode cX9_mayLoad 26 = .ok (.sipush 423, 3) := by decide +kernel
theorem dX9_mayLoad_29 : decode cX9_mayLoad 29 = .ok (.bipush 13, 2) := by decide +kernel
theorem dX9_mayLoad_31 : decode cX9_mayLoad 31 = .ok (.iload_n 2, 1) := by decide +kernel
theorem dX9_mayLoad_32 : decode cX9_mayLoad 32 = .ok (.imul, 1) := by decide +kernel
theorem dX9_mayLoad_33 : decode cX9_mayLoad 33 = .ok (.iadd, 1) := by decide +kernel
theorem dX9_mayLoad_34 : decode cX9_mayLoad 34 = .ok (.iaload, 1) := by decide +kernel
theorem dX9_mayLoad_35 : decode cX9_mayLoad 35 = .ok (.invokestatic 66, 3) := by decide +kernel
theorem dX9_mayLoad_38 : decode cX9_mayLoad 38 = .ok (.ifCond .eq 8, 3) := by decide +kernel
theorem dX9_mayLoad_41 : decode cX9_mayLoad 41 = .ok (.bipush (-5), 2) := by decide +kernel
theorem dX9_mayLoad_43 : decode cX9_mayLoad 43 = .ok (.goto 4, 3) := by decide +kernel
theorem dX9_mayLoad_46 : decode cX9_mayLoad 46 = .ok (.iconst 0, 1) := by decide +kernel
theorem dX9_mayLoad_47 : decode cX9_mayLoad 47 = .ok (.ireturn, 1) := by decide +kernel
theorem dX9_loads_0 : decode cX9_loads 0 = .ok (.sipush 423, 3) := by decide +kernel
theorem dX9_loads_3 : decode cX9_loads 3 = .ok (.bipush 13, 2) := by decide +kernel
theorem dX9_loads_5 : decode cX9_loads 5 = .ok (.iload_n 2, 1) := by decide +kernel
theorem dX9_loads_6 : decode cX9_loads 6 = .ok (.imul, 1) := by decide +kernel
theorem dX9_loads_7 : decode cX9_loads 7 = .ok (.iadd, 1) := by decide +kernel
theorem dX9_loads_8 : decode cX9_loads 8 = .ok (.istore_n 3, 1) := by decide +kernel
theorem dX9_loads_9 : decode cX9_loads 9 = .ok (.aload_n 0, 1) := by decide +kernel
theorem dX9_loads_10 : decode cX9_loads 10 = .ok (.iload_n 1, 1) := by decide +kernel
theorem dX9_loads_11 : decode cX9_loads 11 = .ok (.aload_n 0, 1) := by decide +kernel
theorem dX9_loads_12 : decode cX9_loads 12 = .ok (.getfield 7, 3) := by decide +kernel
theorem dX9_loads_15 : decode cX9_loads 15 = .ok (.iload_n 3, 1) := by decide +kernel
theorem dX9_loads_16 : decode cX9_loads 16 = .ok (.iaload, 1) := by decide +kernel
theorem dX9_loads_17 : decode cX9_loads 17 = .ok (.iload_n 3, 1) := by decide +kernel
theorem dX9_loads_18 : decode cX9_loads 18 = .ok (.iconst 1, 1) := by decide +kernel
theorem dX9_loads_19 : decode cX9_loads 19 = .ok (.iadd, 1) := by decide +kernel
theorem dX9_loads_20 : decode cX9_loads 20 = .ok (.invokevirtual 98, 3) := by decide +kernel
theorem dX9_loads_23 : decode cX9_loads 23 = .ok (.ireturn, 1) := by decide +kernel
theorem dX9_load_0 : decode cX9_load 0 = .ok (.aload_n 0, 1) := by decide +kernel
theorem dX9_load_1 : decode cX9_load 1 = .ok (.iload_n 1, 1) := by decide +kernel
theorem dX9_load_2 : decode cX9_load 2 = .ok (.iload_n 2, 1) := by decide +kernel
theorem dX9_load_3 : decode cX9_load 3 = .ok (.invokevirtual 121, 3) := by decide +kernel
theorem dX9_load_6 : decode cX9_load 6 = .ok (.istore_n 3, 1) := by decide +kernel
theorem dX9_load_7 : decode cX9_load 7 = .ok (.iload_n 3, 1) := by decide +kernel
theorem dX9_load_8 : decode cX9_load 8 = .ok (.ifCond .eq 5, 3) := by decide +kernel
theorem dX9_load_11 : decode cX9_load 11 = .ok (.iload_n 3, 1) := by decide +kernel
theorem dX9_load_12 : decode cX9_load 12 = .ok (.ireturn, 1) := by decide +kernel
theorem dX9_load_13 : decode cX9_load 13 = .ok (.aload_n 0, 1) := by decide +kernel
theorem dX9_load_14 : decode cX9_load 14 = .ok (.invokevirtual 44, 3) := by decide +kernel
theorem dX9_load_17 : decode cX9_load 17 = .ok (.aload_n 0, 1) := by decide +kernel
theorem dX9_load_18 : decode cX9_load 18 = .ok (.iload_n 1, 1) := by decide +kernel
theorem dX9_load_19 : decode cX9_load 19 = .ok (.iload_n 2, 1) := by decide +kernel
theorem dX9_load_20 : decode cX9_load 20 = .ok (.invokevirtual 124, 3) := by decide +kernel
theorem dX9_load_23 : decode cX9_load 23 = .ok (.ireturn, 1) := by decide +kernel
theorem dX9_table_0 : decode cX9_table 0 = .ok (.iload_n 1, 1) := by decide +kernel
theorem dX9_table_1 : decode cX9_table 1 = .ok (.invokestatic 72, 3) := by decide +kernel
theorem dX9_table_4 : decode cX9_table 4 = .ok (.ifCond .eq 15, 3) := by decide +kernel
theorem dX9_table_7 : decode cX9_table 7 = .ok (.aload_n 0, 1) := by decide +kernel
theorem dX9_table_8 : decode cX9_table 8 = .ok (.getfield 7, 3) := by decide +kernel
theorem dX9_table_11 : decode cX9_table 11 = .ok (.bipush 9, 2) := by decide +kernel
theorem dX9_table_13 : decode cX9_table 13 = .ok (.iload_n 1, 1) := by decide +kernel
theorem dX9_table_14 : decode cX9_table 14 = .ok (.iadd, 1) := by decide +kernel
theorem dX9_table_15 : decode cX9_table 15 = .ok (.iaload, 1) := by decide +kernel
theorem dX9_table_16 : decode cX9_table 16 = .ok (.goto 4, 3) := by decide +kernel
theorem dX9_table_19 : decode cX9_table 19 = .ok (.iconst (-1), 1) := by decide +kernel
theorem dX9_table_20 : decode cX9_table 20 = .ok (.ireturn, 1) := by decide +kernel
theorem dX9_view_0 : decode cX9_view 0 = .ok (.aload_n 0, 1) := by decide +kernel
theorem dX9_view_1 : decode cX9_view 1 = .ok (.iload_n 1, 1) := by decide +kernel
theorem dX9_view_2 : decode cX9_view 2 = .ok (.invokevirtual 105, 3) := by decide +kernel
theorem dX9_view_5 : decode cX9_view 5 = .ok (.ifCond .eq 26, 3) := by decide +kernel
theorem dX9_view_8 : decode cX9_view 8 = .ok (.iload_n 2, 1) := by decide +kernel
theorem dX9_view_9 : decode cX9_view 9 = .ok (.invokestatic 72, 3) := by decide +kernel
theorem dX9_view_12 : decode cX9_view 12 = .ok (.ifCond .eq 19, 3) := by decide +kernel
theorem dX9_view_15 : decode cX9_view 15 = .ok (.aload_n 0, 1) := by decide +kernel
theorem dX9_view_16 : decode cX9_view 16 = .ok (.getfield 7, 3) := by decide +kernel
theorem dX9_view_19 : decode cX9_view 19 = .ok (.iload_n 1, 1) := by decide +kernel
theorem dX9_view_20 : decode cX9_view 20 = .ok (.invokestatic 62, 3) := by decide +kernel
theorem dX9_view_23 : decode cX9_view 23 = .ok (.iconst 3, 1) := by decide +kernel
theorem dX9_view_24 : decode cX9_view 24 = .ok (.iadd, 1) := by decide +kernel
theorem dX9_view_25 : decode cX9_view 25 = .ok (.iload_n 2, 1) := by decide +kernel
theorem dX9_view_26 : decode cX9_view 26 = .ok (.iadd, 1) := by decide +kernel
theorem dX9_view_27 : decode cX9_view 27 = .ok (.iaload, 1) := by decide +kernel
theorem dX9_view_28 : decode cX9_view 28 = .ok (.goto 4, 3) := by decide +kernel
theorem dX9_view_31 : decode cX9_view 31 = .ok (.iconst (-1), 1) := by decide +kernel
theorem dX9_view_32 : decode cX9_view 32 = .ok (.ireturn, 1) := by decide +kernel
theorem dX9_entry_0 : decode cX9_entry 0 = .ok (.iload_n 1, 1) := by decide +kernel
theorem dX9_entry_1 : decode cX9_entry 1 = .ok (.iconst 0, 1) := by decide +kernel
theorem dX9_entry_2 : decode cX9_entry 2 = .ok (.aload_n 0, 1) := by decide +kernel
theorem dX9_entry_3 : decode cX9_entry 3 = .ok (.getfield 7, 3) := by decide +kernel
theorem dX9_entry_6 : decode cX9_entry 6 = .ok (.bipush 6, 2) := by decide +kernel
theorem dX9_entry_8 : decode cX9_entry 8 = .ok (.iaload, 1) := by decide +kernel
theorem dX9_entry_9 : decode cX9_entry 9 = .ok (.iconst 1, 1) := by decide +kernel
theorem dX9_entry_10 : decode cX9_entry 10 = .ok (.isub, 1) := by decide +kernel
theorem dX9_entry_11 : decode cX9_entry 11 = .ok (.invokestatic 32, 3) := by decide +kernel
theorem dX9_entry_14 : decode cX9_entry 14 = .ok (.ifCond .ne 5, 3) := by decide +kernel
theorem dX9_entry_17 : decode cX9_entry 17 = .ok (.iconst (-1), 1) := by decide +kernel
theorem dX9_entry_18 : decode cX9_entry 18 = .ok (.ireturn, 1) := by decide +kernel
theorem dX9_entry_19 : decode cX9_entry 19 = .ok (.iload_n 2, 1) := by decide +kernel
theorem dX9_entry_20 : decode cX9_entry 20 = .ok (.iconst 0, 1) := by decide +kernel
theorem dX9_entry_21 : decode cX9_entry 21 = .ok (.iconst 5, 1) := by decide +kernel
theorem dX9_entry_22 : decode cX9_entry 22 = .ok (.invokestatic 32, 3) := by decide +kernel
theorem dX9_entry_25 : decode cX9_entry 25 = .ok (.ifCond .ne 6, 3) := by decide +kernel
theorem dX9_entry_28 : decode cX9_entry 28 = .ok (.bipush (-2), 2) := by decide +kernel
theorem dX9_entry_30 : decode cX9_entry 30 = .ok (.ireturn, 1) := by decide +kernel
theorem dX9_entry_31 : decode cX9_entry 31 = .ok (.iload_n 2, 1) := by decide +kernel
theorem dX9_entry_32 : decode cX9_entry 32 = .ok (.iconst 4, 1) := by decide +kernel
theorem dX9_entry_33 : decode cX9_entry 33 = .ok (.if_icmp .ge 13, 3) := by decide +kernel
theorem dX9_entry_36 : decode cX9_entry 36 = .ok (.aload_n 0, 1) := by decide +kernel
theorem dX9_entry_37 : decode cX9_entry 37 = .ok (.getfield 7, 3) := by decide +kernel
theorem dX9_entry_40 : decode cX9_entry 40 = .ok (.iload_n 1, 1) := by decide +kernel
theorem dX9_entry_41 : decode cX9_entry 41 = .ok (.iload_n 2, 1) := by decide +kernel
theorem dX9_entry_42 : decode cX9_entry 42 = .ok (.invokestatic 47, 3) := by decide +kernel
theorem dX9_entry_45 : decode cX9_entry 45 = .ok (.ireturn, 1) := by decide +kernel
theorem dX9_entry_46 : decode cX9_entry 46 = .ok (.iload_n 2, 1) := by decide +kernel
theorem dX9_entry_47 : decode cX9_entry 47 = .ok (.iconst 4, 1) := by decide +kernel
theorem dX9_entry_48 : decode cX9_entry 48 = .ok (.if_icmp .ne 17, 3) := by decide +kernel
theorem dX9_entry_51 : decode cX9_entry 51 = .ok (.aload_n 0, 1) := by decide +kernel
theorem dX9_entry_52 : decode cX9_entry 52 = .ok (.getfield 7, 3) := by decide +kernel
theorem dX9_entry_55 : decode cX9_entry 55 = .ok (.iload_n 1, 1) := by decide +kernel
theorem dX9_entry_56 : decode cX9_entry 56 = .ok (.invokestatic 55, 3) := by decide +kernel
theorem dX9_entry_59 : decode cX9_entry 59 = .ok (.ifCond .eq 21, 3) := by decide +kernel
theorem dX9_entry_62 : decode cX9_entry 62 = .ok (.goto 14, 3) := by decide +kernel
theorem dX9_entry_65 : decode cX9_entry 65 = .ok (.aload_n 0, 1) := by decide +kernel
theorem dX9_entry_66 : decode cX9_entry 66 = .ok (.getfield 7, 3) := by decide +kernel
theorem dX9_entry_69 : decode cX9_entry 69 = .ok (.iload_n 1, 1) := by decide +kernel
theorem dX9_entry_70 : decode cX9_entry 70 = .ok (.invokestatic 51, 3) := by decide +kernel
theorem dX9_entry_73 : decode cX9_entry 73 = .ok (.ifCond .eq 7, 3) := by decide +kernel
theorem dX9_entry_76 : decode cX9_entry 76 = .ok (.iconst 1, 1) := by decide +kernel
theorem dX9_entry_77 : decode cX9_entry 77 = .ok (.goto 4, 3) := by decide +kernel
theorem dX9_entry_80 : decode cX9_entry 80 = .ok (.iconst 0, 1) := by decide +kernel
theorem dX9_entry_81 : decode cX9_entry 81 = .ok (.ireturn, 1) := by decide +kernel
theorem dX9_unlike_0 : decode cX9_unlike 0 = .ok (.iconst 0, 1) := by decide +kernel
theorem dX9_unlike_1 : decode cX9_unlike 1 = .ok (.istore_n 2, 1) := by decide +kernel
theorem dX9_unlike_2 : decode cX9_unlike 2 = .ok (.iconst 0, 1) := by decide +kernel
theorem dX9_unlike_3 : decode cX9_unlike 3 = .ok (.istore_n 3, 1) := by decide +kernel
theorem dX9_unlike_4 : decode cX9_unlike 4 = .ok (.iload_n 3, 1) := by decide +kernel
theorem dX9_unlike_5 : decode cX9_unlike 5 = .ok (.bipush 12, 2) := by decide +kernel
theorem dX9_unlike_7 : decode cX9_unlike 7 = .ok (.if_icmp .ge 39, 3) := by decide +kernel
theorem dX9_unlike_10 : decode cX9_unlike 10 = .ok (.iload_n 2, 1) := by decide +kernel
theorem dX9_unlike_11 : decode cX9_unlike 11 = .ok (.aload_n 0, 1) := by decide +kernel
theorem dX9_unlike_12 : decode cX9_unlike 12 = .ok (.getfield 7, 3) := by decide +kernel
theorem dX9_unlike_15 : decode cX9_unlike 15 = .ok (.iload_n 1, 1) := by decide +kernel
theorem dX9_unlike_16 : decode cX9_unlike 16 = .ok (.iload_n 3, 1) := by decide +kernel
theorem dX9_unlike_17 : decode cX9_unlike 17 = .ok (.iadd, 1) := by decide +kernel
theorem dX9_unlike_18 : decode cX9_unlike 18 = .ok (.iaload, 1) := by decide +kernel
theorem dX9_unlike_19 : decode cX9_unlike 19 = .ok (.aload_n 0, 1) := by decide +kernel
theorem dX9_unlike_20 : decode cX9_unlike 20 = .ok (.getfield 7, 3) := by decide +kernel
theorem dX9_unlike_23 : decode cX9_unlike 23 = .ok (.bipush 9, 2) := by decide +kernel
theorem dX9_unlike_25 : decode cX9_unlike 25 = .ok (.iload_n 3, 1) := by decide +kernel
theorem dX9_unlike_26 : decode cX9_unlike 26 = .ok (.iadd, 1) := by decide +kernel
theorem dX9_unlike_27 : decode cX9_unlike 27 = .ok (.iaload, 1) := by decide +kernel
theorem dX9_unlike_28 : decode cX9_unlike 28 = .ok (.if_icmp .ne 7, 3) := by decide +kernel
theorem dX9_unlike_31 : decode cX9_unlike 31 = .ok (.iconst 0, 1) := by decide +kernel
theorem dX9_unlike_32 : decode cX9_unlike 32 = .ok (.goto 6, 3) := by decide +kernel
theorem dX9_unlike_35 : decode cX9_unlike 35 = .ok (.iconst 1, 1) := by decide +kernel
theorem dX9_unlike_36 : decode cX9_unlike 36 = .ok (.iload_n 3, 1) := by decide +kernel
theorem dX9_unlike_37 : decode cX9_unlike 37 = .ok (.ishl, 1) := by decide +kernel
theorem dX9_unlike_38 : decode cX9_unlike 38 = .ok (.ior, 1) := by decide +kernel
theorem dX9_unlike_39 : decode cX9_unlike 39 = .ok (.istore_n 2, 1) := by decide +kernel
theorem dX9_unlike_40 : decode cX9_unlike 40 = .ok (.iinc 3 1, 3) := by decide +kernel
theorem dX9_unlike_43 : decode cX9_unlike 43 = .ok (.goto (-39), 3) := by decide +kernel
theorem dX9_unlike_46 : decode cX9_unlike 46 = .ok (.iload_n 2, 1) := by decide +kernel
theorem dX9_unlike_47 : decode cX9_unlike 47 = .ok (.ireturn, 1) := by decide +kernel
theorem dX9_ofReader_0 : decode cX9_ofReader 0 = .ok (.aload_n 0, 1) := by decide +kernel
theorem dX9_ofReader_1 : decode cX9_ofReader 1 = .ok (.iload_n 1, 1) := by decide +kernel
theorem dX9_ofReader_2 : decode cX9_ofReader 2 = .ok (.invokevirtual 105, 3) := by decide +kernel
theorem dX9_ofReader_5 : decode cX9_ofReader 5 = .ok (.ifCond .ne 5, 3) := by decide +kernel
theorem dX9_ofReader_8 : decode cX9_ofReader 8 = .ok (.iconst (-1), 1) := by decide +kernel
theorem dX9_ofReader_9 : decode cX9_ofReader 9 = .ok (.ireturn, 1) := by decide +kernel
theorem dX9_ofReader_10 : decode cX9_ofReader 10 = .ok (.iload_n 2, 1) := by decide +kernel
theorem dX9_ofReader_11 : decode cX9_ofReader 11 = .ok (.iconst 0, 1) := by decide +kernel
theorem dX9_ofReader_12 : decode cX9_ofReader 12 = .ok (.bipush 6, 2) := by decide +kernel
theorem dX9_ofReader_14 : decode cX9_ofReader 14 = .ok (.invokestatic 32, 3) := by decide +kernel
theorem dX9_ofReader_17 : decode cX9_ofReader 17 = .ok (.ifCond .ne 6, 3) := by decide +kernel
theorem dX9_ofReader_20 : decode cX9_ofReader 20 = .ok (.bipush (-2), 2) := by decide +kernel
theorem dX9_ofReader_22 : decode cX9_ofReader 22 = .ok (.ireturn, 1) := by decide +kernel
theorem dX9_ofReader_23 : decode cX9_ofReader 23 = .ok (.iload_n 1, 1) := by decide +kernel
theorem dX9_ofReader_24 : decode cX9_ofReader 24 = .ok (.invokestatic 62, 3) := by decide +kernel
theorem dX9_ofReader_27 : decode cX9_ofReader 27 = .ok (.istore_n 3, 1) := by decide +kernel
theorem dX9_ofReader_28 : decode cX9_ofReader 28 = .ok (.iload_n 2, 1) := by decide +kernel
theorem dX9_ofReader_29 : decode cX9_ofReader 29 = .ok (.iconst 2, 1) := by decide +kernel
theorem dX9_ofReader_30 : decode cX9_ofReader 30 = .ok (.if_icmp .ge 12, 3) := by decide +kernel
theorem dX9_ofReader_33 : decode cX9_ofReader 33 = .ok (.aload_n 0, 1) := by decide +kernel
theorem dX9_ofReader_34 : decode cX9_ofReader 34 = .ok (.getfield 7, 3) := by decide +kernel
theorem dX9_ofReader_37 : decode cX9_ofReader 37 = .ok (.iload_n 3, 1) := by decide +kernel
theorem dX9_ofReader_38 : decode cX9_ofReader 38 = .ok (.iload_n 2, 1) := by decide +kernel
theorem dX9_ofReader_39 : decode cX9_ofReader 39 = .ok (.iadd, 1) := by decide +kernel
theorem dX9_ofReader_40 : decode cX9_ofReader 40 = .ok (.iaload, 1) := by decide +kernel
theorem dX9_ofReader_41 : decode cX9_ofReader 41 = .ok (.ireturn, 1) := by decide +kernel
theorem dX9_ofReader_42 : decode cX9_ofReader 42 = .ok (.iload_n 2, 1) := by decide +kernel
theorem dX9_ofReader_43 : decode cX9_ofReader 43 = .ok (.iconst 5, 1) := by decide +kernel
theorem dX9_ofReader_44 : decode cX9_ofReader 44 = .ok (.if_icmp .ge 54, 3) := by decide +kernel
theorem dX9_ofReader_47 : decode cX9_ofReader 47 = .ok (.iload_n 2, 1) := by decide +kernel
theorem dX9_ofReader_48 : decode cX9_ofReader 48 = .ok (.iconst 2, 1) := by decide +kernel
theorem dX9_ofReader_49 : decode cX9_ofReader 49 = .ok (.if_icmp .ne 16, 3) := by decide +kernel
theorem dX9_ofReader_52 : decode cX9_ofReader 52 = .ok (.aload_n 0, 1) := by decide +kernel
theorem dX9_ofReader_53 : decode cX9_ofReader 53 = .ok (.aload_n 0, 1) := by decide +kernel
theorem dX9_ofReader_54 : decode cX9_ofReader 54 = .ok (.getfield 7, 3) := by decide +kernel
theorem dX9_ofReader_57 : decode cX9_ofReader 57 = .ok (.iload_n 3, 1) := by decide +kernel
theorem dX9_ofReader_58 : decode cX9_ofReader 58 = .ok (.iaload, 1) := by decide +kernel
theorem dX9_ofReader_59 : decode cX9_ofReader 59 = .ok (.invokevirtual 127, 3) := by decide +kernel
theorem dX9_ofReader_62 : decode cX9_ofReader 62 = .ok (.goto 35, 3) := by decide +kernel
theorem dX9_ofReader_65 : decode cX9_ofReader 65 = .ok (.iload_n 2, 1) := by decide +kernel
theorem dX9_ofReader_66 : decode cX9_ofReader 66 = .ok (.iconst 3, 1) := by decide +kernel
theorem dX9_ofReader_67 : decode cX9_ofReader 67 = .ok (.if_icmp .ne 22, 3) := by decide +kernel
theorem dX9_ofReader_70 : decode cX9_ofReader 70 = .ok (.aload_n 0, 1) := by decide +kernel
theorem dX9_ofReader_71 : decode cX9_ofReader 71 = .ok (.getfield 7, 3) := by decide +kernel
theorem dX9_ofReader_74 : decode cX9_ofReader 74 = .ok (.iload_n 1, 1) := by decide +kernel
theorem dX9_ofReader_75 : decode cX9_ofReader 75 = .ok (.invokestatic 69, 3) := by decide +kernel
theorem dX9_ofReader_78 : decode cX9_ofReader 78 = .ok (.ifCond .eq 7, 3) := by decide +kernel
theorem dX9_ofReader_81 : decode cX9_ofReader 81 = .ok (.iconst 1, 1) := by decide +kernel
theorem dX9_ofReader_82 : decode cX9_ofReader 82 = .ok (.goto 15, 3) := by decide +kernel
theorem dX9_ofReader_85 : decode cX9_ofReader 85 = .ok (.iconst 0, 1) := by decide +kernel
theorem dX9_ofReader_86 : decode cX9_ofReader 86 = .ok (.goto 11, 3) := by decide +kernel
theorem dX9_ofReader_89 : decode cX9_ofReader 89 = .ok (.aload_n 0, 1) := by decide +kernel
theorem dX9_ofReader_90 : decode cX9_ofReader 90 = .ok (.getfield 7, 3) := by decide +kernel
theorem dX9_ofReader_93 : decode cX9_ofReader 93 = .ok (.iload_n 3, 1) := by decide +kernel
theorem dX9_ofReader_94 : decode cX9_ofReader 94 = .ok (.iconst 2, 1) := by decide +kernel
theorem dX9_ofReader_95 : decode cX9_ofReader 95 = .ok (.iadd, 1) := by decide +kernel
theorem dX9_ofReader_96 : decode cX9_ofReader 96 = .ok (.iaload, 1) := by decide +kernel
theorem dX9_ofReader_97 : decode cX9_ofReader 97 = .ok (.ireturn, 1) := by decide +kernel
theorem dX9_ofReader_98 : decode cX9_ofReader 98 = .ok (.aload_n 0, 1) := by decide +kernel
theorem dX9_ofReader_99 : decode cX9_ofReader 99 = .ok (.iload_n 3, 1) := by decide +kernel
theorem dX9_ofReader_100 : decode cX9_ofReader 100 = .ok (.iload_n 2, 1) := by decide +kernel
theorem dX9_ofReader_101 : decode cX9_ofReader 101 = .ok (.iconst 5, 1) := by decide +kernel
theorem dX9_ofReader_102 : decode cX9_ofReader 102 = .ok (.if_icmp .ne 7, 3) := by decide +kernel
theorem dX9_ofReader_105 : decode cX9_ofReader 105 = .ok (.iconst 3, 1) := by decide +kernel
theorem dX9_ofReader_106 : decode cX9_ofReader 106 = .ok (.goto 5, 3) := by decide +kernel
theorem dX9_ofReader_109 : decode cX9_ofReader 109 = .ok (.bipush 15, 2) := by decide +kernel
theorem dX9_ofReader_111 : decode cX9_ofReader 111 = .ok (.iadd, 1) := by decide +kernel
theorem dX9_ofReader_112 : decode cX9_ofReader 112 = .ok (.invokevirtual 130, 3) := by decide +kernel
theorem dX9_ofReader_115 : decode cX9_ofReader 115 = .ok (.ireturn, 1) := by decide +kernel
theorem dX9_valued_0 : decode cX9_valued 0 = .ok (.iconst 0, 1) := by decide +kernel
theorem dX9_valued_1 : decode cX9_valued 1 = .ok (.istore_n 2, 1) := by decide +kernel
theorem dX9_valued_2 : decode cX9_valued 2 = .ok (.iconst 0, 1) := by decide +kernel
theorem dX9_valued_3 : decode cX9_valued 3 = .ok (.istore_n 3, 1) := by decide +kernel
theorem dX9_valued_4 : decode cX9_valued 4 = .ok (.iload_n 3, 1) := by decide +kernel
theorem dX9_valued_5 : decode cX9_valued 5 = .ok (.bipush 12, 2) := by decide +kernel
theorem dX9_valued_7 : decode cX9_valued 7 = .ok (.if_icmp .ge 30, 3) := by decide +kernel
theorem dX9_valued_10 : decode cX9_valued 10 = .ok (.iload_n 2, 1) := by decide +kernel
theorem dX9_valued_11 : decode cX9_valued 11 = .ok (.aload_n 0, 1) := by decide +kernel
theorem dX9_valued_12 : decode cX9_valued 12 = .ok (.getfield 7, 3) := by decide +kernel
theorem dX9_valued_15 : decode cX9_valued 15 = .ok (.iload_n 1, 1) := by decide +kernel
theorem dX9_valued_16 : decode cX9_valued 16 = .ok (.iload_n 3, 1) := by decide +kernel
theorem dX9_valued_17 : decode cX9_valued 17 = .ok (.iadd, 1) := by decide +kernel
theorem dX9_valued_18 : decode cX9_valued 18 = .ok (.iaload, 1) := by decide +kernel
theorem dX9_valued_19 : decode cX9_valued 19 = .ok (.bipush (-6), 2) := by decide +kernel
theorem dX9_valued_21 : decode cX9_valued 21 = .ok (.if_icmp .ne 7, 3) := by decide +kernel
theorem dX9_valued_24 : decode cX9_valued 24 = .ok (.iconst 0, 1) := by decide +kernel
theorem dX9_valued_25 : decode cX9_valued 25 = .ok (.goto 4, 3) := by decide +kernel
theorem dX9_valued_28 : decode cX9_valued 28 = .ok (.iconst 1, 1) := by decide +kernel
theorem dX9_valued_29 : decode cX9_valued 29 = .ok (.iadd, 1) := by decide +kernel
theorem dX9_valued_30 : decode cX9_valued 30 = .ok (.istore_n 2, 1) := by decide +kernel
theorem dX9_valued_31 : decode cX9_valued 31 = .ok (.iinc 3 1, 3) := by decide +kernel
theorem dX9_valued_34 : decode cX9_valued 34 = .ok (.goto (-30), 3) := by decide +kernel
theorem dX9_valued_37 : decode cX9_valued 37 = .ok (.iload_n 2, 1) := by decide +kernel
theorem dX9_valued_38 : decode cX9_valued 38 = .ok (.ireturn, 1) := by decide +kernel
theorem dX9_ofSnapshot_0 : decode cX9_ofSnapshot 0 = .ok (.aload_n 0, 1) := by decide +kernel
theorem dX9_ofSnapshot_1 : decode cX9_ofSnapshot 1 = .ok (.iload_n 1, 1) := by decide +kernel
theorem dX9_ofSnapshot_2 : decode cX9_ofSnapshot 2 = .ok (.invokevirtual 118, 3) := by decide +kernel
theorem dX9_ofSnapshot_5 : decode cX9_ofSnapshot 5 = .ok (.ifCond .ne 5, 3) := by decide +kernel
theorem dX9_ofSnapshot_8 : decode cX9_ofSnapshot 8 = .ok (.iconst (-1), 1) := by decide +kernel
theorem dX9_ofSnapshot_9 : decode cX9_ofSnapshot 9 = .ok (.ireturn, 1) := by decide +kernel
theorem dX9_ofSnapshot_10 : decode cX9_ofSnapshot 10 = .ok (.iload_n 2, 1) := by decide +kernel
theorem dX9_ofSnapshot_11 : decode cX9_ofSnapshot 11 = .ok (.iconst 0, 1) := by decide +kernel
theorem dX9_ofSnapshot_12 : decode cX9_ofSnapshot 12 = .ok (.iconst 2, 1) := by decide +kernel
theorem dX9_ofSnapshot_13 : decode cX9_ofSnapshot 13 = .ok (.invokestatic 32, 3) := by decide +kernel
theorem dX9_ofSnapshot_16 : decode cX9_ofSnapshot 16 = .ok (.ifCond .ne 6, 3) := by decide +kernel
theorem dX9_ofSnapshot_19 : decode cX9_ofSnapshot 19 = .ok (.bipush (-2), 2) := by decide +kernel
theorem dX9_ofSnapshot_21 : decode cX9_ofSnapshot 21 = .ok (.ireturn, 1) := by decide +kernel
theorem dX9_ofSnapshot_22 : decode cX9_ofSnapshot 22 = .ok (.sipush 423, 3) := by decide +kernel
theorem dX9_ofSnapshot_25 : decode cX9_ofSnapshot 25 = .ok (.bipush 13, 2) := by decide +kernel
theorem dX9_ofSnapshot_27 : decode cX9_ofSnapshot 27 = .ok (.iload_n 1, 1) := by decide +kernel
theorem dX9_ofSnapshot_28 : decode cX9_ofSnapshot 28 = .ok (.imul, 1) := by decide +kernel
theorem dX9_ofSnapshot_29 : decode cX9_ofSnapshot 29 = .ok (.iadd, 1) := by decide +kernel
theorem dX9_ofSnapshot_30 : decode cX9_ofSnapshot 30 = .ok (.istore_n 3, 1) := by decide +kernel
theorem dX9_ofSnapshot_31 : decode cX9_ofSnapshot 31 = .ok (.iload_n 2, 1) := by decide +kernel
theorem dX9_ofSnapshot_32 : decode cX9_ofSnapshot 32 = .ok (.ifCond .ne 12, 3) := by decide +kernel
theorem dX9_ofSnapshot_35 : decode cX9_ofSnapshot 35 = .ok (.aload_n 0, 1) := by decide +kernel
theorem dX9_ofSnapshot_36 : decode cX9_ofSnapshot 36 = .ok (.getfield 7, 3) := by decide +kernel
theorem dX9_ofSnapshot_39 : decode cX9_ofSnapshot 39 = .ok (.iload_n 3, 1) := by decide +kernel
theorem dX9_ofSnapshot_40 : decode cX9_ofSnapshot 40 = .ok (.iaload, 1) := by decide +kernel
theorem dX9_ofSnapshot_41 : decode cX9_ofSnapshot 41 = .ok (.goto 28, 3) := by decide +kernel
theorem dX9_ofSnapshot_44 : decode cX9_ofSnapshot 44 = .ok (.iload_n 2, 1) := by decide +kernel
theorem dX9_ofSnapshot_45 : decode cX9_ofSnapshot 45 = .ok (.iconst 1, 1) := by decide +kernel
theorem dX9_ofSnapshot_46 : decode cX9_ofSnapshot 46 = .ok (.if_icmp .ne 13, 3) := by decide +kernel
theorem dX9_ofSnapshot_49 : decode cX9_ofSnapshot 49 = .ok (.aload_n 0, 1) := by decide +kernel
theorem dX9_ofSnapshot_50 : decode cX9_ofSnapshot 50 = .ok (.iload_n 3, 1) := by decide +kernel
theorem dX9_ofSnapshot_51 : decode cX9_ofSnapshot 51 = .ok (.iconst 1, 1) := by decide +kernel
theorem dX9_ofSnapshot_52 : decode cX9_ofSnapshot 52 = .ok (.iadd, 1) := by decide +kernel
theorem dX9_ofSnapshot_53 : decode cX9_ofSnapshot 53 = .ok (.invokevirtual 133, 3) := by decide +kernel
theorem dX9_ofSnapshot_56 : decode cX9_ofSnapshot 56 = .ok (.goto 13, 3) := by decide +kernel
theorem dX9_ofSnapshot_59 : decode cX9_ofSnapshot 59 = .ok (.aload_n 0, 1) := by decide +kernel
theorem dX9_ofSnapshot_60 : decode cX9_ofSnapshot 60 = .ok (.aload_n 0, 1) := by decide +kernel
theorem dX9_ofSnapshot_61 : decode cX9_ofSnapshot 61 = .ok (.getfield 7, 3) := by decide +kernel
theorem dX9_ofSnapshot_64 : decode cX9_ofSnapshot 64 = .ok (.iload_n 3, 1) := by decide +kernel
theorem dX9_ofSnapshot_65 : decode cX9_ofSnapshot 65 = .ok (.iaload, 1) := by decide +kernel
theorem dX9_ofSnapshot_66 : decode cX9_ofSnapshot 66 = .ok (.invokevirtual 127, 3) := by decide +kernel
theorem dX9_ofSnapshot_69 : decode cX9_ofSnapshot 69 = .ok (.ireturn, 1) := by decide +kernel
theorem dX9_count_0 : decode cX9_count 0 = .ok (.iload_n 1, 1) := by decide +kernel
theorem dX9_count_1 : decode cX9_count 1 = .ok (.iconst 0, 1) := by decide +kernel
theorem dX9_count_2 : decode cX9_count 2 = .ok (.bipush 12, 2) := by decide +kernel
theorem dX9_count_4 : decode cX9_count 4 = .ok (.invokestatic 32, 3) := by decide +kernel
theorem dX9_count_7 : decode cX9_count 7 = .ok (.ifCond .ne 6, 3) := by decide +kernel
theorem dX9_count_10 : decode cX9_count 10 = .ok (.bipush (-2), 2) := by decide +kernel
theorem dX9_count_12 : decode cX9_count 12 = .ok (.ireturn, 1) := by decide +kernel
theorem dX9_count_13 : decode cX9_count 13 = .ok (.iload_n 1, 1) := by decide +kernel
theorem dX9_count_14 : decode cX9_count 14 = .ok (.iconst 4, 1) := by decide +kernel
theorem dX9_count_15 : decode cX9_count 15 = .ok (.if_icmp .ge 52, 3) := by decide +kernel
theorem dX9_count_18 : decode cX9_count 18 = .ok (.iload_n 1, 1) := by decide +kernel
theorem dX9_count_19 : decode cX9_count 19 = .ok (.ifCond .ne 13, 3) := by decide +kernel
theorem dX9_count_22 : decode cX9_count 22 = .ok (.aload_n 0, 1) := by decide +kernel
theorem dX9_count_23 : decode cX9_count 23 = .ok (.getfield 7, 3) := by decide +kernel
theorem dX9_count_26 : decode cX9_count 26 = .ok (.bipush 6, 2) := by decide +kernel
theorem dX9_count_28 : decode cX9_count 28 = .ok (.iaload, 1) := by decide +kernel
theorem dX9_count_29 : decode cX9_count 29 = .ok (.goto 37, 3) := by decide +kernel
theorem dX9_count_32 : decode cX9_count 32 = .ok (.iload_n 1, 1) := by decide +kernel
theorem dX9_count_33 : decode cX9_count 33 = .ok (.iconst 1, 1) := by decide +kernel
theorem dX9_count_34 : decode cX9_count 34 = .ok (.if_icmp .ne 12, 3) := by decide +kernel
theorem dX9_count_37 : decode cX9_count 37 = .ok (.aload_n 0, 1) := by decide +kernel
theorem dX9_count_38 : decode cX9_count 38 = .ok (.getfield 7, 3) := by decide +kernel
theorem dX9_count_41 : decode cX9_count 41 = .ok (.iconst 3, 1) := by decide +kernel
theorem dX9_count_42 : decode cX9_count 42 = .ok (.iaload, 1) := by decide +kernel
theorem dX9_count_43 : decode cX9_count 43 = .ok (.goto 23, 3) := by decide +kernel
theorem dX9_count_46 : decode cX9_count 46 = .ok (.iload_n 1, 1) := by decide +kernel
theorem dX9_count_47 : decode cX9_count 47 = .ok (.iconst 2, 1) := by decide +kernel
theorem dX9_count_48 : decode cX9_count 48 = .ok (.if_icmp .ne 12, 3) := by decide +kernel
theorem dX9_count_51 : decode cX9_count 51 = .ok (.aload_n 0, 1) := by decide +kernel
theorem dX9_count_52 : decode cX9_count 52 = .ok (.bipush 9, 2) := by decide +kernel
theorem dX9_count_54 : decode cX9_count 54 = .ok (.invokevirtual 133, 3) := by decide +kernel
theorem dX9_count_57 : decode cX9_count 57 = .ok (.goto 9, 3) := by decide +kernel
theorem dX9_count_60 : decode cX9_count 60 = .ok (.aload_n 0, 1) := by decide +kernel
theorem dX9_count_61 : decode cX9_count 61 = .ok (.getfield 7, 3) := by decide +kernel
theorem dX9_count_64 : decode cX9_count 64 = .ok (.iconst 2, 1) := by decide +kernel
theorem dX9_count_65 : decode cX9_count 65 = .ok (.iaload, 1) := by decide +kernel
theorem dX9_count_66 : decode cX9_count 66 = .ok (.ireturn, 1) := by decide +kernel
theorem dX9_count_67 : decode cX9_count 67 = .ok (.iload_n 1, 1) := by decide +kernel
theorem dX9_count_68 : decode cX9_count 68 = .ok (.bipush 9, 2) := by decide +kernel
theorem dX9_count_70 : decode cX9_count 70 = .ok (.if_icmp .ge 71, 3) := by decide +kernel
theorem dX9_count_73 : decode cX9_count 73 = .ok (.iload_n 1, 1) := by decide +kernel
theorem dX9_count_74 : decode cX9_count 74 = .ok (.iconst 4, 1) := by decide +kernel
theorem dX9_count_75 : decode cX9_count 75 = .ok (.if_icmp .ne 12, 3) := by decide +kernel
theorem dX9_count_78 : decode cX9_count 78 = .ok (.aload_n 0, 1) := by decide +kernel
theorem dX9_count_79 : decode cX9_count 79 = .ok (.getfield 7, 3) := by decide +kernel
theorem dX9_count_82 : decode cX9_count 82 = .ok (.iconst 4, 1) := by decide +kernel
theorem dX9_count_83 : decode cX9_count 83 = .ok (.iaload, 1) := by decide +kernel
theorem dX9_count_84 : decode cX9_count 84 = .ok (.goto 56, 3) := by decide +kernel
theorem dX9_count_87 : decode cX9_count 87 = .ok (.iload_n 1, 1) := by decide +kernel
theorem dX9_count_88 : decode cX9_count 88 = .ok (.iconst 5, 1) := by decide +kernel
theorem dX9_count_89 : decode cX9_count 89 = .ok (.if_icmp .ne 12, 3) := by decide +kernel
theorem dX9_count_92 : decode cX9_count 92 = .ok (.aload_n 0, 1) := by decide +kernel
theorem dX9_count_93 : decode cX9_count 93 = .ok (.getfield 7, 3) := by decide +kernel
theorem dX9_count_96 : decode cX9_count 96 = .ok (.iconst 5, 1) := by decide +kernel
theorem dX9_count_97 : decode cX9_count 97 = .ok (.iaload, 1) := by decide +kernel
theorem dX9_count_98 : decode cX9_count 98 = .ok (.goto 42, 3) := by decide +kernel
theorem dX9_count_101 : decode cX9_count 101 = .ok (.iload_n 1, 1) := by decide +kernel
theorem dX9_count_102 : decode cX9_count 102 = .ok (.bipush 6, 2) := by decide +kernel
theorem dX9_count_104 : decode cX9_count 104 = .ok (.if_icmp .ne 13, 3) := by decide +kernel
theorem dX9_count_107 : decode cX9_count 107 = .ok (.aload_n 0, 1) := by decide +kernel
theorem dX9_count_108 : decode cX9_count 108 = .ok (.getfield 7, 3) := by decide +kernel
theorem dX9_count_111 : decode cX9_count 111 = .ok (.bipush 7, 2) := by decide +kernel
theorem dX9_count_113 : decode cX9_count 113 = .ok (.iaload, 1) := by decide +kernel
theorem dX9_count_114 : decode cX9_count 114 = .ok (.goto 26, 3) := by decide +kernel
theorem dX9_count_117 : decode cX9_count 117 = .ok (.iload_n 1, 1) := by decide +kernel
theorem dX9_count_118 : decode cX9_count 118 = .ok (.bipush 7, 2) := by decide +kernel
theorem dX9_count_120 : decode cX9_count 120 = .ok (.if_icmp .ne 13, 3) := by decide +kernel
theorem dX9_count_123 : decode cX9_count 123 = .ok (.aload_n 0, 1) := by decide +kernel
theorem dX9_count_124 : decode cX9_count 124 = .ok (.getfield 7, 3) := by decide +kernel
theorem dX9_count_127 : decode cX9_count 127 = .ok (.invokestatic 136, 3) := by decide +kernel
theorem dX9_count_130 : decode cX9_count 130 = .ok (.goto 10, 3) := by decide +kernel
theorem dX9_count_133 : decode cX9_count 133 = .ok (.aload_n 0, 1) := by decide +kernel
theorem dX9_count_134 : decode cX9_count 134 = .ok (.getfield 7, 3) := by decide +kernel
theorem dX9_count_137 : decode cX9_count 137 = .ok (.bipush 8, 2) := by decide +kernel
theorem dX9_count_139 : decode cX9_count 139 = .ok (.iaload, 1) := by decide +kernel
theorem dX9_count_140 : decode cX9_count 140 = .ok (.ireturn, 1) := by decide +kernel
theorem dX9_count_141 : decode cX9_count 141 = .ok (.iload_n 1, 1) := by decide +kernel
theorem dX9_count_142 : decode cX9_count 142 = .ok (.bipush 11, 2) := by decide +kernel
theorem dX9_count_144 : decode cX9_count 144 = .ok (.if_icmp .ge 15, 3) := by decide +kernel
theorem dX9_count_147 : decode cX9_count 147 = .ok (.aload_n 0, 1) := by decide +kernel
theorem dX9_count_148 : decode cX9_count 148 = .ok (.getfield 7, 3) := by decide +kernel
theorem dX9_count_151 : decode cX9_count 151 = .ok (.iload_n 1, 1) := by decide +kernel
theorem dX9_count_152 : decode cX9_count 152 = .ok (.bipush 9, 2) := by decide +kernel
theorem dX9_count_154 : decode cX9_count 154 = .ok (.isub, 1) := by decide +kernel
theorem dX9_count_155 : decode cX9_count 155 = .ok (.iaload, 1) := by decide +kernel
theorem dX9_count_156 : decode cX9_count 156 = .ok (.goto 20, 3) := by decide +kernel
theorem dX9_count_159 : decode cX9_count 159 = .ok (.iload_n 1, 1) := by decide +kernel
theorem dX9_count_160 : decode cX9_count 160 = .ok (.bipush 11, 2) := by decide +kernel
theorem dX9_count_162 : decode cX9_count 162 = .ok (.if_icmp .ne 10, 3) := by decide +kernel
theorem dX9_count_165 : decode cX9_count 165 = .ok (.aload_n 0, 1) := by decide +kernel
theorem dX9_count_166 : decode cX9_count 166 = .ok (.getfield 139, 3) := by decide +kernel
theorem dX9_count_169 : decode cX9_count 169 = .ok (.goto 7, 3) := by decide +kernel
theorem dX9_count_172 : decode cX9_count 172 = .ok (.aload_n 0, 1) := by decide +kernel
theorem dX9_count_173 : decode cX9_count 173 = .ok (.getfield 36, 3) := by decide +kernel
theorem dX9_count_176 : decode cX9_count 176 = .ok (.ireturn, 1) := by decide +kernel
theorem dX9_thinsThen_0 : decode cX9_thinsThen 0 = .ok (.aload_n 0, 1) := by decide +kernel
theorem dX9_thinsThen_1 : decode cX9_thinsThen 1 = .ok (.getfield 7, 3) := by decide +kernel
theorem dX9_thinsThen_4 : decode cX9_thinsThen 4 = .ok (.iconst 0, 1) := by decide +kernel
theorem dX9_thinsThen_5 : decode cX9_thinsThen 5 = .ok (.aload_n 0, 1) := by decide +kernel
theorem dX9_thinsThen_6 : decode cX9_thinsThen 6 = .ok (.getfield 13, 3) := by decide +kernel
theorem dX9_thinsThen_9 : decode cX9_thinsThen 9 = .ok (.iconst 0, 1) := by decide +kernel
theorem dX9_thinsThen_10 : decode cX9_thinsThen 10 = .ok (.invokestatic 40, 3) := by decide +kernel
theorem dX9_thinsThen_13 : decode cX9_thinsThen 13 = .ok (.aload_n 0, 1) := by decide +kernel
theorem dX9_thinsThen_14 : decode cX9_thinsThen 14 = .ok (.getfield 13, 3) := by decide +kernel
theorem dX9_thinsThen_17 : decode cX9_thinsThen 17 = .ok (.iconst 2, 1) := by decide +kernel
theorem dX9_thinsThen_18 : decode cX9_thinsThen 18 = .ok (.dup2, 1) := by decide +kernel
theorem dX9_thinsThen_19 : decode cX9_thinsThen 19 = .ok (.iaload, 1) := by decide +kernel
theorem dX9_thinsThen_20 : decode cX9_thinsThen 20 = .ok (.iload_n 1, 1) := by decide +kernel
theorem dX9_thinsThen_21 : decode cX9_thinsThen 21 = .ok (.iadd, 1) := by decide +kernel
theorem dX9_thinsThen_22 : decode cX9_thinsThen 22 = .ok (.iastore, 1) := by decide +kernel
theorem dX9_thinsThen_23 : decode cX9_thinsThen 23 = .ok (.aload_n 0, 1) := by decide +kernel
theorem dX9_thinsThen_24 : decode cX9_thinsThen 24 = .ok (.getfield 13, 3) := by decide +kernel
theorem dX9_thinsThen_27 : decode cX9_thinsThen 27 = .ok (.invokestatic 90, 3) := by decide +kernel
theorem dX9_thinsThen_30 : decode cX9_thinsThen 30 = .ok (.pop, 1) := by decide +kernel
theorem dX9_thinsThen_31 : decode cX9_thinsThen 31 = .ok (.return_, 1) := by decide +kernel
theorem dX9_leftIn_0 : decode cX9_leftIn 0 = .ok (.iload_n 1, 1) := by decide +kernel
theorem dX9_leftIn_1 : decode cX9_leftIn 1 = .ok (.iconst 0, 1) := by decide +kernel
theorem dX9_leftIn_2 : decode cX9_leftIn 2 = .ok (.sipush 999, 3) := by decide +kernel
theorem dX9_leftIn_5 : decode cX9_leftIn 5 = .ok (.invokestatic 32, 3) := by decide +kernel
theorem dX9_leftIn_8 : decode cX9_leftIn 8 = .ok (.ifCond .ne 6, 3) := by decide +kernel
theorem dX9_leftIn_11 : decode cX9_leftIn 11 = .ok (.bipush (-2), 2) := by decide +kernel
theorem dX9_leftIn_13 : decode cX9_leftIn 13 = .ok (.ireturn, 1) := by decide +kernel
theorem dX9_leftIn_14 : decode cX9_leftIn 14 = .ok (.aload_n 0, 1) := by decide +kernel
theorem dX9_leftIn_15 : decode cX9_leftIn 15 = .ok (.iload_n 1, 1) := by decide +kernel
theorem dX9_leftIn_16 : decode cX9_leftIn 16 = .ok (.invokevirtual 142, 3) := by decide +kernel
theorem dX9_leftIn_19 : decode cX9_leftIn 19 = .ok (.aload_n 0, 1) := by decide +kernel
theorem dX9_leftIn_20 : decode cX9_leftIn 20 = .ok (.getfield 13, 3) := by decide +kernel
theorem dX9_leftIn_23 : decode cX9_leftIn 23 = .ok (.bipush 6, 2) := by decide +kernel
theorem dX9_leftIn_25 : decode cX9_leftIn 25 = .ok (.iaload, 1) := by decide +kernel
theorem dX9_leftIn_26 : decode cX9_leftIn 26 = .ok (.ireturn, 1) := by decide +kernel
theorem dX9_lateIn_0 : decode cX9_lateIn 0 = .ok (.iload_n 1, 1) := by decide +kernel
theorem dX9_lateIn_1 : decode cX9_lateIn 1 = .ok (.iconst 0, 1) := by decide +kernel
theorem dX9_lateIn_2 : decode cX9_lateIn 2 = .ok (.sipush 999, 3) := by decide +kernel
theorem dX9_lateIn_5 : decode cX9_lateIn 5 = .ok (.invokestatic 32, 3) := by decide +kernel
theorem dX9_lateIn_8 : decode cX9_lateIn 8 = .ok (.ifCond .ne 6, 3) := by decide +kernel
theorem dX9_lateIn_11 : decode cX9_lateIn 11 = .ok (.bipush (-2), 2) := by decide +kernel
theorem dX9_lateIn_13 : decode cX9_lateIn 13 = .ok (.ireturn, 1) := by decide +kernel
theorem dX9_lateIn_14 : decode cX9_lateIn 14 = .ok (.aload_n 0, 1) := by decide +kernel
theorem dX9_lateIn_15 : decode cX9_lateIn 15 = .ok (.iload_n 1, 1) := by decide +kernel
theorem dX9_lateIn_16 : decode cX9_lateIn 16 = .ok (.invokevirtual 142, 3) := by decide +kernel
theorem dX9_lateIn_19 : decode cX9_lateIn 19 = .ok (.aload_n 0, 1) := by decide +kernel
theorem dX9_lateIn_20 : decode cX9_lateIn 20 = .ok (.getfield 13, 3) := by decide +kernel
theorem dX9_lateIn_23 : decode cX9_lateIn 23 = .ok (.invokestatic 136, 3) := by decide +kernel
theorem dX9_lateIn_26 : decode cX9_lateIn 26 = .ok (.ireturn, 1) := by decide +kernel
theorem dX9_shortest_0 : decode cX9_shortest 0 = .ok (.aload_n 0, 1) := by decide +kernel
theorem dX9_shortest_1 : decode cX9_shortest 1 = .ok (.iload_n 1, 1) := by decide +kernel
theorem dX9_shortest_2 : decode cX9_shortest 2 = .ok (.invokevirtual 105, 3) := by decide +kernel
theorem dX9_shortest_5 : decode cX9_shortest 5 = .ok (.ifCond .ne 5, 3) := by decide +kernel
theorem dX9_shortest_8 : decode cX9_shortest 8 = .ok (.iconst (-1), 1) := by decide +kernel
theorem dX9_shortest_9 : decode cX9_shortest 9 = .ok (.ireturn, 1) := by decide +kernel
theorem dX9_shortest_10 : decode cX9_shortest 10 = .ok (.iload_n 2, 1) := by decide +kernel
theorem dX9_shortest_11 : decode cX9_shortest 11 = .ok (.iconst 0, 1) := by decide +kernel
theorem dX9_shortest_12 : decode cX9_shortest 12 = .ok (.iconst 1, 1) := by decide +kernel
theorem dX9_shortest_13 : decode cX9_shortest 13 = .ok (.invokestatic 32, 3) := by decide +kernel
theorem dX9_shortest_16 : decode cX9_shortest 16 = .ok (.ifCond .ne 6, 3) := by decide +kernel
theorem dX9_shortest_19 : decode cX9_shortest 19 = .ok (.bipush (-2), 2) := by decide +kernel
theorem dX9_shortest_21 : decode cX9_shortest 21 = .ok (.ireturn, 1) := by decide +kernel
theorem dX9_shortest_22 : decode cX9_shortest 22 = .ok (.iconst 5, 1) := by decide +kernel
theorem dX9_shortest_23 : decode cX9_shortest 23 = .ok (.istore_n 3, 1) := by decide +kernel
theorem dX9_shortest_24 : decode cX9_shortest 24 = .ok (.aload_n 0, 1) := by decide +kernel
theorem dX9_shortest_25 : decode cX9_shortest 25 = .ok (.getfield 7, 3) := by decide +kernel
theorem dX9_shortest_28 : decode cX9_shortest 28 = .ok (.bipush 6, 2) := by decide +kernel
theorem dX9_shortest_30 : decode cX9_shortest 30 = .ok (.iaload, 1) := by decide +kernel
theorem dX9_shortest_31 : decode cX9_shortest 31 = .ok (.istore 4, 2) := by decide +kernel
theorem dX9_shortest_33 : decode cX9_shortest 33 = .ok (.iconst 4, 1) := by decide +kernel
theorem dX9_shortest_34 : decode cX9_shortest 34 = .ok (.istore 5, 2) := by decide +kernel
theorem dX9_shortest_36 : decode cX9_shortest 36 = .ok (.iload 5, 2) := by decide +kernel
theorem dX9_shortest_38 : decode cX9_shortest 38 = .ok (.ifCond .lt 114, 3) := by decide +kernel
theorem dX9_shortest_41 : decode cX9_shortest 41 = .ok (.iload 5, 2) := by decide +kernel
theorem dX9_shortest_43 : decode cX9_shortest 43 = .ok (.ifCond .ne 22, 3) := by decide +kernel
theorem dX9_shortest_46 : decode cX9_shortest 46 = .ok (.aload_n 0, 1) := by decide +kernel
theorem dX9_shortest_47 : decode cX9_shortest 47 = .ok (.getfield 7, 3) := by decide +kernel
theorem dX9_shortest_50 : decode cX9_shortest 50 = .ok (.iload_n 1, 1) := by decide +kernel
theorem dX9_shortest_51 : decode cX9_shortest 51 = .ok (.invokestatic 69, 3) := by decide +kernel
theorem dX9_shortest_54 : decode cX9_shortest 54 = .ok (.ifCond .ne 7, 3) := by decide +kernel
theorem dX9_shortest_57 : decode cX9_shortest 57 = .ok (.iconst 1, 1) := by decide +kernel
theorem dX9_shortest_58 : decode cX9_shortest 58 = .ok (.goto 24, 3) := by decide +kernel
theorem dX9_shortest_61 : decode cX9_shortest 61 = .ok (.iconst 0, 1) := by decide +kernel
theorem dX9_shortest_62 : decode cX9_shortest 62 = .ok (.goto 20, 3) := by decide +kernel
theorem dX9_shortest_65 : decode cX9_shortest 65 = .ok (.aload_n 0, 1) := by decide +kernel
theorem dX9_shortest_66 : decode cX9_shortest 66 = .ok (.iload_n 1, 1) := by decide +kernel
theorem dX9_shortest_67 : decode cX9_shortest 67 = .ok (.iload 5, 2) := by decide +kernel
theorem dX9_shortest_69 : decode cX9_shortest 69 = .ok (.iconst 1, 1) := by decide +kernel
theorem dX9_shortest_70 : decode cX9_shortest 70 = .ok (.isub, 1) := by decide +kernel
theorem dX9_shortest_71 : decode cX9_shortest 71 = .ok (.invokevirtual 121, 3) := by decide +kernel
theorem dX9_shortest_74 : decode cX9_shortest 74 = .ok (.ifCond .ne 7, 3) := by decide +kernel
theorem dX9_shortest_77 : decode cX9_shortest 77 = .ok (.iconst 1, 1) := by decide +kernel
theorem dX9_shortest_78 : decode cX9_shortest 78 = .ok (.goto 4, 3) := by decide +kernel
theorem dX9_shortest_81 : decode cX9_shortest 81 = .ok (.iconst 0, 1) := by decide +kernel
theorem dX9_shortest_82 : decode cX9_shortest 82 = .ok (.istore 6, 2) := by decide +kernel
theorem dX9_shortest_84 : decode cX9_shortest 84 = .ok (.iload 5, 2) := by decide +kernel
theorem dX9_shortest_86 : decode cX9_shortest 86 = .ok (.ifCond .ne 15, 3) := by decide +kernel
theorem dX9_shortest_89 : decode cX9_shortest 89 = .ok (.aload_n 0, 1) := by decide +kernel
theorem dX9_shortest_90 : decode cX9_shortest 90 = .ok (.getfield 7, 3) := by decide +kernel
theorem dX9_shortest_93 : decode cX9_shortest 93 = .ok (.iload_n 1, 1) := by decide +kernel
theorem dX9_shortest_94 : decode cX9_shortest 94 = .ok (.invokestatic 62, 3) := by decide +kernel
theorem dX9_shortest_97 : decode cX9_shortest 97 = .ok (.iaload, 1) := by decide +kernel
theorem dX9_shortest_98 : decode cX9_shortest 98 = .ok (.goto 19, 3) := by decide +kernel
theorem dX9_shortest_101 : decode cX9_shortest 101 = .ok (.aload_n 0, 1) := by decide +kernel
theorem dX9_shortest_102 : decode cX9_shortest 102 = .ok (.getfield 7, 3) := by decide +kernel
theorem dX9_shortest_105 : decode cX9_shortest 105 = .ok (.sipush 423, 3) := by decide +kernel
theorem dX9_shortest_108 : decode cX9_shortest 108 = .ok (.bipush 13, 2) := by decide +kernel
theorem dX9_shortest_110 : decode cX9_shortest 110 = .ok (.iload 5, 2) := by decide +kernel
theorem dX9_shortest_112 : decode cX9_shortest 112 = .ok (.iconst 1, 1) := by decide +kernel
theorem dX9_shortest_113 : decode cX9_shortest 113 = .ok (.isub, 1) := by decide +kernel
theorem dX9_shortest_114 : decode cX9_shortest 114 = .ok (.imul, 1) := by decide +kernel
theorem dX9_shortest_115 : decode cX9_shortest 115 = .ok (.iadd, 1) := by decide +kernel
theorem dX9_shortest_116 : decode cX9_shortest 116 = .ok (.iaload, 1) := by decide +kernel
theorem dX9_shortest_117 : decode cX9_shortest 117 = .ok (.istore 7, 2) := by decide +kernel
theorem dX9_shortest_119 : decode cX9_shortest 119 = .ok (.iload 6, 2) := by decide +kernel
theorem dX9_shortest_121 : decode cX9_shortest 121 = .ok (.ifCond .eq 25, 3) := by decide +kernel
theorem dX9_shortest_124 : decode cX9_shortest 124 = .ok (.aload_n 0, 1) := by decide +kernel
theorem dX9_shortest_125 : decode cX9_shortest 125 = .ok (.iload 7, 2) := by decide +kernel
theorem dX9_shortest_127 : decode cX9_shortest 127 = .ok (.invokevirtual 127, 3) := by decide +kernel
theorem dX9_shortest_130 : decode cX9_shortest 130 = .ok (.iload 4, 2) := by decide +kernel
theorem dX9_shortest_132 : decode cX9_shortest 132 = .ok (.if_icmp .gt 14, 3) := by decide +kernel
theorem dX9_shortest_135 : decode cX9_shortest 135 = .ok (.iload 5, 2) := by decide +kernel
theorem dX9_shortest_137 : decode cX9_shortest 137 = .ok (.istore_n 3, 1) := by decide +kernel
theorem dX9_shortest_138 : decode cX9_shortest 138 = .ok (.aload_n 0, 1) := by decide +kernel
theorem dX9_shortest_139 : decode cX9_shortest 139 = .ok (.iload 7, 2) := by decide +kernel
theorem dX9_shortest_141 : decode cX9_shortest 141 = .ok (.invokevirtual 127, 3) := by decide +kernel
theorem dX9_shortest_144 : decode cX9_shortest 144 = .ok (.istore 4, 2) := by decide +kernel
theorem dX9_shortest_146 : decode cX9_shortest 146 = .ok (.iinc 5 (-1), 3) := by decide +kernel
theorem dX9_shortest_149 : decode cX9_shortest 149 = .ok (.goto (-113), 3) := by decide +kernel
theorem dX9_shortest_152 : decode cX9_shortest 152 = .ok (.iload_n 2, 1) := by decide +kernel
theorem dX9_shortest_153 : decode cX9_shortest 153 = .ok (.ifCond .ne 7, 3) := by decide +kernel
theorem dX9_shortest_156 : decode cX9_shortest 156 = .ok (.iload_n 3, 1) := by decide +kernel
theorem dX9_shortest_157 : decode cX9_shortest 157 = .ok (.goto 5, 3) := by decide +kernel
theorem dX9_shortest_160 : decode cX9_shortest 160 = .ok (.iload 4, 2) := by decide +kernel
theorem dX9_shortest_162 : decode cX9_shortest 162 = .ok (.ireturn, 1) := by decide +kernel
theorem dX9_gentlest_0 : decode cX9_gentlest 0 = .ok (.iconst 1, 1) := by decide +kernel
theorem dX9_gentlest_1 : decode cX9_gentlest 1 = .ok (.istore_n 1, 1) := by decide +kernel
theorem dX9_gentlest_2 : decode cX9_gentlest 2 = .ok (.iconst (-1), 1) := by decide +kernel
theorem dX9_gentlest_3 : decode cX9_gentlest 3 = .ok (.istore_n 2, 1) := by decide +kernel
theorem dX9_gentlest_4 : decode cX9_gentlest 4 = .ok (.iconst 1, 1) := by decide +kernel
theorem dX9_gentlest_5 : decode cX9_gentlest 5 = .ok (.istore_n 3, 1) := by decide +kernel
theorem dX9_gentlest_6 : decode cX9_gentlest 6 = .ok (.iload_n 3, 1) := by decide +kernel
theorem dX9_gentlest_7 : decode cX9_gentlest 7 = .ok (.bipush 20, 2) := by decide +kernel
theorem dX9_gentlest_9 : decode cX9_gentlest 9 = .ok (.if_icmp .gt 77, 3) := by decide +kernel
theorem dX9_gentlest_12 : decode cX9_gentlest 12 = .ok (.aload_n 0, 1) := by decide +kernel
theorem dX9_gentlest_13 : decode cX9_gentlest 13 = .ok (.getfield 7, 3) := by decide +kernel
theorem dX9_gentlest_16 : decode cX9_gentlest 16 = .ok (.iconst 0, 1) := by decide +kernel
theorem dX9_gentlest_17 : decode cX9_gentlest 17 = .ok (.aload_n 0, 1) := by decide +kernel
theorem dX9_gentlest_18 : decode cX9_gentlest 18 = .ok (.getfield 13, 3) := by decide +kernel
theorem dX9_gentlest_21 : decode cX9_gentlest 21 = .ok (.iconst 0, 1) := by decide +kernel
theorem dX9_gentlest_22 : decode cX9_gentlest 22 = .ok (.invokestatic 40, 3) := by decide +kernel
theorem dX9_gentlest_25 : decode cX9_gentlest 25 = .ok (.aload_n 0, 1) := by decide +kernel
theorem dX9_gentlest_26 : decode cX9_gentlest 26 = .ok (.getfield 13, 3) := by decide +kernel
theorem dX9_gentlest_29 : decode cX9_gentlest 29 = .ok (.iconst 0, 1) := by decide +kernel
theorem dX9_gentlest_30 : decode cX9_gentlest 30 = .ok (.iload_n 3, 1) := by decide +kernel
theorem dX9_gentlest_31 : decode cX9_gentlest 31 = .ok (.iastore, 1) := by decide +kernel
theorem dX9_gentlest_32 : decode cX9_gentlest 32 = .ok (.aload_n 0, 1) := by decide +kernel
theorem dX9_gentlest_33 : decode cX9_gentlest 33 = .ok (.getfield 13, 3) := by decide +kernel
theorem dX9_gentlest_36 : decode cX9_gentlest 36 = .ok (.invokestatic 90, 3) := by decide +kernel
theorem dX9_gentlest_39 : decode cX9_gentlest 39 = .ok (.pop, 1) := by decide +kernel
theorem dX9_gentlest_40 : decode cX9_gentlest 40 = .ok (.aload_n 0, 1) := by decide +kernel
theorem dX9_gentlest_41 : decode cX9_gentlest 41 = .ok (.getfield 13, 3) := by decide +kernel
theorem dX9_gentlest_44 : decode cX9_gentlest 44 = .ok (.bipush 6, 2) := by decide +kernel
theorem dX9_gentlest_46 : decode cX9_gentlest 46 = .ok (.iaload, 1) := by decide +kernel
theorem dX9_gentlest_47 : decode cX9_gentlest 47 = .ok (.iload_n 2, 1) := by decide +kernel
theorem dX9_gentlest_48 : decode cX9_gentlest 48 = .ok (.if_icmp .le 7, 3) := by decide +kernel
theorem dX9_gentlest_51 : decode cX9_gentlest 51 = .ok (.iload_n 3, 1) := by decide +kernel
theorem dX9_gentlest_52 : decode cX9_gentlest 52 = .ok (.goto 4, 3) := by decide +kernel
theorem dX9_gentlest_55 : decode cX9_gentlest 55 = .ok (.iload_n 1, 1) := by decide +kernel
theorem dX9_gentlest_56 : decode cX9_gentlest 56 = .ok (.istore_n 1, 1) := by decide +kernel
theorem dX9_gentlest_57 : decode cX9_gentlest 57 = .ok (.aload_n 0, 1) := by decide +kernel
theorem dX9_gentlest_58 : decode cX9_gentlest 58 = .ok (.getfield 13, 3) := by decide +kernel
theorem dX9_gentlest_61 : decode cX9_gentlest 61 = .ok (.bipush 6, 2) := by decide +kernel
theorem dX9_gentlest_63 : decode cX9_gentlest 63 = .ok (.iaload, 1) := by decide +kernel
theorem dX9_gentlest_64 : decode cX9_gentlest 64 = .ok (.iload_n 2, 1) := by decide +kernel
theorem dX9_gentlest_65 : decode cX9_gentlest 65 = .ok (.if_icmp .le 13, 3) := by decide +kernel
theorem dX9_gentlest_68 : decode cX9_gentlest 68 = .ok (.aload_n 0, 1) := by decide +kernel
theorem dX9_gentlest_69 : decode cX9_gentlest 69 = .ok (.getfield 13, 3) := by decide +kernel
theorem dX9_gentlest_72 : decode cX9_gentlest 72 = .ok (.bipush 6, 2) := by decide +kernel
theorem dX9_gentlest_74 : decode cX9_gentlest 74 = .ok (.iaload, 1) := by decide +kernel
theorem dX9_gentlest_75 : decode cX9_gentlest 75 = .ok (.goto 4, 3) := by decide +kernel
theorem dX9_gentlest_78 : decode cX9_gentlest 78 = .ok (.iload_n 2, 1) := by decide +kernel
theorem dX9_gentlest_79 : decode cX9_gentlest 79 = .ok (.istore_n 2, 1) := by decide +kernel
theorem dX9_gentlest_80 : decode cX9_gentlest 80 = .ok (.iinc 3 1, 3) := by decide +kernel
theorem dX9_gentlest_83 : decode cX9_gentlest 83 = .ok (.goto (-77), 3) := by decide +kernel
theorem dX9_gentlest_86 : decode cX9_gentlest 86 = .ok (.iload_n 1, 1) := by decide +kernel
theorem dX9_gentlest_87 : decode cX9_gentlest 87 = .ok (.ireturn, 1) := by decide +kernel
theorem dX9_byteOf_0 : decode cX9_byteOf 0 = .ok (.lload_n 0, 1) := by decide +kernel
theorem dX9_byteOf_1 : decode cX9_byteOf 1 = .ok (.bipush 8, 2) := by decide +kernel
theorem dX9_byteOf_3 : decode cX9_byteOf 3 = .ok (.iload_n 2, 1) := by decide +kernel
theorem dX9_byteOf_4 : decode cX9_byteOf 4 = .ok (.imul, 1) := by decide +kernel
theorem dX9_byteOf_5 : decode cX9_byteOf 5 = .ok (.lshr, 1) := by decide +kernel
theorem dX9_byteOf_6 : decode cX9_byteOf 6 = .ok (.ldc2_w 146, 3) := by decide +kernel
theorem dX9_byteOf_9 : decode cX9_byteOf 9 = .ok (.land, 1) := by decide +kernel
theorem dX9_byteOf_10 : decode cX9_byteOf 10 = .ok (.l2i, 1) := by decide +kernel
theorem dX9_byteOf_11 : decode cX9_byteOf 11 = .ok (.ireturn, 1) := by decide +kernel
theorem dX9_toldBy_0 : decode cX9_toldBy 0 = .ok (.iconst 0, 1) := by decide +kernel
theorem dX9_toldBy_1 : decode cX9_toldBy 1 = .ok (.istore_n 2, 1) := by decide +kernel
theorem dX9_toldBy_2 : decode cX9_toldBy 2 = .ok (.iload_n 2, 1) := by decide +kernel
theorem dX9_toldBy_3 : decode cX9_toldBy 3 = .ok (.bipush 8, 2) := by decide +kernel
theorem dX9_toldBy_5 : decode cX9_toldBy 5 = .ok (.if_icmp .ge 35, 3) := by decide +kernel
theorem dX9_toldBy_8 : decode cX9_toldBy 8 = .ok (.lload_n 0, 1) := by decide +kernel
theorem dX9_toldBy_9 : decode cX9_toldBy 9 = .ok (.iload_n 2, 1) := by decide +kernel
theorem dX9_toldBy_10 : decode cX9_toldBy 10 = .ok (.invokestatic 148, 3) := by decide +kernel
theorem dX9_toldBy_13 : decode cX9_toldBy 13 = .ok (.ifCond .eq 27, 3) := by decide +kernel
theorem dX9_toldBy_16 : decode cX9_toldBy 16 = .ok (.lload_n 0, 1) := by decide +kernel
theorem dX9_toldBy_17 : decode cX9_toldBy 17 = .ok (.iload_n 2, 1) := by decide +kernel
theorem dX9_toldBy_18 : decode cX9_toldBy 18 = .ok (.invokestatic 148, 3) := by decide +kernel
theorem dX9_toldBy_21 : decode cX9_toldBy 21 = .ok (.bipush 33, 2) := by decide +kernel
theorem dX9_toldBy_23 : decode cX9_toldBy 23 = .ok (.bipush 126, 2) := by decide +kernel
theorem dX9_toldBy_25 : decode cX9_toldBy 25 = .ok (.invokestatic 32, 3) := by decide +kernel
theorem dX9_toldBy_28 : decode cX9_toldBy 28 = .ok (.ifCond .ne 6, 3) := by decide +kernel
theorem dX9_toldBy_31 : decode cX9_toldBy 31 = .ok (.bipush (-2), 2) := by decide +kernel
theorem dX9_toldBy_33 : decode cX9_toldBy 33 = .ok (.ireturn, 1) := by decide +kernel
theorem dX9_toldBy_34 : decode cX9_toldBy 34 = .ok (.iinc 2 1, 3) := by decide +kernel
theorem dX9_toldBy_37 : decode cX9_toldBy 37 = .ok (.goto (-35), 3) := by decide +kernel
theorem dX9_toldBy_40 : decode cX9_toldBy 40 = .ok (.iload_n 2, 1) := by decide +kernel
theorem dX9_toldBy_41 : decode cX9_toldBy 41 = .ok (.istore_n 3, 1) := by decide +kernel
theorem dX9_toldBy_42 : decode cX9_toldBy 42 = .ok (.iload_n 3, 1) := by decide +kernel
theorem dX9_toldBy_43 : decode cX9_toldBy 43 = .ok (.bipush 8, 2) := by decide +kernel
theorem dX9_toldBy_45 : decode cX9_toldBy 45 = .ok (.if_icmp .ge 20, 3) := by decide +kernel
theorem dX9_toldBy_48 : decode cX9_toldBy 48 = .ok (.lload_n 0, 1) := by decide +kernel
theorem dX9_toldBy_49 : decode cX9_toldBy 49 = .ok (.iload_n 3, 1) := by decide +kernel
theorem dX9_toldBy_50 : decode cX9_toldBy 50 = .ok (.invokestatic 148, 3) := by decide +kernel
theorem dX9_toldBy_53 : decode cX9_toldBy 53 = .ok (.ifCond .eq 6, 3) := by decide +kernel
theorem dX9_toldBy_56 : decode cX9_toldBy 56 = .ok (.bipush (-2), 2) := by decide +kernel
theorem dX9_toldBy_58 : decode cX9_toldBy 58 = .ok (.ireturn, 1) := by decide +kernel
theorem dX9_toldBy_59 : decode cX9_toldBy 59 = .ok (.iinc 3 1, 3) := by decide +kernel
theorem dX9_toldBy_62 : decode cX9_toldBy 62 = .ok (.goto (-20), 3) := by decide +kernel
theorem dX9_toldBy_65 : decode cX9_toldBy 65 = .ok (.iload_n 2, 1) := by decide +kernel
theorem dX9_toldBy_66 : decode cX9_toldBy 66 = .ok (.ifCond .ne 8, 3) := by decide +kernel
theorem dX9_toldBy_69 : decode cX9_toldBy 69 = .ok (.bipush (-2), 2) := by decide +kernel
theorem dX9_toldBy_71 : decode cX9_toldBy 71 = .ok (.goto 4, 3) := by decide +kernel
theorem dX9_toldBy_74 : decode cX9_toldBy 74 = .ok (.iload_n 2, 1) := by decide +kernel
theorem dX9_toldBy_75 : decode cX9_toldBy 75 = .ok (.ireturn, 1) := by decide +kernel
theorem dX9_put_0 : decode cX9_put 0 = .ok (.lload_n 1, 1) := by decide +kernel
theorem dX9_put_1 : decode cX9_put 1 = .ok (.invokestatic 152, 3) := by decide +kernel
theorem dX9_put_4 : decode cX9_put 4 = .ok (.istore_n 3, 1) := by decide +kernel
theorem dX9_put_5 : decode cX9_put 5 = .ok (.iload_n 3, 1) := by decide +kernel
theorem dX9_put_6 : decode cX9_put 6 = .ok (.ifCond .ge 5, 3) := by decide +kernel
theorem dX9_put_9 : decode cX9_put 9 = .ok (.iload_n 3, 1) := by decide +kernel
theorem dX9_put_10 : decode cX9_put 10 = .ok (.ireturn, 1) := by decide +kernel
theorem dX9_put_11 : decode cX9_put 11 = .ok (.aload_n 0, 1) := by decide +kernel
theorem dX9_put_12 : decode cX9_put 12 = .ok (.getfield 139, 3) := by decide +kernel
theorem dX9_put_15 : decode cX9_put 15 = .ok (.iload_n 3, 1) := by decide +kernel
theorem dX9_put_16 : decode cX9_put 16 = .ok (.iadd, 1) := by decide +kernel
theorem dX9_put_17 : decode cX9_put 17 = .ok (.bipush 80, 2) := by decide +kernel
theorem dX9_put_19 : decode cX9_put 19 = .ok (.if_icmp .le 6, 3) := by decide +kernel
theorem dX9_put_22 : decode cX9_put 22 = .ok (.bipush (-4), 2) := by decide +kernel
theorem dX9_put_24 : decode cX9_put 24 = .ok (.ireturn, 1) := by decide +kernel
theorem dX9_put_25 : decode cX9_put 25 = .ok (.iload_n 3, 1) := by decide +kernel
theorem dX9_put_26 : decode cX9_put 26 = .ok (.iconst 1, 1) := by decide +kernel
theorem dX9_put_27 : decode cX9_put 27 = .ok (.isub, 1) := by decide +kernel
theorem dX9_put_28 : decode cX9_put 28 = .ok (.istore 4, 2) := by decide +kernel
theorem dX9_put_30 : decode cX9_put 30 = .ok (.iload 4, 2) := by decide +kernel
theorem dX9_put_32 : decode cX9_put 32 = .ok (.ifCond .lt 34, 3) := by decide +kernel
theorem dX9_put_35 : decode cX9_put 35 = .ok (.aload_n 0, 1) := by decide +kernel
theorem dX9_put_36 : decode cX9_put 36 = .ok (.getfield 26, 3) := by decide +kernel
theorem dX9_put_39 : decode cX9_put 39 = .ok (.aload_n 0, 1) := by decide +kernel
theorem dX9_put_40 : decode cX9_put 40 = .ok (.getfield 139, 3) := by decide +kernel
theorem dX9_put_43 : decode cX9_put 43 = .ok (.lload_n 1, 1) := by decide +kernel
theorem dX9_put_44 : decode cX9_put 44 = .ok (.iload 4, 2) := by decide +kernel
theorem dX9_put_46 : decode cX9_put 46 = .ok (.invokestatic 148, 3) := by decide +kernel
theorem dX9_put_49 : decode cX9_put 49 = .ok (.iastore, 1) := by decide +kernel
theorem dX9_put_50 : decode cX9_put 50 = .ok (.aload_n 0, 1) := by decide +kernel
theorem dX9_put_51 : decode cX9_put 51 = .ok (.dup, 1) := by decide +kernel
theorem dX9_put_52 : decode cX9_put 52 = .ok (.getfield 139, 3) := by decide +kernel
theorem dX9_put_55 : decode cX9_put 55 = .ok (.iconst 1, 1) := by decide +kernel
theorem dX9_put_56 : decode cX9_put 56 = .ok (.iadd, 1) := by decide +kernel
theorem dX9_put_57 : decode cX9_put 57 = .ok (.putfield 139, 3) := by decide +kernel
theorem dX9_put_60 : decode cX9_put 60 = .ok (.iinc 4 (-1), 3) := by decide +kernel
theorem dX9_put_63 : decode cX9_put 63 = .ok (.goto (-33), 3) := by decide +kernel
theorem dX9_put_66 : decode cX9_put 66 = .ok (.aload_n 0, 1) := by decide +kernel
theorem dX9_put_67 : decode cX9_put 67 = .ok (.getfield 139, 3) := by decide +kernel
theorem dX9_put_70 : decode cX9_put 70 = .ok (.ireturn, 1) := by decide +kernel
theorem dX9_wipe_0 : decode cX9_wipe 0 = .ok (.aload_n 0, 1) := by decide +kernel
theorem dX9_wipe_1 : decode cX9_wipe 1 = .ok (.getfield 139, 3) := by decide +kernel
theorem dX9_wipe_4 : decode cX9_wipe 4 = .ok (.istore_n 1, 1) := by decide +kernel
theorem dX9_wipe_5 : decode cX9_wipe 5 = .ok (.aload_n 0, 1) := by decide +kernel
theorem dX9_wipe_6 : decode cX9_wipe 6 = .ok (.iconst 0, 1) := by decide +kernel
theorem dX9_wipe_7 : decode cX9_wipe 7 = .ok (.putfield 139, 3) := by decide +kernel
theorem dX9_wipe_10 : decode cX9_wipe 10 = .ok (.iload_n 1, 1) := by decide +kernel
theorem dX9_wipe_11 : decode cX9_wipe 11 = .ok (.ireturn, 1) := by decide +kernel
theorem dX9_isAt_0 : decode cX9_isAt 0 = .ok (.aload_n 0, 1) := by decide +kernel
theorem dX9_isAt_1 : decode cX9_isAt 1 = .ok (.getfield 156, 3) := by decide +kernel
theorem dX9_isAt_4 : decode cX9_isAt 4 = .ok (.aload_n 0, 1) := by decide +kernel
theorem dX9_isAt_5 : decode cX9_isAt 5 = .ok (.getfield 139, 3) := by decide +kernel
theorem dX9_isAt_8 : decode cX9_isAt 8 = .ok (.if_icmp .ge 24, 3) := by decide +kernel
theorem dX9_isAt_11 : decode cX9_isAt 11 = .ok (.aload_n 0, 1) := by decide +kernel
theorem dX9_isAt_12 : decode cX9_isAt 12 = .ok (.getfield 26, 3) := by decide +kernel
theorem dX9_isAt_15 : decode cX9_isAt 15 = .ok (.aload_n 0, 1) := by decide +kernel
theorem dX9_isAt_16 : decode cX9_isAt 16 = .ok (.getfield 156, 3) := by decide +kernel
theorem dX9_isAt_19 : decode cX9_isAt 19 = .ok (.iaload, 1) := by decide +kernel
theorem dX9_isAt_20 : decode cX9_isAt 20 = .ok (.iload_n 1, 1) := by decide +kernel
theorem dX9_isAt_21 : decode cX9_isAt 21 = .ok (.iload_n 2, 1) := by decide +kernel
theorem dX9_isAt_22 : decode cX9_isAt 22 = .ok (.invokestatic 32, 3) := by decide +kernel
theorem dX9_isAt_25 : decode cX9_isAt 25 = .ok (.ifCond .eq 7, 3) := by decide +kernel
theorem dX9_isAt_28 : decode cX9_isAt 28 = .ok (.iconst 1, 1) := by decide +kernel
theorem dX9_isAt_29 : decode cX9_isAt 29 = .ok (.goto 4, 3) := by decide +kernel
theorem dX9_isAt_32 : decode cX9_isAt 32 = .ok (.iconst 0, 1) := by decide +kernel
theorem dX9_isAt_33 : decode cX9_isAt 33 = .ok (.ireturn, 1) := by decide +kernel
theorem dX9_isSign_0 : decode cX9_isSign 0 = .ok (.aload_n 0, 1) := by decide +kernel
theorem dX9_isSign_1 : decode cX9_isSign 1 = .ok (.iload_n 1, 1) := by decide +kernel
theorem dX9_isSign_2 : decode cX9_isSign 2 = .ok (.iload_n 1, 1) := by decide +kernel
theorem dX9_isSign_3 : decode cX9_isSign 3 = .ok (.invokevirtual 159, 3) := by decide +kernel
theorem dX9_isSign_6 : decode cX9_isSign 6 = .ok (.istore_n 2, 1) := by decide +kernel
theorem dX9_isSign_7 : decode cX9_isSign 7 = .ok (.aload_n 0, 1) := by decide +kernel
theorem dX9_isSign_8 : decode cX9_isSign 8 = .ok (.dup, 1) := by decide +kernel
theorem dX9_isSign_9 : decode cX9_isSign 9 = .ok (.getfield 156, 3) := by decide +kernel
theorem dX9_isSign_12 : decode cX9_isSign 12 = .ok (.iload_n 2, 1) := by decide +kernel
theorem dX9_isSign_13 : decode cX9_isSign 13 = .ok (.ifCond .eq 7, 3) := by decide +kernel
theorem dX9_isSign_16 : decode cX9_isSign 16 = .ok (.iconst 1, 1) := by decide +kernel
theorem dX9_isSign_17 : decode cX9_isSign 17 = .ok (.goto 4, 3) := by decide +kernel
theorem dX9_isSign_20 : decode cX9_isSign 20 = .ok (.iconst 0, 1) := by decide +kernel
theorem dX9_isSign_21 : decode cX9_isSign 21 = .ok (.iadd, 1) := by decide +kernel
theorem dX9_isSign_22 : decode cX9_isSign 22 = .ok (.putfield 156, 3) := by decide +kernel
theorem dX9_isSign_25 : decode cX9_isSign 25 = .ok (.iload_n 2, 1) := by decide +kernel
theorem dX9_isSign_26 : decode cX9_isSign 26 = .ok (.ireturn, 1) := by decide +kernel
theorem dX9_isDigit_0 : decode cX9_isDigit 0 = .ok (.aload_n 0, 1) := by decide +kernel
theorem dX9_isDigit_1 : decode cX9_isDigit 1 = .ok (.bipush 48, 2) := by decide +kernel
theorem dX9_isDigit_3 : decode cX9_isDigit 3 = .ok (.iload_n 2, 1) := by decide +kernel
theorem dX9_isDigit_4 : decode cX9_isDigit 4 = .ok (.invokevirtual 159, 3) := by decide +kernel
theorem dX9_isDigit_7 : decode cX9_isDigit 7 = .ok (.istore_n 3, 1) := by decide +kernel
theorem dX9_isDigit_8 : decode cX9_isDigit 8 = .ok (.iload_n 3, 1) := by decide +kernel
theorem dX9_isDigit_9 : decode cX9_isDigit 9 = .ok (.ifCond .eq 38, 3) := by decide +kernel
theorem dX9_isDigit_12 : decode cX9_isDigit 12 = .ok (.aload_n 0, 1) := by decide +kernel
theorem dX9_isDigit_13 : decode cX9_isDigit 13 = .ok (.getfield 29, 3) := by decide +kernel
theorem dX9_isDigit_16 : decode cX9_isDigit 16 = .ok (.iconst 3, 1) := by decide +kernel
theorem dX9_isDigit_17 : decode cX9_isDigit 17 = .ok (.aload_n 0, 1) := by decide +kernel
theorem dX9_isDigit_18 : decode cX9_isDigit 18 = .ok (.getfield 163, 3) := by decide +kernel
theorem dX9_isDigit_21 : decode cX9_isDigit 21 = .ok (.imul, 1) := by decide +kernel
theorem dX9_isDigit_22 : decode cX9_isDigit 22 = .ok (.iload_n 1, 1) := by decide +kernel
theorem dX9_isDigit_23 : decode cX9_isDigit 23 = .ok (.iadd, 1) := by decide +kernel
theorem dX9_isDigit_24 : decode cX9_isDigit 24 = .ok (.aload_n 0, 1) := by decide +kernel
theorem dX9_isDigit_25 : decode cX9_isDigit 25 = .ok (.getfield 26, 3) := by decide +kernel
theorem dX9_isDigit_28 : decode cX9_isDigit 28 = .ok (.aload_n 0, 1) := by decide +kernel
theorem dX9_isDigit_29 : decode cX9_isDigit 29 = .ok (.getfield 156, 3) := by decide +kernel
theorem dX9_isDigit_32 : decode cX9_isDigit 32 = .ok (.iaload, 1) := by decide +kernel
theorem dX9_isDigit_33 : decode cX9_isDigit 33 = .ok (.bipush 48, 2) := by decide +kernel
theorem dX9_isDigit_35 : decode cX9_isDigit 35 = .ok (.isub, 1) := by decide +kernel
theorem dX9_isDigit_36 : decode cX9_isDigit 36 = .ok (.iastore, 1) := by decide +kernel
theorem dX9_isDigit_37 : decode cX9_isDigit 37 = .ok (.aload_n 0, 1) := by decide +kernel
theorem dX9_isDigit_38 : decode cX9_isDigit 38 = .ok (.dup, 1) := by decide +kernel
theorem dX9_isDigit_39 : decode cX9_isDigit 39 = .ok (.getfield 156, 3) := by decide +kernel
theorem dX9_isDigit_42 : decode cX9_isDigit 42 = .ok (.iconst 1, 1) := by decide +kernel
theorem dX9_isDigit_43 : decode cX9_isDigit 43 = .ok (.iadd, 1) := by decide +kernel
theorem dX9_isDigit_44 : decode cX9_isDigit 44 = .ok (.putfield 156, 3) := by decide +kernel
theorem dX9_isDigit_47 : decode cX9_isDigit 47 = .ok (.iload_n 3, 1) := by decide +kernel
theorem dX9_isDigit_48 : decode cX9_isDigit 48 = .ok (.ireturn, 1) := by decide +kernel
theorem dX9_isNumber_0 : decode cX9_isNumber 0 = .ok (.aload_n 0, 1) := by decide +kernel
theorem dX9_isNumber_1 : decode cX9_isNumber 1 = .ok (.bipush 48, 2) := by decide +kernel
theorem dX9_isNumber_3 : decode cX9_isNumber 3 = .ok (.bipush 57, 2) := by decide +kernel
theorem dX9_isNumber_5 : decode cX9_isNumber 5 = .ok (.invokevirtual 159, 3) := by decide +kernel
theorem dX9_isNumber_8 : decode cX9_isNumber 8 = .ok (.ifCond .ne 5, 3) := by decide +kernel
theorem dX9_isNumber_11 : decode cX9_isNumber 11 = .ok (.iconst 0, 1) := by decide +kernel
theorem dX9_isNumber_12 : decode cX9_isNumber 12 = .ok (.ireturn, 1) := by decide +kernel
theorem dX9_isNumber_13 : decode cX9_isNumber 13 = .ok (.aload_n 0, 1) := by decide +kernel
theorem dX9_isNumber_14 : decode cX9_isNumber 14 = .ok (.getfield 26, 3) := by decide +kernel
theorem dX9_isNumber_17 : decode cX9_isNumber 17 = .ok (.aload_n 0, 1) := by decide +kernel
theorem dX9_isNumber_18 : decode cX9_isNumber 18 = .ok (.getfield 156, 3) := by decide +kernel
theorem dX9_isNumber_21 : decode cX9_isNumber 21 = .ok (.iaload, 1) := by decide +kernel
theorem dX9_isNumber_22 : decode cX9_isNumber 22 = .ok (.bipush 48, 2) := by decide +kernel
theorem dX9_isNumber_24 : decode cX9_isNumber 24 = .ok (.isub, 1) := by decide +kernel
theorem dX9_isNumber_25 : decode cX9_isNumber 25 = .ok (.istore_n 2, 1) := by decide +kernel
theorem dX9_isNumber_26 : decode cX9_isNumber 26 = .ok (.aload_n 0, 1) := by decide +kernel
theorem dX9_isNumber_27 : decode cX9_isNumber 27 = .ok (.dup, 1) := by decide +kernel
theorem dX9_isNumber_28 : decode cX9_isNumber 28 = .ok (.getfield 156, 3) := by decide +kernel
theorem dX9_isNumber_31 : decode cX9_isNumber 31 = .ok (.iconst 1, 1) := by decide +kernel
theorem dX9_isNumber_32 : decode cX9_isNumber 32 = .ok (.iadd, 1) := by decide +kernel
theorem dX9_isNumber_33 : decode cX9_isNumber 33 = .ok (.putfield 156, 3) := by decide +kernel
theorem dX9_isNumber_36 : decode cX9_isNumber 36 = .ok (.iload_n 2, 1) := by decide +kernel
theorem dX9_isNumber_37 : decode cX9_isNumber 37 = .ok (.ifCond .le 51, 3) := by decide +kernel
theorem dX9_isNumber_40 : decode cX9_isNumber 40 = .ok (.iload_n 2, 1) := by decide +kernel
theorem dX9_isNumber_41 : decode cX9_isNumber 41 = .ok (.bipush 100, 2) := by decide +kernel
theorem dX9_isNumber_43 : decode cX9_isNumber 43 = .ok (.if_icmp .ge 45, 3) := by decide +kernel
theorem dX9_isNumber_46 : decode cX9_isNumber 46 = .ok (.aload_n 0, 1) := by decide +kernel
theorem dX9_isNumber_47 : decode cX9_isNumber 47 = .ok (.bipush 48, 2) := by decide +kernel
theorem dX9_isNumber_49 : decode cX9_isNumber 49 = .ok (.bipush 57, 2) := by decide +kernel
theorem dX9_isNumber_51 : decode cX9_isNumber 51 = .ok (.invokevirtual 159, 3) := by decide +kernel
theorem dX9_isNumber_54 : decode cX9_isNumber 54 = .ok (.ifCond .eq 34, 3) := by decide +kernel
theorem dX9_isNumber_57 : decode cX9_isNumber 57 = .ok (.bipush 10, 2) := by decide +kernel
theorem dX9_isNumber_59 : decode cX9_isNumber 59 = .ok (.iload_n 2, 1) := by decide +kernel
theorem dX9_isNumber_60 : decode cX9_isNumber 60 = .ok (.imul, 1) := by decide +kernel
theorem dX9_isNumber_61 : decode cX9_isNumber 61 = .ok (.aload_n 0, 1) := by decide +kernel
theorem dX9_isNumber_62 : decode cX9_isNumber 62 = .ok (.getfield 26, 3) := by decide +kernel
theorem dX9_isNumber_65 : decode cX9_isNumber 65 = .ok (.aload_n 0, 1) := by decide +kernel
theorem dX9_isNumber_66 : decode cX9_isNumber 66 = .ok (.getfield 156, 3) := by decide +kernel
theorem dX9_isNumber_69 : decode cX9_isNumber 69 = .ok (.iaload, 1) := by decide +kernel
theorem dX9_isNumber_70 : decode cX9_isNumber 70 = .ok (.iadd, 1) := by decide +kernel
theorem dX9_isNumber_71 : decode cX9_isNumber 71 = .ok (.bipush 48, 2) := by decide +kernel
theorem dX9_isNumber_73 : decode cX9_isNumber 73 = .ok (.isub, 1) := by decide +kernel
theorem dX9_isNumber_74 : decode cX9_isNumber 74 = .ok (.istore_n 2, 1) := by decide +kernel
theorem dX9_isNumber_75 : decode cX9_isNumber 75 = .ok (.aload_n 0, 1) := by decide +kernel
theorem dX9_isNumber_76 : decode cX9_isNumber 76 = .ok (.dup, 1) := by decide +kernel
theorem dX9_isNumber_77 : decode cX9_isNumber 77 = .ok (.getfield 156, 3) := by decide +kernel
theorem dX9_isNumber_80 : decode cX9_isNumber 80 = .ok (.iconst 1, 1) := by decide +kernel
theorem dX9_isNumber_81 : decode cX9_isNumber 81 = .ok (.iadd, 1) := by decide +kernel
theorem dX9_isNumber_82 : decode cX9_isNumber 82 = .ok (.putfield 156, 3) := by decide +kernel
theorem dX9_isNumber_85 : decode cX9_isNumber 85 = .ok (.goto (-49), 3) := by decide +kernel
theorem dX9_isNumber_88 : decode cX9_isNumber 88 = .ok (.aload_n 0, 1) := by decide +kernel
theorem dX9_isNumber_89 : decode cX9_isNumber 89 = .ok (.getfield 29, 3) := by decide +kernel
theorem dX9_isNumber_92 : decode cX9_isNumber 92 = .ok (.iconst 3, 1) := by decide +kernel
theorem dX9_isNumber_93 : decode cX9_isNumber 93 = .ok (.aload_n 0, 1) := by decide +kernel
theorem dX9_isNumber_94 : decode cX9_isNumber 94 = .ok (.getfield 163, 3) := by decide +kernel
theorem dX9_isNumber_97 : decode cX9_isNumber 97 = .ok (.imul, 1) := by decide +kernel
theorem dX9_isNumber_98 : decode cX9_isNumber 98 = .ok (.iload_n 1, 1) := by decide +kernel
theorem dX9_isNumber_99 : decode cX9_isNumber 99 = .ok (.iadd, 1) := by decide +kernel
theorem dX9_isNumber_100 : decode cX9_isNumber 100 = .ok (.iload_n 2, 1) := by decide +kernel
theorem dX9_isNumber_101 : decode cX9_isNumber 101 = .ok (.iastore, 1) := by decide +kernel
theorem dX9_isNumber_102 : decode cX9_isNumber 102 = .ok (.iconst 1, 1) := by decide +kernel
theorem dX9_isNumber_103 : decode cX9_isNumber 103 = .ok (.ireturn, 1) := by decide +kernel
theorem dX9_isOrder_0 : decode cX9_isOrder 0 = .ok (.aload_n 0, 1) := by decide +kernel
theorem dX9_isOrder_1 : decode cX9_isOrder 1 = .ok (.getfield 156, 3) := by decide +kernel
theorem dX9_isOrder_4 : decode cX9_isOrder 4 = .ok (.aload_n 0, 1) := by decide +kernel
theorem dX9_isOrder_5 : decode cX9_isOrder 5 = .ok (.getfield 139, 3) := by decide +kernel
theorem dX9_isOrder_8 : decode cX9_isOrder 8 = .ok (.if_icmp .ge 15, 3) := by decide +kernel
theorem dX9_isOrder_11 : decode cX9_isOrder 11 = .ok (.aload_n 0, 1) := by decide +kernel
theorem dX9_isOrder_12 : decode cX9_isOrder 12 = .ok (.getfield 26, 3) := by decide +kernel
theorem dX9_isOrder_15 : decode cX9_isOrder 15 = .ok (.aload_n 0, 1) := by decide +kernel
theorem dX9_isOrder_16 : decode cX9_isOrder 16 = .ok (.getfield 156, 3) := by decide +kernel
theorem dX9_isOrder_19 : decode cX9_isOrder 19 = .ok (.iaload, 1) := by decide +kernel
theorem dX9_isOrder_20 : decode cX9_isOrder 20 = .ok (.goto 4, 3) := by decide +kernel
theorem dX9_isOrder_23 : decode cX9_isOrder 23 = .ok (.iconst 0, 1) := by decide +kernel
theorem dX9_isOrder_24 : decode cX9_isOrder 24 = .ok (.istore_n 1, 1) := by decide +kernel
theorem dX9_isOrder_25 : decode cX9_isOrder 25 = .ok (.aload_n 0, 1) := by decide +kernel
theorem dX9_isOrder_26 : decode cX9_isOrder 26 = .ok (.getfield 29, 3) := by decide +kernel
theorem dX9_isOrder_29 : decode cX9_isOrder 29 = .ok (.iconst 3, 1) := by decide +kernel
theorem dX9_isOrder_30 : decode cX9_isOrder 30 = .ok (.aload_n 0, 1) := by decide +kernel
theorem dX9_isOrder_31 : decode cX9_isOrder 31 = .ok (.getfield 163, 3) := by decide +kernel
theorem dX9_isOrder_34 : decode cX9_isOrder 34 = .ok (.imul, 1) := by decide +kernel
theorem dX9_isOrder_35 : decode cX9_isOrder 35 = .ok (.iload_n 1, 1) := by decide +kernel
theorem dX9_isOrder_36 : decode cX9_isOrder 36 = .ok (.iastore, 1) := by decide +kernel
theorem dX9_isOrder_37 : decode cX9_isOrder 37 = .ok (.iload_n 1, 1) := by decide +kernel
theorem dX9_isOrder_38 : decode cX9_isOrder 38 = .ok (.tableswitch 281 98 120 #[218, 218, 281, 281, 281, 281, 106, 281, 281, 281, 236, 281, 106, 281, 118, 281, 175, 106, 159, 281, 281, 281, 159], 106) := by decide +kernel
theorem dX9_isOrder_144 : decode cX9_isOrder 144 = .ok (.aload_n 0, 1) := by decide +kernel
theorem dX9_isOrder_145 : decode cX9_isOrder 145 = .ok (.dup, 1) := by decide +kernel
theorem dX9_isOrder_146 : decode cX9_isOrder 146 = .ok (.getfield 156, 3) := by decide +kernel
theorem dX9_isOrder_149 : decode cX9_isOrder 149 = .ok (.iconst 1, 1) := by decide +kernel
theorem dX9_isOrder_150 : decode cX9_isOrder 150 = .ok (.iadd, 1) := by decide +kernel
theorem dX9_isOrder_151 : decode cX9_isOrder 151 = .ok (.putfield 156, 3) := by decide +kernel
theorem dX9_isOrder_154 : decode cX9_isOrder 154 = .ok (.iconst 1, 1) := by decide +kernel
theorem dX9_isOrder_155 : decode cX9_isOrder 155 = .ok (.ireturn, 1) := by decide +kernel
theorem dX9_isOrder_156 : decode cX9_isOrder 156 = .ok (.aload_n 0, 1) := by decide +kernel
theorem dX9_isOrder_157 : decode cX9_isOrder 157 = .ok (.dup, 1) := by decide +kernel
theorem dX9_isOrder_158 : decode cX9_isOrder 158 = .ok (.getfield 156, 3) := by decide +kernel
theorem dX9_isOrder_161 : decode cX9_isOrder 161 = .ok (.iconst 1, 1) := by decide +kernel
theorem dX9_isOrder_162 : decode cX9_isOrder 162 = .ok (.iadd, 1) := by decide +kernel
theorem dX9_isOrder_163 : decode cX9_isOrder 163 = .ok (.putfield 156, 3) := by decide +kernel
theorem dX9_isOrder_166 : decode cX9_isOrder 166 = .ok (.aload_n 0, 1) := by decide +kernel
theorem dX9_isOrder_167 : decode cX9_isOrder 167 = .ok (.iconst 1, 1) := by decide +kernel
theorem dX9_isOrder_168 : decode cX9_isOrder 168 = .ok (.invokevirtual 166, 3) := by decide +kernel
theorem dX9_isOrder_171 : decode cX9_isOrder 171 = .ok (.ifCond .eq 24, 3) := by decide +kernel
theorem dX9_isOrder_174 : decode cX9_isOrder 174 = .ok (.aload_n 0, 1) := by decide +kernel
theorem dX9_isOrder_175 : decode cX9_isOrder 175 = .ok (.bipush 61, 2) := by decide +kernel
theorem dX9_isOrder_177 : decode cX9_isOrder 177 = .ok (.invokevirtual 169, 3) := by decide +kernel
theorem dX9_isOrder_180 : decode cX9_isOrder 180 = .ok (.ifCond .eq 15, 3) := by decide +kernel
theorem dX9_isOrder_183 : decode cX9_isOrder 183 = .ok (.aload_n 0, 1) := by decide +kernel
theorem dX9_isOrder_184 : decode cX9_isOrder 184 = .ok (.iconst 2, 1) := by decide +kernel
theorem dX9_isOrder_185 : decode cX9_isOrder 185 = .ok (.invokevirtual 166, 3) := by decide +kernel
theorem dX9_isOrder_188 : decode cX9_isOrder 188 = .ok (.ifCond .eq 7, 3) := by decide +kernel
theorem dX9_isOrder_191 : decode cX9_isOrder 191 = .ok (.iconst 1, 1) := by decide +kernel
theorem dX9_isOrder_192 : decode cX9_isOrder 192 = .ok (.goto 4, 3) := by decide +kernel
theorem dX9_isOrder_195 : decode cX9_isOrder 195 = .ok (.iconst 0, 1) := by decide +kernel
theorem dX9_isOrder_196 : decode cX9_isOrder 196 = .ok (.ireturn, 1) := by decide +kernel
theorem dX9_isOrder_197 : decode cX9_isOrder 197 = .ok (.aload_n 0, 1) := by decide +kernel
theorem dX9_isOrder_198 : decode cX9_isOrder 198 = .ok (.dup, 1) := by decide +kernel
theorem dX9_isOrder_199 : decode cX9_isOrder 199 = .ok (.getfield 156, 3) := by decide +kernel
theorem dX9_isOrder_202 : decode cX9_isOrder 202 = .ok (.iconst 1, 1) := by decide +kernel
theorem dX9_isOrder_203 : decode cX9_isOrder 203 = .ok (.iadd, 1) := by decide +kernel
theorem dX9_isOrder_204 : decode cX9_isOrder 204 = .ok (.putfield 156, 3) := by decide +kernel
theorem dX9_isOrder_207 : decode cX9_isOrder 207 = .ok (.aload_n 0, 1) := by decide +kernel
theorem dX9_isOrder_208 : decode cX9_isOrder 208 = .ok (.iconst 1, 1) := by decide +kernel
theorem dX9_isOrder_209 : decode cX9_isOrder 209 = .ok (.invokevirtual 166, 3) := by decide +kernel
theorem dX9_isOrder_212 : decode cX9_isOrder 212 = .ok (.ireturn, 1) := by decide +kernel
theorem dX9_isOrder_213 : decode cX9_isOrder 213 = .ok (.aload_n 0, 1) := by decide +kernel
theorem dX9_isOrder_214 : decode cX9_isOrder 214 = .ok (.dup, 1) := by decide +kernel
theorem dX9_isOrder_215 : decode cX9_isOrder 215 = .ok (.getfield 156, 3) := by decide +kernel
theorem dX9_isOrder_218 : decode cX9_isOrder 218 = .ok (.iconst 1, 1) := by decide +kernel
theorem dX9_isOrder_219 : decode cX9_isOrder 219 = .ok (.iadd, 1) := by decide +kernel
theorem dX9_isOrder_220 : decode cX9_isOrder 220 = .ok (.putfield 156, 3) := by decide +kernel
theorem dX9_isOrder_223 : decode cX9_isOrder 223 = .ok (.aload_n 0, 1) := by decide +kernel
theorem dX9_isOrder_224 : decode cX9_isOrder 224 = .ok (.iconst 1, 1) := by decide +kernel
theorem dX9_isOrder_225 : decode cX9_isOrder 225 = .ok (.bipush 53, 2) := by decide +kernel
theorem dX9_isOrder_227 : decode cX9_isOrder 227 = .ok (.invokevirtual 172, 3) := by decide +kernel
theorem dX9_isOrder_230 : decode cX9_isOrder 230 = .ok (.ifCond .eq 24, 3) := by decide +kernel
theorem dX9_isOrder_233 : decode cX9_isOrder 233 = .ok (.aload_n 0, 1) := by decide +kernel
theorem dX9_isOrder_234 : decode cX9_isOrder 234 = .ok (.bipush 42, 2) := by decide +kernel
theorem dX9_isOrder_236 : decode cX9_isOrder 236 = .ok (.invokevirtual 169, 3) := by decide +kernel
theorem dX9_isOrder_239 : decode cX9_isOrder 239 = .ok (.ifCond .eq 15, 3) := by decide +kernel
theorem dX9_isOrder_242 : decode cX9_isOrder 242 = .ok (.aload_n 0, 1) := by decide +kernel
theorem dX9_isOrder_243 : decode cX9_isOrder 243 = .ok (.iconst 2, 1) := by decide +kernel
theorem dX9_isOrder_244 : decode cX9_isOrder 244 = .ok (.invokevirtual 166, 3) := by decide +kernel
theorem dX9_isOrder_247 : decode cX9_isOrder 247 = .ok (.ifCond .eq 7, 3) := by decide +kernel
theorem dX9_isOrder_250 : decode cX9_isOrder 250 = .ok (.iconst 1, 1) := by decide +kernel
theorem dX9_isOrder_251 : decode cX9_isOrder 251 = .ok (.goto 4, 3) := by decide +kernel
theorem dX9_isOrder_254 : decode cX9_isOrder 254 = .ok (.iconst 0, 1) := by decide +kernel
theorem dX9_isOrder_255 : decode cX9_isOrder 255 = .ok (.ireturn, 1) := by decide +kernel
theorem dX9_isOrder_256 : decode cX9_isOrder 256 = .ok (.aload_n 0, 1) := by decide +kernel
theorem dX9_isOrder_257 : decode cX9_isOrder 257 = .ok (.dup, 1) := by decide +kernel
theorem dX9_isOrder_258 : decode cX9_isOrder 258 = .ok (.getfield 156, 3) := by decide +kernel
theorem dX9_isOrder_261 : decode cX9_isOrder 261 = .ok (.iconst 1, 1) := by decide +kernel
theorem dX9_isOrder_262 : decode cX9_isOrder 262 = .ok (.iadd, 1) := by decide +kernel
theorem dX9_isOrder_263 : decode cX9_isOrder 263 = .ok (.putfield 156, 3) := by decide +kernel
theorem dX9_isOrder_266 : decode cX9_isOrder 266 = .ok (.aload_n 0, 1) := by decide +kernel
theorem dX9_isOrder_267 : decode cX9_isOrder 267 = .ok (.iconst 1, 1) := by decide +kernel
theorem dX9_isOrder_268 : decode cX9_isOrder 268 = .ok (.bipush 53, 2) := by decide +kernel
theorem dX9_isOrder_270 : decode cX9_isOrder 270 = .ok (.invokevirtual 172, 3) := by decide +kernel
theorem dX9_isOrder_273 : decode cX9_isOrder 273 = .ok (.ireturn, 1) := by decide +kernel
theorem dX9_isOrder_274 : decode cX9_isOrder 274 = .ok (.aload_n 0, 1) := by decide +kernel
theorem dX9_isOrder_275 : decode cX9_isOrder 275 = .ok (.dup, 1) := by decide +kernel
theorem dX9_isOrder_276 : decode cX9_isOrder 276 = .ok (.getfield 156, 3) := by decide +kernel
theorem dX9_isOrder_279 : decode cX9_isOrder 279 = .ok (.iconst 1, 1) := by decide +kernel
theorem dX9_isOrder_280 : decode cX9_isOrder 280 = .ok (.iadd, 1) := by decide +kernel
theorem dX9_isOrder_281 : decode cX9_isOrder 281 = .ok (.putfield 156, 3) := by decide +kernel
theorem dX9_isOrder_284 : decode cX9_isOrder 284 = .ok (.aload_n 0, 1) := by decide +kernel
theorem dX9_isOrder_285 : decode cX9_isOrder 285 = .ok (.iconst 1, 1) := by decide +kernel
theorem dX9_isOrder_286 : decode cX9_isOrder 286 = .ok (.bipush 53, 2) := by decide +kernel
theorem dX9_isOrder_288 : decode cX9_isOrder 288 = .ok (.invokevirtual 172, 3) := by decide +kernel
theorem dX9_isOrder_291 : decode cX9_isOrder 291 = .ok (.ifCond .eq 26, 3) := by decide +kernel
theorem dX9_isOrder_294 : decode cX9_isOrder 294 = .ok (.aload_n 0, 1) := by decide +kernel
theorem dX9_isOrder_295 : decode cX9_isOrder 295 = .ok (.bipush 64, 2) := by decide +kernel
theorem dX9_isOrder_297 : decode cX9_isOrder 297 = .ok (.invokevirtual 169, 3) := by decide +kernel
theorem dX9_isOrder_300 : decode cX9_isOrder 300 = .ok (.ifCond .eq 17, 3) := by decide +kernel
theorem dX9_isOrder_303 : decode cX9_isOrder 303 = .ok (.aload_n 0, 1) := by decide +kernel
theorem dX9_isOrder_304 : decode cX9_isOrder 304 = .ok (.iconst 2, 1) := by decide +kernel
theorem dX9_isOrder_305 : decode cX9_isOrder 305 = .ok (.bipush 57, 2) := by decide +kernel
theorem dX9_isOrder_307 : decode cX9_isOrder 307 = .ok (.invokevirtual 172, 3) := by decide +kernel
theorem dX9_isOrder_310 : decode cX9_isOrder 310 = .ok (.ifCond .eq 7, 3) := by decide +kernel
theorem dX9_isOrder_313 : decode cX9_isOrder 313 = .ok (.iconst 1, 1) := by decide +kernel
theorem dX9_isOrder_314 : decode cX9_isOrder 314 = .ok (.goto 4, 3) := by decide +kernel
theorem dX9_isOrder_317 : decode cX9_isOrder 317 = .ok (.iconst 0, 1) := by decide +kernel
theorem dX9_isOrder_318 : decode cX9_isOrder 318 = .ok (.ireturn, 1) := by decide +kernel
theorem dX9_isOrder_319 : decode cX9_isOrder 319 = .ok (.iconst 0, 1) := by decide +kernel
theorem dX9_isOrder_320 : decode cX9_isOrder 320 = .ok (.ireturn, 1) := by decide +kernel
theorem dX9_isText_0 : decode cX9_isText 0 = .ok (.aload_n 0, 1) := by decide +kernel
theorem dX9_isText_1 : decode cX9_isText 1 = .ok (.iconst 0, 1) := by decide +kernel
theorem dX9_isText_2 : decode cX9_isText 2 = .ok (.putfield 156, 3) := by decide +kernel
theorem dX9_isText_5 : decode cX9_isText 5 = .ok (.aload_n 0, 1) := by decide +kernel
theorem dX9_isText_6 : decode cX9_isText 6 = .ok (.iconst 0, 1) := by decide +kernel
theorem dX9_isText_7 : decode cX9_isText 7 = .ok (.putfield 163, 3) := by decide +kernel
theorem dX9_isText_10 : decode cX9_isText 10 = .ok (.iconst 1, 1) := by decide +kernel
theorem dX9_isText_11 : decode cX9_isText 11 = .ok (.istore_n 1, 1) := by decide +kernel
theorem dX9_isText_12 : decode cX9_isText 12 = .ok (.iload_n 1, 1) := by decide +kernel
theorem dX9_isText_13 : decode cX9_isText 13 = .ok (.ifCond .eq 32, 3) := by decide +kernel
theorem dX9_isText_16 : decode cX9_isText 16 = .ok (.aload_n 0, 1) := by decide +kernel
theorem dX9_isText_17 : decode cX9_isText 17 = .ok (.invokevirtual 175, 3) := by decide +kernel
theorem dX9_isText_20 : decode cX9_isText 20 = .ok (.ifCond .ne 5, 3) := by decide +kernel
theorem dX9_isText_23 : decode cX9_isText 23 = .ok (.iconst 0, 1) := by decide +kernel
theorem dX9_isText_24 : decode cX9_isText 24 = .ok (.ireturn, 1) := by decide +kernel
theorem dX9_isText_25 : decode cX9_isText 25 = .ok (.aload_n 0, 1) := by decide +kernel
theorem dX9_isText_26 : decode cX9_isText 26 = .ok (.dup, 1) := by decide +kernel
theorem dX9_isText_27 : decode cX9_isText 27 = .ok (.getfield 163, 3) := by decide +kernel
theorem dX9_isText_30 : decode cX9_isText 30 = .ok (.iconst 1, 1) := by decide +kernel
theorem dX9_isText_31 : decode cX9_isText 31 = .ok (.iadd, 1) := by decide +kernel
theorem dX9_isText_32 : decode cX9_isText 32 = .ok (.putfield 163, 3) := by decide +kernel
theorem dX9_isText_35 : decode cX9_isText 35 = .ok (.aload_n 0, 1) := by decide +kernel
theorem dX9_isText_36 : decode cX9_isText 36 = .ok (.bipush 59, 2) := by decide +kernel
theorem dX9_isText_38 : decode cX9_isText 38 = .ok (.invokevirtual 169, 3) := by decide +kernel
theorem dX9_isText_41 : decode cX9_isText 41 = .ok (.istore_n 1, 1) := by decide +kernel
theorem dX9_isText_42 : decode cX9_isText 42 = .ok (.goto (-30), 3) := by decide +kernel
theorem dX9_isText_45 : decode cX9_isText 45 = .ok (.aload_n 0, 1) := by decide +kernel
theorem dX9_isText_46 : decode cX9_isText 46 = .ok (.getfield 156, 3) := by decide +kernel
theorem dX9_isText_49 : decode cX9_isText 49 = .ok (.aload_n 0, 1) := by decide +kernel
theorem dX9_isText_50 : decode cX9_isText 50 = .ok (.getfield 139, 3) := by decide +kernel
theorem dX9_isText_53 : decode cX9_isText 53 = .ok (.if_icmp .ne 7, 3) := by decide +kernel
theorem dX9_isText_56 : decode cX9_isText 56 = .ok (.iconst 1, 1) := by decide +kernel
theorem dX9_isText_57 : decode cX9_isText 57 = .ok (.goto 4, 3) := by decide +kernel
theorem dX9_isText_60 : decode cX9_isText 60 = .ok (.iconst 0, 1) := by decide +kernel
theorem dX9_isText_61 : decode cX9_isText 61 = .ok (.ireturn, 1) := by decide +kernel
theorem dX9_fault_0 : decode cX9_fault 0 = .ok (.aload_n 0, 1) := by decide +kernel
theorem dX9_fault_1 : decode cX9_fault 1 = .ok (.invokevirtual 179, 3) := by decide +kernel
theorem dX9_fault_4 : decode cX9_fault 4 = .ok (.ifCond .eq 8, 3) := by decide +kernel
theorem dX9_fault_7 : decode cX9_fault 7 = .ok (.bipush (-6), 2) := by decide +kernel
theorem dX9_fault_9 : decode cX9_fault 9 = .ok (.goto 7, 3) := by decide +kernel
theorem dX9_fault_12 : decode cX9_fault 12 = .ok (.aload_n 0, 1) := by decide +kernel
theorem dX9_fault_13 : decode cX9_fault 13 = .ok (.getfield 156, 3) := by decide +kernel
theorem dX9_fault_16 : decode cX9_fault 16 = .ok (.ireturn, 1) := by decide +kernel
theorem dX9_mayDo_0 : decode cX9_mayDo 0 = .ok (.iload_n 1, 1) := by decide +kernel
theorem dX9_mayDo_1 : decode cX9_mayDo 1 = .ok (.tableswitch 173 98 120 #[152, 152, 173, 173, 173, 173, 173, 173, 173, 173, 166, 173, 126, 173, 107, 173, 145, 173, 120, 173, 173, 173, 114], 107) := by decide +kernel
theorem dX9_mayDo_108 : decode cX9_mayDo 108 = .ok (.aload_n 0, 1) := by decide +kernel
theorem dX9_mayDo_109 : decode cX9_mayDo 109 = .ok (.iload_n 2, 1) := by decide +kernel
theorem dX9_mayDo_110 : decode cX9_mayDo 110 = .ok (.iload_n 3, 1) := by decide +kernel
theorem dX9_mayDo_111 : decode cX9_mayDo 111 = .ok (.invokevirtual 76, 3) := by decide +kernel
theorem dX9_mayDo_114 : decode cX9_mayDo 114 = .ok (.ireturn, 1) := by decide +kernel
theorem dX9_mayDo_115 : decode cX9_mayDo 115 = .ok (.aload_n 0, 1) := by decide +kernel
theorem dX9_mayDo_116 : decode cX9_mayDo 116 = .ok (.iload_n 2, 1) := by decide +kernel
theorem dX9_mayDo_117 : decode cX9_mayDo 117 = .ok (.invokevirtual 83, 3) := by decide +kernel
theorem dX9_mayDo_120 : decode cX9_mayDo 120 = .ok (.ireturn, 1) := by decide +kernel
theorem dX9_mayDo_121 : decode cX9_mayDo 121 = .ok (.aload_n 0, 1) := by decide +kernel
theorem dX9_mayDo_122 : decode cX9_mayDo 122 = .ok (.iload_n 2, 1) := by decide +kernel
theorem dX9_mayDo_123 : decode cX9_mayDo 123 = .ok (.invokevirtual 87, 3) := by decide +kernel
theorem dX9_mayDo_126 : decode cX9_mayDo 126 = .ok (.ireturn, 1) := by decide +kernel
theorem dX9_mayDo_127 : decode cX9_mayDo 127 = .ok (.aload_n 0, 1) := by decide +kernel
theorem dX9_mayDo_128 : decode cX9_mayDo 128 = .ok (.getfield 7, 3) := by decide +kernel
theorem dX9_mayDo_131 : decode cX9_mayDo 131 = .ok (.bipush 7, 2) := by decide +kernel
theorem dX9_mayDo_133 : decode cX9_mayDo 133 = .ok (.iaload, 1) := by decide +kernel
theorem dX9_mayDo_134 : decode cX9_mayDo 134 = .ok (.bipush 6, 2) := by decide +kernel
theorem dX9_mayDo_136 : decode cX9_mayDo 136 = .ok (.if_icmp .ne 8, 3) := by decide +kernel
theorem dX9_mayDo_139 : decode cX9_mayDo 139 = .ok (.bipush (-4), 2) := by decide +kernel
theorem dX9_mayDo_141 : decode cX9_mayDo 141 = .ok (.goto 4, 3) := by decide +kernel
theorem dX9_mayDo_144 : decode cX9_mayDo 144 = .ok (.iconst 0, 1) := by decide +kernel
theorem dX9_mayDo_145 : decode cX9_mayDo 145 = .ok (.ireturn, 1) := by decide +kernel
theorem dX9_mayDo_146 : decode cX9_mayDo 146 = .ok (.aload_n 0, 1) := by decide +kernel
theorem dX9_mayDo_147 : decode cX9_mayDo 147 = .ok (.iload_n 2, 1) := by decide +kernel
theorem dX9_mayDo_148 : decode cX9_mayDo 148 = .ok (.iload_n 3, 1) := by decide +kernel
theorem dX9_mayDo_149 : decode cX9_mayDo 149 = .ok (.invokevirtual 108, 3) := by decide +kernel
theorem dX9_mayDo_152 : decode cX9_mayDo 152 = .ok (.ireturn, 1) := by decide +kernel
theorem dX9_mayDo_153 : decode cX9_mayDo 153 = .ok (.aload_n 0, 1) := by decide +kernel
theorem dX9_mayDo_154 : decode cX9_mayDo 154 = .ok (.iload_n 2, 1) := by decide +kernel
theorem dX9_mayDo_155 : decode cX9_mayDo 155 = .ok (.invokevirtual 105, 3) := by decide +kernel
theorem dX9_mayDo_158 : decode cX9_mayDo 158 = .ok (.ifCond .eq 7, 3) := by decide +kernel
theorem dX9_mayDo_161 : decode cX9_mayDo 161 = .ok (.iconst 0, 1) := by decide +kernel
theorem dX9_mayDo_162 : decode cX9_mayDo 162 = .ok (.goto 4, 3) := by decide +kernel
theorem dX9_mayDo_165 : decode cX9_mayDo 165 = .ok (.iconst (-1), 1) := by decide +kernel
theorem dX9_mayDo_166 : decode cX9_mayDo 166 = .ok (.ireturn, 1) := by decide +kernel
theorem dX9_mayDo_167 : decode cX9_mayDo 167 = .ok (.aload_n 0, 1) := by decide +kernel
theorem dX9_mayDo_168 : decode cX9_mayDo 168 = .ok (.iload_n 2, 1) := by decide +kernel
theorem dX9_mayDo_169 : decode cX9_mayDo 169 = .ok (.iload_n 3, 1) := by decide +kernel
theorem dX9_mayDo_170 : decode cX9_mayDo 170 = .ok (.invokevirtual 121, 3) := by decide +kernel
theorem dX9_mayDo_173 : decode cX9_mayDo 173 = .ok (.ireturn, 1) := by decide +kernel
theorem dX9_mayDo_174 : decode cX9_mayDo 174 = .ok (.iconst 0, 1) := by decide +kernel
theorem dX9_mayDo_175 : decode cX9_mayDo 175 = .ok (.ireturn, 1) := by decide +kernel
theorem dX9_does_0 : decode cX9_does 0 = .ok (.aload_n 0, 1) := by decide +kernel
theorem dX9_does_1 : decode cX9_does 1 = .ok (.getfield 29, 3) := by decide +kernel
theorem dX9_does_4 : decode cX9_does 4 = .ok (.iconst 3, 1) := by decide +kernel
theorem dX9_does_5 : decode cX9_does 5 = .ok (.iload_n 1, 1) := by decide +kernel
theorem dX9_does_6 : decode cX9_does 6 = .ok (.imul, 1) := by decide +kernel
theorem dX9_does_7 : decode cX9_does 7 = .ok (.iaload, 1) := by decide +kernel
theorem dX9_does_8 : decode cX9_does 8 = .ok (.istore_n 2, 1) := by decide +kernel
theorem dX9_does_9 : decode cX9_does 9 = .ok (.aload_n 0, 1) := by decide +kernel
theorem dX9_does_10 : decode cX9_does 10 = .ok (.getfield 29, 3) := by decide +kernel
theorem dX9_does_13 : decode cX9_does 13 = .ok (.iconst 3, 1) := by decide +kernel
theorem dX9_does_14 : decode cX9_does 14 = .ok (.iload_n 1, 1) := by decide +kernel
theorem dX9_does_15 : decode cX9_does 15 = .ok (.imul, 1) := by decide +kernel
theorem dX9_does_16 : decode cX9_does 16 = .ok (.iconst 1, 1) := by decide +kernel
theorem dX9_does_17 : decode cX9_does 17 = .ok (.iadd, 1) := by decide +kernel
theorem dX9_does_18 : decode cX9_does 18 = .ok (.iaload, 1) := by decide +kernel
theorem dX9_does_19 : decode cX9_does 19 = .ok (.istore_n 3, 1) := by decide +kernel
theorem dX9_does_20 : decode cX9_does 20 = .ok (.aload_n 0, 1) := by decide +kernel
theorem dX9_does_21 : decode cX9_does 21 = .ok (.getfield 29, 3) := by decide +kernel
theorem dX9_does_24 : decode cX9_does 24 = .ok (.iconst 3, 1) := by decide +kernel
theorem dX9_does_25 : decode cX9_does 25 = .ok (.iload_n 1, 1) := by decide +kernel
theorem dX9_does_26 : decode cX9_does 26 = .ok (.imul, 1) := by decide +kernel
theorem dX9_does_27 : decode cX9_does 27 = .ok (.iconst 2, 1) := by decide +kernel
theorem dX9_does_28 : decode cX9_does 28 = .ok (.iadd, 1) := by decide +kernel
theorem dX9_does_29 : decode cX9_does 29 = .ok (.iaload, 1) := by decide +kernel
theorem dX9_does_30 : decode cX9_does 30 = .ok (.istore 4, 2) := by decide +kernel
theorem dX9_does_32 : decode cX9_does 32 = .ok (.aload_n 0, 1) := by decide +kernel
theorem dX9_does_33 : decode cX9_does 33 = .ok (.iload_n 2, 1) := by decide +kernel
theorem dX9_does_34 : decode cX9_does 34 = .ok (.iload_n 3, 1) := by decide +kernel
theorem dX9_does_35 : decode cX9_does 35 = .ok (.iload 4, 2) := by decide +kernel
theorem dX9_does_37 : decode cX9_does 37 = .ok (.invokevirtual 182, 3) := by decide +kernel
theorem dX9_does_40 : decode cX9_does 40 = .ok (.ifCond .eq 5, 3) := by decide +kernel
theorem dX9_does_43 : decode cX9_does 43 = .ok (.iconst 0, 1) := by decide +kernel
theorem dX9_does_44 : decode cX9_does 44 = .ok (.ireturn, 1) := by decide +kernel
theorem dX9_does_45 : decode cX9_does 45 = .ok (.iload_n 2, 1) := by decide +kernel
theorem dX9_does_46 : decode cX9_does 46 = .ok (.tableswitch 199 98 120 #[171, 171, 199, 199, 199, 199, 141, 199, 199, 199, 199, 199, 152, 199, 106, 199, 160, 191, 128, 199, 199, 199, 117], 106) := by decide +kernel
theorem dX9_does_152 : decode cX9_does 152 = .ok (.aload_n 0, 1) := by decide +kernel
theorem dX9_does_153 : decode cX9_does 153 = .ok (.iload_n 3, 1) := by decide +kernel
theorem dX9_does_154 : decode cX9_does 154 = .ok (.iload 4, 2) := by decide +kernel
theorem dX9_does_156 : decode cX9_does 156 = .ok (.invokevirtual 80, 3) := by decide +kernel
theorem dX9_does_159 : decode cX9_does 159 = .ok (.pop, 1) := by decide +kernel
theorem dX9_does_160 : decode cX9_does 160 = .ok (.goto 93, 3) := by decide +kernel
theorem dX9_does_163 : decode cX9_does 163 = .ok (.aload_n 0, 1) := by decide +kernel
theorem dX9_does_164 : decode cX9_does 164 = .ok (.iload_n 3, 1) := by decide +kernel
theorem dX9_does_165 : decode cX9_does 165 = .ok (.bipush (-6), 2) := by decide +kernel
theorem dX9_does_167 : decode cX9_does 167 = .ok (.invokevirtual 80, 3) := by decide +kernel
theorem dX9_does_170 : decode cX9_does 170 = .ok (.pop, 1) := by decide +kernel
theorem dX9_does_171 : decode cX9_does 171 = .ok (.goto 82, 3) := by decide +kernel
theorem dX9_does_174 : decode cX9_does 174 = .ok (.aload_n 0, 1) := by decide +kernel
theorem dX9_does_175 : decode cX9_does 175 = .ok (.getfield 7, 3) := by decide +kernel
theorem dX9_does_178 : decode cX9_does 178 = .ok (.iconst 2, 1) := by decide +kernel
theorem dX9_does_179 : decode cX9_does 179 = .ok (.dup2, 1) := by decide +kernel
theorem dX9_does_180 : decode cX9_does 180 = .ok (.iaload, 1) := by decide +kernel
theorem dX9_does_181 : decode cX9_does 181 = .ok (.iload_n 3, 1) := by decide +kernel
theorem dX9_does_182 : decode cX9_does 182 = .ok (.iadd, 1) := by decide +kernel
theorem dX9_does_183 : decode cX9_does 183 = .ok (.iastore, 1) := by decide +kernel
theorem dX9_does_184 : decode cX9_does 184 = .ok (.goto 69, 3) := by decide +kernel
theorem dX9_does_187 : decode cX9_does 187 = .ok (.aload_n 0, 1) := by decide +kernel
theorem dX9_does_188 : decode cX9_does 188 = .ok (.getfield 7, 3) := by decide +kernel
theorem dX9_does_191 : decode cX9_does 191 = .ok (.invokestatic 90, 3) := by decide +kernel
theorem dX9_does_194 : decode cX9_does 194 = .ok (.pop, 1) := by decide +kernel
theorem dX9_does_195 : decode cX9_does 195 = .ok (.goto 58, 3) := by decide +kernel
theorem dX9_does_198 : decode cX9_does 198 = .ok (.aload_n 0, 1) := by decide +kernel
theorem dX9_does_199 : decode cX9_does 199 = .ok (.invokevirtual 102, 3) := by decide +kernel
theorem dX9_does_202 : decode cX9_does 202 = .ok (.pop, 1) := by decide +kernel
theorem dX9_does_203 : decode cX9_does 203 = .ok (.goto 50, 3) := by decide +kernel
theorem dX9_does_206 : decode cX9_does 206 = .ok (.aload_n 0, 1) := by decide +kernel
theorem dX9_does_207 : decode cX9_does 207 = .ok (.iload_n 3, 1) := by decide +kernel
theorem dX9_does_208 : decode cX9_does 208 = .ok (.iload 4, 2) := by decide +kernel
theorem dX9_does_210 : decode cX9_does 210 = .ok (.invokevirtual 111, 3) := by decide +kernel
theorem dX9_does_213 : decode cX9_does 213 = .ok (.pop, 1) := by decide +kernel
theorem dX9_does_214 : decode cX9_does 214 = .ok (.goto 39, 3) := by decide +kernel
theorem dX9_does_217 : decode cX9_does 217 = .ok (.aload_n 0, 1) := by decide +kernel
theorem dX9_does_218 : decode cX9_does 218 = .ok (.iload_n 3, 1) := by decide +kernel
theorem dX9_does_219 : decode cX9_does 219 = .ok (.iload_n 2, 1) := by decide +kernel
theorem dX9_does_220 : decode cX9_does 220 = .ok (.bipush 99, 2) := by decide +kernel
theorem dX9_does_222 : decode cX9_does 222 = .ok (.if_icmp .ne 7, 3) := by decide +kernel
theorem dX9_does_225 : decode cX9_does 225 = .ok (.iconst 1, 1) := by decide +kernel
theorem dX9_does_226 : decode cX9_does 226 = .ok (.goto 4, 3) := by decide +kernel
theorem dX9_does_229 : decode cX9_does 229 = .ok (.iconst 0, 1) := by decide +kernel
theorem dX9_does_230 : decode cX9_does 230 = .ok (.invokevirtual 114, 3) := by decide +kernel
theorem dX9_does_233 : decode cX9_does 233 = .ok (.pop, 1) := by decide +kernel
theorem dX9_does_234 : decode cX9_does 234 = .ok (.goto 19, 3) := by decide +kernel
theorem dX9_does_237 : decode cX9_does 237 = .ok (.aload_n 0, 1) := by decide +kernel
theorem dX9_does_238 : decode cX9_does 238 = .ok (.invokevirtual 94, 3) := by decide +kernel
theorem dX9_does_241 : decode cX9_does 241 = .ok (.pop, 1) := by decide +kernel
theorem dX9_does_242 : decode cX9_does 242 = .ok (.goto 11, 3) := by decide +kernel
theorem dX9_does_245 : decode cX9_does 245 = .ok (.aload_n 0, 1) := by decide +kernel
theorem dX9_does_246 : decode cX9_does 246 = .ok (.iload_n 3, 1) := by decide +kernel
theorem dX9_does_247 : decode cX9_does 247 = .ok (.iload 4, 2) := by decide +kernel
theorem dX9_does_249 : decode cX9_does 249 = .ok (.invokevirtual 124, 3) := by decide +kernel
theorem dX9_does_252 : decode cX9_does 252 = .ok (.pop, 1) := by decide +kernel
theorem dX9_does_253 : decode cX9_does 253 = .ok (.iconst 1, 1) := by decide +kernel
theorem dX9_does_254 : decode cX9_does 254 = .ok (.ireturn, 1) := by decide +kernel
theorem dX9_carryOut_0 : decode cX9_carryOut 0 = .ok (.aload_n 0, 1) := by decide +kernel
theorem dX9_carryOut_1 : decode cX9_carryOut 1 = .ok (.invokevirtual 179, 3) := by decide +kernel
theorem dX9_carryOut_4 : decode cX9_carryOut 4 = .ok (.ifCond .ne 6, 3) := by decide +kernel
theorem dX9_carryOut_7 : decode cX9_carryOut 7 = .ok (.bipush (-3), 2) := by decide +kernel
theorem dX9_carryOut_9 : decode cX9_carryOut 9 = .ok (.ireturn, 1) := by decide +kernel
theorem dX9_carryOut_10 : decode cX9_carryOut 10 = .ok (.aload_n 0, 1) := by decide +kernel
theorem dX9_carryOut_11 : decode cX9_carryOut 11 = .ok (.invokevirtual 44, 3) := by decide +kernel
theorem dX9_carryOut_14 : decode cX9_carryOut 14 = .ok (.aload_n 0, 1) := by decide +kernel
theorem dX9_carryOut_15 : decode cX9_carryOut 15 = .ok (.iconst 0, 1) := by decide +kernel
theorem dX9_carryOut_16 : decode cX9_carryOut 16 = .ok (.putfield 139, 3) := by decide +kernel
theorem dX9_carryOut_19 : decode cX9_carryOut 19 = .ok (.iconst 0, 1) := by decide +kernel
theorem dX9_carryOut_20 : decode cX9_carryOut 20 = .ok (.istore_n 1, 1) := by decide +kernel
theorem dX9_carryOut_21 : decode cX9_carryOut 21 = .ok (.iload_n 1, 1) := by decide +kernel
theorem dX9_carryOut_22 : decode cX9_carryOut 22 = .ok (.aload_n 0, 1) := by decide +kernel
theorem dX9_carryOut_23 : decode cX9_carryOut 23 = .ok (.getfield 163, 3) := by decide +kernel
theorem dX9_carryOut_26 : decode cX9_carryOut 26 = .ok (.if_icmp .ge 17, 3) := by decide +kernel
theorem dX9_carryOut_29 : decode cX9_carryOut 29 = .ok (.aload_n 0, 1) := by decide +kernel
theorem dX9_carryOut_30 : decode cX9_carryOut 30 = .ok (.iload_n 1, 1) := by decide +kernel
theorem dX9_carryOut_31 : decode cX9_carryOut 31 = .ok (.invokevirtual 185, 3) := by decide +kernel
theorem dX9_carryOut_34 : decode cX9_carryOut 34 = .ok (.ifCond .eq 9, 3) := by decide +kernel
theorem dX9_carryOut_37 : decode cX9_carryOut 37 = .ok (.iinc 1 1, 3) := by decide +kernel
theorem dX9_carryOut_40 : decode cX9_carryOut 40 = .ok (.goto (-19), 3) := by decide +kernel
theorem dX9_carryOut_43 : decode cX9_carryOut 43 = .ok (.iload_n 1, 1) := by decide +kernel
theorem dX9_carryOut_44 : decode cX9_carryOut 44 = .ok (.ireturn, 1) := by decide +kernel
