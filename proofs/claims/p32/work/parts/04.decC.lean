theorem dX0_init_0 : decode cX0_init 0 = .ok (.aload_n 0, 1) := by decide +kernel
theorem dX0_init_1 : decode cX0_init 1 = .ok (.invokespecial 3, 3) := by decide +kernel
theorem dX0_init_4 : decode cX0_init 4 = .ok (.aload_n 0, 1) := by decide +kernel
theorem dX0_init_5 : decode cX0_init 5 = .ok (.bipush 60, 2) := by decide +kernel
theorem dX0_init_7 : decode cX0_init 7 = .ok (.newarray .int, 2) := by decide +kernel
theorem dX0_init_9 : decode cX0_init 9 = .ok (.putfield 9, 3) := by decide +kernel
theorem dX0_init_12 : decode cX0_init 12 = .ok (.aload_n 0, 1) := by decide +kernel
theorem dX0_init_13 : decode cX0_init 13 = .ok (.bipush 60, 2) := by decide +kernel
theorem dX0_init_15 : decode cX0_init 15 = .ok (.newarray .int, 2) := by decide +kernel
theorem dX0_init_17 : decode cX0_init 17 = .ok (.putfield 15, 3) := by decide +kernel
theorem dX0_init_20 : decode cX0_init 20 = .ok (.aload_n 0, 1) := by decide +kernel
theorem dX0_init_21 : decode cX0_init 21 = .ok (.bipush 60, 2) := by decide +kernel
theorem dX0_init_23 : decode cX0_init 23 = .ok (.newarray .int, 2) := by decide +kernel
theorem dX0_init_25 : decode cX0_init 25 = .ok (.putfield 18, 3) := by decide +kernel
theorem dX0_init_28 : decode cX0_init 28 = .ok (.aload_n 0, 1) := by decide +kernel
theorem dX0_init_29 : decode cX0_init 29 = .ok (.bipush 60, 2) := by decide +kernel
theorem dX0_init_31 : decode cX0_init 31 = .ok (.newarray .int, 2) := by decide +kernel
theorem dX0_init_33 : decode cX0_init 33 = .ok (.putfield 21, 3) := by decide +kernel
theorem dX0_init_36 : decode cX0_init 36 = .ok (.aload_n 0, 1) := by decide +kernel
theorem dX0_init_37 : decode cX0_init 37 = .ok (.iconst 0, 1) := by decide +kernel
theorem dX0_init_38 : decode cX0_init 38 = .ok (.putfield 24, 3) := by decide +kernel
theorem dX0_init_41 : decode cX0_init 41 = .ok (.aload_n 0, 1) := by decide +kernel
theorem dX0_init_42 : decode cX0_init 42 = .ok (.iconst 0, 1) := by decide +kernel
theorem dX0_init_43 : decode cX0_init 43 = .ok (.putfield 28, 3) := by decide +kernel
theorem dX0_init_46 : decode cX0_init 46 = .ok (.aload_n 0, 1) := by decide +kernel
theorem dX0_init_47 : decode cX0_init 47 = .ok (.iconst 0, 1) := by decide +kernel
theorem dX0_init_48 : decode cX0_init 48 = .ok (.putfield 31, 3) := by decide +kernel
theorem dX0_init_51 : decode cX0_init 51 = .ok (.aload_n 0, 1) := by decide +kernel
theorem dX0_init_52 : decode cX0_init 52 = .ok (.iconst 0, 1) := by decide +kernel
theorem dX0_init_53 : decode cX0_init 53 = .ok (.putfield 34, 3) := by decide +kernel
theorem dX0_init_56 : decode cX0_init 56 = .ok (.return_, 1) := by decide +kernel
theorem dX0_copyFrom_0 : decode cX0_copyFrom 0 = .ok (.aload_n 1, 1) := by decide +kernel
theorem dX0_copyFrom_1 : decode cX0_copyFrom 1 = .ok (.getfield 9, 3) := by decide +kernel
theorem dX0_copyFrom_4 : decode cX0_copyFrom 4 = .ok (.aload_n 0, 1) := by decide +kernel
theorem dX0_copyFrom_5 : decode cX0_copyFrom 5 = .ok (.getfield 9, 3) := by decide +kernel
theorem dX0_copyFrom_8 : decode cX0_copyFrom 8 = .ok (.invokestatic 37, 3) := by decide +kernel
theorem dX0_copyFrom_11 : decode cX0_copyFrom 11 = .ok (.aload_n 1, 1) := by decide +kernel
theorem dX0_copyFrom_12 : decode cX0_copyFrom 12 = .ok (.getfield 15, 3) := by decide +kernel
theorem dX0_copyFrom_15 : decode cX0_copyFrom 15 = .ok (.aload_n 0, 1) := by decide +kernel
theorem dX0_copyFrom_16 : decode cX0_copyFrom 16 = .ok (.getfield 15, 3) := by decide +kernel
theorem dX0_copyFrom_19 : decode cX0_copyFrom 19 = .ok (.invokestatic 37, 3) := by decide +kernel
theorem dX0_copyFrom_22 : decode cX0_copyFrom 22 = .ok (.aload_n 1, 1) := by decide +kernel
theorem dX0_copyFrom_23 : decode cX0_copyFrom 23 = .ok (.getfield 18, 3) := by decide +kernel
theorem dX0_copyFrom_26 : decode cX0_copyFrom 26 = .ok (.aload_n 0, 1) := by decide +kernel
theorem dX0_copyFrom_27 : decode cX0_copyFrom 27 = .ok (.getfield 18, 3) := by decide +kernel
theorem dX0_copyFrom_30 : decode cX0_copyFrom 30 = .ok (.invokestatic 37, 3) := by decide +kernel
theorem dX0_copyFrom_33 : decode cX0_copyFrom 33 = .ok (.aload_n 1, 1) := by decide +kernel
theorem dX0_copyFrom_34 : decode cX0_copyFrom 34 = .ok (.getfield 21, 3) := by decide +kernel
theorem dX0_copyFrom_37 : decode cX0_copyFrom 37 = .ok (.aload_n 0, 1) := by decide +kernel
theorem dX0_copyFrom_38 : decode cX0_copyFrom 38 = .ok (.getfield 21, 3) := by decide +kernel
theorem dX0_copyFrom_41 : decode cX0_copyFrom 41 = .ok (.invokestatic 37, 3) := by decide +kernel
theorem dX0_copyFrom_44 : decode cX0_copyFrom 44 = .ok (.aload_n 0, 1) := by decide +kernel
theorem dX0_copyFrom_45 : decode cX0_copyFrom 45 = .ok (.aload_n 1, 1) := by decide +kernel
theorem dX0_copyFrom_46 : decode cX0_copyFrom 46 = .ok (.getfield 24, 3) := by decide +kernel
theorem dX0_copyFrom_49 : decode cX0_copyFrom 49 = .ok (.putfield 24, 3) := by decide +kernel
theorem dX0_copyFrom_52 : decode cX0_copyFrom 52 = .ok (.aload_n 0, 1) := by decide +kernel
theorem dX0_copyFrom_53 : decode cX0_copyFrom 53 = .ok (.aload_n 1, 1) := by decide +kernel
theorem dX0_copyFrom_54 : decode cX0_copyFrom 54 = .ok (.getfield 28, 3) := by decide +kernel
theorem dX0_copyFrom_57 : decode cX0_copyFrom 57 = .ok (.putfield 28, 3) := by decide +kernel
theorem dX0_copyFrom_60 : decode cX0_copyFrom 60 = .ok (.aload_n 0, 1) := by decide +kernel
theorem dX0_copyFrom_61 : decode cX0_copyFrom 61 = .ok (.aload_n 1, 1) := by decide +kernel
theorem dX0_copyFrom_62 : decode cX0_copyFrom 62 = .ok (.getfield 31, 3) := by decide +kernel
theorem dX0_copyFrom_65 : decode cX0_copyFrom 65 = .ok (.putfield 31, 3) := by decide +kernel
theorem dX0_copyFrom_68 : decode cX0_copyFrom 68 = .ok (.aload_n 0, 1) := by decide +kernel
theorem dX0_copyFrom_69 : decode cX0_copyFrom 69 = .ok (.aload_n 1, 1) := by decide +kernel
theorem dX0_copyFrom_70 : decode cX0_copyFrom 70 = .ok (.getfield 34, 3) := by decide +kernel
theorem dX0_copyFrom_73 : decode cX0_copyFrom 73 = .ok (.putfield 34, 3) := by decide +kernel
theorem dX0_copyFrom_76 : decode cX0_copyFrom 76 = .ok (.return_, 1) := by decide +kernel
theorem dX0_numberAt_0 : decode cX0_numberAt 0 = .ok (.aload_n 0, 1) := by decide +kernel
theorem dX0_numberAt_1 : decode cX0_numberAt 1 = .ok (.getfield 9, 3) := by decide +kernel
theorem dX0_numberAt_4 : decode cX0_numberAt 4 = .ok (.iload_n 1, 1) := by decide +kernel
theorem dX0_numberAt_5 : decode cX0_numberAt 5 = .ok (.invokestatic 41, 3) := by decide +kernel
theorem dX0_numberAt_8 : decode cX0_numberAt 8 = .ok (.ireturn, 1) := by decide +kernel
theorem dX0_keyAt_0 : decode cX0_keyAt 0 = .ok (.aload_n 0, 1) := by decide +kernel
theorem dX0_keyAt_1 : decode cX0_keyAt 1 = .ok (.getfield 15, 3) := by decide +kernel
theorem dX0_keyAt_4 : decode cX0_keyAt 4 = .ok (.iload_n 1, 1) := by decide +kernel
theorem dX0_keyAt_5 : decode cX0_keyAt 5 = .ok (.invokestatic 41, 3) := by decide +kernel
theorem dX0_keyAt_8 : decode cX0_keyAt 8 = .ok (.ireturn, 1) := by decide +kernel
theorem dX0_valueAt_0 : decode cX0_valueAt 0 = .ok (.aload_n 0, 1) := by decide +kernel
theorem dX0_valueAt_1 : decode cX0_valueAt 1 = .ok (.getfield 18, 3) := by decide +kernel
theorem dX0_valueAt_4 : decode cX0_valueAt 4 = .ok (.iload_n 1, 1) := by decide +kernel
theorem dX0_valueAt_5 : decode cX0_valueAt 5 = .ok (.invokestatic 41, 3) := by decide +kernel
theorem dX0_valueAt_8 : decode cX0_valueAt 8 = .ok (.ireturn, 1) := by decide +kernel
theorem dX0_minuteAt_0 : decode cX0_minuteAt 0 = .ok (.aload_n 0, 1) := by decide +kernel
theorem dX0_minuteAt_1 : decode cX0_minuteAt 1 = .ok (.getfield 21, 3) := by decide +kernel
theorem dX0_minuteAt_4 : decode cX0_minuteAt 4 = .ok (.iload_n 1, 1) := by decide +kernel
theorem dX0_minuteAt_5 : decode cX0_minuteAt 5 = .ok (.invokestatic 41, 3) := by decide +kernel
theorem dX0_minuteAt_8 : decode cX0_minuteAt 8 = .ok (.ireturn, 1) := by decide +kernel
theorem dX0_isFull_0 : decode cX0_isFull 0 = .ok (.aload_n 0, 1) := by decide +kernel
theorem dX0_isFull_1 : decode cX0_isFull 1 = .ok (.getfield 24, 3) := by decide +kernel
theorem dX0_isFull_4 : decode cX0_isFull 4 = .ok (.bipush 60, 2) := by decide +kernel
theorem dX0_isFull_6 : decode cX0_isFull 6 = .ok (.if_icmp .lt 7, 3) := by decide +kernel
theorem dX0_isFull_9 : decode cX0_isFull 9 = .ok (.iconst 1, 1) := by decide +kernel
theorem dX0_isFull_10 : decode cX0_isFull 10 = .ok (.goto 4, 3) := by decide +kernel
theorem dX0_isFull_13 : decode cX0_isFull 13 = .ok (.iconst 0, 1) := by decide +kernel
theorem dX0_isFull_14 : decode cX0_isFull 14 = .ok (.ireturn, 1) := by decide +kernel
theorem dX0_append_0 : decode cX0_append 0 = .ok (.aload_n 0, 1) := by decide +kernel
theorem dX0_append_1 : decode cX0_append 1 = .ok (.getfield 28, 3) := by decide +kernel
theorem dX0_append_4 : decode cX0_append 4 = .ok (.istore 4, 2) := by decide +kernel
theorem dX0_append_6 : decode cX0_append 6 = .ok (.aload_n 0, 1) := by decide +kernel
theorem dX0_append_7 : decode cX0_append 7 = .ok (.aload_n 0, 1) := by decide +kernel
theorem dX0_append_8 : decode cX0_append 8 = .ok (.getfield 24, 3) := by decide +kernel
theorem dX0_append_11 : decode cX0_append 11 = .ok (.iload 4, 2) := by decide +kernel
theorem dX0_append_13 : decode cX0_append 13 = .ok (.iload_n 1, 1) := by decide +kernel
theorem dX0_append_14 : decode cX0_append 14 = .ok (.iload_n 2, 1) := by decide +kernel
theorem dX0_append_15 : decode cX0_append 15 = .ok (.iload_n 3, 1) := by decide +kernel
theorem dX0_append_16 : decode cX0_append 16 = .ok (.invokevirtual 45, 3) := by decide +kernel
theorem dX0_append_19 : decode cX0_append 19 = .ok (.aload_n 0, 1) := by decide +kernel
theorem dX0_append_20 : decode cX0_append 20 = .ok (.dup, 1) := by decide +kernel
theorem dX0_append_21 : decode cX0_append 21 = .ok (.getfield 24, 3) := by decide +kernel
theorem dX0_append_24 : decode cX0_append 24 = .ok (.iconst 1, 1) := by decide +kernel
theorem dX0_append_25 : decode cX0_append 25 = .ok (.iadd, 1) := by decide +kernel
theorem dX0_append_26 : decode cX0_append 26 = .ok (.putfield 24, 3) := by decide +kernel
theorem dX0_append_29 : decode cX0_append 29 = .ok (.aload_n 0, 1) := by decide +kernel
theorem dX0_append_30 : decode cX0_append 30 = .ok (.dup, 1) := by decide +kernel
theorem dX0_append_31 : decode cX0_append 31 = .ok (.getfield 28, 3) := by decide +kernel
theorem dX0_append_34 : decode cX0_append 34 = .ok (.iconst 1, 1) := by decide +kernel
theorem dX0_append_35 : decode cX0_append 35 = .ok (.iadd, 1) := by decide +kernel
theorem dX0_append_36 : decode cX0_append 36 = .ok (.putfield 28, 3) := by decide +kernel
theorem dX0_append_39 : decode cX0_append 39 = .ok (.iload 4, 2) := by decide +kernel
theorem dX0_append_41 : decode cX0_append 41 = .ok (.ireturn, 1) := by decide +kernel
theorem dX0_layEntry_0 : decode cX0_layEntry 0 = .ok (.aload_n 0, 1) := by decide +kernel
theorem dX0_layEntry_1 : decode cX0_layEntry 1 = .ok (.getfield 9, 3) := by decide +kernel
theorem dX0_layEntry_4 : decode cX0_layEntry 4 = .ok (.iload_n 1, 1) := by decide +kernel
theorem dX0_layEntry_5 : decode cX0_layEntry 5 = .ok (.iload_n 2, 1) := by decide +kernel
theorem dX0_layEntry_6 : decode cX0_layEntry 6 = .ok (.invokestatic 49, 3) := by decide +kernel
theorem dX0_layEntry_9 : decode cX0_layEntry 9 = .ok (.aload_n 0, 1) := by decide +kernel
theorem dX0_layEntry_10 : decode cX0_layEntry 10 = .ok (.getfield 15, 3) := by decide +kernel
theorem dX0_layEntry_13 : decode cX0_layEntry 13 = .ok (.iload_n 1, 1) := by decide +kernel
theorem dX0_layEntry_14 : decode cX0_layEntry 14 = .ok (.iload_n 3, 1) := by decide +kernel
theorem dX0_layEntry_15 : decode cX0_layEntry 15 = .ok (.invokestatic 49, 3) := by decide +kernel
theorem dX0_layEntry_18 : decode cX0_layEntry 18 = .ok (.aload_n 0, 1) := by decide +kernel
theorem dX0_layEntry_19 : decode cX0_layEntry 19 = .ok (.getfield 18, 3) := by decide +kernel
theorem dX0_layEntry_22 : decode cX0_layEntry 22 = .ok (.iload_n 1, 1) := by decide +kernel
theorem dX0_layEntry_23 : decode cX0_layEntry 23 = .ok (.iload 4, 2) := by decide +kernel
theorem dX0_layEntry_25 : decode cX0_layEntry 25 = .ok (.invokestatic 49, 3) := by decide +kernel
theorem dX0_layEntry_28 : decode cX0_layEntry 28 = .ok (.aload_n 0, 1) := by decide +kernel
theorem dX0_layEntry_29 : decode cX0_layEntry 29 = .ok (.getfield 21, 3) := by decide +kernel
theorem dX0_layEntry_32 : decode cX0_layEntry 32 = .ok (.iload_n 1, 1) := by decide +kernel
theorem dX0_layEntry_33 : decode cX0_layEntry 33 = .ok (.iload 5, 2) := by decide +kernel
theorem dX0_layEntry_35 : decode cX0_layEntry 35 = .ok (.invokestatic 49, 3) := by decide +kernel
theorem dX0_layEntry_38 : decode cX0_layEntry 38 = .ok (.return_, 1) := by decide +kernel
theorem dX0_firstFrom_0 : decode cX0_firstFrom 0 = .ok (.iconst 0, 1) := by decide +kernel
theorem dX0_firstFrom_1 : decode cX0_firstFrom 1 = .ok (.istore_n 2, 1) := by decide +kernel
theorem dX0_firstFrom_2 : decode cX0_firstFrom 2 = .ok (.iload_n 2, 1) := by decide +kernel
theorem dX0_firstFrom_3 : decode cX0_firstFrom 3 = .ok (.aload_n 0, 1) := by decide +kernel
theorem dX0_firstFrom_4 : decode cX0_firstFrom 4 = .ok (.getfield 24, 3) := by decide +kernel
theorem dX0_firstFrom_7 : decode cX0_firstFrom 7 = .ok (.if_icmp .ge 23, 3) := by decide +kernel
theorem dX0_firstFrom_10 : decode cX0_firstFrom 10 = .ok (.aload_n 0, 1) := by decide +kernel
theorem dX0_firstFrom_11 : decode cX0_firstFrom 11 = .ok (.getfield 9, 3) := by decide +kernel
theorem dX0_firstFrom_14 : decode cX0_firstFrom 14 = .ok (.iload_n 2, 1) := by decide +kernel
theorem dX0_firstFrom_15 : decode cX0_firstFrom 15 = .ok (.invokestatic 41, 3) := by decide +kernel
theorem dX0_firstFrom_18 : decode cX0_firstFrom 18 = .ok (.iload_n 1, 1) := by decide +kernel
theorem dX0_firstFrom_19 : decode cX0_firstFrom 19 = .ok (.if_icmp .lt 5, 3) := by decide +kernel
theorem dX0_firstFrom_22 : decode cX0_firstFrom 22 = .ok (.iload_n 2, 1) := by decide +kernel
theorem dX0_firstFrom_23 : decode cX0_firstFrom 23 = .ok (.ireturn, 1) := by decide +kernel
theorem dX0_firstFrom_24 : decode cX0_firstFrom 24 = .ok (.iinc 2 1, 3) := by decide +kernel
theorem dX0_firstFrom_27 : decode cX0_firstFrom 27 = .ok (.goto (-25), 3) := by decide +kernel
theorem dX0_firstFrom_30 : decode cX0_firstFrom 30 = .ok (.aload_n 0, 1) := by decide +kernel
theorem dX0_firstFrom_31 : decode cX0_firstFrom 31 = .ok (.getfield 24, 3) := by decide +kernel
theorem dX0_firstFrom_34 : decode cX0_firstFrom 34 = .ok (.ireturn, 1) := by decide +kernel
theorem dX0_aheadOf_0 : decode cX0_aheadOf 0 = .ok (.aload_n 0, 1) := by decide +kernel
theorem dX0_aheadOf_1 : decode cX0_aheadOf 1 = .ok (.getfield 24, 3) := by decide +kernel
theorem dX0_aheadOf_4 : decode cX0_aheadOf 4 = .ok (.aload_n 0, 1) := by decide +kernel
theorem dX0_aheadOf_5 : decode cX0_aheadOf 5 = .ok (.iload_n 1, 1) := by decide +kernel
theorem dX0_aheadOf_6 : decode cX0_aheadOf 6 = .ok (.invokevirtual 53, 3) := by decide +kernel
theorem dX0_aheadOf_9 : decode cX0_aheadOf 9 = .ok (.isub, 1) := by decide +kernel
theorem dX0_aheadOf_10 : decode cX0_aheadOf 10 = .ok (.ireturn, 1) := by decide +kernel
theorem dX0_isLastOfItsKey_0 : decode cX0_isLastOfItsKey 0 = .ok (.iload_n 1, 1) := by decide +kernel
theorem dX0_isLastOfItsKey_1 : decode cX0_isLastOfItsKey 1 = .ok (.iconst 1, 1) := by decide +kernel
theorem dX0_isLastOfItsKey_2 : decode cX0_isLastOfItsKey 2 = .ok (.iadd, 1) := by decide +kernel
theorem dX0_isLastOfItsKey_3 : decode cX0_isLastOfItsKey 3 = .ok (.istore_n 2, 1) := by decide +kernel
theorem dX0_isLastOfItsKey_4 : decode cX0_isLastOfItsKey 4 = .ok (.iload_n 2, 1) := by decide +kernel
theorem dX0_isLastOfItsKey_5 : decode cX0_isLastOfItsKey 5 = .ok (.aload_n 0, 1) := by decide +kernel
theorem dX0_isLastOfItsKey_6 : decode cX0_isLastOfItsKey 6 = .ok (.getfield 24, 3) := by decide +kernel
theorem dX0_isLastOfItsKey_9 : decode cX0_isLastOfItsKey 9 = .ok (.if_icmp .ge 30, 3) := by decide +kernel
theorem dX0_isLastOfItsKey_12 : decode cX0_isLastOfItsKey 12 = .ok (.aload_n 0, 1) := by decide +kernel
theorem dX0_isLastOfItsKey_13 : decode cX0_isLastOfItsKey 13 = .ok (.getfield 15, 3) := by decide +kernel
theorem dX0_isLastOfItsKey_16 : decode cX0_isLastOfItsKey 16 = .ok (.iload_n 2, 1) := by decide +kernel
theorem dX0_isLastOfItsKey_17 : decode cX0_isLastOfItsKey 17 = .ok (.invokestatic 41, 3) := by decide +kernel
theorem dX0_isLastOfItsKey_20 : decode cX0_isLastOfItsKey 20 = .ok (.aload_n 0, 1) := by decide +kernel
theorem dX0_isLastOfItsKey_21 : decode cX0_isLastOfItsKey 21 = .ok (.getfield 15, 3) := by decide +kernel
theorem dX0_isLastOfItsKey_24 : decode cX0_isLastOfItsKey 24 = .ok (.iload_n 1, 1) := by decide +kernel
theorem dX0_isLastOfItsKey_25 : decode cX0_isLastOfItsKey 25 = .ok (.invokestatic 41, 3) := by decide +kernel
theorem dX0_isLastOfItsKey_28 : decode cX0_isLastOfItsKey 28 = .ok (.if_icmp .ne 5, 3) := by decide +kernel
theorem dX0_isLastOfItsKey_31 : decode cX0_isLastOfItsKey 31 = .ok (.iconst 0, 1) := by decide +kernel
theorem dX0_isLastOfItsKey_32 : decode cX0_isLastOfItsKey 32 = .ok (.ireturn, 1) := by decide +kernel
theorem dX0_isLastOfItsKey_33 : decode cX0_isLastOfItsKey 33 = .ok (.iinc 2 1, 3) := by decide +kernel
theorem dX0_isLastOfItsKey_36 : decode cX0_isLastOfItsKey 36 = .ok (.goto (-32), 3) := by decide +kernel
theorem dX0_isLastOfItsKey_39 : decode cX0_isLastOfItsKey 39 = .ok (.iconst 1, 1) := by decide +kernel
theorem dX0_isLastOfItsKey_40 : decode cX0_isLastOfItsKey 40 = .ok (.ireturn, 1) := by decide +kernel
theorem dX0_isClosed_0 : decode cX0_isClosed 0 = .ok (.aload_n 0, 1) := by decide +kernel
theorem dX0_isClosed_1 : decode cX0_isClosed 1 = .ok (.getfield 9, 3) := by decide +kernel
theorem dX0_isClosed_4 : decode cX0_isClosed 4 = .ok (.iload_n 1, 1) := by decide +kernel
theorem dX0_isClosed_5 : decode cX0_isClosed 5 = .ok (.invokestatic 41, 3) := by decide +kernel
theorem dX0_isClosed_8 : decode cX0_isClosed 8 = .ok (.iload_n 2, 1) := by decide +kernel
theorem dX0_isClosed_9 : decode cX0_isClosed 9 = .ok (.invokestatic 57, 3) := by decide +kernel
theorem dX0_isClosed_12 : decode cX0_isClosed 12 = .ok (.aload_n 0, 1) := by decide +kernel
theorem dX0_isClosed_13 : decode cX0_isClosed 13 = .ok (.getfield 28, 3) := by decide +kernel
theorem dX0_isClosed_16 : decode cX0_isClosed 16 = .ok (.iload_n 2, 1) := by decide +kernel
theorem dX0_isClosed_17 : decode cX0_isClosed 17 = .ok (.invokestatic 57, 3) := by decide +kernel
theorem dX0_isClosed_20 : decode cX0_isClosed 20 = .ok (.if_icmp .eq 7, 3) := by decide +kernel
theorem dX0_isClosed_23 : decode cX0_isClosed 23 = .ok (.iconst 1, 1) := by decide +kernel
theorem dX0_isClosed_24 : decode cX0_isClosed 24 = .ok (.goto 4, 3) := by decide +kernel
theorem dX0_isClosed_27 : decode cX0_isClosed 27 = .ok (.iconst 0, 1) := by decide +kernel
theorem dX0_isClosed_28 : decode cX0_isClosed 28 = .ok (.ireturn, 1) := by decide +kernel
theorem dX0_segmentOf_0 : decode cX0_segmentOf 0 = .ok (.iload_n 1, 1) := by decide +kernel
theorem dX0_segmentOf_1 : decode cX0_segmentOf 1 = .ok (.iconst 1, 1) := by decide +kernel
theorem dX0_segmentOf_2 : decode cX0_segmentOf 2 = .ok (.if_icmp .ge 7, 3) := by decide +kernel
theorem dX0_segmentOf_5 : decode cX0_segmentOf 5 = .ok (.iconst 0, 1) := by decide +kernel
theorem dX0_segmentOf_6 : decode cX0_segmentOf 6 = .ok (.goto 6, 3) := by decide +kernel
theorem dX0_segmentOf_9 : decode cX0_segmentOf 9 = .ok (.iload_n 0, 1) := by decide +kernel
theorem dX0_segmentOf_10 : decode cX0_segmentOf 10 = .ok (.iload_n 1, 1) := by decide +kernel
theorem dX0_segmentOf_11 : decode cX0_segmentOf 11 = .ok (.idiv, 1) := by decide +kernel
theorem dX0_segmentOf_12 : decode cX0_segmentOf 12 = .ok (.ireturn, 1) := by decide +kernel
theorem dX0_isOldRemoval_0 : decode cX0_isOldRemoval 0 = .ok (.aload_n 0, 1) := by decide +kernel
theorem dX0_isOldRemoval_1 : decode cX0_isOldRemoval 1 = .ok (.getfield 18, 3) := by decide +kernel
theorem dX0_isOldRemoval_4 : decode cX0_isOldRemoval 4 = .ok (.iload_n 1, 1) := by decide +kernel
theorem dX0_isOldRemoval_5 : decode cX0_isOldRemoval 5 = .ok (.invokestatic 41, 3) := by decide +kernel
theorem dX0_isOldRemoval_8 : decode cX0_isOldRemoval 8 = .ok (.bipush (-6), 2) := by decide +kernel
theorem dX0_isOldRemoval_10 : decode cX0_isOldRemoval 10 = .ok (.if_icmp .ne 21, 3) := by decide +kernel
theorem dX0_isOldRemoval_13 : decode cX0_isOldRemoval 13 = .ok (.iload_n 3, 1) := by decide +kernel
theorem dX0_isOldRemoval_14 : decode cX0_isOldRemoval 14 = .ok (.aload_n 0, 1) := by decide +kernel
theorem dX0_isOldRemoval_15 : decode cX0_isOldRemoval 15 = .ok (.getfield 21, 3) := by decide +kernel
theorem dX0_isOldRemoval_18 : decode cX0_isOldRemoval 18 = .ok (.iload_n 1, 1) := by decide +kernel
theorem dX0_isOldRemoval_19 : decode cX0_isOldRemoval 19 = .ok (.invokestatic 41, 3) := by decide +kernel
theorem dX0_isOldRemoval_22 : decode cX0_isOldRemoval 22 = .ok (.isub, 1) := by decide +kernel
theorem dX0_isOldRemoval_23 : decode cX0_isOldRemoval 23 = .ok (.iload_n 2, 1) := by decide +kernel
theorem dX0_isOldRemoval_24 : decode cX0_isOldRemoval 24 = .ok (.if_icmp .le 7, 3) := by decide +kernel
theorem dX0_isOldRemoval_27 : decode cX0_isOldRemoval 27 = .ok (.iconst 1, 1) := by decide +kernel
theorem dX0_isOldRemoval_28 : decode cX0_isOldRemoval 28 = .ok (.goto 4, 3) := by decide +kernel
theorem dX0_isOldRemoval_31 : decode cX0_isOldRemoval 31 = .ok (.iconst 0, 1) := by decide +kernel
theorem dX0_isOldRemoval_32 : decode cX0_isOldRemoval 32 = .ok (.ireturn, 1) := by decide +kernel
theorem dX0_wouldGo_0 : decode cX0_wouldGo 0 = .ok (.aload_n 0, 1) := by decide +kernel
theorem dX0_wouldGo_1 : decode cX0_wouldGo 1 = .ok (.iload_n 1, 1) := by decide +kernel
theorem dX0_wouldGo_2 : decode cX0_wouldGo 2 = .ok (.iload_n 2, 1) := by decide +kernel
theorem dX0_wouldGo_3 : decode cX0_wouldGo 3 = .ok (.invokevirtual 61, 3) := by decide +kernel
theorem dX0_wouldGo_6 : decode cX0_wouldGo 6 = .ok (.ifCond .eq 26, 3) := by decide +kernel
theorem dX0_wouldGo_9 : decode cX0_wouldGo 9 = .ok (.aload_n 0, 1) := by decide +kernel
theorem dX0_wouldGo_10 : decode cX0_wouldGo 10 = .ok (.iload_n 1, 1) := by decide +kernel
theorem dX0_wouldGo_11 : decode cX0_wouldGo 11 = .ok (.invokevirtual 65, 3) := by decide +kernel
theorem dX0_wouldGo_14 : decode cX0_wouldGo 14 = .ok (.ifCond .eq 14, 3) := by decide +kernel
theorem dX0_wouldGo_17 : decode cX0_wouldGo 17 = .ok (.aload_n 0, 1) := by decide +kernel
theorem dX0_wouldGo_18 : decode cX0_wouldGo 18 = .ok (.iload_n 1, 1) := by decide +kernel
theorem dX0_wouldGo_19 : decode cX0_wouldGo 19 = .ok (.iload_n 3, 1) := by decide +kernel
theorem dX0_wouldGo_20 : decode cX0_wouldGo 20 = .ok (.iload 4, 2) := by decide +kernel
theorem dX0_wouldGo_22 : decode cX0_wouldGo 22 = .ok (.invokevirtual 69, 3) := by decide +kernel
theorem dX0_wouldGo_25 : decode cX0_wouldGo 25 = .ok (.ifCond .eq 7, 3) := by decide +kernel
theorem dX0_wouldGo_28 : decode cX0_wouldGo 28 = .ok (.iconst 1, 1) := by decide +kernel
theorem dX0_wouldGo_29 : decode cX0_wouldGo 29 = .ok (.goto 4, 3) := by decide +kernel
theorem dX0_wouldGo_32 : decode cX0_wouldGo 32 = .ok (.iconst 0, 1) := by decide +kernel
theorem dX0_wouldGo_33 : decode cX0_wouldGo 33 = .ok (.ireturn, 1) := by decide +kernel
theorem dX0_leftAfterThinning_0 : decode cX0_leftAfterThinning 0 = .ok (.iconst 0, 1) := by decide +kernel
theorem dX0_leftAfterThinning_1 : decode cX0_leftAfterThinning 1 = .ok (.istore 4, 2) := by decide +kernel
theorem dX0_leftAfterThinning_3 : decode cX0_leftAfterThinning 3 = .ok (.iconst 0, 1) := by decide +kernel
theorem dX0_leftAfterThinning_4 : decode cX0_leftAfterThinning 4 = .ok (.istore 5, 2) := by decide +kernel
theorem dX0_leftAfterThinning_6 : decode cX0_leftAfterThinning 6 = .ok (.iload 5, 2) := by decide +kernel
theorem dX0_leftAfterThinning_8 : decode cX0_leftAfterThinning 8 = .ok (.aload_n 0, 1) := by decide +kernel
theorem dX0_leftAfterThinning_9 : decode cX0_leftAfterThinning 9 = .ok (.getfield 24, 3) := by decide +kernel
theorem dX0_leftAfterThinning_12 : decode cX0_leftAfterThinning 12 = .ok (.if_icmp .ge 24, 3) := by decide +kernel
theorem dX0_leftAfterThinning_15 : decode cX0_leftAfterThinning 15 = .ok (.aload_n 0, 1) := by decide +kernel
theorem dX0_leftAfterThinning_16 : decode cX0_leftAfterThinning 16 = .ok (.iload 5, 2) := by decide +kernel
theorem dX0_leftAfterThinning_18 : decode cX0_leftAfterThinning 18 = .ok (.iload_n 1, 1) := by decide +kernel
theorem dX0_leftAfterThinning_19 : decode cX0_leftAfterThinning 19 = .ok (.iload_n 2, 1) := by decide +kernel
theorem dX0_leftAfterThinning_20 : decode cX0_leftAfterThinning 20 = .ok (.iload_n 3, 1) := by decide +kernel
theorem dX0_leftAfterThinning_21 : decode cX0_leftAfterThinning 21 = .ok (.invokevirtual 73, 3) := by decide +kernel
theorem dX0_leftAfterThinning_24 : decode cX0_leftAfterThinning 24 = .ok (.ifCond .ne 6, 3) := by decide +kernel
theorem dX0_leftAfterThinning_27 : decode cX0_leftAfterThinning 27 = .ok (.iinc 4 1, 3) := by decide +kernel
theorem dX0_leftAfterThinning_30 : decode cX0_leftAfterThinning 30 = .ok (.iinc 5 1, 3) := by decide +kernel
theorem dX0_leftAfterThinning_33 : decode cX0_leftAfterThinning 33 = .ok (.goto (-27), 3) := by decide +kernel
theorem dX0_leftAfterThinning_36 : decode cX0_leftAfterThinning 36 = .ok (.iload 4, 2) := by decide +kernel
theorem dX0_leftAfterThinning_38 : decode cX0_leftAfterThinning 38 = .ok (.ireturn, 1) := by decide +kernel
theorem dX0_floorAfterThinning_0 : decode cX0_floorAfterThinning 0 = .ok (.aload_n 0, 1) := by decide +kernel
theorem dX0_floorAfterThinning_1 : decode cX0_floorAfterThinning 1 = .ok (.getfield 31, 3) := by decide +kernel
theorem dX0_floorAfterThinning_4 : decode cX0_floorAfterThinning 4 = .ok (.istore 4, 2) := by decide +kernel
theorem dX0_floorAfterThinning_6 : decode cX0_floorAfterThinning 6 = .ok (.iconst 0, 1) := by decide +kernel
theorem dX0_floorAfterThinning_7 : decode cX0_floorAfterThinning 7 = .ok (.istore 5, 2) := by decide +kernel
theorem dX0_floorAfterThinning_9 : decode cX0_floorAfterThinning 9 = .ok (.iload 5, 2) := by decide +kernel
theorem dX0_floorAfterThinning_11 : decode cX0_floorAfterThinning 11 = .ok (.aload_n 0, 1) := by decide +kernel
theorem dX0_floorAfterThinning_12 : decode cX0_floorAfterThinning 12 = .ok (.getfield 24, 3) := by decide +kernel
theorem dX0_floorAfterThinning_15 : decode cX0_floorAfterThinning 15 = .ok (.if_icmp .ge 45, 3) := by decide +kernel
theorem dX0_floorAfterThinning_18 : decode cX0_floorAfterThinning 18 = .ok (.aload_n 0, 1) := by decide +kernel
theorem dX0_floorAfterThinning_19 : decode cX0_floorAfterThinning 19 = .ok (.iload 5, 2) := by decide +kernel
theorem dX0_floorAfterThinning_21 : decode cX0_floorAfterThinning 21 = .ok (.invokevirtual 65, 3) := by decide +kernel
theorem dX0_floorAfterThinning_24 : decode cX0_floorAfterThinning 24 = .ok (.ifCond .eq 30, 3) := by decide +kernel
theorem dX0_floorAfterThinning_27 : decode cX0_floorAfterThinning 27 = .ok (.aload_n 0, 1) := by decide +kernel
theorem dX0_floorAfterThinning_28 : decode cX0_floorAfterThinning 28 = .ok (.iload 5, 2) := by decide +kernel
theorem dX0_floorAfterThinning_30 : decode cX0_floorAfterThinning 30 = .ok (.iload_n 1, 1) := by decide +kernel
theorem dX0_floorAfterThinning_31 : decode cX0_floorAfterThinning 31 = .ok (.iload_n 2, 1) := by decide +kernel
theorem dX0_floorAfterThinning_32 : decode cX0_floorAfterThinning 32 = .ok (.iload_n 3, 1) := by decide +kernel
theorem dX0_floorAfterThinning_33 : decode cX0_floorAfterThinning 33 = .ok (.invokevirtual 73, 3) := by decide +kernel
theorem dX0_floorAfterThinning_36 : decode cX0_floorAfterThinning 36 = .ok (.ifCond .eq 18, 3) := by decide +kernel
theorem dX0_floorAfterThinning_39 : decode cX0_floorAfterThinning 39 = .ok (.iload 4, 2) := by decide +kernel
theorem dX0_floorAfterThinning_41 : decode cX0_floorAfterThinning 41 = .ok (.aload_n 0, 1) := by decide +kernel
theorem dX0_floorAfterThinning_42 : decode cX0_floorAfterThinning 42 = .ok (.iload 5, 2) := by decide +kernel
theorem dX0_floorAfterThinning_44 : decode cX0_floorAfterThinning 44 = .ok (.invokevirtual 77, 3) := by decide +kernel
theorem dX0_floorAfterThinning_47 : decode cX0_floorAfterThinning 47 = .ok (.iconst 1, 1) := by decide +kernel
theorem dX0_floorAfterThinning_48 : decode cX0_floorAfterThinning 48 = .ok (.iadd, 1) := by decide +kernel
theorem dX0_floorAfterThinning_49 : decode cX0_floorAfterThinning 49 = .ok (.invokestatic 80, 3) := by decide +kernel
theorem dX0_floorAfterThinning_52 : decode cX0_floorAfterThinning 52 = .ok (.istore 4, 2) := by decide +kernel
theorem dX0_floorAfterThinning_54 : decode cX0_floorAfterThinning 54 = .ok (.iinc 5 1, 3) := by decide +kernel
theorem dX0_floorAfterThinning_57 : decode cX0_floorAfterThinning 57 = .ok (.goto (-48), 3) := by decide +kernel
theorem dX0_floorAfterThinning_60 : decode cX0_floorAfterThinning 60 = .ok (.iload 4, 2) := by decide +kernel
theorem dX0_floorAfterThinning_62 : decode cX0_floorAfterThinning 62 = .ok (.ireturn, 1) := by decide +kernel
theorem dX0_thinOut_0 : decode cX0_thinOut 0 = .ok (.iconst 0, 1) := by decide +kernel
theorem dX0_thinOut_1 : decode cX0_thinOut 1 = .ok (.istore 4, 2) := by decide +kernel
theorem dX0_thinOut_3 : decode cX0_thinOut 3 = .ok (.iconst 0, 1) := by decide +kernel
theorem dX0_thinOut_4 : decode cX0_thinOut 4 = .ok (.istore 5, 2) := by decide +kernel
theorem dX0_thinOut_6 : decode cX0_thinOut 6 = .ok (.iload 5, 2) := by decide +kernel
theorem dX0_thinOut_8 : decode cX0_thinOut 8 = .ok (.aload_n 0, 1) := by decide +kernel
theorem dX0_thinOut_9 : decode cX0_thinOut 9 = .ok (.getfield 24, 3) := by decide +kernel
theorem dX0_thinOut_12 : decode cX0_thinOut 12 = .ok (.if_icmp .ge 54, 3) := by decide +kernel
theorem dX0_thinOut_15 : decode cX0_thinOut 15 = .ok (.aload_n 0, 1) := by decide +kernel
theorem dX0_thinOut_16 : decode cX0_thinOut 16 = .ok (.iload 5, 2) := by decide +kernel
theorem dX0_thinOut_18 : decode cX0_thinOut 18 = .ok (.iload_n 1, 1) := by decide +kernel
theorem dX0_thinOut_19 : decode cX0_thinOut 19 = .ok (.iload_n 2, 1) := by decide +kernel
theorem dX0_thinOut_20 : decode cX0_thinOut 20 = .ok (.iload_n 3, 1) := by decide +kernel
theorem dX0_thinOut_21 : decode cX0_thinOut 21 = .ok (.invokevirtual 73, 3) := by decide +kernel
theorem dX0_thinOut_24 : decode cX0_thinOut 24 = .ok (.ifCond .ne 36, 3) := by decide +kernel
theorem dX0_thinOut_27 : decode cX0_thinOut 27 = .ok (.aload_n 0, 1) := by decide +kernel
theorem dX0_thinOut_28 : decode cX0_thinOut 28 = .ok (.iload 4, 2) := by decide +kernel
theorem dX0_thinOut_30 : decode cX0_thinOut 30 = .ok (.aload_n 0, 1) := by decide +kernel
theorem dX0_thinOut_31 : decode cX0_thinOut 31 = .ok (.iload 5, 2) := by decide +kernel
theorem dX0_thinOut_33 : decode cX0_thinOut 33 = .ok (.invokevirtual 77, 3) := by decide +kernel
theorem dX0_thinOut_36 : decode cX0_thinOut 36 = .ok (.aload_n 0, 1) := by decide +kernel
theorem dX0_thinOut_37 : decode cX0_thinOut 37 = .ok (.iload 5, 2) := by decide +kernel
theorem dX0_thinOut_39 : decode cX0_thinOut 39 = .ok (.invokevirtual 85, 3) := by decide +kernel
theorem dX0_thinOut_42 : decode cX0_thinOut 42 = .ok (.aload_n 0, 1) := by decide +kernel
theorem dX0_thinOut_43 : decode cX0_thinOut 43 = .ok (.iload 5, 2) := by decide +kernel
theorem dX0_thinOut_45 : decode cX0_thinOut 45 = .ok (.invokevirtual 88, 3) := by decide +kernel
theorem dX0_thinOut_48 : decode cX0_thinOut 48 = .ok (.aload_n 0, 1) := by decide +kernel
theorem dX0_thinOut_49 : decode cX0_thinOut 49 = .ok (.iload 5, 2) := by decide +kernel
theorem dX0_thinOut_51 : decode cX0_thinOut 51 = .ok (.invokevirtual 91, 3) := by decide +kernel
theorem dX0_thinOut_54 : decode cX0_thinOut 54 = .ok (.invokevirtual 45, 3) := by decide +kernel
theorem dX0_thinOut_57 : decode cX0_thinOut 57 = .ok (.iinc 4 1, 3) := by decide +kernel
theorem dX0_thinOut_60 : decode cX0_thinOut 60 = .ok (.iinc 5 1, 3) := by decide +kernel
theorem dX0_thinOut_63 : decode cX0_thinOut 63 = .ok (.goto (-57), 3) := by decide +kernel
theorem dX0_thinOut_66 : decode cX0_thinOut 66 = .ok (.aload_n 0, 1) := by decide +kernel
theorem dX0_thinOut_67 : decode cX0_thinOut 67 = .ok (.getfield 24, 3) := by decide +kernel
theorem dX0_thinOut_70 : decode cX0_thinOut 70 = .ok (.iload 4, 2) := by decide +kernel
theorem dX0_thinOut_72 : decode cX0_thinOut 72 = .ok (.isub, 1) := by decide +kernel
theorem dX0_thinOut_73 : decode cX0_thinOut 73 = .ok (.istore 5, 2) := by decide +kernel
theorem dX0_thinOut_75 : decode cX0_thinOut 75 = .ok (.aload_n 0, 1) := by decide +kernel
theorem dX0_thinOut_76 : decode cX0_thinOut 76 = .ok (.iload 4, 2) := by decide +kernel
theorem dX0_thinOut_78 : decode cX0_thinOut 78 = .ok (.putfield 24, 3) := by decide +kernel
theorem dX0_thinOut_81 : decode cX0_thinOut 81 = .ok (.aload_n 0, 1) := by decide +kernel
theorem dX0_thinOut_82 : decode cX0_thinOut 82 = .ok (.dup, 1) := by decide +kernel
theorem dX0_thinOut_83 : decode cX0_thinOut 83 = .ok (.getfield 34, 3) := by decide +kernel
theorem dX0_thinOut_86 : decode cX0_thinOut 86 = .ok (.iload 5, 2) := by decide +kernel
theorem dX0_thinOut_88 : decode cX0_thinOut 88 = .ok (.iadd, 1) := by decide +kernel
theorem dX0_thinOut_89 : decode cX0_thinOut 89 = .ok (.putfield 34, 3) := by decide +kernel
theorem dX0_thinOut_92 : decode cX0_thinOut 92 = .ok (.iload 5, 2) := by decide +kernel
theorem dX0_thinOut_94 : decode cX0_thinOut 94 = .ok (.ireturn, 1) := by decide +kernel
theorem dX1_init_0 : decode cX1_init 0 = .ok (.aload_n 0, 1) := by decide +kernel
theorem dX1_init_1 : decode cX1_init 1 = .ok (.invokespecial 3, 3) := by decide +kernel
theorem dX1_init_4 : decode cX1_init 4 = .ok (.aload_n 0, 1) := by decide +kernel
theorem dX1_init_5 : decode cX1_init 5 = .ok (.bipush 7, 2) := by decide +kernel
theorem dX1_init_7 : decode cX1_init 7 = .ok (.anewarray 9, 3) := by decide +kernel
theorem dX1_init_10 : decode cX1_init 10 = .ok (.putfield 11, 3) := by decide +kernel
theorem dX1_init_13 : decode cX1_init 13 = .ok (.aload_n 0, 1) := by decide +kernel
theorem dX1_init_14 : decode cX1_init 14 = .ok (.iconst 0, 1) := by decide +kernel
theorem dX1_init_15 : decode cX1_init 15 = .ok (.putfield 17, 3) := by decide +kernel
theorem dX1_init_18 : decode cX1_init 18 = .ok (.iconst 0, 1) := by decide +kernel
theorem dX1_init_19 : decode cX1_init 19 = .ok (.istore_n 1, 1) := by decide +kernel
theorem dX1_init_20 : decode cX1_init 20 = .ok (.iload_n 1, 1) := by decide +kernel
theorem dX1_init_21 : decode cX1_init 21 = .ok (.aload_n 0, 1) := by decide +kernel
theorem dX1_init_22 : decode cX1_init 22 = .ok (.getfield 11, 3) := by decide +kernel
theorem dX1_init_25 : decode cX1_init 25 = .ok (.arraylength, 1) := by decide +kernel
theorem dX1_init_26 : decode cX1_init 26 = .ok (.if_icmp .ge 22, 3) := by decide +kernel
theorem dX1_init_29 : decode cX1_init 29 = .ok (.aload_n 0, 1) := by decide +kernel
theorem dX1_init_30 : decode cX1_init 30 = .ok (.getfield 11, 3) := by decide +kernel
theorem dX1_init_33 : decode cX1_init 33 = .ok (.iload_n 1, 1) := by decide +kernel
theorem dX1_init_34 : decode cX1_init 34 = .ok (.new 9, 3) := by decide +kernel
theorem dX1_init_37 : decode cX1_init 37 = .ok (.dup, 1) := by decide +kernel
theorem dX1_init_38 : decode cX1_init 38 = .ok (.invokespecial 21, 3) := by decide +kernel
theorem dX1_init_41 : decode cX1_init 41 = .ok (.aastore, 1) := by decide +kernel
theorem dX1_init_42 : decode cX1_init 42 = .ok (.iinc 1 1, 3) := by decide +kernel
theorem dX1_init_45 : decode cX1_init 45 = .ok (.goto (-25), 3) := by decide +kernel
theorem dX1_init_48 : decode cX1_init 48 = .ok (.return_, 1) := by decide +kernel
theorem dX1_stateAt_0 : decode cX1_stateAt 0 = .ok (.iload_n 1, 1) := by decide +kernel
theorem dX1_stateAt_1 : decode cX1_stateAt 1 = .ok (.ifCond .lt 12, 3) := by decide +kernel
theorem dX1_stateAt_4 : decode cX1_stateAt 4 = .ok (.iload_n 1, 1) := by decide +kernel
theorem dX1_stateAt_5 : decode cX1_stateAt 5 = .ok (.aload_n 0, 1) := by decide +kernel
theorem dX1_stateAt_6 : decode cX1_stateAt 6 = .ok (.getfield 11, 3) := by decide +kernel
theorem dX1_stateAt_9 : decode cX1_stateAt 9 = .ok (.arraylength, 1) := by decide +kernel
theorem dX1_stateAt_10 : decode cX1_stateAt 10 = .ok (.if_icmp .lt 7, 3) := by decide +kernel
theorem dX1_stateAt_13 : decode cX1_stateAt 13 = .ok (.aconst_null, 1) := by decide +kernel
theorem dX1_stateAt_14 : decode cX1_stateAt 14 = .ok (.goto 9, 3) := by decide +kernel
theorem dX1_stateAt_17 : decode cX1_stateAt 17 = .ok (.aload_n 0, 1) := by decide +kernel
theorem dX1_stateAt_18 : decode cX1_stateAt 18 = .ok (.getfield 11, 3) := by decide +kernel
theorem dX1_stateAt_21 : decode cX1_stateAt 21 = .ok (.iload_n 1, 1) := by decide +kernel
theorem dX1_stateAt_22 : decode cX1_stateAt 22 = .ok (.aaload, 1) := by decide +kernel
theorem dX1_stateAt_23 : decode cX1_stateAt 23 = .ok (.areturn, 1) := by decide +kernel
theorem dX1_prepare_0 : decode cX1_prepare 0 = .ok (.aload_n 0, 1) := by decide +kernel
theorem dX1_prepare_1 : decode cX1_prepare 1 = .ok (.aload_n 0, 1) := by decide +kernel
theorem dX1_prepare_2 : decode cX1_prepare 2 = .ok (.getfield 17, 3) := by decide +kernel
theorem dX1_prepare_5 : decode cX1_prepare 5 = .ok (.invokevirtual 22, 3) := by decide +kernel
theorem dX1_prepare_8 : decode cX1_prepare 8 = .ok (.astore_n 2, 1) := by decide +kernel
theorem dX1_prepare_9 : decode cX1_prepare 9 = .ok (.aload_n 2, 1) := by decide +kernel
theorem dX1_prepare_10 : decode cX1_prepare 10 = .ok (.ifnull 8, 3) := by decide +kernel
theorem dX1_prepare_13 : decode cX1_prepare 13 = .ok (.aload_n 2, 1) := by decide +kernel
theorem dX1_prepare_14 : decode cX1_prepare 14 = .ok (.aload_n 1, 1) := by decide +kernel
theorem dX1_prepare_15 : decode cX1_prepare 15 = .ok (.invokevirtual 26, 3) := by decide +kernel
theorem dX1_prepare_18 : decode cX1_prepare 18 = .ok (.return_, 1) := by decide +kernel
theorem dX1_settle_0 : decode cX1_settle 0 = .ok (.iload_n 1, 1) := by decide +kernel
theorem dX1_settle_1 : decode cX1_settle 1 = .ok (.ifCond .ge 5, 3) := by decide +kernel
theorem dX1_settle_4 : decode cX1_settle 4 = .ok (.iload_n 1, 1) := by decide +kernel
theorem dX1_settle_5 : decode cX1_settle 5 = .ok (.ireturn, 1) := by decide +kernel
theorem dX1_settle_6 : decode cX1_settle 6 = .ok (.aload_n 0, 1) := by decide +kernel
theorem dX1_settle_7 : decode cX1_settle 7 = .ok (.getfield 17, 3) := by decide +kernel
theorem dX1_settle_10 : decode cX1_settle 10 = .ok (.bipush 6, 2) := by decide +kernel
theorem dX1_settle_12 : decode cX1_settle 12 = .ok (.if_icmp .ge 16, 3) := by decide +kernel
theorem dX1_settle_15 : decode cX1_settle 15 = .ok (.aload_n 0, 1) := by decide +kernel
theorem dX1_settle_16 : decode cX1_settle 16 = .ok (.dup, 1) := by decide +kernel
theorem dX1_settle_17 : decode cX1_settle 17 = .ok (.getfield 17, 3) := by decide +kernel
theorem dX1_settle_20 : decode cX1_settle 20 = .ok (.iconst 1, 1) := by decide +kernel
theorem dX1_settle_21 : decode cX1_settle 21 = .ok (.iadd, 1) := by decide +kernel
theorem dX1_settle_22 : decode cX1_settle 22 = .ok (.putfield 17, 3) := by decide +kernel
theorem dX1_settle_25 : decode cX1_settle 25 = .ok (.goto 7, 3) := by decide +kernel
theorem dX1_settle_28 : decode cX1_settle 28 = .ok (.aload_n 0, 1) := by decide +kernel
theorem dX1_settle_29 : decode cX1_settle 29 = .ok (.invokevirtual 30, 3) := by decide +kernel
theorem dX1_settle_32 : decode cX1_settle 32 = .ok (.iload_n 1, 1) := by decide +kernel
theorem dX1_settle_33 : decode cX1_settle 33 = .ok (.ireturn, 1) := by decide +kernel
theorem dX1_dropOldest_0 : decode cX1_dropOldest 0 = .ok (.aload_n 0, 1) := by decide +kernel
theorem dX1_dropOldest_1 : decode cX1_dropOldest 1 = .ok (.iconst 0, 1) := by decide +kernel
theorem dX1_dropOldest_2 : decode cX1_dropOldest 2 = .ok (.invokevirtual 22, 3) := by decide +kernel
theorem dX1_dropOldest_5 : decode cX1_dropOldest 5 = .ok (.astore_n 1, 1) := by decide +kernel
theorem dX1_dropOldest_6 : decode cX1_dropOldest 6 = .ok (.iconst 1, 1) := by decide +kernel
theorem dX1_dropOldest_7 : decode cX1_dropOldest 7 = .ok (.istore_n 2, 1) := by decide +kernel
theorem dX1_dropOldest_8 : decode cX1_dropOldest 8 = .ok (.iload_n 2, 1) := by decide +kernel
theorem dX1_dropOldest_9 : decode cX1_dropOldest 9 = .ok (.aload_n 0, 1) := by decide +kernel
theorem dX1_dropOldest_10 : decode cX1_dropOldest 10 = .ok (.getfield 11, 3) := by decide +kernel
theorem dX1_dropOldest_13 : decode cX1_dropOldest 13 = .ok (.arraylength, 1) := by decide +kernel
theorem dX1_dropOldest_14 : decode cX1_dropOldest 14 = .ok (.if_icmp .ge 23, 3) := by decide +kernel
theorem dX1_dropOldest_17 : decode cX1_dropOldest 17 = .ok (.aload_n 0, 1) := by decide +kernel
theorem dX1_dropOldest_18 : decode cX1_dropOldest 18 = .ok (.getfield 11, 3) := by decide +kernel
theorem dX1_dropOldest_21 : decode cX1_dropOldest 21 = .ok (.iload_n 2, 1) := by decide +kernel
theorem dX1_dropOldest_22 : decode cX1_dropOldest 22 = .ok (.iconst 1, 1) := by decide +kernel
theorem dX1_dropOldest_23 : decode cX1_dropOldest 23 = .ok (.isub, 1) := by decide +kernel
theorem dX1_dropOldest_24 : decode cX1_dropOldest 24 = .ok (.aload_n 0, 1) := by decide +kernel
theorem dX1_dropOldest_25 : decode cX1_dropOldest 25 = .ok (.getfield 11, 3) := by decide +kernel
theorem dX1_dropOldest_28 : decode cX1_dropOldest 28 = .ok (.iload_n 2, 1) := by decide +kernel
theorem dX1_dropOldest_29 : decode cX1_dropOldest 29 = .ok (.aaload, 1) := by decide +kernel
theorem dX1_dropOldest_30 : decode cX1_dropOldest 30 = .ok (.aastore, 1) := by decide +kernel
theorem dX1_dropOldest_31 : decode cX1_dropOldest 31 = .ok (.iinc 2 1, 3) := by decide +kernel
theorem dX1_dropOldest_34 : decode cX1_dropOldest 34 = .ok (.goto (-26), 3) := by decide +kernel
theorem dX1_dropOldest_37 : decode cX1_dropOldest 37 = .ok (.aload_n 0, 1) := by decide +kernel
theorem dX1_dropOldest_38 : decode cX1_dropOldest 38 = .ok (.getfield 11, 3) := by decide +kernel
theorem dX1_dropOldest_41 : decode cX1_dropOldest 41 = .ok (.arraylength, 1) := by decide +kernel
theorem dX1_dropOldest_42 : decode cX1_dropOldest 42 = .ok (.ifCond .le 16, 3) := by decide +kernel
theorem dX1_dropOldest_45 : decode cX1_dropOldest 45 = .ok (.aload_n 0, 1) := by decide +kernel
theorem dX1_dropOldest_46 : decode cX1_dropOldest 46 = .ok (.getfield 11, 3) := by decide +kernel
theorem dX1_dropOldest_49 : decode cX1_dropOldest 49 = .ok (.aload_n 0, 1) := by decide +kernel
theorem dX1_dropOldest_50 : decode cX1_dropOldest 50 = .ok (.getfield 11, 3) := by decide +kernel
theorem dX1_dropOldest_53 : decode cX1_dropOldest 53 = .ok (.arraylength, 1) := by decide +kernel
theorem dX1_dropOldest_54 : decode cX1_dropOldest 54 = .ok (.iconst 1, 1) := by decide +kernel
theorem dX1_dropOldest_55 : decode cX1_dropOldest 55 = .ok (.isub, 1) := by decide +kernel
theorem dX1_dropOldest_56 : decode cX1_dropOldest 56 = .ok (.aload_n 1, 1) := by decide +kernel
theorem dX1_dropOldest_57 : decode cX1_dropOldest 57 = .ok (.aastore, 1) := by decide +kernel
theorem dX1_dropOldest_58 : decode cX1_dropOldest 58 = .ok (.return_, 1) := by decide +kernel
theorem dX2_init_0 : decode cX2_init 0 = .ok (.aload_n 0, 1) := by decide +kernel
theorem dX2_init_1 : decode cX2_init 1 = .ok (.invokespecial 3, 3) := by decide +kernel
theorem dX2_init_4 : decode cX2_init 4 = .ok (.aload_n 0, 1) := by decide +kernel
theorem dX2_init_5 : decode cX2_init 5 = .ok (.bipush 80, 2) := by decide +kernel
theorem dX2_init_7 : decode cX2_init 7 = .ok (.newarray .int, 2) := by decide +kernel
theorem dX2_init_9 : decode cX2_init 9 = .ok (.putfield 9, 3) := by decide +kernel
theorem dX2_init_12 : decode cX2_init 12 = .ok (.aload_n 0, 1) := by decide +kernel
theorem dX2_init_13 : decode cX2_init 13 = .ok (.iconst 0, 1) := by decide +kernel
theorem dX2_init_14 : decode cX2_init 14 = .ok (.putfield 15, 3) := by decide +kernel
theorem dX2_init_17 : decode cX2_init 17 = .ok (.aload_n 0, 1) := by decide +kernel
theorem dX2_init_18 : decode cX2_init 18 = .ok (.iconst 0, 1) := by decide +kernel
theorem dX2_init_19 : decode cX2_init 19 = .ok (.putfield 19, 3) := by decide +kernel
theorem dX2_init_22 : decode cX2_init 22 = .ok (.aload_n 0, 1) := by decide +kernel
theorem dX2_init_23 : decode cX2_init 23 = .ok (.iconst 0, 1) := by decide +kernel
theorem dX2_init_24 : decode cX2_init 24 = .ok (.putfield 22, 3) := by decide +kernel
theorem dX2_init_27 : decode cX2_init 27 = .ok (.aload_n 0, 1) := by decide +kernel
theorem dX2_init_28 : decode cX2_init 28 = .ok (.iconst 0, 1) := by decide +kernel
theorem dX2_init_29 : decode cX2_init 29 = .ok (.putfield 25, 3) := by decide +kernel
theorem dX2_init_32 : decode cX2_init 32 = .ok (.aload_n 0, 1) := by decide +kernel
theorem dX2_init_33 : decode cX2_init 33 = .ok (.iconst 0, 1) := by decide +kernel
theorem dX2_init_34 : decode cX2_init 34 = .ok (.putfield 28, 3) := by decide +kernel
theorem dX2_init_37 : decode cX2_init 37 = .ok (.return_, 1) := by decide +kernel
theorem dX3_init_0 : decode cX3_init 0 = .ok (.aload_n 0, 1) := by decide +kernel
theorem dX3_init_1 : decode cX3_init 1 = .ok (.invokespecial 1, 3) := by decide +kernel
theorem dX3_init_4 : decode cX3_init 4 = .ok (.aload_n 0, 1) := by decide +kernel
theorem dX3_init_5 : decode cX3_init 5 = .ok (.iconst 0, 1) := by decide +kernel
theorem dX3_init_6 : decode cX3_init 6 = .ok (.putfield 7, 3) := by decide +kernel
theorem dX3_init_9 : decode cX3_init 9 = .ok (.aload_n 0, 1) := by decide +kernel
theorem dX3_init_10 : decode cX3_init 10 = .ok (.iconst 0, 1) := by decide +kernel
theorem dX3_init_11 : decode cX3_init 11 = .ok (.putfield 13, 3) := by decide +kernel
theorem dX3_init_14 : decode cX3_init 14 = .ok (.aload_n 0, 1) := by decide +kernel
theorem dX3_init_15 : decode cX3_init 15 = .ok (.iconst 0, 1) := by decide +kernel
theorem dX3_init_16 : decode cX3_init 16 = .ok (.putfield 16, 3) := by decide +kernel
theorem dX3_init_19 : decode cX3_init 19 = .ok (.aload_n 0, 1) := by decide +kernel
theorem dX3_init_20 : decode cX3_init 20 = .ok (.new 19, 3) := by decide +kernel
theorem dX3_init_23 : decode cX3_init 23 = .ok (.dup, 1) := by decide +kernel
theorem dX3_init_24 : decode cX3_init 24 = .ok (.invokespecial 21, 3) := by decide +kernel
theorem dX3_init_27 : decode cX3_init 27 = .ok (.putfield 22, 3) := by decide +kernel
theorem dX3_init_30 : decode cX3_init 30 = .ok (.aload_n 0, 1) := by decide +kernel
theorem dX3_init_31 : decode cX3_init 31 = .ok (.new 19, 3) := by decide +kernel
theorem dX3_init_34 : decode cX3_init 34 = .ok (.dup, 1) := by decide +kernel
theorem dX3_init_35 : decode cX3_init 35 = .ok (.invokespecial 21, 3) := by decide +kernel
theorem dX3_init_38 : decode cX3_init 38 = .ok (.putfield 26, 3) := by decide +kernel
theorem dX3_init_41 : decode cX3_init 41 = .ok (.return_, 1) := by decide +kernel
theorem dX3_copyFrom_0 : decode cX3_copyFrom 0 = .ok (.aload_n 0, 1) := by decide +kernel
theorem dX3_copyFrom_1 : decode cX3_copyFrom 1 = .ok (.aload_n 1, 1) := by decide +kernel
theorem dX3_copyFrom_2 : decode cX3_copyFrom 2 = .ok (.getfield 7, 3) := by decide +kernel
theorem dX3_copyFrom_5 : decode cX3_copyFrom 5 = .ok (.putfield 7, 3) := by decide +kernel
theorem dX3_copyFrom_8 : decode cX3_copyFrom 8 = .ok (.aload_n 0, 1) := by decide +kernel
theorem dX3_copyFrom_9 : decode cX3_copyFrom 9 = .ok (.aload_n 1, 1) := by decide +kernel
theorem dX3_copyFrom_10 : decode cX3_copyFrom 10 = .ok (.getfield 13, 3) := by decide +kernel
theorem dX3_copyFrom_13 : decode cX3_copyFrom 13 = .ok (.putfield 13, 3) := by decide +kernel
theorem dX3_copyFrom_16 : decode cX3_copyFrom 16 = .ok (.aload_n 0, 1) := by decide +kernel
theorem dX3_copyFrom_17 : decode cX3_copyFrom 17 = .ok (.aload_n 1, 1) := by decide +kernel
theorem dX3_copyFrom_18 : decode cX3_copyFrom 18 = .ok (.getfield 16, 3) := by decide +kernel
theorem dX3_copyFrom_21 : decode cX3_copyFrom 21 = .ok (.putfield 16, 3) := by decide +kernel
theorem dX3_copyFrom_24 : decode cX3_copyFrom 24 = .ok (.aload_n 0, 1) := by decide +kernel
theorem dX3_copyFrom_25 : decode cX3_copyFrom 25 = .ok (.getfield 22, 3) := by decide +kernel
theorem dX3_copyFrom_28 : decode cX3_copyFrom 28 = .ok (.aload_n 1, 1) := by decide +kernel
theorem dX3_copyFrom_29 : decode cX3_copyFrom 29 = .ok (.getfield 22, 3) := by decide +kernel
theorem dX3_copyFrom_32 : decode cX3_copyFrom 32 = .ok (.invokevirtual 29, 3) := by decide +kernel
theorem dX3_copyFrom_35 : decode cX3_copyFrom 35 = .ok (.aload_n 0, 1) := by decide +kernel
theorem dX3_copyFrom_36 : decode cX3_copyFrom 36 = .ok (.getfield 26, 3) := by decide +kernel
theorem dX3_copyFrom_39 : decode cX3_copyFrom 39 = .ok (.aload_n 1, 1) := by decide +kernel
theorem dX3_copyFrom_40 : decode cX3_copyFrom 40 = .ok (.getfield 26, 3) := by decide +kernel
theorem dX3_copyFrom_43 : decode cX3_copyFrom 43 = .ok (.invokevirtual 29, 3) := by decide +kernel
theorem dX3_copyFrom_46 : decode cX3_copyFrom 46 = .ok (.return_, 1) := by decide +kernel
theorem dX3_startOver_0 : decode cX3_startOver 0 = .ok (.aload_n 0, 1) := by decide +kernel
theorem dX3_startOver_1 : decode cX3_startOver 1 = .ok (.iconst 0, 1) := by decide +kernel
theorem dX3_startOver_2 : decode cX3_startOver 2 = .ok (.putfield 7, 3) := by decide +kernel
theorem dX3_startOver_5 : decode cX3_startOver 5 = .ok (.aload_n 0, 1) := by decide +kernel
theorem dX3_startOver_6 : decode cX3_startOver 6 = .ok (.getfield 22, 3) := by decide +kernel
theorem dX3_startOver_9 : decode cX3_startOver 9 = .ok (.invokevirtual 33, 3) := by decide +kernel
theorem dX3_startOver_12 : decode cX3_startOver 12 = .ok (.aload_n 0, 1) := by decide +kernel
theorem dX3_startOver_13 : decode cX3_startOver 13 = .ok (.invokevirtual 36, 3) := by decide +kernel
theorem dX3_startOver_16 : decode cX3_startOver 16 = .ok (.return_, 1) := by decide +kernel
theorem dX3_keepPlace_0 : decode cX3_keepPlace 0 = .ok (.aload_n 0, 1) := by decide +kernel
theorem dX3_keepPlace_1 : decode cX3_keepPlace 1 = .ok (.aload_n 0, 1) := by decide +kernel
theorem dX3_keepPlace_2 : decode cX3_keepPlace 2 = .ok (.getfield 7, 3) := by decide +kernel
theorem dX3_keepPlace_5 : decode cX3_keepPlace 5 = .ok (.putfield 13, 3) := by decide +kernel
theorem dX3_keepPlace_8 : decode cX3_keepPlace 8 = .ok (.aload_n 0, 1) := by decide +kernel
theorem dX3_keepPlace_9 : decode cX3_keepPlace 9 = .ok (.getfield 26, 3) := by decide +kernel
theorem dX3_keepPlace_12 : decode cX3_keepPlace 12 = .ok (.aload_n 0, 1) := by decide +kernel
theorem dX3_keepPlace_13 : decode cX3_keepPlace 13 = .ok (.getfield 22, 3) := by decide +kernel
theorem dX3_keepPlace_16 : decode cX3_keepPlace 16 = .ok (.invokevirtual 29, 3) := by decide +kernel
theorem dX3_keepPlace_19 : decode cX3_keepPlace 19 = .ok (.return_, 1) := by decide +kernel
theorem dX3_returnToConfirmed_0 : decode cX3_returnToConfirmed 0 = .ok (.aload_n 0, 1) := by decide +kernel
theorem dX3_returnToConfirmed_1 : decode cX3_returnToConfirmed 1 = .ok (.aload_n 0, 1) := by decide +kernel
theorem dX3_returnToConfirmed_2 : decode cX3_returnToConfirmed 2 = .ok (.getfield 13, 3) := by decide +kernel
theorem dX3_returnToConfirmed_5 : decode cX3_returnToConfirmed 5 = .ok (.putfield 7, 3) := by decide +kernel
theorem dX3_returnToConfirmed_8 : decode cX3_returnToConfirmed 8 = .ok (.aload_n 0, 1) := by decide +kernel
theorem dX3_returnToConfirmed_9 : decode cX3_returnToConfirmed 9 = .ok (.getfield 22, 3) := by decide +kernel
theorem dX3_returnToConfirmed_12 : decode cX3_returnToConfirmed 12 = .ok (.aload_n 0, 1) := by decide +kernel
theorem dX3_returnToConfirmed_13 : decode cX3_returnToConfirmed 13 = .ok (.getfield 26, 3) := by decide +kernel
theorem dX3_returnToConfirmed_16 : decode cX3_returnToConfirmed 16 = .ok (.invokevirtual 29, 3) := by decide +kernel
theorem dX3_returnToConfirmed_19 : decode cX3_returnToConfirmed 19 = .ok (.return_, 1) := by decide +kernel
theorem dX3_takeOver_0 : decode cX3_takeOver 0 = .ok (.aload_n 0, 1) := by decide +kernel
theorem dX3_takeOver_1 : decode cX3_takeOver 1 = .ok (.aload_n 1, 1) := by decide +kernel
theorem dX3_takeOver_2 : decode cX3_takeOver 2 = .ok (.getfield 39, 3) := by decide +kernel
theorem dX3_takeOver_5 : decode cX3_takeOver 5 = .ok (.putfield 7, 3) := by decide +kernel
theorem dX3_takeOver_8 : decode cX3_takeOver 8 = .ok (.aload_n 0, 1) := by decide +kernel
theorem dX3_takeOver_9 : decode cX3_takeOver 9 = .ok (.getfield 22, 3) := by decide +kernel
theorem dX3_takeOver_12 : decode cX3_takeOver 12 = .ok (.aload_n 1, 1) := by decide +kernel
theorem dX3_takeOver_13 : decode cX3_takeOver 13 = .ok (.getfield 44, 3) := by decide +kernel
theorem dX3_takeOver_16 : decode cX3_takeOver 16 = .ok (.invokevirtual 29, 3) := by decide +kernel
theorem dX3_takeOver_19 : decode cX3_takeOver 19 = .ok (.aload_n 0, 1) := by decide +kernel
theorem dX3_takeOver_20 : decode cX3_takeOver 20 = .ok (.invokevirtual 36, 3) := by decide +kernel
theorem dX3_takeOver_23 : decode cX3_takeOver 23 = .ok (.return_, 1) := by decide +kernel
theorem dX3_readOn_0 : decode cX3_readOn 0 = .ok (.aload_n 1, 1) := by decide +kernel
theorem dX3_readOn_1 : decode cX3_readOn 1 = .ok (.aload_n 0, 1) := by decide +kernel
theorem dX3_readOn_2 : decode cX3_readOn 2 = .ok (.getfield 7, 3) := by decide +kernel
theorem dX3_readOn_5 : decode cX3_readOn 5 = .ok (.invokevirtual 47, 3) := by decide +kernel
theorem dX3_readOn_8 : decode cX3_readOn 8 = .ok (.istore_n 3, 1) := by decide +kernel
theorem dX3_readOn_9 : decode cX3_readOn 9 = .ok (.iload_n 2, 1) := by decide +kernel
theorem dX3_readOn_10 : decode cX3_readOn 10 = .ok (.aload_n 1, 1) := by decide +kernel
theorem dX3_readOn_11 : decode cX3_readOn 11 = .ok (.getfield 53, 3) := by decide +kernel
theorem dX3_readOn_14 : decode cX3_readOn 14 = .ok (.iload_n 3, 1) := by decide +kernel
theorem dX3_readOn_15 : decode cX3_readOn 15 = .ok (.isub, 1) := by decide +kernel
theorem dX3_readOn_16 : decode cX3_readOn 16 = .ok (.invokestatic 56, 3) := by decide +kernel
theorem dX3_readOn_19 : decode cX3_readOn 19 = .ok (.istore 4, 2) := by decide +kernel
theorem dX3_readOn_21 : decode cX3_readOn 21 = .ok (.iload_n 3, 1) := by decide +kernel
theorem dX3_readOn_22 : decode cX3_readOn 22 = .ok (.istore 5, 2) := by decide +kernel
theorem dX3_readOn_24 : decode cX3_readOn 24 = .ok (.iload 5, 2) := by decide +kernel
theorem dX3_readOn_26 : decode cX3_readOn 26 = .ok (.iload_n 3, 1) := by decide +kernel
theorem dX3_readOn_27 : decode cX3_readOn 27 = .ok (.iload 4, 2) := by decide +kernel
theorem dX3_readOn_29 : decode cX3_readOn 29 = .ok (.iadd, 1) := by decide +kernel
theorem dX3_readOn_30 : decode cX3_readOn 30 = .ok (.if_icmp .ge 40, 3) := by decide +kernel
theorem dX3_readOn_33 : decode cX3_readOn 33 = .ok (.aload_n 0, 1) := by decide +kernel
theorem dX3_readOn_34 : decode cX3_readOn 34 = .ok (.getfield 22, 3) := by decide +kernel
theorem dX3_readOn_37 : decode cX3_readOn 37 = .ok (.aload_n 1, 1) := by decide +kernel
theorem dX3_readOn_38 : decode cX3_readOn 38 = .ok (.iload 5, 2) := by decide +kernel
theorem dX3_readOn_40 : decode cX3_readOn 40 = .ok (.invokevirtual 62, 3) := by decide +kernel
theorem dX3_readOn_43 : decode cX3_readOn 43 = .ok (.aload_n 1, 1) := by decide +kernel
theorem dX3_readOn_44 : decode cX3_readOn 44 = .ok (.iload 5, 2) := by decide +kernel
theorem dX3_readOn_46 : decode cX3_readOn 46 = .ok (.invokevirtual 65, 3) := by decide +kernel
theorem dX3_readOn_49 : decode cX3_readOn 49 = .ok (.invokevirtual 68, 3) := by decide +kernel
theorem dX3_readOn_52 : decode cX3_readOn 52 = .ok (.aload_n 0, 1) := by decide +kernel
theorem dX3_readOn_53 : decode cX3_readOn 53 = .ok (.aload_n 1, 1) := by decide +kernel
theorem dX3_readOn_54 : decode cX3_readOn 54 = .ok (.iload 5, 2) := by decide +kernel
theorem dX3_readOn_56 : decode cX3_readOn 56 = .ok (.invokevirtual 72, 3) := by decide +kernel
theorem dX3_readOn_59 : decode cX3_readOn 59 = .ok (.iconst 1, 1) := by decide +kernel
theorem dX3_readOn_60 : decode cX3_readOn 60 = .ok (.iadd, 1) := by decide +kernel
theorem dX3_readOn_61 : decode cX3_readOn 61 = .ok (.putfield 7, 3) := by decide +kernel
theorem dX3_readOn_64 : decode cX3_readOn 64 = .ok (.iinc 5 1, 3) := by decide +kernel
theorem dX3_readOn_67 : decode cX3_readOn 67 = .ok (.goto (-43), 3) := by decide +kernel
theorem dX3_readOn_70 : decode cX3_readOn 70 = .ok (.aload_n 0, 1) := by decide +kernel
theorem dX3_readOn_71 : decode cX3_readOn 71 = .ok (.dup, 1) := by decide +kernel
theorem dX3_readOn_72 : decode cX3_readOn 72 = .ok (.getfield 16, 3) := by decide +kernel
theorem dX3_readOn_75 : decode cX3_readOn 75 = .ok (.iload 4, 2) := by decide +kernel
theorem dX3_readOn_77 : decode cX3_readOn 77 = .ok (.iadd, 1) := by decide +kernel
theorem dX3_readOn_78 : decode cX3_readOn 78 = .ok (.putfield 16, 3) := by decide +kernel
theorem dX3_readOn_81 : decode cX3_readOn 81 = .ok (.iload 4, 2) := by decide +kernel
theorem dX3_readOn_83 : decode cX3_readOn 83 = .ok (.ireturn, 1) := by decide +kernel
theorem dX4_init_0 : decode cX4_init 0 = .ok (.aload_n 0, 1) := by decide +kernel
theorem dX4_init_1 : decode cX4_init 1 = .ok (.invokespecial 1, 3) := by decide +kernel
theorem dX4_init_4 : decode cX4_init 4 = .ok (.aload_n 0, 1) := by decide +kernel
theorem dX4_init_5 : decode cX4_init 5 = .ok (.iconst 0, 1) := by decide +kernel
theorem dX4_init_6 : decode cX4_init 6 = .ok (.putfield 7, 3) := by decide +kernel
theorem dX4_init_9 : decode cX4_init 9 = .ok (.aload_n 0, 1) := by decide +kernel
theorem dX4_init_10 : decode cX4_init 10 = .ok (.new 13, 3) := by decide +kernel
theorem dX4_init_13 : decode cX4_init 13 = .ok (.dup, 1) := by decide +kernel
theorem dX4_init_14 : decode cX4_init 14 = .ok (.invokespecial 15, 3) := by decide +kernel
theorem dX4_init_17 : decode cX4_init 17 = .ok (.putfield 16, 3) := by decide +kernel
theorem dX4_init_20 : decode cX4_init 20 = .ok (.return_, 1) := by decide +kernel
theorem dX5_init_0 : decode cX5_init 0 = .ok (.aload_n 0, 1) := by decide +kernel
theorem dX5_init_1 : decode cX5_init 1 = .ok (.invokespecial 1, 3) := by decide +kernel
theorem dX5_init_4 : decode cX5_init 4 = .ok (.aload_n 0, 1) := by decide +kernel
theorem dX5_init_5 : decode cX5_init 5 = .ok (.iconst 0, 1) := by decide +kernel
theorem dX5_init_6 : decode cX5_init 6 = .ok (.putfield 7, 3) := by decide +kernel
theorem dX5_init_9 : decode cX5_init 9 = .ok (.aload_n 0, 1) := by decide +kernel
theorem dX5_init_10 : decode cX5_init 10 = .ok (.new 13, 3) := by decide +kernel
theorem dX5_init_13 : decode cX5_init 13 = .ok (.dup, 1) := by decide +kernel
theorem dX5_init_14 : decode cX5_init 14 = .ok (.invokespecial 15, 3) := by decide +kernel
theorem dX5_init_17 : decode cX5_init 17 = .ok (.putfield 16, 3) := by decide +kernel
theorem dX5_init_20 : decode cX5_init 20 = .ok (.return_, 1) := by decide +kernel
theorem dX5_copyFrom_0 : decode cX5_copyFrom 0 = .ok (.aload_n 0, 1) := by decide +kernel
theorem dX5_copyFrom_1 : decode cX5_copyFrom 1 = .ok (.aload_n 1, 1) := by decide +kernel
theorem dX5_copyFrom_2 : decode cX5_copyFrom 2 = .ok (.getfield 7, 3) := by decide +kernel
theorem dX5_copyFrom_5 : decode cX5_copyFrom 5 = .ok (.putfield 7, 3) := by decide +kernel
theorem dX5_copyFrom_8 : decode cX5_copyFrom 8 = .ok (.aload_n 0, 1) := by decide +kernel
theorem dX5_copyFrom_9 : decode cX5_copyFrom 9 = .ok (.getfield 16, 3) := by decide +kernel
theorem dX5_copyFrom_12 : decode cX5_copyFrom 12 = .ok (.aload_n 1, 1) := by decide +kernel
theorem dX5_copyFrom_13 : decode cX5_copyFrom 13 = .ok (.getfield 16, 3) := by decide +kernel
theorem dX5_copyFrom_16 : decode cX5_copyFrom 16 = .ok (.invokevirtual 20, 3) := by decide +kernel
theorem dX5_copyFrom_19 : decode cX5_copyFrom 19 = .ok (.return_, 1) := by decide +kernel
theorem dX6_init_0 : decode cX6_init 0 = .ok (.aload_n 0, 1) := by decide +kernel
theorem dX6_init_1 : decode cX6_init 1 = .ok (.invokespecial 3, 3) := by decide +kernel
theorem dX6_init_4 : decode cX6_init 4 = .ok (.aload_n 0, 1) := by decide +kernel
theorem dX6_init_5 : decode cX6_init 5 = .ok (.iconst 5, 1) := by decide +kernel
theorem dX6_init_6 : decode cX6_init 6 = .ok (.putfield 9, 3) := by decide +kernel
theorem dX6_init_9 : decode cX6_init 9 = .ok (.aload_n 0, 1) := by decide +kernel
theorem dX6_init_10 : decode cX6_init 10 = .ok (.bipush 30, 2) := by decide +kernel
theorem dX6_init_12 : decode cX6_init 12 = .ok (.putfield 15, 3) := by decide +kernel
theorem dX6_init_15 : decode cX6_init 15 = .ok (.aload_n 0, 1) := by decide +kernel
theorem dX6_init_16 : decode cX6_init 16 = .ok (.iconst 0, 1) := by decide +kernel
theorem dX6_init_17 : decode cX6_init 17 = .ok (.putfield 18, 3) := by decide +kernel
theorem dX6_init_20 : decode cX6_init 20 = .ok (.aload_n 0, 1) := by decide +kernel
theorem dX6_init_21 : decode cX6_init 21 = .ok (.iconst 0, 1) := by decide +kernel
theorem dX6_init_22 : decode cX6_init 22 = .ok (.putfield 21, 3) := by decide +kernel
theorem dX6_init_25 : decode cX6_init 25 = .ok (.aload_n 0, 1) := by decide +kernel
theorem dX6_init_26 : decode cX6_init 26 = .ok (.iconst 0, 1) := by decide +kernel
theorem dX6_init_27 : decode cX6_init 27 = .ok (.putfield 24, 3) := by decide +kernel
theorem dX6_init_30 : decode cX6_init 30 = .ok (.aload_n 0, 1) := by decide +kernel
theorem dX6_init_31 : decode cX6_init 31 = .ok (.new 27, 3) := by decide +kernel
theorem dX6_init_34 : decode cX6_init 34 = .ok (.dup, 1) := by decide +kernel
theorem dX6_init_35 : decode cX6_init 35 = .ok (.invokespecial 29, 3) := by decide +kernel
theorem dX6_init_38 : decode cX6_init 38 = .ok (.putfield 30, 3) := by decide +kernel
theorem dX6_init_41 : decode cX6_init 41 = .ok (.aload_n 0, 1) := by decide +kernel
theorem dX6_init_42 : decode cX6_init 42 = .ok (.new 34, 3) := by decide +kernel
theorem dX6_init_45 : decode cX6_init 45 = .ok (.dup, 1) := by decide +kernel
theorem dX6_init_46 : decode cX6_init 46 = .ok (.invokespecial 36, 3) := by decide +kernel
theorem dX6_init_49 : decode cX6_init 49 = .ok (.putfield 37, 3) := by decide +kernel
theorem dX6_init_52 : decode cX6_init 52 = .ok (.aload_n 0, 1) := by decide +kernel
theorem dX6_init_53 : decode cX6_init 53 = .ok (.bipush 6, 2) := by decide +kernel
theorem dX6_init_55 : decode cX6_init 55 = .ok (.anewarray 41, 3) := by decide +kernel
theorem dX6_init_58 : decode cX6_init 58 = .ok (.putfield 43, 3) := by decide +kernel
theorem dX6_init_61 : decode cX6_init 61 = .ok (.aload_n 0, 1) := by decide +kernel
theorem dX6_init_62 : decode cX6_init 62 = .ok (.iconst 4, 1) := by decide +kernel
theorem dX6_init_63 : decode cX6_init 63 = .ok (.anewarray 47, 3) := by decide +kernel
theorem dX6_init_66 : decode cX6_init 66 = .ok (.putfield 49, 3) := by decide +kernel
theorem dX6_init_69 : decode cX6_init 69 = .ok (.iconst 0, 1) := by decide +kernel
theorem dX6_init_70 : decode cX6_init 70 = .ok (.istore_n 1, 1) := by decide +kernel
theorem dX6_init_71 : decode cX6_init 71 = .ok (.iload_n 1, 1) := by decide +kernel
theorem dX6_init_72 : decode cX6_init 72 = .ok (.aload_n 0, 1) := by decide +kernel
theorem dX6_init_73 : decode cX6_init 73 = .ok (.getfield 43, 3) := by decide +kernel
theorem dX6_init_76 : decode cX6_init 76 = .ok (.arraylength, 1) := by decide +kernel
theorem dX6_init_77 : decode cX6_init 77 = .ok (.if_icmp .ge 22, 3) := by decide +kernel
theorem dX6_init_80 : decode cX6_init 80 = .ok (.aload_n 0, 1) := by decide +kernel
theorem dX6_init_81 : decode cX6_init 81 = .ok (.getfield 43, 3) := by decide +kernel
theorem dX6_init_84 : decode cX6_init 84 = .ok (.iload_n 1, 1) := by decide +kernel
theorem dX6_init_85 : decode cX6_init 85 = .ok (.new 41, 3) := by decide +kernel
theorem dX6_init_88 : decode cX6_init 88 = .ok (.dup, 1) := by decide +kernel
theorem dX6_init_89 : decode cX6_init 89 = .ok (.invokespecial 53, 3) := by decide +kernel
theorem dX6_init_92 : decode cX6_init 92 = .ok (.aastore, 1) := by decide +kernel
theorem dX6_init_93 : decode cX6_init 93 = .ok (.iinc 1 1, 3) := by decide +kernel
theorem dX6_init_96 : decode cX6_init 96 = .ok (.goto (-25), 3) := by decide +kernel
theorem dX6_init_99 : decode cX6_init 99 = .ok (.iconst 0, 1) := by decide +kernel
theorem dX6_init_100 : decode cX6_init 100 = .ok (.istore_n 1, 1) := by decide +kernel
theorem dX6_init_101 : decode cX6_init 101 = .ok (.iload_n 1, 1) := by decide +kernel
theorem dX6_init_102 : decode cX6_init 102 = .ok (.aload_n 0, 1) := by decide +kernel
theorem dX6_init_103 : decode cX6_init 103 = .ok (.getfield 49, 3) := by decide +kernel
theorem dX6_init_106 : decode cX6_init 106 = .ok (.arraylength, 1) := by decide +kernel
theorem dX6_init_107 : decode cX6_init 107 = .ok (.if_icmp .ge 22, 3) := by decide +kernel
theorem dX6_init_110 : decode cX6_init 110 = .ok (.aload_n 0, 1) := by decide +kernel
theorem dX6_init_111 : decode cX6_init 111 = .ok (.getfield 49, 3) := by decide +kernel
theorem dX6_init_114 : decode cX6_init 114 = .ok (.iload_n 1, 1) := by decide +kernel
theorem dX6_init_115 : decode cX6_init 115 = .ok (.new 47, 3) := by decide +kernel
theorem dX6_init_118 : decode cX6_init 118 = .ok (.dup, 1) := by decide +kernel
theorem dX6_init_119 : decode cX6_init 119 = .ok (.invokespecial 54, 3) := by decide +kernel
theorem dX6_init_122 : decode cX6_init 122 = .ok (.aastore, 1) := by decide +kernel
theorem dX6_init_123 : decode cX6_init 123 = .ok (.iinc 1 1, 3) := by decide +kernel
theorem dX6_init_126 : decode cX6_init 126 = .ok (.goto (-25), 3) := by decide +kernel
theorem dX6_init_129 : decode cX6_init 129 = .ok (.return_, 1) := by decide +kernel
theorem dX6_copyFrom_0 : decode cX6_copyFrom 0 = .ok (.aload_n 0, 1) := by decide +kernel
theorem dX6_copyFrom_1 : decode cX6_copyFrom 1 = .ok (.aload_n 1, 1) := by decide +kernel
theorem dX6_copyFrom_2 : decode cX6_copyFrom 2 = .ok (.getfield 9, 3) := by decide +kernel
theorem dX6_copyFrom_5 : decode cX6_copyFrom 5 = .ok (.putfield 9, 3) := by decide +kernel
theorem dX6_copyFrom_8 : decode cX6_copyFrom 8 = .ok (.aload_n 0, 1) := by decide +kernel
theorem dX6_copyFrom_9 : decode cX6_copyFrom 9 = .ok (.aload_n 1, 1) := by decide +kernel
theorem dX6_copyFrom_10 : decode cX6_copyFrom 10 = .ok (.getfield 15, 3) := by decide +kernel
theorem dX6_copyFrom_13 : decode cX6_copyFrom 13 = .ok (.putfield 15, 3) := by decide +kernel
theorem dX6_copyFrom_16 : decode cX6_copyFrom 16 = .ok (.aload_n 0, 1) := by decide +kernel
theorem dX6_copyFrom_17 : decode cX6_copyFrom 17 = .ok (.aload_n 1, 1) := by decide +kernel
theorem dX6_copyFrom_18 : decode cX6_copyFrom 18 = .ok (.getfield 18, 3) := by decide +kernel
theorem dX6_copyFrom_21 : decode cX6_copyFrom 21 = .ok (.putfield 18, 3) := by decide +kernel
theorem dX6_copyFrom_24 : decode cX6_copyFrom 24 = .ok (.aload_n 0, 1) := by decide +kernel
theorem dX6_copyFrom_25 : decode cX6_copyFrom 25 = .ok (.aload_n 1, 1) := by decide +kernel
theorem dX6_copyFrom_26 : decode cX6_copyFrom 26 = .ok (.getfield 21, 3) := by decide +kernel
theorem dX6_copyFrom_29 : decode cX6_copyFrom 29 = .ok (.putfield 21, 3) := by decide +kernel
theorem dX6_copyFrom_32 : decode cX6_copyFrom 32 = .ok (.aload_n 0, 1) := by decide +kernel
theorem dX6_copyFrom_33 : decode cX6_copyFrom 33 = .ok (.aload_n 1, 1) := by decide +kernel
theorem dX6_copyFrom_34 : decode cX6_copyFrom 34 = .ok (.getfield 24, 3) := by decide +kernel
theorem dX6_copyFrom_37 : decode cX6_copyFrom 37 = .ok (.putfield 24, 3) := by decide +kernel
theorem dX6_copyFrom_40 : decode cX6_copyFrom 40 = .ok (.aload_n 0, 1) := by decide +kernel
theorem dX6_copyFrom_41 : decode cX6_copyFrom 41 = .ok (.getfield 30, 3) := by decide +kernel
theorem dX6_copyFrom_44 : decode cX6_copyFrom 44 = .ok (.aload_n 1, 1) := by decide +kernel
theorem dX6_copyFrom_45 : decode cX6_copyFrom 45 = .ok (.getfield 30, 3) := by decide +kernel
theorem dX6_copyFrom_48 : decode cX6_copyFrom 48 = .ok (.invokevirtual 55, 3) := by decide +kernel
theorem dX6_copyFrom_51 : decode cX6_copyFrom 51 = .ok (.aload_n 0, 1) := by decide +kernel
theorem dX6_copyFrom_52 : decode cX6_copyFrom 52 = .ok (.getfield 37, 3) := by decide +kernel
theorem dX6_copyFrom_55 : decode cX6_copyFrom 55 = .ok (.aload_n 1, 1) := by decide +kernel
theorem dX6_copyFrom_56 : decode cX6_copyFrom 56 = .ok (.getfield 37, 3) := by decide +kernel
theorem dX6_copyFrom_59 : decode cX6_copyFrom 59 = .ok (.invokevirtual 59, 3) := by decide +kernel
theorem dX6_copyFrom_62 : decode cX6_copyFrom 62 = .ok (.iconst 0, 1) := by decide +kernel
theorem dX6_copyFrom_63 : decode cX6_copyFrom 63 = .ok (.istore_n 2, 1) := by decide +kernel
theorem dX6_copyFrom_64 : decode cX6_copyFrom 64 = .ok (.iload_n 2, 1) := by decide +kernel
theorem dX6_copyFrom_65 : decode cX6_copyFrom 65 = .ok (.aload_n 0, 1) := by decide +kernel
theorem dX6_copyFrom_66 : decode cX6_copyFrom 66 = .ok (.getfield 21, 3) := by decide +kernel
theorem dX6_copyFrom_69 : decode cX6_copyFrom 69 = .ok (.if_icmp .ge 37, 3) := by decide +kernel
theorem dX6_copyFrom_72 : decode cX6_copyFrom 72 = .ok (.aload_n 0, 1) := by decide +kernel
theorem dX6_copyFrom_73 : decode cX6_copyFrom 73 = .ok (.iload_n 2, 1) := by decide +kernel
theorem dX6_copyFrom_74 : decode cX6_copyFrom 74 = .ok (.invokevirtual 62, 3) := by decide +kernel
theorem dX6_copyFrom_77 : decode cX6_copyFrom 77 = .ok (.astore_n 3, 1) := by decide +kernel
theorem dX6_copyFrom_78 : decode cX6_copyFrom 78 = .ok (.aload_n 1, 1) := by decide +kernel
theorem dX6_copyFrom_79 : decode cX6_copyFrom 79 = .ok (.iload_n 2, 1) := by decide +kernel
theorem dX6_copyFrom_80 : decode cX6_copyFrom 80 = .ok (.invokevirtual 62, 3) := by decide +kernel
theorem dX6_copyFrom_83 : decode cX6_copyFrom 83 = .ok (.astore 4, 2) := by decide +kernel
theorem dX6_copyFrom_85 : decode cX6_copyFrom 85 = .ok (.aload_n 3, 1) := by decide +kernel
theorem dX6_copyFrom_86 : decode cX6_copyFrom 86 = .ok (.ifnull 14, 3) := by decide +kernel
theorem dX6_copyFrom_89 : decode cX6_copyFrom 89 = .ok (.aload 4, 2) := by decide +kernel
theorem dX6_copyFrom_91 : decode cX6_copyFrom 91 = .ok (.ifnull 9, 3) := by decide +kernel
theorem dX6_copyFrom_94 : decode cX6_copyFrom 94 = .ok (.aload_n 3, 1) := by decide +kernel
theorem dX6_copyFrom_95 : decode cX6_copyFrom 95 = .ok (.aload 4, 2) := by decide +kernel
theorem dX6_copyFrom_97 : decode cX6_copyFrom 97 = .ok (.invokevirtual 66, 3) := by decide +kernel
theorem dX6_copyFrom_100 : decode cX6_copyFrom 100 = .ok (.iinc 2 1, 3) := by decide +kernel
theorem dX6_copyFrom_103 : decode cX6_copyFrom 103 = .ok (.goto (-39), 3) := by decide +kernel
theorem dX6_copyFrom_106 : decode cX6_copyFrom 106 = .ok (.iconst 0, 1) := by decide +kernel
theorem dX6_copyFrom_107 : decode cX6_copyFrom 107 = .ok (.istore_n 2, 1) := by decide +kernel
theorem dX6_copyFrom_108 : decode cX6_copyFrom 108 = .ok (.iload_n 2, 1) := by decide +kernel
theorem dX6_copyFrom_109 : decode cX6_copyFrom 109 = .ok (.aload_n 0, 1) := by decide +kernel
theorem dX6_copyFrom_110 : decode cX6_copyFrom 110 = .ok (.getfield 24, 3) := by decide +kernel
theorem dX6_copyFrom_113 : decode cX6_copyFrom 113 = .ok (.if_icmp .ge 22, 3) := by decide +kernel
theorem dX6_copyFrom_116 : decode cX6_copyFrom 116 = .ok (.aload_n 1, 1) := by decide +kernel
theorem dX6_copyFrom_117 : decode cX6_copyFrom 117 = .ok (.iload_n 2, 1) := by decide +kernel
theorem dX6_copyFrom_118 : decode cX6_copyFrom 118 = .ok (.invokevirtual 69, 3) := by decide +kernel
theorem dX6_copyFrom_121 : decode cX6_copyFrom 121 = .ok (.aload_n 0, 1) := by decide +kernel
theorem dX6_copyFrom_122 : decode cX6_copyFrom 122 = .ok (.iload_n 2, 1) := by decide +kernel
theorem dX6_copyFrom_123 : decode cX6_copyFrom 123 = .ok (.invokevirtual 69, 3) := by decide +kernel
theorem dX6_copyFrom_126 : decode cX6_copyFrom 126 = .ok (.invokestatic 73, 3) := by decide +kernel
theorem dX6_copyFrom_129 : decode cX6_copyFrom 129 = .ok (.iinc 2 1, 3) := by decide +kernel
theorem dX6_copyFrom_132 : decode cX6_copyFrom 132 = .ok (.goto (-24), 3) := by decide +kernel
theorem dX6_copyFrom_135 : decode cX6_copyFrom 135 = .ok (.return_, 1) := by decide +kernel
theorem dX6_copySnapshot_0 : decode cX6_copySnapshot 0 = .ok (.aload_n 0, 1) := by decide +kernel
theorem dX6_copySnapshot_1 : decode cX6_copySnapshot 1 = .ok (.ifnull 12, 3) := by decide +kernel
theorem dX6_copySnapshot_4 : decode cX6_copySnapshot 4 = .ok (.aload_n 1, 1) := by decide +kernel
theorem dX6_copySnapshot_5 : decode cX6_copySnapshot 5 = .ok (.ifnull 8, 3) := by decide +kernel
theorem dX6_copySnapshot_8 : decode cX6_copySnapshot 8 = .ok (.aload_n 1, 1) := by decide +kernel
theorem dX6_copySnapshot_9 : decode cX6_copySnapshot 9 = .ok (.aload_n 0, 1) := by decide +kernel
theorem dX6_copySnapshot_10 : decode cX6_copySnapshot 10 = .ok (.invokevirtual 77, 3) := by decide +kernel
theorem dX6_copySnapshot_13 : decode cX6_copySnapshot 13 = .ok (.return_, 1) := by decide +kernel
theorem dX6_readerAt_0 : decode cX6_readerAt 0 = .ok (.iload_n 1, 1) := by decide +kernel
theorem dX6_readerAt_1 : decode cX6_readerAt 1 = .ok (.ifCond .lt 20, 3) := by decide +kernel
theorem dX6_readerAt_4 : decode cX6_readerAt 4 = .ok (.iload_n 1, 1) := by decide +kernel
theorem dX6_readerAt_5 : decode cX6_readerAt 5 = .ok (.aload_n 0, 1) := by decide +kernel
theorem dX6_readerAt_6 : decode cX6_readerAt 6 = .ok (.getfield 21, 3) := by decide +kernel
theorem dX6_readerAt_9 : decode cX6_readerAt 9 = .ok (.if_icmp .ge 12, 3) := by decide +kernel
theorem dX6_readerAt_12 : decode cX6_readerAt 12 = .ok (.iload_n 1, 1) := by decide +kernel
theorem dX6_readerAt_13 : decode cX6_readerAt 13 = .ok (.aload_n 0, 1) := by decide +kernel
theorem dX6_readerAt_14 : decode cX6_readerAt 14 = .ok (.getfield 43, 3) := by decide +kernel
theorem dX6_readerAt_17 : decode cX6_readerAt 17 = .ok (.arraylength, 1) := by decide +kernel
theorem dX6_readerAt_18 : decode cX6_readerAt 18 = .ok (.if_icmp .lt 7, 3) := by decide +kernel
theorem dX6_readerAt_21 : decode cX6_readerAt 21 = .ok (.aconst_null, 1) := by decide +kernel
theorem dX6_readerAt_22 : decode cX6_readerAt 22 = .ok (.goto 9, 3) := by decide +kernel
theorem dX6_readerAt_25 : decode cX6_readerAt 25 = .ok (.aload_n 0, 1) := by decide +kernel
theorem dX6_readerAt_26 : decode cX6_readerAt 26 = .ok (.getfield 43, 3) := by decide +kernel
theorem dX6_readerAt_29 : decode cX6_readerAt 29 = .ok (.iload_n 1, 1) := by decide +kernel
theorem dX6_readerAt_30 : decode cX6_readerAt 30 = .ok (.aaload, 1) := by decide +kernel
theorem dX6_readerAt_31 : decode cX6_readerAt 31 = .ok (.areturn, 1) := by decide +kernel
theorem dX6_snapshotAt_0 : decode cX6_snapshotAt 0 = .ok (.iload_n 1, 1) := by decide +kernel
theorem dX6_snapshotAt_1 : decode cX6_snapshotAt 1 = .ok (.ifCond .lt 20, 3) := by decide +kernel
theorem dX6_snapshotAt_4 : decode cX6_snapshotAt 4 = .ok (.iload_n 1, 1) := by decide +kernel
theorem dX6_snapshotAt_5 : decode cX6_snapshotAt 5 = .ok (.aload_n 0, 1) := by decide +kernel
theorem dX6_snapshotAt_6 : decode cX6_snapshotAt 6 = .ok (.getfield 24, 3) := by decide +kernel
theorem dX6_snapshotAt_9 : decode cX6_snapshotAt 9 = .ok (.if_icmp .ge 12, 3) := by decide +kernel
theorem dX6_snapshotAt_12 : decode cX6_snapshotAt 12 = .ok (.iload_n 1, 1) := by decide +kernel
theorem dX6_snapshotAt_13 : decode cX6_snapshotAt 13 = .ok (.aload_n 0, 1) := by decide +kernel
theorem dX6_snapshotAt_14 : decode cX6_snapshotAt 14 = .ok (.getfield 49, 3) := by decide +kernel
theorem dX6_snapshotAt_17 : decode cX6_snapshotAt 17 = .ok (.arraylength, 1) := by decide +kernel
theorem dX6_snapshotAt_18 : decode cX6_snapshotAt 18 = .ok (.if_icmp .lt 7, 3) := by decide +kernel
theorem dX6_snapshotAt_21 : decode cX6_snapshotAt 21 = .ok (.aconst_null, 1) := by decide +kernel
theorem dX6_snapshotAt_22 : decode cX6_snapshotAt 22 = .ok (.goto 9, 3) := by decide +kernel
theorem dX6_snapshotAt_25 : decode cX6_snapshotAt 25 = .ok (.aload_n 0, 1) := by decide +kernel
theorem dX6_snapshotAt_26 : decode cX6_snapshotAt 26 = .ok (.getfield 49, 3) := by decide +kernel
theorem dX6_snapshotAt_29 : decode cX6_snapshotAt 29 = .ok (.iload_n 1, 1) := by decide +kernel
theorem dX6_snapshotAt_30 : decode cX6_snapshotAt 30 = .ok (.aaload, 1) := by decide +kernel
theorem dX6_snapshotAt_31 : decode cX6_snapshotAt 31 = .ok (.areturn, 1) := by decide +kernel
theorem dX6_turnSetting_0 : decode cX6_turnSetting 0 = .ok (.iload_n 1, 1) := by decide +kernel
theorem dX6_turnSetting_1 : decode cX6_turnSetting 1 = .ok (.ifCond .ne 27, 3) := by decide +kernel
theorem dX6_turnSetting_4 : decode cX6_turnSetting 4 = .ok (.iload_n 2, 1) := by decide +kernel
theorem dX6_turnSetting_5 : decode cX6_turnSetting 5 = .ok (.iconst 1, 1) := by decide +kernel
theorem dX6_turnSetting_6 : decode cX6_turnSetting 6 = .ok (.if_icmp .lt 22, 3) := by decide +kernel
theorem dX6_turnSetting_9 : decode cX6_turnSetting 9 = .ok (.iload_n 2, 1) := by decide +kernel
theorem dX6_turnSetting_10 : decode cX6_turnSetting 10 = .ok (.bipush 20, 2) := by decide +kernel
theorem dX6_turnSetting_12 : decode cX6_turnSetting 12 = .ok (.if_icmp .gt 16, 3) := by decide +kernel
theorem dX6_turnSetting_15 : decode cX6_turnSetting 15 = .ok (.aload_n 0, 1) := by decide +kernel
theorem dX6_turnSetting_16 : decode cX6_turnSetting 16 = .ok (.getfield 9, 3) := by decide +kernel
theorem dX6_turnSetting_19 : decode cX6_turnSetting 19 = .ok (.istore_n 3, 1) := by decide +kernel
theorem dX6_turnSetting_20 : decode cX6_turnSetting 20 = .ok (.aload_n 0, 1) := by decide +kernel
theorem dX6_turnSetting_21 : decode cX6_turnSetting 21 = .ok (.iload_n 2, 1) := by decide +kernel
theorem dX6_turnSetting_22 : decode cX6_turnSetting 22 = .ok (.putfield 9, 3) := by decide +kernel
theorem dX6_turnSetting_25 : decode cX6_turnSetting 25 = .ok (.goto 31, 3) := by decide +kernel
theorem dX6_turnSetting_28 : decode cX6_turnSetting 28 = .ok (.iload_n 1, 1) := by decide +kernel
theorem dX6_turnSetting_29 : decode cX6_turnSetting 29 = .ok (.iconst 1, 1) := by decide +kernel
theorem dX6_turnSetting_30 : decode cX6_turnSetting 30 = .ok (.if_icmp .ne 23, 3) := by decide +kernel
theorem dX6_turnSetting_33 : decode cX6_turnSetting 33 = .ok (.iload_n 2, 1) := by decide +kernel
theorem dX6_turnSetting_34 : decode cX6_turnSetting 34 = .ok (.invokestatic 80, 3) := by decide +kernel
theorem dX6_turnSetting_37 : decode cX6_turnSetting 37 = .ok (.ifCond .eq 16, 3) := by decide +kernel
theorem dX6_turnSetting_40 : decode cX6_turnSetting 40 = .ok (.aload_n 0, 1) := by decide +kernel
theorem dX6_turnSetting_41 : decode cX6_turnSetting 41 = .ok (.getfield 15, 3) := by decide +kernel
theorem dX6_turnSetting_44 : decode cX6_turnSetting 44 = .ok (.istore_n 3, 1) := by decide +kernel
theorem dX6_turnSetting_45 : decode cX6_turnSetting 45 = .ok (.aload_n 0, 1) := by decide +kernel
theorem dX6_turnSetting_46 : decode cX6_turnSetting 46 = .ok (.iload_n 2, 1) := by decide +kernel
theorem dX6_turnSetting_47 : decode cX6_turnSetting 47 = .ok (.putfield 15, 3) := by decide +kernel
theorem dX6_turnSetting_50 : decode cX6_turnSetting 50 = .ok (.goto 6, 3) := by decide +kernel
theorem dX6_turnSetting_53 : decode cX6_turnSetting 53 = .ok (.bipush (-2), 2) := by decide +kernel
theorem dX6_turnSetting_55 : decode cX6_turnSetting 55 = .ok (.istore_n 3, 1) := by decide +kernel
theorem dX6_turnSetting_56 : decode cX6_turnSetting 56 = .ok (.iload_n 3, 1) := by decide +kernel
theorem dX6_turnSetting_57 : decode cX6_turnSetting 57 = .ok (.ireturn, 1) := by decide +kernel
theorem dX6_setKey_0 : decode cX6_setKey 0 = .ok (.iload_n 1, 1) := by decide +kernel
theorem dX6_setKey_1 : decode cX6_setKey 1 = .ok (.invokestatic 84, 3) := by decide +kernel
theorem dX6_setKey_4 : decode cX6_setKey 4 = .ok (.ifCond .ne 5, 3) := by decide +kernel
theorem dX6_setKey_7 : decode cX6_setKey 7 = .ok (.iconst (-1), 1) := by decide +kernel
theorem dX6_setKey_8 : decode cX6_setKey 8 = .ok (.ireturn, 1) := by decide +kernel
theorem dX6_setKey_9 : decode cX6_setKey 9 = .ok (.iload_n 2, 1) := by decide +kernel
theorem dX6_setKey_10 : decode cX6_setKey 10 = .ok (.invokestatic 80, 3) := by decide +kernel
theorem dX6_setKey_13 : decode cX6_setKey 13 = .ok (.ifCond .ne 6, 3) := by decide +kernel
theorem dX6_setKey_16 : decode cX6_setKey 16 = .ok (.bipush (-2), 2) := by decide +kernel
theorem dX6_setKey_18 : decode cX6_setKey 18 = .ok (.ireturn, 1) := by decide +kernel
theorem dX6_setKey_19 : decode cX6_setKey 19 = .ok (.aload_n 0, 1) := by decide +kernel
theorem dX6_setKey_20 : decode cX6_setKey 20 = .ok (.getfield 37, 3) := by decide +kernel
theorem dX6_setKey_23 : decode cX6_setKey 23 = .ok (.invokevirtual 87, 3) := by decide +kernel
theorem dX6_setKey_26 : decode cX6_setKey 26 = .ok (.ifCond .eq 6, 3) := by decide +kernel
theorem dX6_setKey_29 : decode cX6_setKey 29 = .ok (.bipush (-4), 2) := by decide +kernel
theorem dX6_setKey_31 : decode cX6_setKey 31 = .ok (.ireturn, 1) := by decide +kernel
theorem dX6_setKey_32 : decode cX6_setKey 32 = .ok (.aload_n 0, 1) := by decide +kernel
theorem dX6_setKey_33 : decode cX6_setKey 33 = .ok (.getfield 30, 3) := by decide +kernel
theorem dX6_setKey_36 : decode cX6_setKey 36 = .ok (.iload_n 1, 1) := by decide +kernel
theorem dX6_setKey_37 : decode cX6_setKey 37 = .ok (.iload_n 2, 1) := by decide +kernel
theorem dX6_setKey_38 : decode cX6_setKey 38 = .ok (.invokevirtual 91, 3) := by decide +kernel
theorem dX6_setKey_41 : decode cX6_setKey 41 = .ok (.aload_n 0, 1) := by decide +kernel
theorem dX6_setKey_42 : decode cX6_setKey 42 = .ok (.getfield 37, 3) := by decide +kernel
theorem dX6_setKey_45 : decode cX6_setKey 45 = .ok (.iload_n 1, 1) := by decide +kernel
theorem dX6_setKey_46 : decode cX6_setKey 46 = .ok (.iload_n 2, 1) := by decide +kernel
theorem dX6_setKey_47 : decode cX6_setKey 47 = .ok (.aload_n 0, 1) := by decide +kernel
theorem dX6_setKey_48 : decode cX6_setKey 48 = .ok (.getfield 18, 3) := by decide +kernel
theorem dX6_setKey_51 : decode cX6_setKey 51 = .ok (.invokevirtual 95, 3) := by decide +kernel
theorem dX6_setKey_54 : decode cX6_setKey 54 = .ok (.ireturn, 1) := by decide +kernel
theorem dX6_removeKey_0 : decode cX6_removeKey 0 = .ok (.iload_n 1, 1) := by decide +kernel
theorem dX6_removeKey_1 : decode cX6_removeKey 1 = .ok (.invokestatic 84, 3) := by decide +kernel
theorem dX6_removeKey_4 : decode cX6_removeKey 4 = .ok (.ifCond .ne 5, 3) := by decide +kernel
theorem dX6_removeKey_7 : decode cX6_removeKey 7 = .ok (.iconst (-1), 1) := by decide +kernel
theorem dX6_removeKey_8 : decode cX6_removeKey 8 = .ok (.ireturn, 1) := by decide +kernel
theorem dX6_removeKey_9 : decode cX6_removeKey 9 = .ok (.aload_n 0, 1) := by decide +kernel
theorem dX6_removeKey_10 : decode cX6_removeKey 10 = .ok (.getfield 37, 3) := by decide +kernel
theorem dX6_removeKey_13 : decode cX6_removeKey 13 = .ok (.invokevirtual 87, 3) := by decide +kernel
theorem dX6_removeKey_16 : decode cX6_removeKey 16 = .ok (.ifCond .eq 6, 3) := by decide +kernel
theorem dX6_removeKey_19 : decode cX6_removeKey 19 = .ok (.bipush (-4), 2) := by decide +kernel
theorem dX6_removeKey_21 : decode cX6_removeKey 21 = .ok (.ireturn, 1) := by decide +kernel
theorem dX6_removeKey_22 : decode cX6_removeKey 22 = .ok (.aload_n 0, 1) := by decide +kernel
theorem dX6_removeKey_23 : decode cX6_removeKey 23 = .ok (.getfield 30, 3) := by decide +kernel
theorem dX6_removeKey_26 : decode cX6_removeKey 26 = .ok (.iload_n 1, 1) := by decide +kernel
theorem dX6_removeKey_27 : decode cX6_removeKey 27 = .ok (.invokevirtual 99, 3) := by decide +kernel
theorem dX6_removeKey_30 : decode cX6_removeKey 30 = .ok (.bipush (-6), 2) := by decide +kernel
theorem dX6_removeKey_32 : decode cX6_removeKey 32 = .ok (.if_icmp .ne 6, 3) := by decide +kernel
theorem dX6_removeKey_35 : decode cX6_removeKey 35 = .ok (.bipush (-5), 2) := by decide +kernel
theorem dX6_removeKey_37 : decode cX6_removeKey 37 = .ok (.ireturn, 1) := by decide +kernel
theorem dX6_removeKey_38 : decode cX6_removeKey 38 = .ok (.aload_n 0, 1) := by decide +kernel
theorem dX6_removeKey_39 : decode cX6_removeKey 39 = .ok (.getfield 30, 3) := by decide +kernel
theorem dX6_removeKey_42 : decode cX6_removeKey 42 = .ok (.iload_n 1, 1) := by decide +kernel
theorem dX6_removeKey_43 : decode cX6_removeKey 43 = .ok (.bipush (-6), 2) := by decide +kernel
theorem dX6_removeKey_45 : decode cX6_removeKey 45 = .ok (.invokevirtual 91, 3) := by decide +kernel
theorem dX6_removeKey_48 : decode cX6_removeKey 48 = .ok (.aload_n 0, 1) := by decide +kernel
theorem dX6_removeKey_49 : decode cX6_removeKey 49 = .ok (.getfield 37, 3) := by decide +kernel
theorem dX6_removeKey_52 : decode cX6_removeKey 52 = .ok (.iload_n 1, 1) := by decide +kernel
theorem dX6_removeKey_53 : decode cX6_removeKey 53 = .ok (.bipush (-6), 2) := by decide +kernel
theorem dX6_removeKey_55 : decode cX6_removeKey 55 = .ok (.aload_n 0, 1) := by decide +kernel
theorem dX6_removeKey_56 : decode cX6_removeKey 56 = .ok (.getfield 18, 3) := by decide +kernel
theorem dX6_removeKey_59 : decode cX6_removeKey 59 = .ok (.invokevirtual 95, 3) := by decide +kernel
theorem dX6_removeKey_62 : decode cX6_removeKey 62 = .ok (.ireturn, 1) := by decide +kernel
theorem dX6_letPass_0 : decode cX6_letPass 0 = .ok (.iload_n 1, 1) := by decide +kernel
theorem dX6_letPass_1 : decode cX6_letPass 1 = .ok (.iconst 1, 1) := by decide +kernel
theorem dX6_letPass_2 : decode cX6_letPass 2 = .ok (.if_icmp .lt 10, 3) := by decide +kernel
theorem dX6_letPass_5 : decode cX6_letPass 5 = .ok (.iload_n 1, 1) := by decide +kernel
theorem dX6_letPass_6 : decode cX6_letPass 6 = .ok (.invokestatic 80, 3) := by decide +kernel
theorem dX6_letPass_9 : decode cX6_letPass 9 = .ok (.ifCond .ne 6, 3) := by decide +kernel
theorem dX6_letPass_12 : decode cX6_letPass 12 = .ok (.bipush (-2), 2) := by decide +kernel
theorem dX6_letPass_14 : decode cX6_letPass 14 = .ok (.ireturn, 1) := by decide +kernel
theorem dX6_letPass_15 : decode cX6_letPass 15 = .ok (.aload_n 0, 1) := by decide +kernel
theorem dX6_letPass_16 : decode cX6_letPass 16 = .ok (.getfield 18, 3) := by decide +kernel
theorem dX6_letPass_19 : decode cX6_letPass 19 = .ok (.iload_n 1, 1) := by decide +kernel
theorem dX6_letPass_20 : decode cX6_letPass 20 = .ok (.iadd, 1) := by decide +kernel
theorem dX6_letPass_21 : decode cX6_letPass 21 = .ok (.ldc 103, 2) := by decide +kernel
theorem dX6_letPass_23 : decode cX6_letPass 23 = .ok (.if_icmp .le 6, 3) := by decide +kernel
theorem dX6_letPass_26 : decode cX6_letPass 26 = .ok (.bipush (-4), 2) := by decide +kernel
theorem dX6_letPass_28 : decode cX6_letPass 28 = .ok (.ireturn, 1) := by decide +kernel
theorem dX6_letPass_29 : decode cX6_letPass 29 = .ok (.aload_n 0, 1) := by decide +kernel
theorem dX6_letPass_30 : decode cX6_letPass 30 = .ok (.dup, 1) := by decide +kernel
theorem dX6_letPass_31 : decode cX6_letPass 31 = .ok (.getfield 18, 3) := by decide +kernel
theorem dX6_letPass_34 : decode cX6_letPass 34 = .ok (.iload_n 1, 1) := by decide +kernel
theorem dX6_letPass_35 : decode cX6_letPass 35 = .ok (.iadd, 1) := by decide +kernel
theorem dX6_letPass_36 : decode cX6_letPass 36 = .ok (.putfield 18, 3) := by decide +kernel
theorem dX6_letPass_39 : decode cX6_letPass 39 = .ok (.aload_n 0, 1) := by decide +kernel
theorem dX6_letPass_40 : decode cX6_letPass 40 = .ok (.getfield 18, 3) := by decide +kernel
theorem dX6_letPass_43 : decode cX6_letPass 43 = .ok (.ireturn, 1) := by decide +kernel
theorem dX6_thinFeed_0 : decode cX6_thinFeed 0 = .ok (.aload_n 0, 1) := by decide +kernel
theorem dX6_thinFeed_1 : decode cX6_thinFeed 1 = .ok (.getfield 37, 3) := by decide +kernel
theorem dX6_thinFeed_4 : decode cX6_thinFeed 4 = .ok (.aload_n 0, 1) := by decide +kernel
theorem dX6_thinFeed_5 : decode cX6_thinFeed 5 = .ok (.getfield 37, 3) := by decide +kernel
theorem dX6_thinFeed_8 : decode cX6_thinFeed 8 = .ok (.aload_n 0, 1) := by decide +kernel
theorem dX6_thinFeed_9 : decode cX6_thinFeed 9 = .ok (.getfield 9, 3) := by decide +kernel
theorem dX6_thinFeed_12 : decode cX6_thinFeed 12 = .ok (.aload_n 0, 1) := by decide +kernel
theorem dX6_thinFeed_13 : decode cX6_thinFeed 13 = .ok (.getfield 15, 3) := by decide +kernel
theorem dX6_thinFeed_16 : decode cX6_thinFeed 16 = .ok (.aload_n 0, 1) := by decide +kernel
theorem dX6_thinFeed_17 : decode cX6_thinFeed 17 = .ok (.getfield 18, 3) := by decide +kernel
theorem dX6_thinFeed_20 : decode cX6_thinFeed 20 = .ok (.invokevirtual 104, 3) := by decide +kernel
theorem dX6_thinFeed_23 : decode cX6_thinFeed 23 = .ok (.putfield 107, 3) := by decide +kernel
theorem dX6_thinFeed_26 : decode cX6_thinFeed 26 = .ok (.aload_n 0, 1) := by decide +kernel
theorem dX6_thinFeed_27 : decode cX6_thinFeed 27 = .ok (.getfield 37, 3) := by decide +kernel
theorem dX6_thinFeed_30 : decode cX6_thinFeed 30 = .ok (.aload_n 0, 1) := by decide +kernel
theorem dX6_thinFeed_31 : decode cX6_thinFeed 31 = .ok (.getfield 9, 3) := by decide +kernel
theorem dX6_thinFeed_34 : decode cX6_thinFeed 34 = .ok (.aload_n 0, 1) := by decide +kernel
theorem dX6_thinFeed_35 : decode cX6_thinFeed 35 = .ok (.getfield 15, 3) := by decide +kernel
theorem dX6_thinFeed_38 : decode cX6_thinFeed 38 = .ok (.aload_n 0, 1) := by decide +kernel
theorem dX6_thinFeed_39 : decode cX6_thinFeed 39 = .ok (.getfield 18, 3) := by decide +kernel
theorem dX6_thinFeed_42 : decode cX6_thinFeed 42 = .ok (.invokevirtual 110, 3) := by decide +kernel
theorem dX6_thinFeed_45 : decode cX6_thinFeed 45 = .ok (.ireturn, 1) := by decide +kernel
theorem dX6_makeSnapshot_0 : decode cX6_makeSnapshot 0 = .ok (.aload_n 0, 1) := by decide +kernel
theorem dX6_makeSnapshot_1 : decode cX6_makeSnapshot 1 = .ok (.getfield 24, 3) := by decide +kernel
theorem dX6_makeSnapshot_4 : decode cX6_makeSnapshot 4 = .ok (.iconst 4, 1) := by decide +kernel
theorem dX6_makeSnapshot_5 : decode cX6_makeSnapshot 5 = .ok (.if_icmp .ge 13, 3) := by decide +kernel
theorem dX6_makeSnapshot_8 : decode cX6_makeSnapshot 8 = .ok (.aload_n 0, 1) := by decide +kernel
theorem dX6_makeSnapshot_9 : decode cX6_makeSnapshot 9 = .ok (.dup, 1) := by decide +kernel
theorem dX6_makeSnapshot_10 : decode cX6_makeSnapshot 10 = .ok (.getfield 24, 3) := by decide +kernel
theorem dX6_makeSnapshot_13 : decode cX6_makeSnapshot 13 = .ok (.iconst 1, 1) := by decide +kernel
theorem dX6_makeSnapshot_14 : decode cX6_makeSnapshot 14 = .ok (.iadd, 1) := by decide +kernel
theorem dX6_makeSnapshot_15 : decode cX6_makeSnapshot 15 = .ok (.putfield 24, 3) := by decide +kernel
theorem dX6_makeSnapshot_18 : decode cX6_makeSnapshot 18 = .ok (.aload_n 0, 1) := by decide +kernel
theorem dX6_makeSnapshot_19 : decode cX6_makeSnapshot 19 = .ok (.getfield 24, 3) := by decide +kernel
theorem dX6_makeSnapshot_22 : decode cX6_makeSnapshot 22 = .ok (.iconst 1, 1) := by decide +kernel
theorem dX6_makeSnapshot_23 : decode cX6_makeSnapshot 23 = .ok (.isub, 1) := by decide +kernel
theorem dX6_makeSnapshot_24 : decode cX6_makeSnapshot 24 = .ok (.istore_n 1, 1) := by decide +kernel
theorem dX6_makeSnapshot_25 : decode cX6_makeSnapshot 25 = .ok (.iload_n 1, 1) := by decide +kernel
theorem dX6_makeSnapshot_26 : decode cX6_makeSnapshot 26 = .ok (.ifCond .le 24, 3) := by decide +kernel
theorem dX6_makeSnapshot_29 : decode cX6_makeSnapshot 29 = .ok (.aload_n 0, 1) := by decide +kernel
theorem dX6_makeSnapshot_30 : decode cX6_makeSnapshot 30 = .ok (.iload_n 1, 1) := by decide +kernel
theorem dX6_makeSnapshot_31 : decode cX6_makeSnapshot 31 = .ok (.iconst 1, 1) := by decide +kernel
theorem dX6_makeSnapshot_32 : decode cX6_makeSnapshot 32 = .ok (.isub, 1) := by decide +kernel
theorem dX6_makeSnapshot_33 : decode cX6_makeSnapshot 33 = .ok (.invokevirtual 69, 3) := by decide +kernel
theorem dX6_makeSnapshot_36 : decode cX6_makeSnapshot 36 = .ok (.aload_n 0, 1) := by decide +kernel
theorem dX6_makeSnapshot_37 : decode cX6_makeSnapshot 37 = .ok (.iload_n 1, 1) := by decide +kernel
theorem dX6_makeSnapshot_38 : decode cX6_makeSnapshot 38 = .ok (.invokevirtual 69, 3) := by decide +kernel
theorem dX6_makeSnapshot_41 : decode cX6_makeSnapshot 41 = .ok (.invokestatic 73, 3) := by decide +kernel
theorem dX6_makeSnapshot_44 : decode cX6_makeSnapshot 44 = .ok (.iinc 1 (-1), 3) := by decide +kernel
theorem dX6_makeSnapshot_47 : decode cX6_makeSnapshot 47 = .ok (.goto (-22), 3) := by decide +kernel
theorem dX6_makeSnapshot_50 : decode cX6_makeSnapshot 50 = .ok (.aload_n 0, 1) := by decide +kernel
theorem dX6_makeSnapshot_51 : decode cX6_makeSnapshot 51 = .ok (.iconst 0, 1) := by decide +kernel
theorem dX6_makeSnapshot_52 : decode cX6_makeSnapshot 52 = .ok (.invokevirtual 69, 3) := by decide +kernel
theorem dX6_makeSnapshot_55 : decode cX6_makeSnapshot 55 = .ok (.astore_n 1, 1) := by decide +kernel
theorem dX6_makeSnapshot_56 : decode cX6_makeSnapshot 56 = .ok (.aload_n 1, 1) := by decide +kernel
theorem dX6_makeSnapshot_57 : decode cX6_makeSnapshot 57 = .ok (.ifnull 25, 3) := by decide +kernel
theorem dX6_makeSnapshot_60 : decode cX6_makeSnapshot 60 = .ok (.aload_n 1, 1) := by decide +kernel
theorem dX6_makeSnapshot_61 : decode cX6_makeSnapshot 61 = .ok (.aload_n 0, 1) := by decide +kernel
theorem dX6_makeSnapshot_62 : decode cX6_makeSnapshot 62 = .ok (.getfield 37, 3) := by decide +kernel
theorem dX6_makeSnapshot_65 : decode cX6_makeSnapshot 65 = .ok (.getfield 113, 3) := by decide +kernel
theorem dX6_makeSnapshot_68 : decode cX6_makeSnapshot 68 = .ok (.putfield 116, 3) := by decide +kernel
theorem dX6_makeSnapshot_71 : decode cX6_makeSnapshot 71 = .ok (.aload_n 1, 1) := by decide +kernel
theorem dX6_makeSnapshot_72 : decode cX6_makeSnapshot 72 = .ok (.getfield 119, 3) := by decide +kernel
theorem dX6_makeSnapshot_75 : decode cX6_makeSnapshot 75 = .ok (.aload_n 0, 1) := by decide +kernel
theorem dX6_makeSnapshot_76 : decode cX6_makeSnapshot 76 = .ok (.getfield 30, 3) := by decide +kernel
theorem dX6_makeSnapshot_79 : decode cX6_makeSnapshot 79 = .ok (.invokevirtual 55, 3) := by decide +kernel
theorem dX6_makeSnapshot_82 : decode cX6_makeSnapshot 82 = .ok (.aload_n 0, 1) := by decide +kernel
theorem dX6_makeSnapshot_83 : decode cX6_makeSnapshot 83 = .ok (.getfield 37, 3) := by decide +kernel
theorem dX6_makeSnapshot_86 : decode cX6_makeSnapshot 86 = .ok (.getfield 113, 3) := by decide +kernel
theorem dX6_makeSnapshot_89 : decode cX6_makeSnapshot 89 = .ok (.ireturn, 1) := by decide +kernel
theorem dX6_addReader_0 : decode cX6_addReader 0 = .ok (.aload_n 0, 1) := by decide +kernel
theorem dX6_addReader_1 : decode cX6_addReader 1 = .ok (.getfield 21, 3) := by decide +kernel
theorem dX6_addReader_4 : decode cX6_addReader 4 = .ok (.bipush 6, 2) := by decide +kernel
theorem dX6_addReader_6 : decode cX6_addReader 6 = .ok (.if_icmp .lt 6, 3) := by decide +kernel
theorem dX6_addReader_9 : decode cX6_addReader 9 = .ok (.bipush (-4), 2) := by decide +kernel
theorem dX6_addReader_11 : decode cX6_addReader 11 = .ok (.ireturn, 1) := by decide +kernel
theorem dX6_addReader_12 : decode cX6_addReader 12 = .ok (.aload_n 0, 1) := by decide +kernel
theorem dX6_addReader_13 : decode cX6_addReader 13 = .ok (.getfield 21, 3) := by decide +kernel
theorem dX6_addReader_16 : decode cX6_addReader 16 = .ok (.istore_n 1, 1) := by decide +kernel
theorem dX6_addReader_17 : decode cX6_addReader 17 = .ok (.aload_n 0, 1) := by decide +kernel
theorem dX6_addReader_18 : decode cX6_addReader 18 = .ok (.dup, 1) := by decide +kernel
theorem dX6_addReader_19 : decode cX6_addReader 19 = .ok (.getfield 21, 3) := by decide +kernel
theorem dX6_addReader_22 : decode cX6_addReader 22 = .ok (.iconst 1, 1) := by decide +kernel
theorem dX6_addReader_23 : decode cX6_addReader 23 = .ok (.iadd, 1) := by decide +kernel
theorem dX6_addReader_24 : decode cX6_addReader 24 = .ok (.putfield 21, 3) := by decide +kernel
theorem dX6_addReader_27 : decode cX6_addReader 27 = .ok (.aload_n 0, 1) := by decide +kernel
theorem dX6_addReader_28 : decode cX6_addReader 28 = .ok (.iload_n 1, 1) := by decide +kernel
theorem dX6_addReader_29 : decode cX6_addReader 29 = .ok (.invokevirtual 62, 3) := by decide +kernel
theorem dX6_addReader_32 : decode cX6_addReader 32 = .ok (.astore_n 2, 1) := by decide +kernel
theorem dX6_addReader_33 : decode cX6_addReader 33 = .ok (.aload_n 2, 1) := by decide +kernel
theorem dX6_addReader_34 : decode cX6_addReader 34 = .ok (.ifnull 12, 3) := by decide +kernel
theorem dX6_addReader_37 : decode cX6_addReader 37 = .ok (.aload_n 2, 1) := by decide +kernel
theorem dX6_addReader_38 : decode cX6_addReader 38 = .ok (.invokevirtual 120, 3) := by decide +kernel
theorem dX6_addReader_41 : decode cX6_addReader 41 = .ok (.aload_n 2, 1) := by decide +kernel
theorem dX6_addReader_42 : decode cX6_addReader 42 = .ok (.iconst 0, 1) := by decide +kernel
theorem dX6_addReader_43 : decode cX6_addReader 43 = .ok (.putfield 123, 3) := by decide +kernel
theorem dX6_addReader_46 : decode cX6_addReader 46 = .ok (.iload_n 1, 1) := by decide +kernel
theorem dX6_addReader_47 : decode cX6_addReader 47 = .ok (.ireturn, 1) := by decide +kernel
theorem dX6_letRead_0 : decode cX6_letRead 0 = .ok (.aload_n 0, 1) := by decide +kernel
theorem dX6_letRead_1 : decode cX6_letRead 1 = .ok (.iload_n 1, 1) := by decide +kernel
theorem dX6_letRead_2 : decode cX6_letRead 2 = .ok (.invokevirtual 62, 3) := by decide +kernel
theorem dX6_letRead_5 : decode cX6_letRead 5 = .ok (.astore_n 3, 1) := by decide +kernel
theorem dX6_letRead_6 : decode cX6_letRead 6 = .ok (.aload_n 3, 1) := by decide +kernel
theorem dX6_letRead_7 : decode cX6_letRead 7 = .ok (.ifnonnull 5, 3) := by decide +kernel
theorem dX6_letRead_10 : decode cX6_letRead 10 = .ok (.iconst (-1), 1) := by decide +kernel
theorem dX6_letRead_11 : decode cX6_letRead 11 = .ok (.ireturn, 1) := by decide +kernel
theorem dX6_letRead_12 : decode cX6_letRead 12 = .ok (.iload_n 2, 1) := by decide +kernel
theorem dX6_letRead_13 : decode cX6_letRead 13 = .ok (.iconst 1, 1) := by decide +kernel
theorem dX6_letRead_14 : decode cX6_letRead 14 = .ok (.if_icmp .lt 9, 3) := by decide +kernel
theorem dX6_letRead_17 : decode cX6_letRead 17 = .ok (.iload_n 2, 1) := by decide +kernel
theorem dX6_letRead_18 : decode cX6_letRead 18 = .ok (.bipush 99, 2) := by decide +kernel
theorem dX6_letRead_20 : decode cX6_letRead 20 = .ok (.if_icmp .le 6, 3) := by decide +kernel
theorem dX6_letRead_23 : decode cX6_letRead 23 = .ok (.bipush (-2), 2) := by decide +kernel
theorem dX6_letRead_25 : decode cX6_letRead 25 = .ok (.ireturn, 1) := by decide +kernel
theorem dX6_letRead_26 : decode cX6_letRead 26 = .ok (.aload_n 3, 1) := by decide +kernel
theorem dX6_letRead_27 : decode cX6_letRead 27 = .ok (.getfield 126, 3) := by decide +kernel
theorem dX6_letRead_30 : decode cX6_letRead 30 = .ok (.aload_n 0, 1) := by decide +kernel
theorem dX6_letRead_31 : decode cX6_letRead 31 = .ok (.getfield 37, 3) := by decide +kernel
theorem dX6_letRead_34 : decode cX6_letRead 34 = .ok (.getfield 107, 3) := by decide +kernel
theorem dX6_letRead_37 : decode cX6_letRead 37 = .ok (.invokestatic 129, 3) := by decide +kernel
theorem dX6_letRead_40 : decode cX6_letRead 40 = .ok (.ifCond .eq 6, 3) := by decide +kernel
theorem dX6_letRead_43 : decode cX6_letRead 43 = .ok (.bipush (-5), 2) := by decide +kernel
theorem dX6_letRead_45 : decode cX6_letRead 45 = .ok (.ireturn, 1) := by decide +kernel
theorem dX6_letRead_46 : decode cX6_letRead 46 = .ok (.aload_n 3, 1) := by decide +kernel
theorem dX6_letRead_47 : decode cX6_letRead 47 = .ok (.aload_n 0, 1) := by decide +kernel
theorem dX6_letRead_48 : decode cX6_letRead 48 = .ok (.getfield 37, 3) := by decide +kernel
theorem dX6_letRead_51 : decode cX6_letRead 51 = .ok (.iload_n 2, 1) := by decide +kernel
theorem dX6_letRead_52 : decode cX6_letRead 52 = .ok (.invokevirtual 133, 3) := by decide +kernel
theorem dX6_letRead_55 : decode cX6_letRead 55 = .ok (.ireturn, 1) := by decide +kernel
theorem dX6_letConfirm_0 : decode cX6_letConfirm 0 = .ok (.aload_n 0, 1) := by decide +kernel
theorem dX6_letConfirm_1 : decode cX6_letConfirm 1 = .ok (.iload_n 1, 1) := by decide +kernel
theorem dX6_letConfirm_2 : decode cX6_letConfirm 2 = .ok (.invokevirtual 62, 3) := by decide +kernel
theorem dX6_letConfirm_5 : decode cX6_letConfirm 5 = .ok (.astore_n 2, 1) := by decide +kernel
theorem dX6_letConfirm_6 : decode cX6_letConfirm 6 = .ok (.aload_n 2, 1) := by decide +kernel
theorem dX6_letConfirm_7 : decode cX6_letConfirm 7 = .ok (.ifnonnull 5, 3) := by decide +kernel
theorem dX6_letConfirm_10 : decode cX6_letConfirm 10 = .ok (.iconst (-1), 1) := by decide +kernel
theorem dX6_letConfirm_11 : decode cX6_letConfirm 11 = .ok (.ireturn, 1) := by decide +kernel
theorem dX6_letConfirm_12 : decode cX6_letConfirm 12 = .ok (.aload_n 2, 1) := by decide +kernel
theorem dX6_letConfirm_13 : decode cX6_letConfirm 13 = .ok (.invokevirtual 137, 3) := by decide +kernel
theorem dX6_letConfirm_16 : decode cX6_letConfirm 16 = .ok (.aload_n 2, 1) := by decide +kernel
theorem dX6_letConfirm_17 : decode cX6_letConfirm 17 = .ok (.getfield 126, 3) := by decide +kernel
theorem dX6_letConfirm_20 : decode cX6_letConfirm 20 = .ok (.ireturn, 1) := by decide +kernel
theorem dX6_letGoBack_0 : decode cX6_letGoBack 0 = .ok (.aload_n 0, 1) := by decide +kernel
theorem dX6_letGoBack_1 : decode cX6_letGoBack 1 = .ok (.iload_n 1, 1) := by decide +kernel
theorem dX6_letGoBack_2 : decode cX6_letGoBack 2 = .ok (.invokevirtual 62, 3) := by decide +kernel
theorem dX6_letGoBack_5 : decode cX6_letGoBack 5 = .ok (.astore_n 2, 1) := by decide +kernel
theorem dX6_letGoBack_6 : decode cX6_letGoBack 6 = .ok (.aload_n 2, 1) := by decide +kernel
theorem dX6_letGoBack_7 : decode cX6_letGoBack 7 = .ok (.ifnonnull 5, 3) := by decide +kernel
theorem dX6_letGoBack_10 : decode cX6_letGoBack 10 = .ok (.iconst (-1), 1) := by decide +kernel
theorem dX6_letGoBack_11 : decode cX6_letGoBack 11 = .ok (.ireturn, 1) := by decide +kernel
theorem dX6_letGoBack_12 : decode cX6_letGoBack 12 = .ok (.aload_n 2, 1) := by decide +kernel
theorem dX6_letGoBack_13 : decode cX6_letGoBack 13 = .ok (.invokevirtual 140, 3) := by decide +kernel
theorem dX6_letGoBack_16 : decode cX6_letGoBack 16 = .ok (.aload_n 2, 1) := by decide +kernel
theorem dX6_letGoBack_17 : decode cX6_letGoBack 17 = .ok (.getfield 126, 3) := by decide +kernel
theorem dX6_letGoBack_20 : decode cX6_letGoBack 20 = .ok (.ireturn, 1) := by decide +kernel
theorem dX6_letBeginAnew_0 : decode cX6_letBeginAnew 0 = .ok (.aload_n 0, 1) := by decide +kernel
theorem dX6_letBeginAnew_1 : decode cX6_letBeginAnew 1 = .ok (.iload_n 1, 1) := by decide +kernel
theorem dX6_letBeginAnew_2 : decode cX6_letBeginAnew 2 = .ok (.invokevirtual 62, 3) := by decide +kernel
theorem dX6_letBeginAnew_5 : decode cX6_letBeginAnew 5 = .ok (.astore_n 2, 1) := by decide +kernel
theorem dX6_letBeginAnew_6 : decode cX6_letBeginAnew 6 = .ok (.aload_n 2, 1) := by decide +kernel
theorem dX6_letBeginAnew_7 : decode cX6_letBeginAnew 7 = .ok (.ifnonnull 5, 3) := by decide +kernel
theorem dX6_letBeginAnew_10 : decode cX6_letBeginAnew 10 = .ok (.iconst (-1), 1) := by decide +kernel
theorem dX6_letBeginAnew_11 : decode cX6_letBeginAnew 11 = .ok (.ireturn, 1) := by decide +kernel
theorem dX6_letBeginAnew_12 : decode cX6_letBeginAnew 12 = .ok (.aload_n 2, 1) := by decide +kernel
theorem dX6_letBeginAnew_13 : decode cX6_letBeginAnew 13 = .ok (.invokevirtual 120, 3) := by decide +kernel
theorem dX6_letBeginAnew_16 : decode cX6_letBeginAnew 16 = .ok (.aload_n 0, 1) := by decide +kernel
theorem dX6_letBeginAnew_17 : decode cX6_letBeginAnew 17 = .ok (.getfield 37, 3) := by decide +kernel
theorem dX6_letBeginAnew_20 : decode cX6_letBeginAnew 20 = .ok (.aload_n 2, 1) := by decide +kernel
theorem dX6_letBeginAnew_21 : decode cX6_letBeginAnew 21 = .ok (.getfield 126, 3) := by decide +kernel
theorem dX6_letBeginAnew_24 : decode cX6_letBeginAnew 24 = .ok (.invokevirtual 143, 3) := by decide +kernel
theorem dX6_letBeginAnew_27 : decode cX6_letBeginAnew 27 = .ok (.ireturn, 1) := by decide +kernel
theorem dX6_letLoad_0 : decode cX6_letLoad 0 = .ok (.aload_n 0, 1) := by decide +kernel
theorem dX6_letLoad_1 : decode cX6_letLoad 1 = .ok (.iload_n 1, 1) := by decide +kernel
theorem dX6_letLoad_2 : decode cX6_letLoad 2 = .ok (.invokevirtual 62, 3) := by decide +kernel
theorem dX6_letLoad_5 : decode cX6_letLoad 5 = .ok (.astore_n 3, 1) := by decide +kernel
theorem dX6_letLoad_6 : decode cX6_letLoad 6 = .ok (.aload_n 0, 1) := by decide +kernel
theorem dX6_letLoad_7 : decode cX6_letLoad 7 = .ok (.iload_n 2, 1) := by decide +kernel
theorem dX6_letLoad_8 : decode cX6_letLoad 8 = .ok (.invokevirtual 69, 3) := by decide +kernel
theorem dX6_letLoad_11 : decode cX6_letLoad 11 = .ok (.astore 4, 2) := by decide +kernel
theorem dX6_letLoad_13 : decode cX6_letLoad 13 = .ok (.aload_n 3, 1) := by decide +kernel
theorem dX6_letLoad_14 : decode cX6_letLoad 14 = .ok (.ifnull 8, 3) := by decide +kernel
theorem dX6_letLoad_17 : decode cX6_letLoad 17 = .ok (.aload 4, 2) := by decide +kernel
theorem dX6_letLoad_19 : decode cX6_letLoad 19 = .ok (.ifnonnull 5, 3) := by decide +kernel
theorem dX6_letLoad_22 : decode cX6_letLoad 22 = .ok (.iconst (-1), 1) := by decide +kernel
theorem dX6_letLoad_23 : decode cX6_letLoad 23 = .ok (.ireturn, 1) := by decide +kernel
theorem dX6_letLoad_24 : decode cX6_letLoad 24 = .ok (.aload 4, 2) := by decide +kernel
theorem dX6_letLoad_26 : decode cX6_letLoad 26 = .ok (.getfield 116, 3) := by decide +kernel
theorem dX6_letLoad_29 : decode cX6_letLoad 29 = .ok (.aload_n 0, 1) := by decide +kernel
theorem dX6_letLoad_30 : decode cX6_letLoad 30 = .ok (.getfield 37, 3) := by decide +kernel
theorem dX6_letLoad_33 : decode cX6_letLoad 33 = .ok (.getfield 107, 3) := by decide +kernel
theorem dX6_letLoad_36 : decode cX6_letLoad 36 = .ok (.invokestatic 129, 3) := by decide +kernel
theorem dX6_letLoad_39 : decode cX6_letLoad 39 = .ok (.ifCond .eq 6, 3) := by decide +kernel
theorem dX6_letLoad_42 : decode cX6_letLoad 42 = .ok (.bipush (-5), 2) := by decide +kernel
theorem dX6_letLoad_44 : decode cX6_letLoad 44 = .ok (.ireturn, 1) := by decide +kernel
theorem dX6_letLoad_45 : decode cX6_letLoad 45 = .ok (.aload_n 3, 1) := by decide +kernel
theorem dX6_letLoad_46 : decode cX6_letLoad 46 = .ok (.aload 4, 2) := by decide +kernel
theorem dX6_letLoad_48 : decode cX6_letLoad 48 = .ok (.invokevirtual 146, 3) := by decide +kernel
theorem dX6_letLoad_51 : decode cX6_letLoad 51 = .ok (.aload_n 3, 1) := by decide +kernel
theorem dX6_letLoad_52 : decode cX6_letLoad 52 = .ok (.getfield 126, 3) := by decide +kernel
theorem dX6_letLoad_55 : decode cX6_letLoad 55 = .ok (.ireturn, 1) := by decide +kernel
theorem dX6_lateBelow_0 : decode cX6_lateBelow 0 = .ok (.iconst 0, 1) := by decide +kernel
theorem dX6_lateBelow_1 : decode cX6_lateBelow 1 = .ok (.istore_n 2, 1) := by decide +kernel
theorem dX6_lateBelow_2 : decode cX6_lateBelow 2 = .ok (.iconst 0, 1) := by decide +kernel
theorem dX6_lateBelow_3 : decode cX6_lateBelow 3 = .ok (.istore_n 3, 1) := by decide +kernel
theorem dX6_lateBelow_4 : decode cX6_lateBelow 4 = .ok (.iload_n 3, 1) := by decide +kernel
theorem dX6_lateBelow_5 : decode cX6_lateBelow 5 = .ok (.aload_n 0, 1) := by decide +kernel
theorem dX6_lateBelow_6 : decode cX6_lateBelow 6 = .ok (.getfield 21, 3) := by decide +kernel
theorem dX6_lateBelow_9 : decode cX6_lateBelow 9 = .ok (.if_icmp .ge 39, 3) := by decide +kernel
theorem dX6_lateBelow_12 : decode cX6_lateBelow 12 = .ok (.aload_n 0, 1) := by decide +kernel
theorem dX6_lateBelow_13 : decode cX6_lateBelow 13 = .ok (.iload_n 3, 1) := by decide +kernel
theorem dX6_lateBelow_14 : decode cX6_lateBelow 14 = .ok (.invokevirtual 62, 3) := by decide +kernel
theorem dX6_lateBelow_17 : decode cX6_lateBelow 17 = .ok (.astore 4, 2) := by decide +kernel
theorem dX6_lateBelow_19 : decode cX6_lateBelow 19 = .ok (.aload 4, 2) := by decide +kernel
theorem dX6_lateBelow_21 : decode cX6_lateBelow 21 = .ok (.ifnull 21, 3) := by decide +kernel
theorem dX6_lateBelow_24 : decode cX6_lateBelow 24 = .ok (.aload 4, 2) := by decide +kernel
theorem dX6_lateBelow_26 : decode cX6_lateBelow 26 = .ok (.getfield 126, 3) := by decide +kernel
theorem dX6_lateBelow_29 : decode cX6_lateBelow 29 = .ok (.iload_n 1, 1) := by decide +kernel
theorem dX6_lateBelow_30 : decode cX6_lateBelow 30 = .ok (.invokestatic 129, 3) := by decide +kernel
theorem dX6_lateBelow_33 : decode cX6_lateBelow 33 = .ok (.ifCond .eq 9, 3) := by decide +kernel
theorem dX6_lateBelow_36 : decode cX6_lateBelow 36 = .ok (.iload_n 2, 1) := by decide +kernel
theorem dX6_lateBelow_37 : decode cX6_lateBelow 37 = .ok (.iconst 1, 1) := by decide +kernel
theorem dX6_lateBelow_38 : decode cX6_lateBelow 38 = .ok (.iload_n 3, 1) := by decide +kernel
theorem dX6_lateBelow_39 : decode cX6_lateBelow 39 = .ok (.ishl, 1) := by decide +kernel
theorem dX6_lateBelow_40 : decode cX6_lateBelow 40 = .ok (.ior, 1) := by decide +kernel
theorem dX6_lateBelow_41 : decode cX6_lateBelow 41 = .ok (.istore_n 2, 1) := by decide +kernel
theorem dX6_lateBelow_42 : decode cX6_lateBelow 42 = .ok (.iinc 3 1, 3) := by decide +kernel
theorem dX6_lateBelow_45 : decode cX6_lateBelow 45 = .ok (.goto (-41), 3) := by decide +kernel
theorem dX6_lateBelow_48 : decode cX6_lateBelow 48 = .ok (.iload_n 2, 1) := by decide +kernel
theorem dX6_lateBelow_49 : decode cX6_lateBelow 49 = .ok (.ireturn, 1) := by decide +kernel
theorem dX6_entriesOnWay_0 : decode cX6_entriesOnWay 0 = .ok (.iload_n 2, 1) := by decide +kernel
theorem dX6_entriesOnWay_1 : decode cX6_entriesOnWay 1 = .ok (.iconst 5, 1) := by decide +kernel
theorem dX6_entriesOnWay_2 : decode cX6_entriesOnWay 2 = .ok (.if_icmp .ne 11, 3) := by decide +kernel
theorem dX6_entriesOnWay_5 : decode cX6_entriesOnWay 5 = .ok (.aload_n 0, 1) := by decide +kernel
theorem dX6_entriesOnWay_6 : decode cX6_entriesOnWay 6 = .ok (.getfield 37, 3) := by decide +kernel
theorem dX6_entriesOnWay_9 : decode cX6_entriesOnWay 9 = .ok (.getfield 149, 3) := by decide +kernel
theorem dX6_entriesOnWay_12 : decode cX6_entriesOnWay 12 = .ok (.ireturn, 1) := by decide +kernel
theorem dX6_entriesOnWay_13 : decode cX6_entriesOnWay 13 = .ok (.iload_n 2, 1) := by decide +kernel
theorem dX6_entriesOnWay_14 : decode cX6_entriesOnWay 14 = .ok (.ifCond .ne 12, 3) := by decide +kernel
theorem dX6_entriesOnWay_17 : decode cX6_entriesOnWay 17 = .ok (.aload_n 0, 1) := by decide +kernel
theorem dX6_entriesOnWay_18 : decode cX6_entriesOnWay 18 = .ok (.aload_n 1, 1) := by decide +kernel
theorem dX6_entriesOnWay_19 : decode cX6_entriesOnWay 19 = .ok (.getfield 126, 3) := by decide +kernel
theorem dX6_entriesOnWay_22 : decode cX6_entriesOnWay 22 = .ok (.invokevirtual 152, 3) := by decide +kernel
theorem dX6_entriesOnWay_25 : decode cX6_entriesOnWay 25 = .ok (.ireturn, 1) := by decide +kernel
theorem dX6_entriesOnWay_26 : decode cX6_entriesOnWay 26 = .ok (.aload_n 0, 1) := by decide +kernel
theorem dX6_entriesOnWay_27 : decode cX6_entriesOnWay 27 = .ok (.iload_n 2, 1) := by decide +kernel
theorem dX6_entriesOnWay_28 : decode cX6_entriesOnWay 28 = .ok (.iconst 1, 1) := by decide +kernel
theorem dX6_entriesOnWay_29 : decode cX6_entriesOnWay 29 = .ok (.isub, 1) := by decide +kernel
theorem dX6_entriesOnWay_30 : decode cX6_entriesOnWay 30 = .ok (.invokevirtual 69, 3) := by decide +kernel
theorem dX6_entriesOnWay_33 : decode cX6_entriesOnWay 33 = .ok (.astore_n 3, 1) := by decide +kernel
theorem dX6_entriesOnWay_34 : decode cX6_entriesOnWay 34 = .ok (.aload_n 3, 1) := by decide +kernel
theorem dX6_entriesOnWay_35 : decode cX6_entriesOnWay 35 = .ok (.ifnonnull 8, 3) := by decide +kernel
theorem dX6_entriesOnWay_38 : decode cX6_entriesOnWay 38 = .ok (.bipush (-6), 2) := by decide +kernel
theorem dX6_entriesOnWay_40 : decode cX6_entriesOnWay 40 = .ok (.goto 11, 3) := by decide +kernel
theorem dX6_entriesOnWay_43 : decode cX6_entriesOnWay 43 = .ok (.aload_n 0, 1) := by decide +kernel
theorem dX6_entriesOnWay_44 : decode cX6_entriesOnWay 44 = .ok (.aload_n 3, 1) := by decide +kernel
theorem dX6_entriesOnWay_45 : decode cX6_entriesOnWay 45 = .ok (.getfield 116, 3) := by decide +kernel
theorem dX6_entriesOnWay_48 : decode cX6_entriesOnWay 48 = .ok (.invokevirtual 152, 3) := by decide +kernel
theorem dX6_entriesOnWay_51 : decode cX6_entriesOnWay 51 = .ok (.ireturn, 1) := by decide +kernel
theorem dX6_aheadUnlessLate_0 : decode cX6_aheadUnlessLate 0 = .ok (.iload_n 1, 1) := by decide +kernel
theorem dX6_aheadUnlessLate_1 : decode cX6_aheadUnlessLate 1 = .ok (.aload_n 0, 1) := by decide +kernel
theorem dX6_aheadUnlessLate_2 : decode cX6_aheadUnlessLate 2 = .ok (.getfield 37, 3) := by decide +kernel
theorem dX6_aheadUnlessLate_5 : decode cX6_aheadUnlessLate 5 = .ok (.getfield 107, 3) := by decide +kernel
theorem dX6_aheadUnlessLate_8 : decode cX6_aheadUnlessLate 8 = .ok (.invokestatic 129, 3) := by decide +kernel
theorem dX6_aheadUnlessLate_11 : decode cX6_aheadUnlessLate 11 = .ok (.ifCond .eq 8, 3) := by decide +kernel
theorem dX6_aheadUnlessLate_14 : decode cX6_aheadUnlessLate 14 = .ok (.bipush (-6), 2) := by decide +kernel
theorem dX6_aheadUnlessLate_16 : decode cX6_aheadUnlessLate 16 = .ok (.goto 11, 3) := by decide +kernel
theorem dX6_aheadUnlessLate_19 : decode cX6_aheadUnlessLate 19 = .ok (.aload_n 0, 1) := by decide +kernel
theorem dX6_aheadUnlessLate_20 : decode cX6_aheadUnlessLate 20 = .ok (.getfield 37, 3) := by decide +kernel
theorem dX6_aheadUnlessLate_23 : decode cX6_aheadUnlessLate 23 = .ok (.iload_n 1, 1) := by decide +kernel
theorem dX6_aheadUnlessLate_24 : decode cX6_aheadUnlessLate 24 = .ok (.invokevirtual 143, 3) := by decide +kernel
theorem dX6_aheadUnlessLate_27 : decode cX6_aheadUnlessLate 27 = .ok (.ireturn, 1) := by decide +kernel
theorem dX6_shortestWay_0 : decode cX6_shortestWay 0 = .ok (.iconst 5, 1) := by decide +kernel
theorem dX6_shortestWay_1 : decode cX6_shortestWay 1 = .ok (.istore_n 2, 1) := by decide +kernel
theorem dX6_shortestWay_2 : decode cX6_shortestWay 2 = .ok (.aload_n 0, 1) := by decide +kernel
theorem dX6_shortestWay_3 : decode cX6_shortestWay 3 = .ok (.aload_n 1, 1) := by decide +kernel
theorem dX6_shortestWay_4 : decode cX6_shortestWay 4 = .ok (.iload_n 2, 1) := by decide +kernel
theorem dX6_shortestWay_5 : decode cX6_shortestWay 5 = .ok (.invokevirtual 155, 3) := by decide +kernel
theorem dX6_shortestWay_8 : decode cX6_shortestWay 8 = .ok (.istore_n 3, 1) := by decide +kernel
theorem dX6_shortestWay_9 : decode cX6_shortestWay 9 = .ok (.iconst 4, 1) := by decide +kernel
theorem dX6_shortestWay_10 : decode cX6_shortestWay 10 = .ok (.istore 4, 2) := by decide +kernel
theorem dX6_shortestWay_12 : decode cX6_shortestWay 12 = .ok (.iload 4, 2) := by decide +kernel
theorem dX6_shortestWay_14 : decode cX6_shortestWay 14 = .ok (.ifCond .lt 37, 3) := by decide +kernel
theorem dX6_shortestWay_17 : decode cX6_shortestWay 17 = .ok (.aload_n 0, 1) := by decide +kernel
theorem dX6_shortestWay_18 : decode cX6_shortestWay 18 = .ok (.aload_n 1, 1) := by decide +kernel
theorem dX6_shortestWay_19 : decode cX6_shortestWay 19 = .ok (.iload 4, 2) := by decide +kernel
theorem dX6_shortestWay_21 : decode cX6_shortestWay 21 = .ok (.invokevirtual 155, 3) := by decide +kernel
theorem dX6_shortestWay_24 : decode cX6_shortestWay 24 = .ok (.istore 5, 2) := by decide +kernel
theorem dX6_shortestWay_26 : decode cX6_shortestWay 26 = .ok (.iload 5, 2) := by decide +kernel
theorem dX6_shortestWay_28 : decode cX6_shortestWay 28 = .ok (.bipush (-6), 2) := by decide +kernel
theorem dX6_shortestWay_30 : decode cX6_shortestWay 30 = .ok (.if_icmp .eq 15, 3) := by decide +kernel
theorem dX6_shortestWay_33 : decode cX6_shortestWay 33 = .ok (.iload 5, 2) := by decide +kernel
theorem dX6_shortestWay_35 : decode cX6_shortestWay 35 = .ok (.iload_n 3, 1) := by decide +kernel
theorem dX6_shortestWay_36 : decode cX6_shortestWay 36 = .ok (.if_icmp .gt 9, 3) := by decide +kernel
theorem dX6_shortestWay_39 : decode cX6_shortestWay 39 = .ok (.iload 4, 2) := by decide +kernel
theorem dX6_shortestWay_41 : decode cX6_shortestWay 41 = .ok (.istore_n 2, 1) := by decide +kernel
theorem dX6_shortestWay_42 : decode cX6_shortestWay 42 = .ok (.iload 5, 2) := by decide +kernel
theorem dX6_shortestWay_44 : decode cX6_shortestWay 44 = .ok (.istore_n 3, 1) := by decide +kernel
theorem dX6_shortestWay_45 : decode cX6_shortestWay 45 = .ok (.iinc 4 (-1), 3) := by decide +kernel
theorem dX6_shortestWay_48 : decode cX6_shortestWay 48 = .ok (.goto (-36), 3) := by decide +kernel
theorem dX6_shortestWay_51 : decode cX6_shortestWay 51 = .ok (.iload_n 2, 1) := by decide +kernel
theorem dX6_shortestWay_52 : decode cX6_shortestWay 52 = .ok (.ireturn, 1) := by decide +kernel
theorem dX7_init_0 : decode cX7_init 0 = .ok (.aload_n 0, 1) := by decide +kernel
theorem dX7_init_1 : decode cX7_init 1 = .ok (.invokespecial 3, 3) := by decide +kernel
theorem dX7_init_4 : decode cX7_init 4 = .ok (.aload_n 0, 1) := by decide +kernel
theorem dX7_init_5 : decode cX7_init 5 = .ok (.bipush 12, 2) := by decide +kernel
theorem dX7_init_7 : decode cX7_init 7 = .ok (.newarray .int, 2) := by decide +kernel
theorem dX7_init_9 : decode cX7_init 9 = .ok (.putfield 9, 3) := by decide +kernel
theorem dX7_init_12 : decode cX7_init 12 = .ok (.aload_n 0, 1) := by decide +kernel
theorem dX7_init_13 : decode cX7_init 13 = .ok (.invokevirtual 15, 3) := by decide +kernel
theorem dX7_init_16 : decode cX7_init 16 = .ok (.return_, 1) := by decide +kernel
theorem dX7_clear_0 : decode cX7_clear 0 = .ok (.iconst 0, 1) := by decide +kernel
theorem dX7_clear_1 : decode cX7_clear 1 = .ok (.istore_n 1, 1) := by decide +kernel
theorem dX7_clear_2 : decode cX7_clear 2 = .ok (.iload_n 1, 1) := by decide +kernel
theorem dX7_clear_3 : decode cX7_clear 3 = .ok (.bipush 12, 2) := by decide +kernel
theorem dX7_clear_5 : decode cX7_clear 5 = .ok (.if_icmp .ge 19, 3) := by decide +kernel
theorem dX7_clear_8 : decode cX7_clear 8 = .ok (.aload_n 0, 1) := by decide +kernel
theorem dX7_clear_9 : decode cX7_clear 9 = .ok (.getfield 9, 3) := by decide +kernel
theorem dX7_clear_12 : decode cX7_clear 12 = .ok (.iload_n 1, 1) := by decide +kernel
theorem dX7_clear_13 : decode cX7_clear 13 = .ok (.bipush (-6), 2) := by decide +kernel
theorem dX7_clear_15 : decode cX7_clear 15 = .ok (.invokestatic 18, 3) := by decide +kernel
theorem dX7_clear_18 : decode cX7_clear 18 = .ok (.iinc 1 1, 3) := by decide +kernel
theorem dX7_clear_21 : decode cX7_clear 21 = .ok (.goto (-19), 3) := by decide +kernel
theorem dX7_clear_24 : decode cX7_clear 24 = .ok (.return_, 1) := by decide +kernel
theorem dX7_copyFrom_0 : decode cX7_copyFrom 0 = .ok (.aload_n 1, 1) := by decide +kernel
theorem dX7_copyFrom_1 : decode cX7_copyFrom 1 = .ok (.getfield 9, 3) := by decide +kernel
theorem dX7_copyFrom_4 : decode cX7_copyFrom 4 = .ok (.aload_n 0, 1) := by decide +kernel
theorem dX7_copyFrom_5 : decode cX7_copyFrom 5 = .ok (.getfield 9, 3) := by decide +kernel
theorem dX7_copyFrom_8 : decode cX7_copyFrom 8 = .ok (.invokestatic 22, 3) := by decide +kernel
theorem dX7_copyFrom_11 : decode cX7_copyFrom 11 = .ok (.return_, 1) := by decide +kernel
theorem dX7_of_0 : decode cX7_of 0 = .ok (.aload_n 0, 1) := by decide +kernel
theorem dX7_of_1 : decode cX7_of 1 = .ok (.getfield 9, 3) := by decide +kernel
theorem dX7_of_4 : decode cX7_of 4 = .ok (.iload_n 1, 1) := by decide +kernel
theorem dX7_of_5 : decode cX7_of 5 = .ok (.invokestatic 26, 3) := by decide +kernel
theorem dX7_of_8 : decode cX7_of 8 = .ok (.ireturn, 1) := by decide +kernel
theorem dX7_change_0 : decode cX7_change 0 = .ok (.aload_n 0, 1) := by decide +kernel
theorem dX7_change_1 : decode cX7_change 1 = .ok (.getfield 9, 3) := by decide +kernel
theorem dX7_change_4 : decode cX7_change 4 = .ok (.iload_n 1, 1) := by decide +kernel
theorem dX7_change_5 : decode cX7_change 5 = .ok (.iload_n 2, 1) := by decide +kernel
theorem dX7_change_6 : decode cX7_change 6 = .ok (.invokestatic 18, 3) := by decide +kernel
theorem dX7_change_9 : decode cX7_change 9 = .ok (.return_, 1) := by decide +kernel
theorem dX7_howMany_0 : decode cX7_howMany 0 = .ok (.iconst 0, 1) := by decide +kernel
theorem dX7_howMany_1 : decode cX7_howMany 1 = .ok (.istore_n 1, 1) := by decide +kernel
theorem dX7_howMany_2 : decode cX7_howMany 2 = .ok (.iconst 0, 1) := by decide +kernel
theorem dX7_howMany_3 : decode cX7_howMany 3 = .ok (.istore_n 2, 1) := by decide +kernel
theorem dX7_howMany_4 : decode cX7_howMany 4 = .ok (.iload_n 2, 1) := by decide +kernel
theorem dX7_howMany_5 : decode cX7_howMany 5 = .ok (.bipush 12, 2) := by decide +kernel
theorem dX7_howMany_7 : decode cX7_howMany 7 = .ok (.if_icmp .ge 22, 3) := by decide +kernel
theorem dX7_howMany_10 : decode cX7_howMany 10 = .ok (.aload_n 0, 1) := by decide +kernel
theorem dX7_howMany_11 : decode cX7_howMany 11 = .ok (.iload_n 2, 1) := by decide +kernel
theorem dX7_howMany_12 : decode cX7_howMany 12 = .ok (.invokevirtual 30, 3) := by decide +kernel
theorem dX7_howMany_15 : decode cX7_howMany 15 = .ok (.bipush (-6), 2) := by decide +kernel
theorem dX7_howMany_17 : decode cX7_howMany 17 = .ok (.if_icmp .eq 6, 3) := by decide +kernel
theorem dX7_howMany_20 : decode cX7_howMany 20 = .ok (.iinc 1 1, 3) := by decide +kernel
theorem dX7_howMany_23 : decode cX7_howMany 23 = .ok (.iinc 2 1, 3) := by decide +kernel
theorem dX7_howMany_26 : decode cX7_howMany 26 = .ok (.goto (-22), 3) := by decide +kernel
theorem dX7_howMany_29 : decode cX7_howMany 29 = .ok (.iload_n 1, 1) := by decide +kernel
theorem dX7_howMany_30 : decode cX7_howMany 30 = .ok (.ireturn, 1) := by decide +kernel
theorem dX7_differingFrom_0 : decode cX7_differingFrom 0 = .ok (.iconst 0, 1) := by decide +kernel
theorem dX7_differingFrom_1 : decode cX7_differingFrom 1 = .ok (.istore_n 2, 1) := by decide +kernel
theorem dX7_differingFrom_2 : decode cX7_differingFrom 2 = .ok (.iconst 0, 1) := by decide +kernel
theorem dX7_differingFrom_3 : decode cX7_differingFrom 3 = .ok (.istore_n 3, 1) := by decide +kernel
theorem dX7_differingFrom_4 : decode cX7_differingFrom 4 = .ok (.iload_n 3, 1) := by decide +kernel
theorem dX7_differingFrom_5 : decode cX7_differingFrom 5 = .ok (.bipush 12, 2) := by decide +kernel
theorem dX7_differingFrom_7 : decode cX7_differingFrom 7 = .ok (.if_icmp .ge 28, 3) := by decide +kernel
theorem dX7_differingFrom_10 : decode cX7_differingFrom 10 = .ok (.aload_n 0, 1) := by decide +kernel
theorem dX7_differingFrom_11 : decode cX7_differingFrom 11 = .ok (.iload_n 3, 1) := by decide +kernel
theorem dX7_differingFrom_12 : decode cX7_differingFrom 12 = .ok (.invokevirtual 30, 3) := by decide +kernel
theorem dX7_differingFrom_15 : decode cX7_differingFrom 15 = .ok (.aload_n 1, 1) := by decide +kernel
theorem dX7_differingFrom_16 : decode cX7_differingFrom 16 = .ok (.iload_n 3, 1) := by decide +kernel
theorem dX7_differingFrom_17 : decode cX7_differingFrom 17 = .ok (.invokevirtual 30, 3) := by decide +kernel
theorem dX7_differingFrom_20 : decode cX7_differingFrom 20 = .ok (.if_icmp .eq 9, 3) := by decide +kernel
theorem dX7_differingFrom_23 : decode cX7_differingFrom 23 = .ok (.iload_n 2, 1) := by decide +kernel
theorem dX7_differingFrom_24 : decode cX7_differingFrom 24 = .ok (.iconst 1, 1) := by decide +kernel
theorem dX7_differingFrom_25 : decode cX7_differingFrom 25 = .ok (.iload_n 3, 1) := by decide +kernel
theorem dX7_differingFrom_26 : decode cX7_differingFrom 26 = .ok (.ishl, 1) := by decide +kernel
theorem dX7_differingFrom_27 : decode cX7_differingFrom 27 = .ok (.ior, 1) := by decide +kernel
theorem dX7_differingFrom_28 : decode cX7_differingFrom 28 = .ok (.istore_n 2, 1) := by decide +kernel
theorem dX7_differingFrom_29 : decode cX7_differingFrom 29 = .ok (.iinc 3 1, 3) := by decide +kernel
theorem dX7_differingFrom_32 : decode cX7_differingFrom 32 = .ok (.goto (-28), 3) := by decide +kernel
theorem dX7_differingFrom_35 : decode cX7_differingFrom 35 = .ok (.iload_n 2, 1) := by decide +kernel
theorem dX7_differingFrom_36 : decode cX7_differingFrom 36 = .ok (.ireturn, 1) := by decide +kernel
theorem dX8_init_0 : decode cX8_init 0 = .ok (.aload_n 0, 1) := by decide +kernel
theorem dX8_init_1 : decode cX8_init 1 = .ok (.invokespecial 1, 3) := by decide +kernel
theorem dX8_init_4 : decode cX8_init 4 = .ok (.aload_n 0, 1) := by decide +kernel
theorem dX8_init_5 : decode cX8_init 5 = .ok (.new 7, 3) := by decide +kernel
theorem dX8_init_8 : decode cX8_init 8 = .ok (.dup, 1) := by decide +kernel
theorem dX8_init_9 : decode cX8_init 9 = .ok (.invokespecial 9, 3) := by decide +kernel
theorem dX8_init_12 : decode cX8_init 12 = .ok (.putfield 10, 3) := by decide +kernel
theorem dX8_init_15 : decode cX8_init 15 = .ok (.aload_n 0, 1) := by decide +kernel
theorem dX8_init_16 : decode cX8_init 16 = .ok (.new 16, 3) := by decide +kernel
theorem dX8_init_19 : decode cX8_init 19 = .ok (.dup, 1) := by decide +kernel
theorem dX8_init_20 : decode cX8_init 20 = .ok (.invokespecial 18, 3) := by decide +kernel
theorem dX8_init_23 : decode cX8_init 23 = .ok (.putfield 19, 3) := by decide +kernel
theorem dX8_init_26 : decode cX8_init 26 = .ok (.aload_n 0, 1) := by decide +kernel
theorem dX8_init_27 : decode cX8_init 27 = .ok (.new 23, 3) := by decide +kernel
theorem dX8_init_30 : decode cX8_init 30 = .ok (.dup, 1) := by decide +kernel
theorem dX8_init_31 : decode cX8_init 31 = .ok (.invokespecial 25, 3) := by decide +kernel
theorem dX8_init_34 : decode cX8_init 34 = .ok (.putfield 26, 3) := by decide +kernel
theorem dX8_init_37 : decode cX8_init 37 = .ok (.aload_n 0, 1) := by decide +kernel
theorem dX8_init_38 : decode cX8_init 38 = .ok (.iconst 2, 1) := by decide +kernel
theorem dX8_init_39 : decode cX8_init 39 = .ok (.anewarray 30, 3) := by decide +kernel
theorem dX8_init_42 : decode cX8_init 42 = .ok (.putfield 32, 3) := by decide +kernel
theorem dX8_init_45 : decode cX8_init 45 = .ok (.iconst 0, 1) := by decide +kernel
theorem dX8_init_46 : decode cX8_init 46 = .ok (.istore_n 1, 1) := by decide +kernel
theorem dX8_init_47 : decode cX8_init 47 = .ok (.iload_n 1, 1) := by decide +kernel
theorem dX8_init_48 : decode cX8_init 48 = .ok (.aload_n 0, 1) := by decide +kernel
theorem dX8_init_49 : decode cX8_init 49 = .ok (.getfield 32, 3) := by decide +kernel
theorem dX8_init_52 : decode cX8_init 52 = .ok (.arraylength, 1) := by decide +kernel
theorem dX8_init_53 : decode cX8_init 53 = .ok (.if_icmp .ge 22, 3) := by decide +kernel
theorem dX8_init_56 : decode cX8_init 56 = .ok (.aload_n 0, 1) := by decide +kernel
theorem dX8_init_57 : decode cX8_init 57 = .ok (.getfield 32, 3) := by decide +kernel
theorem dX8_init_60 : decode cX8_init 60 = .ok (.iload_n 1, 1) := by decide +kernel
theorem dX8_init_61 : decode cX8_init 61 = .ok (.new 30, 3) := by decide +kernel
theorem dX8_init_64 : decode cX8_init 64 = .ok (.dup, 1) := by decide +kernel
theorem dX8_init_65 : decode cX8_init 65 = .ok (.invokespecial 36, 3) := by decide +kernel
theorem dX8_init_68 : decode cX8_init 68 = .ok (.aastore, 1) := by decide +kernel
theorem dX8_init_69 : decode cX8_init 69 = .ok (.iinc 1 1, 3) := by decide +kernel
theorem dX8_init_72 : decode cX8_init 72 = .ok (.goto (-25), 3) := by decide +kernel
theorem dX8_init_75 : decode cX8_init 75 = .ok (.return_, 1) := by decide +kernel
theorem dX8_turn_0 : decode cX8_turn 0 = .ok (.aload_n 0, 1) := by decide +kernel
theorem dX8_turn_1 : decode cX8_turn 1 = .ok (.getfield 19, 3) := by decide +kernel
theorem dX8_turn_4 : decode cX8_turn 4 = .ok (.aload_n 0, 1) := by decide +kernel
theorem dX8_turn_5 : decode cX8_turn 5 = .ok (.getfield 10, 3) := by decide +kernel
theorem dX8_turn_8 : decode cX8_turn 8 = .ok (.invokevirtual 37, 3) := by decide +kernel
theorem dX8_turn_11 : decode cX8_turn 11 = .ok (.aload_n 0, 1) := by decide +kernel
theorem dX8_turn_12 : decode cX8_turn 12 = .ok (.getfield 19, 3) := by decide +kernel
theorem dX8_turn_15 : decode cX8_turn 15 = .ok (.aload_n 0, 1) := by decide +kernel
theorem dX8_turn_16 : decode cX8_turn 16 = .ok (.getfield 10, 3) := by decide +kernel
theorem dX8_turn_19 : decode cX8_turn 19 = .ok (.iload_n 1, 1) := by decide +kernel
theorem dX8_turn_20 : decode cX8_turn 20 = .ok (.iload_n 2, 1) := by decide +kernel
theorem dX8_turn_21 : decode cX8_turn 21 = .ok (.invokevirtual 41, 3) := by decide +kernel
theorem dX8_turn_24 : decode cX8_turn 24 = .ok (.invokevirtual 45, 3) := by decide +kernel
theorem dX8_turn_27 : decode cX8_turn 27 = .ok (.ireturn, 1) := by decide +kernel
theorem dX8_set_0 : decode cX8_set 0 = .ok (.aload_n 0, 1) := by decide +kernel
theorem dX8_set_1 : decode cX8_set 1 = .ok (.getfield 19, 3) := by decide +kernel
theorem dX8_set_4 : decode cX8_set 4 = .ok (.aload_n 0, 1) := by decide +kernel
theorem dX8_set_5 : decode cX8_set 5 = .ok (.getfield 10, 3) := by decide +kernel
theorem dX8_set_8 : decode cX8_set 8 = .ok (.invokevirtual 37, 3) := by decide +kernel
theorem dX8_set_11 : decode cX8_set 11 = .ok (.aload_n 0, 1) := by decide +kernel
theorem dX8_set_12 : decode cX8_set 12 = .ok (.getfield 19, 3) := by decide +kernel
theorem dX8_set_15 : decode cX8_set 15 = .ok (.aload_n 0, 1) := by decide +kernel
theorem dX8_set_16 : decode cX8_set 16 = .ok (.getfield 10, 3) := by decide +kernel
theorem dX8_set_19 : decode cX8_set 19 = .ok (.iload_n 1, 1) := by decide +kernel
theorem dX8_set_20 : decode cX8_set 20 = .ok (.iload_n 2, 1) := by decide +kernel
theorem dX8_set_21 : decode cX8_set 21 = .ok (.invokevirtual 49, 3) := by decide +kernel
theorem dX8_set_24 : decode cX8_set 24 = .ok (.invokevirtual 45, 3) := by decide +kernel
theorem dX8_set_27 : decode cX8_set 27 = .ok (.ireturn, 1) := by decide +kernel
theorem dX8_remove_0 : decode cX8_remove 0 = .ok (.aload_n 0, 1) := by decide +kernel
theorem dX8_remove_1 : decode cX8_remove 1 = .ok (.getfield 19, 3) := by decide +kernel
theorem dX8_remove_4 : decode cX8_remove 4 = .ok (.aload_n 0, 1) := by decide +kernel
theorem dX8_remove_5 : decode cX8_remove 5 = .ok (.getfield 10, 3) := by decide +kernel
theorem dX8_remove_8 : decode cX8_remove 8 = .ok (.invokevirtual 37, 3) := by decide +kernel
theorem dX8_remove_11 : decode cX8_remove 11 = .ok (.aload_n 0, 1) := by decide +kernel
theorem dX8_remove_12 : decode cX8_remove 12 = .ok (.getfield 19, 3) := by decide +kernel
theorem dX8_remove_15 : decode cX8_remove 15 = .ok (.aload_n 0, 1) := by decide +kernel
theorem dX8_remove_16 : decode cX8_remove 16 = .ok (.getfield 10, 3) := by decide +kernel
theorem dX8_remove_19 : decode cX8_remove 19 = .ok (.iload_n 1, 1) := by decide +kernel
theorem dX8_remove_20 : decode cX8_remove 20 = .ok (.invokevirtual 52, 3) := by decide +kernel
theorem dX8_remove_23 : decode cX8_remove 23 = .ok (.invokevirtual 45, 3) := by decide +kernel
theorem dX8_remove_26 : decode cX8_remove 26 = .ok (.ireturn, 1) := by decide +kernel
theorem dX8_pass_0 : decode cX8_pass 0 = .ok (.aload_n 0, 1) := by decide +kernel
theorem dX8_pass_1 : decode cX8_pass 1 = .ok (.getfield 19, 3) := by decide +kernel
theorem dX8_pass_4 : decode cX8_pass 4 = .ok (.aload_n 0, 1) := by decide +kernel
theorem dX8_pass_5 : decode cX8_pass 5 = .ok (.getfield 10, 3) := by decide +kernel
theorem dX8_pass_8 : decode cX8_pass 8 = .ok (.invokevirtual 37, 3) := by decide +kernel
theorem dX8_pass_11 : decode cX8_pass 11 = .ok (.aload_n 0, 1) := by decide +kernel
theorem dX8_pass_12 : decode cX8_pass 12 = .ok (.getfield 19, 3) := by decide +kernel
theorem dX8_pass_15 : decode cX8_pass 15 = .ok (.aload_n 0, 1) := by decide +kernel
theorem dX8_pass_16 : decode cX8_pass 16 = .ok (.getfield 10, 3) := by decide +kernel
theorem dX8_pass_19 : decode cX8_pass 19 = .ok (.iload_n 1, 1) := by decide +kernel
theorem dX8_pass_20 : decode cX8_pass 20 = .ok (.invokevirtual 55, 3) := by decide +kernel
theorem dX8_pass_23 : decode cX8_pass 23 = .ok (.invokevirtual 45, 3) := by decide +kernel
theorem dX8_pass_26 : decode cX8_pass 26 = .ok (.ireturn, 1) := by decide +kernel
theorem dX8_thin_0 : decode cX8_thin 0 = .ok (.aload_n 0, 1) := by decide +kernel
theorem dX8_thin_1 : decode cX8_thin 1 = .ok (.getfield 19, 3) := by decide +kernel
theorem dX8_thin_4 : decode cX8_thin 4 = .ok (.aload_n 0, 1) := by decide +kernel
theorem dX8_thin_5 : decode cX8_thin 5 = .ok (.getfield 10, 3) := by decide +kernel
theorem dX8_thin_8 : decode cX8_thin 8 = .ok (.invokevirtual 37, 3) := by decide +kernel
theorem dX8_thin_11 : decode cX8_thin 11 = .ok (.aload_n 0, 1) := by decide +kernel
theorem dX8_thin_12 : decode cX8_thin 12 = .ok (.getfield 19, 3) := by decide +kernel
theorem dX8_thin_15 : decode cX8_thin 15 = .ok (.aload_n 0, 1) := by decide +kernel
theorem dX8_thin_16 : decode cX8_thin 16 = .ok (.getfield 10, 3) := by decide +kernel
theorem dX8_thin_19 : decode cX8_thin 19 = .ok (.invokevirtual 58, 3) := by decide +kernel
theorem dX8_thin_22 : decode cX8_thin 22 = .ok (.invokevirtual 45, 3) := by decide +kernel
theorem dX8_thin_25 : decode cX8_thin 25 = .ok (.ireturn, 1) := by decide +kernel
theorem dX8_snapshot_0 : decode cX8_snapshot 0 = .ok (.aload_n 0, 1) := by decide +kernel
theorem dX8_snapshot_1 : decode cX8_snapshot 1 = .ok (.getfield 19, 3) := by decide +kernel
theorem dX8_snapshot_4 : decode cX8_snapshot 4 = .ok (.aload_n 0, 1) := by decide +kernel
theorem dX8_snapshot_5 : decode cX8_snapshot 5 = .ok (.getfield 10, 3) := by decide +kernel
theorem dX8_snapshot_8 : decode cX8_snapshot 8 = .ok (.invokevirtual 37, 3) := by decide +kernel
theorem dX8_snapshot_11 : decode cX8_snapshot 11 = .ok (.aload_n 0, 1) := by decide +kernel
theorem dX8_snapshot_12 : decode cX8_snapshot 12 = .ok (.getfield 19, 3) := by decide +kernel
theorem dX8_snapshot_15 : decode cX8_snapshot 15 = .ok (.aload_n 0, 1) := by decide +kernel
theorem dX8_snapshot_16 : decode cX8_snapshot 16 = .ok (.getfield 10, 3) := by decide +kernel
theorem dX8_snapshot_19 : decode cX8_snapshot 19 = .ok (.invokevirtual 62, 3) := by decide +kernel
theorem dX8_snapshot_22 : decode cX8_snapshot 22 = .ok (.invokevirtual 45, 3) := by decide +kernel
theorem dX8_snapshot_25 : decode cX8_snapshot 25 = .ok (.ireturn, 1) := by decide +kernel
theorem dX8_reader_0 : decode cX8_reader 0 = .ok (.aload_n 0, 1) := by decide +kernel
theorem dX8_reader_1 : decode cX8_reader 1 = .ok (.getfield 19, 3) := by decide +kernel
theorem dX8_reader_4 : decode cX8_reader 4 = .ok (.aload_n 0, 1) := by decide +kernel
theorem dX8_reader_5 : decode cX8_reader 5 = .ok (.getfield 10, 3) := by decide +kernel
theorem dX8_reader_8 : decode cX8_reader 8 = .ok (.invokevirtual 37, 3) := by decide +kernel
theorem dX8_reader_11 : decode cX8_reader 11 = .ok (.aload_n 0, 1) := by decide +kernel
theorem dX8_reader_12 : decode cX8_reader 12 = .ok (.getfield 19, 3) := by decide +kernel
theorem dX8_reader_15 : decode cX8_reader 15 = .ok (.aload_n 0, 1) := by decide +kernel
theorem dX8_reader_16 : decode cX8_reader 16 = .ok (.getfield 10, 3) := by decide +kernel
theorem dX8_reader_19 : decode cX8_reader 19 = .ok (.invokevirtual 65, 3) := by decide +kernel
theorem dX8_reader_22 : decode cX8_reader 22 = .ok (.invokevirtual 45, 3) := by decide +kernel
theorem dX8_reader_25 : decode cX8_reader 25 = .ok (.ireturn, 1) := by decide +kernel
theorem dX8_read_0 : decode cX8_read 0 = .ok (.aload_n 0, 1) := by decide +kernel
theorem dX8_read_1 : decode cX8_read 1 = .ok (.getfield 19, 3) := by decide +kernel
theorem dX8_read_4 : decode cX8_read 4 = .ok (.aload_n 0, 1) := by decide +kernel
theorem dX8_read_5 : decode cX8_read 5 = .ok (.getfield 10, 3) := by decide +kernel
theorem dX8_read_8 : decode cX8_read 8 = .ok (.invokevirtual 37, 3) := by decide +kernel
theorem dX8_read_11 : decode cX8_read 11 = .ok (.aload_n 0, 1) := by decide +kernel
theorem dX8_read_12 : decode cX8_read 12 = .ok (.getfield 19, 3) := by decide +kernel
theorem dX8_read_15 : decode cX8_read 15 = .ok (.aload_n 0, 1) := by decide +kernel
theorem dX8_read_16 : decode cX8_read 16 = .ok (.getfield 10, 3) := by decide +kernel
theorem dX8_read_19 : decode cX8_read 19 = .ok (.iload_n 1, 1) := by decide +kernel
theorem dX8_read_20 : decode cX8_read 20 = .ok (.iload_n 2, 1) := by decide +kernel
theorem dX8_read_21 : decode cX8_read 21 = .ok (.invokevirtual 68, 3) := by decide +kernel
theorem dX8_read_24 : decode cX8_read 24 = .ok (.invokevirtual 45, 3) := by decide +kernel
theorem dX8_read_27 : decode cX8_read 27 = .ok (.ireturn, 1) := by decide +kernel
theorem dX8_confirm_0 : decode cX8_confirm 0 = .ok (.aload_n 0, 1) := by decide +kernel
theorem dX8_confirm_1 : decode cX8_confirm 1 = .ok (.getfield 19, 3) := by decide +kernel
theorem dX8_confirm_4 : decode cX8_confirm 4 = .ok (.aload_n 0, 1) := by decide +kernel
theorem dX8_confirm_5 : decode cX8_confirm 5 = .ok (.getfield 10, 3) := by decide +kernel
theorem dX8_confirm_8 : decode cX8_confirm 8 = .ok (.invokevirtual 37, 3) := by decide +kernel
theorem dX8_confirm_11 : decode cX8_confirm 11 = .ok (.aload_n 0, 1) := by decide +kernel
theorem dX8_confirm_12 : decode cX8_confirm 12 = .ok (.getfield 19, 3) := by decide +kernel
theorem dX8_confirm_15 : decode cX8_confirm 15 = .ok (.aload_n 0, 1) := by decide +kernel
theorem dX8_confirm_16 : decode cX8_confirm 16 = .ok (.getfield 10, 3) := by decide +kernel
theorem dX8_confirm_19 : decode cX8_confirm 19 = .ok (.iload_n 1, 1) := by decide +kernel
theorem dX8_confirm_20 : decode cX8_confirm 20 = .ok (.invokevirtual 71, 3) := by decide +kernel
theorem dX8_confirm_23 : decode cX8_confirm 23 = .ok (.invokevirtual 45, 3) := by decide +kernel
theorem dX8_confirm_26 : decode cX8_confirm 26 = .ok (.ireturn, 1) := by decide +kernel
theorem dX8_goBack_0 : decode cX8_goBack 0 = .ok (.aload_n 0, 1) := by decide +kernel
theorem dX8_goBack_1 : decode cX8_goBack 1 = .ok (.getfield 19, 3) := by decide +kernel
theorem dX8_goBack_4 : decode cX8_goBack 4 = .ok (.aload_n 0, 1) := by decide +kernel
theorem dX8_goBack_5 : decode cX8_goBack 5 = .ok (.getfield 10, 3) := by decide +kernel
theorem dX8_goBack_8 : decode cX8_goBack 8 = .ok (.invokevirtual 37, 3) := by decide +kernel
theorem dX8_goBack_11 : decode cX8_goBack 11 = .ok (.aload_n 0, 1) := by decide +kernel
theorem dX8_goBack_12 : decode cX8_goBack 12 = .ok (.getfield 19, 3) := by decide +kernel
theorem dX8_goBack_15 : decode cX8_goBack 15 = .ok (.aload_n 0, 1) := by decide +kernel
theorem dX8_goBack_16 : decode cX8_goBack 16 = .ok (.getfield 10, 3) := by decide +kernel
theorem dX8_goBack_19 : decode cX8_goBack 19 = .ok (.iload_n 1, 1) := by decide +kernel
theorem dX8_goBack_20 : decode cX8_goBack 20 = .ok (.invokevirtual 74, 3) := by decide +kernel
theorem dX8_goBack_23 : decode cX8_goBack 23 = .ok (.invokevirtual 45, 3) := by decide +kernel
theorem dX8_goBack_26 : decode cX8_goBack 26 = .ok (.ireturn, 1) := by decide +kernel
theorem dX8_beginAnew_0 : decode cX8_beginAnew 0 = .ok (.aload_n 0, 1) := by decide +kernel
theorem dX8_beginAnew_1 : decode cX8_beginAnew 1 = .ok (.getfield 19, 3) := by decide +kernel
theorem dX8_beginAnew_4 : decode cX8_beginAnew 4 = .ok (.aload_n 0, 1) := by decide +kernel
theorem dX8_beginAnew_5 : decode cX8_beginAnew 5 = .ok (.getfield 10, 3) := by decide +kernel
theorem dX8_beginAnew_8 : decode cX8_beginAnew 8 = .ok (.invokevirtual 37, 3) := by decide +kernel
theorem dX8_beginAnew_11 : decode cX8_beginAnew 11 = .ok (.aload_n 0, 1) := by decide +kernel
theorem dX8_beginAnew_12 : decode cX8_beginAnew 12 = .ok (.getfield 19, 3) := by decide +kernel
theorem dX8_beginAnew_15 : decode cX8_beginAnew 15 = .ok (.aload_n 0, 1) := by decide +kernel
theorem dX8_beginAnew_16 : decode cX8_beginAnew 16 = .ok (.getfield 10, 3) := by decide +kernel
theorem dX8_beginAnew_19 : decode cX8_beginAnew 19 = .ok (.iload_n 1, 1) := by decide +kernel
theorem dX8_beginAnew_20 : decode cX8_beginAnew 20 = .ok (.invokevirtual 77, 3) := by decide +kernel
theorem dX8_beginAnew_23 : decode cX8_beginAnew 23 = .ok (.invokevirtual 45, 3) := by decide +kernel
theorem dX8_beginAnew_26 : decode cX8_beginAnew 26 = .ok (.ireturn, 1) := by decide +kernel
theorem dX8_load_0 : decode cX8_load 0 = .ok (.aload_n 0, 1) := by decide +kernel
theorem dX8_load_1 : decode cX8_load 1 = .ok (.getfield 19, 3) := by decide +kernel
theorem dX8_load_4 : decode cX8_load 4 = .ok (.aload_n 0, 1) := by decide +kernel
theorem dX8_load_5 : decode cX8_load 5 = .ok (.getfield 10, 3) := by decide +kernel
theorem dX8_load_8 : decode cX8_load 8 = .ok (.invokevirtual 37, 3) := by decide +kernel
theorem dX8_load_11 : decode cX8_load 11 = .ok (.aload_n 0, 1) := by decide +kernel
theorem dX8_load_12 : decode cX8_load 12 = .ok (.getfield 19, 3) := by decide +kernel
theorem dX8_load_15 : decode cX8_load 15 = .ok (.aload_n 0, 1) := by decide +kernel
theorem dX8_load_16 : decode cX8_load 16 = .ok (.getfield 10, 3) := by decide +kernel
theorem dX8_load_19 : decode cX8_load 19 = .ok (.iload_n 1, 1) := by decide +kernel
theorem dX8_load_20 : decode cX8_load 20 = .ok (.iload_n 2, 1) := by decide +kernel
theorem dX8_load_21 : decode cX8_load 21 = .ok (.invokevirtual 80, 3) := by decide +kernel
theorem dX8_load_24 : decode cX8_load 24 = .ok (.invokevirtual 45, 3) := by decide +kernel
theorem dX8_load_27 : decode cX8_load 27 = .ok (.ireturn, 1) := by decide +kernel
theorem dX8_table_0 : decode cX8_table 0 = .ok (.iload_n 1, 1) := by decide +kernel
theorem dX8_table_1 : decode cX8_table 1 = .ok (.invokestatic 83, 3) := by decide +kernel
theorem dX8_table_4 : decode cX8_table 4 = .ok (.ifCond .eq 17, 3) := by decide +kernel
theorem dX8_table_7 : decode cX8_table 7 = .ok (.aload_n 0, 1) := by decide +kernel
theorem dX8_table_8 : decode cX8_table 8 = .ok (.getfield 10, 3) := by decide +kernel
theorem dX8_table_11 : decode cX8_table 11 = .ok (.getfield 87, 3) := by decide +kernel
theorem dX8_table_14 : decode cX8_table 14 = .ok (.iload_n 1, 1) := by decide +kernel
theorem dX8_table_15 : decode cX8_table 15 = .ok (.invokevirtual 91, 3) := by decide +kernel
theorem dX8_table_18 : decode cX8_table 18 = .ok (.goto 4, 3) := by decide +kernel
theorem dX8_table_21 : decode cX8_table 21 = .ok (.iconst (-1), 1) := by decide +kernel
theorem dX8_table_22 : decode cX8_table 22 = .ok (.ireturn, 1) := by decide +kernel
theorem dX8_view_0 : decode cX8_view 0 = .ok (.aload_n 0, 1) := by decide +kernel
theorem dX8_view_1 : decode cX8_view 1 = .ok (.getfield 10, 3) := by decide +kernel
theorem dX8_view_4 : decode cX8_view 4 = .ok (.iload_n 1, 1) := by decide +kernel
theorem dX8_view_5 : decode cX8_view 5 = .ok (.invokevirtual 96, 3) := by decide +kernel
theorem dX8_view_8 : decode cX8_view 8 = .ok (.astore_n 3, 1) := by decide +kernel
theorem dX8_view_9 : decode cX8_view 9 = .ok (.aload_n 3, 1) := by decide +kernel
theorem dX8_view_10 : decode cX8_view 10 = .ok (.ifnull 10, 3) := by decide +kernel
theorem dX8_view_13 : decode cX8_view 13 = .ok (.iload_n 2, 1) := by decide +kernel
theorem dX8_view_14 : decode cX8_view 14 = .ok (.invokestatic 83, 3) := by decide +kernel
theorem dX8_view_17 : decode cX8_view 17 = .ok (.ifCond .ne 5, 3) := by decide +kernel
theorem dX8_view_20 : decode cX8_view 20 = .ok (.iconst (-1), 1) := by decide +kernel
theorem dX8_view_21 : decode cX8_view 21 = .ok (.ireturn, 1) := by decide +kernel
theorem dX8_view_22 : decode cX8_view 22 = .ok (.aload_n 3, 1) := by decide +kernel
theorem dX8_view_23 : decode cX8_view 23 = .ok (.getfield 100, 3) := by decide +kernel
theorem dX8_view_26 : decode cX8_view 26 = .ok (.iload_n 2, 1) := by decide +kernel
theorem dX8_view_27 : decode cX8_view 27 = .ok (.invokevirtual 91, 3) := by decide +kernel
theorem dX8_view_30 : decode cX8_view 30 = .ok (.ireturn, 1) := by decide +kernel
theorem dX8_entry_0 : decode cX8_entry 0 = .ok (.aload_n 0, 1) := by decide +kernel
theorem dX8_entry_1 : decode cX8_entry 1 = .ok (.getfield 10, 3) := by decide +kernel
theorem dX8_entry_4 : decode cX8_entry 4 = .ok (.getfield 105, 3) := by decide +kernel
theorem dX8_entry_7 : decode cX8_entry 7 = .ok (.astore_n 3, 1) := by decide +kernel
theorem dX8_entry_8 : decode cX8_entry 8 = .ok (.iload_n 1, 1) := by decide +kernel
theorem dX8_entry_9 : decode cX8_entry 9 = .ok (.ifCond .lt 11, 3) := by decide +kernel
theorem dX8_entry_12 : decode cX8_entry 12 = .ok (.iload_n 1, 1) := by decide +kernel
theorem dX8_entry_13 : decode cX8_entry 13 = .ok (.aload_n 3, 1) := by decide +kernel
theorem dX8_entry_14 : decode cX8_entry 14 = .ok (.getfield 109, 3) := by decide +kernel
theorem dX8_entry_17 : decode cX8_entry 17 = .ok (.if_icmp .lt 5, 3) := by decide +kernel
theorem dX8_entry_20 : decode cX8_entry 20 = .ok (.iconst (-1), 1) := by decide +kernel
theorem dX8_entry_21 : decode cX8_entry 21 = .ok (.ireturn, 1) := by decide +kernel
theorem dX8_entry_22 : decode cX8_entry 22 = .ok (.iload_n 2, 1) := by decide +kernel
theorem dX8_entry_23 : decode cX8_entry 23 = .ok (.tableswitch 86 0 5 #[37, 43, 49, 55, 61, 70], 37) := by decide +kernel
theorem dX8_entry_60 : decode cX8_entry 60 = .ok (.aload_n 3, 1) := by decide +kernel
theorem dX8_entry_61 : decode cX8_entry 61 = .ok (.iload_n 1, 1) := by decide +kernel
theorem dX8_entry_62 : decode cX8_entry 62 = .ok (.invokevirtual 115, 3) := by decide +kernel
theorem dX8_entry_65 : decode cX8_entry 65 = .ok (.ireturn, 1) := by decide +kernel
theorem dX8_entry_66 : decode cX8_entry 66 = .ok (.aload_n 3, 1) := by decide +kernel
theorem dX8_entry_67 : decode cX8_entry 67 = .ok (.iload_n 1, 1) := by decide +kernel
theorem dX8_entry_68 : decode cX8_entry 68 = .ok (.invokevirtual 118, 3) := by decide +kernel
theorem dX8_entry_71 : decode cX8_entry 71 = .ok (.ireturn, 1) := by decide +kernel
theorem dX8_entry_72 : decode cX8_entry 72 = .ok (.aload_n 3, 1) := by decide +kernel
theorem dX8_entry_73 : decode cX8_entry 73 = .ok (.iload_n 1, 1) := by decide +kernel
theorem dX8_entry_74 : decode cX8_entry 74 = .ok (.invokevirtual 121, 3) := by decide +kernel
theorem dX8_entry_77 : decode cX8_entry 77 = .ok (.ireturn, 1) := by decide +kernel
theorem dX8_entry_78 : decode cX8_entry 78 = .ok (.aload_n 3, 1) := by decide +kernel
theorem dX8_entry_79 : decode cX8_entry 79 = .ok (.iload_n 1, 1) := by decide +kernel
theorem dX8_entry_80 : decode cX8_entry 80 = .ok (.invokevirtual 124, 3) := by decide +kernel
theorem dX8_entry_83 : decode cX8_entry 83 = .ok (.ireturn, 1) := by decide +kernel
theorem dX8_entry_84 : decode cX8_entry 84 = .ok (.aload_n 3, 1) := by decide +kernel
theorem dX8_entry_85 : decode cX8_entry 85 = .ok (.iload_n 1, 1) := by decide +kernel
theorem dX8_entry_86 : decode cX8_entry 86 = .ok (.invokevirtual 127, 3) := by decide +kernel
theorem dX8_entry_89 : decode cX8_entry 89 = .ok (.invokestatic 130, 3) := by decide +kernel
theorem dX8_entry_92 : decode cX8_entry 92 = .ok (.ireturn, 1) := by decide +kernel
theorem dX8_entry_93 : decode cX8_entry 93 = .ok (.aload_n 3, 1) := by decide +kernel
theorem dX8_entry_94 : decode cX8_entry 94 = .ok (.iload_n 1, 1) := by decide +kernel
theorem dX8_entry_95 : decode cX8_entry 95 = .ok (.aload_n 0, 1) := by decide +kernel
theorem dX8_entry_96 : decode cX8_entry 96 = .ok (.getfield 10, 3) := by decide +kernel
theorem dX8_entry_99 : decode cX8_entry 99 = .ok (.getfield 134, 3) := by decide +kernel
theorem dX8_entry_102 : decode cX8_entry 102 = .ok (.invokevirtual 137, 3) := by decide +kernel
theorem dX8_entry_105 : decode cX8_entry 105 = .ok (.invokestatic 130, 3) := by decide +kernel
theorem dX8_entry_108 : decode cX8_entry 108 = .ok (.ireturn, 1) := by decide +kernel
theorem dX8_entry_109 : decode cX8_entry 109 = .ok (.bipush (-2), 2) := by decide +kernel
theorem dX8_entry_111 : decode cX8_entry 111 = .ok (.ireturn, 1) := by decide +kernel
theorem dX8_ofReader_0 : decode cX8_ofReader 0 = .ok (.aload_n 0, 1) := by decide +kernel
theorem dX8_ofReader_1 : decode cX8_ofReader 1 = .ok (.getfield 10, 3) := by decide +kernel
theorem dX8_ofReader_4 : decode cX8_ofReader 4 = .ok (.iload_n 1, 1) := by decide +kernel
theorem dX8_ofReader_5 : decode cX8_ofReader 5 = .ok (.invokevirtual 96, 3) := by decide +kernel
theorem dX8_ofReader_8 : decode cX8_ofReader 8 = .ok (.astore_n 3, 1) := by decide +kernel
theorem dX8_ofReader_9 : decode cX8_ofReader 9 = .ok (.aload_n 3, 1) := by decide +kernel
theorem dX8_ofReader_10 : decode cX8_ofReader 10 = .ok (.ifnonnull 5, 3) := by decide +kernel
theorem dX8_ofReader_13 : decode cX8_ofReader 13 = .ok (.iconst (-1), 1) := by decide +kernel
theorem dX8_ofReader_14 : decode cX8_ofReader 14 = .ok (.ireturn, 1) := by decide +kernel
theorem dX8_ofReader_15 : decode cX8_ofReader 15 = .ok (.iload_n 2, 1) := by decide +kernel
theorem dX8_ofReader_16 : decode cX8_ofReader 16 = .ok (.tableswitch 125 0 6 #[44, 49, 54, 69, 90, 95, 110], 44) := by decide +kernel
theorem dX8_ofReader_60 : decode cX8_ofReader 60 = .ok (.aload_n 3, 1) := by decide +kernel
theorem dX8_ofReader_61 : decode cX8_ofReader 61 = .ok (.getfield 141, 3) := by decide +kernel
theorem dX8_ofReader_64 : decode cX8_ofReader 64 = .ok (.ireturn, 1) := by decide +kernel
theorem dX8_ofReader_65 : decode cX8_ofReader 65 = .ok (.aload_n 3, 1) := by decide +kernel
theorem dX8_ofReader_66 : decode cX8_ofReader 66 = .ok (.getfield 144, 3) := by decide +kernel
theorem dX8_ofReader_69 : decode cX8_ofReader 69 = .ok (.ireturn, 1) := by decide +kernel
theorem dX8_ofReader_70 : decode cX8_ofReader 70 = .ok (.aload_n 0, 1) := by decide +kernel
theorem dX8_ofReader_71 : decode cX8_ofReader 71 = .ok (.getfield 10, 3) := by decide +kernel
theorem dX8_ofReader_74 : decode cX8_ofReader 74 = .ok (.getfield 105, 3) := by decide +kernel
theorem dX8_ofReader_77 : decode cX8_ofReader 77 = .ok (.aload_n 3, 1) := by decide +kernel
theorem dX8_ofReader_78 : decode cX8_ofReader 78 = .ok (.getfield 141, 3) := by decide +kernel
theorem dX8_ofReader_81 : decode cX8_ofReader 81 = .ok (.invokevirtual 147, 3) := by decide +kernel
theorem dX8_ofReader_84 : decode cX8_ofReader 84 = .ok (.ireturn, 1) := by decide +kernel
theorem dX8_ofReader_85 : decode cX8_ofReader 85 = .ok (.aload_n 3, 1) := by decide +kernel
theorem dX8_ofReader_86 : decode cX8_ofReader 86 = .ok (.getfield 141, 3) := by decide +kernel
theorem dX8_ofReader_89 : decode cX8_ofReader 89 = .ok (.aload_n 0, 1) := by decide +kernel
theorem dX8_ofReader_90 : decode cX8_ofReader 90 = .ok (.getfield 10, 3) := by decide +kernel
theorem dX8_ofReader_93 : decode cX8_ofReader 93 = .ok (.getfield 105, 3) := by decide +kernel
theorem dX8_ofReader_96 : decode cX8_ofReader 96 = .ok (.getfield 150, 3) := by decide +kernel
theorem dX8_ofReader_99 : decode cX8_ofReader 99 = .ok (.invokestatic 153, 3) := by decide +kernel
theorem dX8_ofReader_102 : decode cX8_ofReader 102 = .ok (.invokestatic 130, 3) := by decide +kernel
theorem dX8_ofReader_105 : decode cX8_ofReader 105 = .ok (.ireturn, 1) := by decide +kernel
theorem dX8_ofReader_106 : decode cX8_ofReader 106 = .ok (.aload_n 3, 1) := by decide +kernel
theorem dX8_ofReader_107 : decode cX8_ofReader 107 = .ok (.getfield 156, 3) := by decide +kernel
theorem dX8_ofReader_110 : decode cX8_ofReader 110 = .ok (.ireturn, 1) := by decide +kernel
theorem dX8_ofReader_111 : decode cX8_ofReader 111 = .ok (.aload_n 3, 1) := by decide +kernel
theorem dX8_ofReader_112 : decode cX8_ofReader 112 = .ok (.getfield 100, 3) := by decide +kernel
theorem dX8_ofReader_115 : decode cX8_ofReader 115 = .ok (.aload_n 0, 1) := by decide +kernel
theorem dX8_ofReader_116 : decode cX8_ofReader 116 = .ok (.getfield 10, 3) := by decide +kernel
theorem dX8_ofReader_119 : decode cX8_ofReader 119 = .ok (.getfield 87, 3) := by decide +kernel
theorem dX8_ofReader_122 : decode cX8_ofReader 122 = .ok (.invokevirtual 159, 3) := by decide +kernel
theorem dX8_ofReader_125 : decode cX8_ofReader 125 = .ok (.ireturn, 1) := by decide +kernel
theorem dX8_ofReader_126 : decode cX8_ofReader 126 = .ok (.aload_n 3, 1) := by decide +kernel
theorem dX8_ofReader_127 : decode cX8_ofReader 127 = .ok (.getfield 163, 3) := by decide +kernel
theorem dX8_ofReader_130 : decode cX8_ofReader 130 = .ok (.aload_n 0, 1) := by decide +kernel
theorem dX8_ofReader_131 : decode cX8_ofReader 131 = .ok (.getfield 10, 3) := by decide +kernel
theorem dX8_ofReader_134 : decode cX8_ofReader 134 = .ok (.getfield 87, 3) := by decide +kernel
theorem dX8_ofReader_137 : decode cX8_ofReader 137 = .ok (.invokevirtual 159, 3) := by decide +kernel
theorem dX8_ofReader_140 : decode cX8_ofReader 140 = .ok (.ireturn, 1) := by decide +kernel
theorem dX8_ofReader_141 : decode cX8_ofReader 141 = .ok (.bipush (-2), 2) := by decide +kernel
theorem dX8_ofReader_143 : decode cX8_ofReader 143 = .ok (.ireturn, 1) := by decide +kernel
theorem dX8_ofSnapshot_0 : decode cX8_ofSnapshot 0 = .ok (.aload_n 0, 1) := by decide +kernel
theorem dX8_ofSnapshot_1 : decode cX8_ofSnapshot 1 = .ok (.getfield 10, 3) := by decide +kernel
theorem dX8_ofSnapshot_4 : decode cX8_ofSnapshot 4 = .ok (.iload_n 1, 1) := by decide +kernel
theorem dX8_ofSnapshot_5 : decode cX8_ofSnapshot 5 = .ok (.invokevirtual 166, 3) := by decide +kernel
theorem dX8_ofSnapshot_8 : decode cX8_ofSnapshot 8 = .ok (.astore_n 3, 1) := by decide +kernel
theorem dX8_ofSnapshot_9 : decode cX8_ofSnapshot 9 = .ok (.aload_n 3, 1) := by decide +kernel
theorem dX8_ofSnapshot_10 : decode cX8_ofSnapshot 10 = .ok (.ifnonnull 5, 3) := by decide +kernel
theorem dX8_ofSnapshot_13 : decode cX8_ofSnapshot 13 = .ok (.iconst (-1), 1) := by decide +kernel
theorem dX8_ofSnapshot_14 : decode cX8_ofSnapshot 14 = .ok (.ireturn, 1) := by decide +kernel
theorem dX8_ofSnapshot_15 : decode cX8_ofSnapshot 15 = .ok (.iload_n 2, 1) := by decide +kernel
theorem dX8_ofSnapshot_16 : decode cX8_ofSnapshot 16 = .ok (.tableswitch 56 0 2 #[28, 33, 41], 28) := by decide +kernel
theorem dX8_ofSnapshot_44 : decode cX8_ofSnapshot 44 = .ok (.aload_n 3, 1) := by decide +kernel
theorem dX8_ofSnapshot_45 : decode cX8_ofSnapshot 45 = .ok (.getfield 170, 3) := by decide +kernel
theorem dX8_ofSnapshot_48 : decode cX8_ofSnapshot 48 = .ok (.ireturn, 1) := by decide +kernel
theorem dX8_ofSnapshot_49 : decode cX8_ofSnapshot 49 = .ok (.aload_n 3, 1) := by decide +kernel
theorem dX8_ofSnapshot_50 : decode cX8_ofSnapshot 50 = .ok (.getfield 175, 3) := by decide +kernel
theorem dX8_ofSnapshot_53 : decode cX8_ofSnapshot 53 = .ok (.invokevirtual 176, 3) := by decide +kernel
theorem dX8_ofSnapshot_56 : decode cX8_ofSnapshot 56 = .ok (.ireturn, 1) := by decide +kernel
theorem dX8_ofSnapshot_57 : decode cX8_ofSnapshot 57 = .ok (.aload_n 0, 1) := by decide +kernel
theorem dX8_ofSnapshot_58 : decode cX8_ofSnapshot 58 = .ok (.getfield 10, 3) := by decide +kernel
theorem dX8_ofSnapshot_61 : decode cX8_ofSnapshot 61 = .ok (.getfield 105, 3) := by decide +kernel
theorem dX8_ofSnapshot_64 : decode cX8_ofSnapshot 64 = .ok (.aload_n 3, 1) := by decide +kernel
theorem dX8_ofSnapshot_65 : decode cX8_ofSnapshot 65 = .ok (.getfield 170, 3) := by decide +kernel
theorem dX8_ofSnapshot_68 : decode cX8_ofSnapshot 68 = .ok (.invokevirtual 147, 3) := by decide +kernel
theorem dX8_ofSnapshot_71 : decode cX8_ofSnapshot 71 = .ok (.ireturn, 1) := by decide +kernel
theorem dX8_ofSnapshot_72 : decode cX8_ofSnapshot 72 = .ok (.bipush (-2), 2) := by decide +kernel
theorem dX8_ofSnapshot_74 : decode cX8_ofSnapshot 74 = .ok (.ireturn, 1) := by decide +kernel
theorem dX8_count_0 : decode cX8_count 0 = .ok (.iload_n 1, 1) := by decide +kernel
theorem dX8_count_1 : decode cX8_count 1 = .ok (.tableswitch 196 0 12 #[67, 78, 89, 100, 108, 119, 130, 138, 156, 164, 172, 180, 188], 67) := by decide +kernel
theorem dX8_count_68 : decode cX8_count 68 = .ok (.aload_n 0, 1) := by decide +kernel
theorem dX8_count_69 : decode cX8_count 69 = .ok (.getfield 10, 3) := by decide +kernel
theorem dX8_count_72 : decode cX8_count 72 = .ok (.getfield 105, 3) := by decide +kernel
theorem dX8_count_75 : decode cX8_count 75 = .ok (.getfield 109, 3) := by decide +kernel
theorem dX8_count_78 : decode cX8_count 78 = .ok (.ireturn, 1) := by decide +kernel
theorem dX8_count_79 : decode cX8_count 79 = .ok (.aload_n 0, 1) := by decide +kernel
theorem dX8_count_80 : decode cX8_count 80 = .ok (.getfield 10, 3) := by decide +kernel
theorem dX8_count_83 : decode cX8_count 83 = .ok (.getfield 105, 3) := by decide +kernel
theorem dX8_count_86 : decode cX8_count 86 = .ok (.getfield 179, 3) := by decide +kernel
theorem dX8_count_89 : decode cX8_count 89 = .ok (.ireturn, 1) := by decide +kernel
theorem dX8_count_90 : decode cX8_count 90 = .ok (.aload_n 0, 1) := by decide +kernel
theorem dX8_count_91 : decode cX8_count 91 = .ok (.getfield 10, 3) := by decide +kernel
theorem dX8_count_94 : decode cX8_count 94 = .ok (.getfield 87, 3) := by decide +kernel
theorem dX8_count_97 : decode cX8_count 97 = .ok (.invokevirtual 176, 3) := by decide +kernel
theorem dX8_count_100 : decode cX8_count 100 = .ok (.ireturn, 1) := by decide +kernel
theorem dX8_count_101 : decode cX8_count 101 = .ok (.aload_n 0, 1) := by decide +kernel
theorem dX8_count_102 : decode cX8_count 102 = .ok (.getfield 10, 3) := by decide +kernel
theorem dX8_count_105 : decode cX8_count 105 = .ok (.getfield 182, 3) := by decide +kernel
theorem dX8_count_108 : decode cX8_count 108 = .ok (.ireturn, 1) := by decide +kernel
theorem dX8_count_109 : decode cX8_count 109 = .ok (.aload_n 0, 1) := by decide +kernel
theorem dX8_count_110 : decode cX8_count 110 = .ok (.getfield 10, 3) := by decide +kernel
theorem dX8_count_113 : decode cX8_count 113 = .ok (.getfield 105, 3) := by decide +kernel
theorem dX8_count_116 : decode cX8_count 116 = .ok (.getfield 150, 3) := by decide +kernel
theorem dX8_count_119 : decode cX8_count 119 = .ok (.ireturn, 1) := by decide +kernel
theorem dX8_count_120 : decode cX8_count 120 = .ok (.aload_n 0, 1) := by decide +kernel
theorem dX8_count_121 : decode cX8_count 121 = .ok (.getfield 10, 3) := by decide +kernel
theorem dX8_count_124 : decode cX8_count 124 = .ok (.getfield 105, 3) := by decide +kernel
theorem dX8_count_127 : decode cX8_count 127 = .ok (.getfield 185, 3) := by decide +kernel
theorem dX8_count_130 : decode cX8_count 130 = .ok (.ireturn, 1) := by decide +kernel
theorem dX8_count_131 : decode cX8_count 131 = .ok (.aload_n 0, 1) := by decide +kernel
theorem dX8_count_132 : decode cX8_count 132 = .ok (.getfield 10, 3) := by decide +kernel
theorem dX8_count_135 : decode cX8_count 135 = .ok (.getfield 188, 3) := by decide +kernel
theorem dX8_count_138 : decode cX8_count 138 = .ok (.ireturn, 1) := by decide +kernel
theorem dX8_count_139 : decode cX8_count 139 = .ok (.aload_n 0, 1) := by decide +kernel
theorem dX8_count_140 : decode cX8_count 140 = .ok (.getfield 10, 3) := by decide +kernel
theorem dX8_count_143 : decode cX8_count 143 = .ok (.aload_n 0, 1) := by decide +kernel
theorem dX8_count_144 : decode cX8_count 144 = .ok (.getfield 10, 3) := by decide +kernel
theorem dX8_count_147 : decode cX8_count 147 = .ok (.getfield 105, 3) := by decide +kernel
theorem dX8_count_150 : decode cX8_count 150 = .ok (.getfield 150, 3) := by decide +kernel
theorem dX8_count_153 : decode cX8_count 153 = .ok (.invokevirtual 191, 3) := by decide +kernel
theorem dX8_count_156 : decode cX8_count 156 = .ok (.ireturn, 1) := by decide +kernel
theorem dX8_count_157 : decode cX8_count 157 = .ok (.aload_n 0, 1) := by decide +kernel
theorem dX8_count_158 : decode cX8_count 158 = .ok (.getfield 10, 3) := by decide +kernel
theorem dX8_count_161 : decode cX8_count 161 = .ok (.getfield 194, 3) := by decide +kernel
theorem dX8_count_164 : decode cX8_count 164 = .ok (.ireturn, 1) := by decide +kernel
theorem dX8_count_165 : decode cX8_count 165 = .ok (.aload_n 0, 1) := by decide +kernel
theorem dX8_count_166 : decode cX8_count 166 = .ok (.getfield 10, 3) := by decide +kernel
theorem dX8_count_169 : decode cX8_count 169 = .ok (.getfield 134, 3) := by decide +kernel
theorem dX8_count_172 : decode cX8_count 172 = .ok (.ireturn, 1) := by decide +kernel
theorem dX8_count_173 : decode cX8_count 173 = .ok (.aload_n 0, 1) := by decide +kernel
theorem dX8_count_174 : decode cX8_count 174 = .ok (.getfield 10, 3) := by decide +kernel
theorem dX8_count_177 : decode cX8_count 177 = .ok (.getfield 197, 3) := by decide +kernel
theorem dX8_count_180 : decode cX8_count 180 = .ok (.ireturn, 1) := by decide +kernel
theorem dX8_count_181 : decode cX8_count 181 = .ok (.aload_n 0, 1) := by decide +kernel
theorem dX8_count_182 : decode cX8_count 182 = .ok (.getfield 26, 3) := by decide +kernel
theorem dX8_count_185 : decode cX8_count 185 = .ok (.getfield 200, 3) := by decide +kernel
theorem dX8_count_188 : decode cX8_count 188 = .ok (.ireturn, 1) := by decide +kernel
theorem dX8_count_189 : decode cX8_count 189 = .ok (.aload_n 0, 1) := by decide +kernel
theorem dX8_count_190 : decode cX8_count 190 = .ok (.getfield 19, 3) := by decide +kernel
theorem dX8_count_193 : decode cX8_count 193 = .ok (.getfield 203, 3) := by decide +kernel
theorem dX8_count_196 : decode cX8_count 196 = .ok (.ireturn, 1) := by decide +kernel
theorem dX8_count_197 : decode cX8_count 197 = .ok (.bipush (-2), 2) := by decide +kernel
theorem dX8_count_199 : decode cX8_count 199 = .ok (.ireturn, 1) := by decide +kernel
theorem dX8_leftIn_0 : decode cX8_leftIn 0 = .ok (.iload_n 1, 1) := by decide +kernel
theorem dX8_leftIn_1 : decode cX8_leftIn 1 = .ok (.invokestatic 204, 3) := by decide +kernel
theorem dX8_leftIn_4 : decode cX8_leftIn 4 = .ok (.ifCond .ne 6, 3) := by decide +kernel
theorem dX8_leftIn_7 : decode cX8_leftIn 7 = .ok (.bipush (-2), 2) := by decide +kernel
theorem dX8_leftIn_9 : decode cX8_leftIn 9 = .ok (.ireturn, 1) := by decide +kernel
theorem dX8_leftIn_10 : decode cX8_leftIn 10 = .ok (.aload_n 0, 1) := by decide +kernel
theorem dX8_leftIn_11 : decode cX8_leftIn 11 = .ok (.getfield 10, 3) := by decide +kernel
theorem dX8_leftIn_14 : decode cX8_leftIn 14 = .ok (.getfield 105, 3) := by decide +kernel
theorem dX8_leftIn_17 : decode cX8_leftIn 17 = .ok (.aload_n 0, 1) := by decide +kernel
theorem dX8_leftIn_18 : decode cX8_leftIn 18 = .ok (.getfield 10, 3) := by decide +kernel
theorem dX8_leftIn_21 : decode cX8_leftIn 21 = .ok (.getfield 134, 3) := by decide +kernel
theorem dX8_leftIn_24 : decode cX8_leftIn 24 = .ok (.aload_n 0, 1) := by decide +kernel
theorem dX8_leftIn_25 : decode cX8_leftIn 25 = .ok (.getfield 10, 3) := by decide +kernel
theorem dX8_leftIn_28 : decode cX8_leftIn 28 = .ok (.getfield 197, 3) := by decide +kernel
theorem dX8_leftIn_31 : decode cX8_leftIn 31 = .ok (.aload_n 0, 1) := by decide +kernel
theorem dX8_leftIn_32 : decode cX8_leftIn 32 = .ok (.getfield 10, 3) := by decide +kernel
theorem dX8_leftIn_35 : decode cX8_leftIn 35 = .ok (.getfield 182, 3) := by decide +kernel
theorem dX8_leftIn_38 : decode cX8_leftIn 38 = .ok (.iload_n 1, 1) := by decide +kernel
theorem dX8_leftIn_39 : decode cX8_leftIn 39 = .ok (.iadd, 1) := by decide +kernel
theorem dX8_leftIn_40 : decode cX8_leftIn 40 = .ok (.invokevirtual 207, 3) := by decide +kernel
theorem dX8_leftIn_43 : decode cX8_leftIn 43 = .ok (.ireturn, 1) := by decide +kernel
theorem dX8_shortest_0 : decode cX8_shortest 0 = .ok (.aload_n 0, 1) := by decide +kernel
theorem dX8_shortest_1 : decode cX8_shortest 1 = .ok (.getfield 10, 3) := by decide +kernel
theorem dX8_shortest_4 : decode cX8_shortest 4 = .ok (.iload_n 1, 1) := by decide +kernel
theorem dX8_shortest_5 : decode cX8_shortest 5 = .ok (.invokevirtual 96, 3) := by decide +kernel
theorem dX8_shortest_8 : decode cX8_shortest 8 = .ok (.astore_n 3, 1) := by decide +kernel
theorem dX8_shortest_9 : decode cX8_shortest 9 = .ok (.aload_n 3, 1) := by decide +kernel
theorem dX8_shortest_10 : decode cX8_shortest 10 = .ok (.ifnonnull 5, 3) := by decide +kernel
theorem dX8_shortest_13 : decode cX8_shortest 13 = .ok (.iconst (-1), 1) := by decide +kernel
theorem dX8_shortest_14 : decode cX8_shortest 14 = .ok (.ireturn, 1) := by decide +kernel
theorem dX8_shortest_15 : decode cX8_shortest 15 = .ok (.iload_n 2, 1) := by decide +kernel
theorem dX8_shortest_16 : decode cX8_shortest 16 = .ok (.ifCond .lt 8, 3) := by decide +kernel
theorem dX8_shortest_19 : decode cX8_shortest 19 = .ok (.iload_n 2, 1) := by decide +kernel
theorem dX8_shortest_20 : decode cX8_shortest 20 = .ok (.iconst 1, 1) := by decide +kernel
theorem dX8_shortest_21 : decode cX8_shortest 21 = .ok (.if_icmp .le 6, 3) := by decide +kernel
theorem dX8_shortest_24 : decode cX8_shortest 24 = .ok (.bipush (-2), 2) := by decide +kernel
theorem dX8_shortest_26 : decode cX8_shortest 26 = .ok (.ireturn, 1) := by decide +kernel
theorem dX8_shortest_27 : decode cX8_shortest 27 = .ok (.aload_n 0, 1) := by decide +kernel
theorem dX8_shortest_28 : decode cX8_shortest 28 = .ok (.getfield 10, 3) := by decide +kernel
theorem dX8_shortest_31 : decode cX8_shortest 31 = .ok (.aload_n 3, 1) := by decide +kernel
theorem dX8_shortest_32 : decode cX8_shortest 32 = .ok (.invokevirtual 214, 3) := by decide +kernel
theorem dX8_shortest_35 : decode cX8_shortest 35 = .ok (.istore 4, 2) := by decide +kernel
theorem dX8_shortest_37 : decode cX8_shortest 37 = .ok (.iload_n 2, 1) := by decide +kernel
theorem dX8_shortest_38 : decode cX8_shortest 38 = .ok (.ifCond .ne 8, 3) := by decide +kernel
theorem dX8_shortest_41 : decode cX8_shortest 41 = .ok (.iload 4, 2) := by decide +kernel
theorem dX8_shortest_43 : decode cX8_shortest 43 = .ok (.goto 13, 3) := by decide +kernel
theorem dX8_shortest_46 : decode cX8_shortest 46 = .ok (.aload_n 0, 1) := by decide +kernel
theorem dX8_shortest_47 : decode cX8_shortest 47 = .ok (.getfield 10, 3) := by decide +kernel
theorem dX8_shortest_50 : decode cX8_shortest 50 = .ok (.aload_n 3, 1) := by decide +kernel
theorem dX8_shortest_51 : decode cX8_shortest 51 = .ok (.iload 4, 2) := by decide +kernel
theorem dX8_shortest_53 : decode cX8_shortest 53 = .ok (.invokevirtual 218, 3) := by decide +kernel
theorem dX8_shortest_56 : decode cX8_shortest 56 = .ok (.ireturn, 1) := by decide +kernel
theorem dX8_isKey_0 : decode cX8_isKey 0 = .ok (.iload_n 0, 1) := by decide +kernel
theorem dX8_isKey_1 : decode cX8_isKey 1 = .ok (.ifCond .lt 13, 3) := by decide +kernel
theorem dX8_isKey_4 : decode cX8_isKey 4 = .ok (.iload_n 0, 1) := by decide +kernel
theorem dX8_isKey_5 : decode cX8_isKey 5 = .ok (.bipush 12, 2) := by decide +kernel
theorem dX8_isKey_7 : decode cX8_isKey 7 = .ok (.if_icmp .ge 7, 3) := by decide +kernel
theorem dX8_isKey_10 : decode cX8_isKey 10 = .ok (.iconst 1, 1) := by decide +kernel
theorem dX8_isKey_11 : decode cX8_isKey 11 = .ok (.goto 4, 3) := by decide +kernel
theorem dX8_isKey_14 : decode cX8_isKey 14 = .ok (.iconst 0, 1) := by decide +kernel
theorem dX8_isKey_15 : decode cX8_isKey 15 = .ok (.ireturn, 1) := by decide +kernel
theorem dX8_isNumber_0 : decode cX8_isNumber 0 = .ok (.iload_n 0, 1) := by decide +kernel
theorem dX8_isNumber_1 : decode cX8_isNumber 1 = .ok (.ifCond .lt 14, 3) := by decide +kernel
theorem dX8_isNumber_4 : decode cX8_isNumber 4 = .ok (.iload_n 0, 1) := by decide +kernel
theorem dX8_isNumber_5 : decode cX8_isNumber 5 = .ok (.sipush 999, 3) := by decide +kernel
theorem dX8_isNumber_8 : decode cX8_isNumber 8 = .ok (.if_icmp .gt 7, 3) := by decide +kernel
theorem dX8_isNumber_11 : decode cX8_isNumber 11 = .ok (.iconst 1, 1) := by decide +kernel
theorem dX8_isNumber_12 : decode cX8_isNumber 12 = .ok (.goto 4, 3) := by decide +kernel
theorem dX8_isNumber_15 : decode cX8_isNumber 15 = .ok (.iconst 0, 1) := by decide +kernel
theorem dX8_isNumber_16 : decode cX8_isNumber 16 = .ok (.ireturn, 1) := by decide +kernel
theorem dX8_isLate_0 : decode cX8_isLate 0 = .ok (.iload_n 0, 1) := by decide +kernel
theorem dX8_isLate_1 : decode cX8_isLate 1 = .ok (.ifCond .le 12, 3) := by decide +kernel
theorem dX8_isLate_4 : decode cX8_isLate 4 = .ok (.iload_n 0, 1) := by decide +kernel
theorem dX8_isLate_5 : decode cX8_isLate 5 = .ok (.iload_n 1, 1) := by decide +kernel
theorem dX8_isLate_6 : decode cX8_isLate 6 = .ok (.if_icmp .ge 7, 3) := by decide +kernel
theorem dX8_isLate_9 : decode cX8_isLate 9 = .ok (.iconst 1, 1) := by decide +kernel
theorem dX8_isLate_10 : decode cX8_isLate 10 = .ok (.goto 4, 3) := by decide +kernel
theorem dX8_isLate_13 : decode cX8_isLate 13 = .ok (.iconst 0, 1) := by decide +kernel
theorem dX8_isLate_14 : decode cX8_isLate 14 = .ok (.ireturn, 1) := by decide +kernel
theorem dX8_oneIf_0 : decode cX8_oneIf 0 = .ok (.iload_n 0, 1) := by decide +kernel
theorem dX8_oneIf_1 : decode cX8_oneIf 1 = .ok (.ifCond .eq 7, 3) := by decide +kernel
theorem dX8_oneIf_4 : decode cX8_oneIf 4 = .ok (.iconst 1, 1) := by decide +kernel
theorem dX8_oneIf_5 : decode cX8_oneIf 5 = .ok (.goto 4, 3) := by decide +kernel
theorem dX8_oneIf_8 : decode cX8_oneIf 8 = .ok (.iconst 0, 1) := by decide +kernel
theorem dX8_oneIf_9 : decode cX8_oneIf 9 = .ok (.ireturn, 1) := by decide +kernel
theorem dX8_at_0 : decode cX8_at 0 = .ok (.iload_n 1, 1) := by decide +kernel
theorem dX8_at_1 : decode cX8_at 1 = .ok (.ifCond .lt 9, 3) := by decide +kernel
theorem dX8_at_4 : decode cX8_at 4 = .ok (.iload_n 1, 1) := by decide +kernel
theorem dX8_at_5 : decode cX8_at 5 = .ok (.aload_n 0, 1) := by decide +kernel
theorem dX8_at_6 : decode cX8_at 6 = .ok (.arraylength, 1) := by decide +kernel
theorem dX8_at_7 : decode cX8_at 7 = .ok (.if_icmp .lt 5, 3) := by decide +kernel
theorem dX8_at_10 : decode cX8_at 10 = .ok (.iconst 0, 1) := by decide +kernel
theorem dX8_at_11 : decode cX8_at 11 = .ok (.ireturn, 1) := by decide +kernel
theorem dX8_at_12 : decode cX8_at 12 = .ok (.aload_n 0, 1) := by decide +kernel
theorem dX8_at_13 : decode cX8_at 13 = .ok (.iload_n 1, 1) := by decide +kernel
theorem dX8_at_14 : decode cX8_at 14 = .ok (.iaload, 1) := by decide +kernel
theorem dX8_at_15 : decode cX8_at 15 = .ok (.ireturn, 1) := by decide +kernel
theorem dX8_layAt_0 : decode cX8_layAt 0 = .ok (.iload_n 1, 1) := by decide +kernel
theorem dX8_layAt_1 : decode cX8_layAt 1 = .ok (.ifCond .lt 13, 3) := by decide +kernel
theorem dX8_layAt_4 : decode cX8_layAt 4 = .ok (.iload_n 1, 1) := by decide +kernel
theorem dX8_layAt_5 : decode cX8_layAt 5 = .ok (.aload_n 0, 1) := by decide +kernel
theorem dX8_layAt_6 : decode cX8_layAt 6 = .ok (.arraylength, 1) := by decide +kernel
theorem dX8_layAt_7 : decode cX8_layAt 7 = .ok (.if_icmp .ge 7, 3) := by decide +kernel
theorem dX8_layAt_10 : decode cX8_layAt 10 = .ok (.aload_n 0, 1) := by decide +kernel
theorem dX8_layAt_11 : decode cX8_layAt 11 = .ok (.iload_n 1, 1) := by decide +kernel
theorem dX8_layAt_12 : decode cX8_layAt 12 = .ok (.iload_n 2, 1) := by decide +kernel
theorem dX8_layAt_13 : decode cX8_layAt 13 = .ok (.iastore, 1) := by decide +kernel
theorem dX8_layAt_14 : decode cX8_layAt 14 = .ok (.return_, 1) := by decide +kernel
theorem dX8_copyRow_0 : decode cX8_copyRow 0 = .ok (.iconst 0, 1) := by decide +kernel
theorem dX8_copyRow_1 : decode cX8_copyRow 1 = .ok (.istore_n 2, 1) := by decide +kernel
theorem dX8_copyRow_2 : decode cX8_copyRow 2 = .ok (.iload_n 2, 1) := by decide +kernel
theorem dX8_copyRow_3 : decode cX8_copyRow 3 = .ok (.aload_n 0, 1) := by decide +kernel
theorem dX8_copyRow_4 : decode cX8_copyRow 4 = .ok (.arraylength, 1) := by decide +kernel
theorem dX8_copyRow_5 : decode cX8_copyRow 5 = .ok (.if_icmp .ge 21, 3) := by decide +kernel
theorem dX8_copyRow_8 : decode cX8_copyRow 8 = .ok (.iload_n 2, 1) := by decide +kernel
theorem dX8_copyRow_9 : decode cX8_copyRow 9 = .ok (.aload_n 1, 1) := by decide +kernel
theorem dX8_copyRow_10 : decode cX8_copyRow 10 = .ok (.arraylength, 1) := by decide +kernel
theorem dX8_copyRow_11 : decode cX8_copyRow 11 = .ok (.if_icmp .ge 15, 3) := by decide +kernel
theorem dX8_copyRow_14 : decode cX8_copyRow 14 = .ok (.aload_n 1, 1) := by decide +kernel
theorem dX8_copyRow_15 : decode cX8_copyRow 15 = .ok (.iload_n 2, 1) := by decide +kernel
theorem dX8_copyRow_16 : decode cX8_copyRow 16 = .ok (.aload_n 0, 1) := by decide +kernel
theorem dX8_copyRow_17 : decode cX8_copyRow 17 = .ok (.iload_n 2, 1) := by decide +kernel
theorem dX8_copyRow_18 : decode cX8_copyRow 18 = .ok (.iaload, 1) := by decide +kernel
theorem dX8_copyRow_19 : decode cX8_copyRow 19 = .ok (.iastore, 1) := by decide +kernel
theorem dX8_copyRow_20 : decode cX8_copyRow 20 = .ok (.iinc 2 1, 3) := by decide +kernel
theorem dX8_copyRow_23 : decode cX8_copyRow 23 = .ok (.goto (-21), 3) := by decide +kernel
theorem dX8_copyRow_26 : decode cX8_copyRow 26 = .ok (.return_, 1) := by decide +kernel
