theorem dX2_init_0 : decode cX2_init 0 = .ok (.aload_n 0, 1) := by decide +kernel
theorem dX2_init_1 : decode cX2_init 1 = .ok (.invokespecial 1, 3) := by decide +kernel
theorem dX2_init_4 : decode cX2_init 4 = .ok (.aload_n 0, 1) := by decide +kernel
theorem dX2_init_5 : decode cX2_init 5 = .ok (.sipush 1263, 3) := by decide +kernel
theorem dX2_init_8 : decode cX2_init 8 = .ok (.newarray .int, 2) := by decide +kernel
theorem dX2_init_10 : decode cX2_init 10 = .ok (.putfield 7, 3) := by decide +kernel
theorem dX2_init_13 : decode cX2_init 13 = .ok (.aload_n 0, 1) := by decide +kernel
theorem dX2_init_14 : decode cX2_init 14 = .ok (.sipush 6315, 3) := by decide +kernel
theorem dX2_init_17 : decode cX2_init 17 = .ok (.newarray .int, 2) := by decide +kernel
theorem dX2_init_19 : decode cX2_init 19 = .ok (.putfield 13, 3) := by decide +kernel
theorem dX2_init_22 : decode cX2_init 22 = .ok (.aload_n 0, 1) := by decide +kernel
theorem dX2_init_23 : decode cX2_init 23 = .ok (.sipush 2526, 3) := by decide +kernel
theorem dX2_init_26 : decode cX2_init 26 = .ok (.newarray .int, 2) := by decide +kernel
theorem dX2_init_28 : decode cX2_init 28 = .ok (.putfield 16, 3) := by decide +kernel
theorem dX2_init_31 : decode cX2_init 31 = .ok (.aload_n 0, 1) := by decide +kernel
theorem dX2_init_32 : decode cX2_init 32 = .ok (.iconst 2, 1) := by decide +kernel
theorem dX2_init_33 : decode cX2_init 33 = .ok (.newarray .boolean, 2) := by decide +kernel
theorem dX2_init_35 : decode cX2_init 35 = .ok (.putfield 19, 3) := by decide +kernel
theorem dX2_init_38 : decode cX2_init 38 = .ok (.aload_n 0, 1) := by decide +kernel
theorem dX2_init_39 : decode cX2_init 39 = .ok (.bipush 6, 2) := by decide +kernel
theorem dX2_init_41 : decode cX2_init 41 = .ok (.newarray .int, 2) := by decide +kernel
theorem dX2_init_43 : decode cX2_init 43 = .ok (.putfield 23, 3) := by decide +kernel
theorem dX2_init_46 : decode cX2_init 46 = .ok (.aload_n 0, 1) := by decide +kernel
theorem dX2_init_47 : decode cX2_init 47 = .ok (.bipush 6, 2) := by decide +kernel
theorem dX2_init_49 : decode cX2_init 49 = .ok (.newarray .int, 2) := by decide +kernel
theorem dX2_init_51 : decode cX2_init 51 = .ok (.putfield 26, 3) := by decide +kernel
theorem dX2_init_54 : decode cX2_init 54 = .ok (.aload_n 0, 1) := by decide +kernel
theorem dX2_init_55 : decode cX2_init 55 = .ok (.iconst 4, 1) := by decide +kernel
theorem dX2_init_56 : decode cX2_init 56 = .ok (.newarray .int, 2) := by decide +kernel
theorem dX2_init_58 : decode cX2_init 58 = .ok (.putfield 29, 3) := by decide +kernel
theorem dX2_init_61 : decode cX2_init 61 = .ok (.aload_n 0, 1) := by decide +kernel
theorem dX2_init_62 : decode cX2_init 62 = .ok (.bipush 9, 2) := by decide +kernel
theorem dX2_init_64 : decode cX2_init 64 = .ok (.newarray .int, 2) := by decide +kernel
theorem dX2_init_66 : decode cX2_init 66 = .ok (.putfield 32, 3) := by decide +kernel
theorem dX2_init_69 : decode cX2_init 69 = .ok (.aload_n 0, 1) := by decide +kernel
theorem dX2_init_70 : decode cX2_init 70 = .ok (.iconst 3, 1) := by decide +kernel
theorem dX2_init_71 : decode cX2_init 71 = .ok (.iconst 2, 1) := by decide +kernel
theorem dX2_init_72 : decode cX2_init 72 = .ok (.invokevirtual 35, 3) := by decide +kernel
theorem dX2_init_75 : decode cX2_init 75 = .ok (.return_, 1) := by decide +kernel
theorem dX2_in_0 : decode cX2_in 0 = .ok (.iload_n 0, 1) := by decide +kernel
theorem dX2_in_1 : decode cX2_in 1 = .ok (.iload_n 1, 1) := by decide +kernel
theorem dX2_in_2 : decode cX2_in 2 = .ok (.if_icmp .lt 12, 3) := by decide +kernel
theorem dX2_in_5 : decode cX2_in 5 = .ok (.iload_n 0, 1) := by decide +kernel
theorem dX2_in_6 : decode cX2_in 6 = .ok (.iload_n 2, 1) := by decide +kernel
theorem dX2_in_7 : decode cX2_in 7 = .ok (.if_icmp .gt 7, 3) := by decide +kernel
theorem dX2_in_10 : decode cX2_in 10 = .ok (.iconst 1, 1) := by decide +kernel
theorem dX2_in_11 : decode cX2_in 11 = .ok (.goto 4, 3) := by decide +kernel
theorem dX2_in_14 : decode cX2_in 14 = .ok (.iconst 0, 1) := by decide +kernel
theorem dX2_in_15 : decode cX2_in 15 = .ok (.ireturn, 1) := by decide +kernel
theorem dX2_has_0 : decode cX2_has 0 = .ok (.iload_n 0, 1) := by decide +kernel
theorem dX2_has_1 : decode cX2_has 1 = .ok (.iload_n 1, 1) := by decide +kernel
theorem dX2_has_2 : decode cX2_has 2 = .ok (.ishr, 1) := by decide +kernel
theorem dX2_has_3 : decode cX2_has 3 = .ok (.iconst 1, 1) := by decide +kernel
theorem dX2_has_4 : decode cX2_has 4 = .ok (.iand, 1) := by decide +kernel
theorem dX2_has_5 : decode cX2_has 5 = .ok (.iconst 1, 1) := by decide +kernel
theorem dX2_has_6 : decode cX2_has 6 = .ok (.if_icmp .ne 7, 3) := by decide +kernel
theorem dX2_has_9 : decode cX2_has 9 = .ok (.iconst 1, 1) := by decide +kernel
theorem dX2_has_10 : decode cX2_has 10 = .ok (.goto 4, 3) := by decide +kernel
theorem dX2_has_13 : decode cX2_has 13 = .ok (.iconst 0, 1) := by decide +kernel
theorem dX2_has_14 : decode cX2_has 14 = .ok (.ireturn, 1) := by decide +kernel
theorem dX2_bits_0 : decode cX2_bits 0 = .ok (.iconst 0, 1) := by decide +kernel
theorem dX2_bits_1 : decode cX2_bits 1 = .ok (.istore_n 1, 1) := by decide +kernel
theorem dX2_bits_2 : decode cX2_bits 2 = .ok (.iconst 0, 1) := by decide +kernel
theorem dX2_bits_3 : decode cX2_bits 3 = .ok (.istore_n 2, 1) := by decide +kernel
theorem dX2_bits_4 : decode cX2_bits 4 = .ok (.iload_n 2, 1) := by decide +kernel
theorem dX2_bits_5 : decode cX2_bits 5 = .ok (.bipush 32, 2) := by decide +kernel
theorem dX2_bits_7 : decode cX2_bits 7 = .ok (.if_icmp .ge 25, 3) := by decide +kernel
theorem dX2_bits_10 : decode cX2_bits 10 = .ok (.iload_n 1, 1) := by decide +kernel
theorem dX2_bits_11 : decode cX2_bits 11 = .ok (.iload_n 0, 1) := by decide +kernel
theorem dX2_bits_12 : decode cX2_bits 12 = .ok (.iload_n 2, 1) := by decide +kernel
theorem dX2_bits_13 : decode cX2_bits 13 = .ok (.invokestatic 39, 3) := by decide +kernel
theorem dX2_bits_16 : decode cX2_bits 16 = .ok (.ifCond .eq 7, 3) := by decide +kernel
theorem dX2_bits_19 : decode cX2_bits 19 = .ok (.iconst 1, 1) := by decide +kernel
theorem dX2_bits_20 : decode cX2_bits 20 = .ok (.goto 4, 3) := by decide +kernel
theorem dX2_bits_23 : decode cX2_bits 23 = .ok (.iconst 0, 1) := by decide +kernel
theorem dX2_bits_24 : decode cX2_bits 24 = .ok (.iadd, 1) := by decide +kernel
theorem dX2_bits_25 : decode cX2_bits 25 = .ok (.istore_n 1, 1) := by decide +kernel
theorem dX2_bits_26 : decode cX2_bits 26 = .ok (.iinc 2 1, 3) := by decide +kernel
theorem dX2_bits_29 : decode cX2_bits 29 = .ok (.goto (-25), 3) := by decide +kernel
theorem dX2_bits_32 : decode cX2_bits 32 = .ok (.iload_n 1, 1) := by decide +kernel
theorem dX2_bits_33 : decode cX2_bits 33 = .ok (.ireturn, 1) := by decide +kernel
theorem dX2_start_0 : decode cX2_start 0 = .ok (.iconst 0, 1) := by decide +kernel
theorem dX2_start_1 : decode cX2_start 1 = .ok (.istore_n 3, 1) := by decide +kernel
theorem dX2_start_2 : decode cX2_start 2 = .ok (.iload_n 3, 1) := by decide +kernel
theorem dX2_start_3 : decode cX2_start 3 = .ok (.sipush 1263, 3) := by decide +kernel
theorem dX2_start_6 : decode cX2_start 6 = .ok (.if_icmp .ge 16, 3) := by decide +kernel
theorem dX2_start_9 : decode cX2_start 9 = .ok (.aload_n 0, 1) := by decide +kernel
theorem dX2_start_10 : decode cX2_start 10 = .ok (.getfield 7, 3) := by decide +kernel
theorem dX2_start_13 : decode cX2_start 13 = .ok (.iload_n 3, 1) := by decide +kernel
theorem dX2_start_14 : decode cX2_start 14 = .ok (.iconst 0, 1) := by decide +kernel
theorem dX2_start_15 : decode cX2_start 15 = .ok (.iastore, 1) := by decide +kernel
theorem dX2_start_16 : decode cX2_start 16 = .ok (.iinc 3 1, 3) := by decide +kernel
theorem dX2_start_19 : decode cX2_start 19 = .ok (.goto (-17), 3) := by decide +kernel
theorem dX2_start_22 : decode cX2_start 22 = .ok (.aload_n 0, 1) := by decide +kernel
theorem dX2_start_23 : decode cX2_start 23 = .ok (.getfield 7, 3) := by decide +kernel
theorem dX2_start_26 : decode cX2_start 26 = .ok (.iconst 0, 1) := by decide +kernel
theorem dX2_start_27 : decode cX2_start 27 = .ok (.iload_n 1, 1) := by decide +kernel
theorem dX2_start_28 : decode cX2_start 28 = .ok (.iastore, 1) := by decide +kernel
theorem dX2_start_29 : decode cX2_start 29 = .ok (.aload_n 0, 1) := by decide +kernel
theorem dX2_start_30 : decode cX2_start 30 = .ok (.getfield 7, 3) := by decide +kernel
theorem dX2_start_33 : decode cX2_start 33 = .ok (.iconst 1, 1) := by decide +kernel
theorem dX2_start_34 : decode cX2_start 34 = .ok (.iload_n 2, 1) := by decide +kernel
theorem dX2_start_35 : decode cX2_start 35 = .ok (.iastore, 1) := by decide +kernel
theorem dX2_start_36 : decode cX2_start 36 = .ok (.return_, 1) := by decide +kernel
theorem dX2_many_0 : decode cX2_many 0 = .ok (.aload_n 0, 1) := by decide +kernel
theorem dX2_many_1 : decode cX2_many 1 = .ok (.getfield 7, 3) := by decide +kernel
theorem dX2_many_4 : decode cX2_many 4 = .ok (.iconst 0, 1) := by decide +kernel
theorem dX2_many_5 : decode cX2_many 5 = .ok (.iaload, 1) := by decide +kernel
theorem dX2_many_6 : decode cX2_many 6 = .ok (.ireturn, 1) := by decide +kernel
theorem dX2_isSite_0 : decode cX2_isSite 0 = .ok (.iload_n 1, 1) := by decide +kernel
theorem dX2_isSite_1 : decode cX2_isSite 1 = .ok (.iconst 0, 1) := by decide +kernel
theorem dX2_isSite_2 : decode cX2_isSite 2 = .ok (.aload_n 0, 1) := by decide +kernel
theorem dX2_isSite_3 : decode cX2_isSite 3 = .ok (.getfield 7, 3) := by decide +kernel
theorem dX2_isSite_6 : decode cX2_isSite 6 = .ok (.iconst 0, 1) := by decide +kernel
theorem dX2_isSite_7 : decode cX2_isSite 7 = .ok (.iaload, 1) := by decide +kernel
theorem dX2_isSite_8 : decode cX2_isSite 8 = .ok (.iconst 1, 1) := by decide +kernel
theorem dX2_isSite_9 : decode cX2_isSite 9 = .ok (.isub, 1) := by decide +kernel
theorem dX2_isSite_10 : decode cX2_isSite 10 = .ok (.invokestatic 43, 3) := by decide +kernel
theorem dX2_isSite_13 : decode cX2_isSite 13 = .ok (.ireturn, 1) := by decide +kernel
theorem dX2_isDown_0 : decode cX2_isDown 0 = .ok (.aload_n 0, 1) := by decide +kernel
theorem dX2_isDown_1 : decode cX2_isDown 1 = .ok (.getfield 7, 3) := by decide +kernel
theorem dX2_isDown_4 : decode cX2_isDown 4 = .ok (.iconst 2, 1) := by decide +kernel
theorem dX2_isDown_5 : decode cX2_isDown 5 = .ok (.iaload, 1) := by decide +kernel
theorem dX2_isDown_6 : decode cX2_isDown 6 = .ok (.iload_n 1, 1) := by decide +kernel
theorem dX2_isDown_7 : decode cX2_isDown 7 = .ok (.invokestatic 39, 3) := by decide +kernel
theorem dX2_isDown_10 : decode cX2_isDown 10 = .ok (.ireturn, 1) := by decide +kernel
theorem dX2_receipts_0 : decode cX2_receipts 0 = .ok (.aload_n 0, 1) := by decide +kernel
theorem dX2_receipts_1 : decode cX2_receipts 1 = .ok (.getfield 7, 3) := by decide +kernel
theorem dX2_receipts_4 : decode cX2_receipts 4 = .ok (.iconst 3, 1) := by decide +kernel
theorem dX2_receipts_5 : decode cX2_receipts 5 = .ok (.iload_n 1, 1) := by decide +kernel
theorem dX2_receipts_6 : decode cX2_receipts 6 = .ok (.iadd, 1) := by decide +kernel
theorem dX2_receipts_7 : decode cX2_receipts 7 = .ok (.iaload, 1) := by decide +kernel
theorem dX2_receipts_8 : decode cX2_receipts 8 = .ok (.ireturn, 1) := by decide +kernel
theorem dX2_ofReceipt_0 : decode cX2_ofReceipt 0 = .ok (.aload_n 0, 1) := by decide +kernel
theorem dX2_ofReceipt_1 : decode cX2_ofReceipt 1 = .ok (.getfield 7, 3) := by decide +kernel
theorem dX2_ofReceipt_4 : decode cX2_ofReceipt 4 = .ok (.bipush 7, 2) := by decide +kernel
theorem dX2_ofReceipt_6 : decode cX2_ofReceipt 6 = .ok (.bipush 24, 2) := by decide +kernel
theorem dX2_ofReceipt_8 : decode cX2_ofReceipt 8 = .ok (.iload_n 1, 1) := by decide +kernel
theorem dX2_ofReceipt_9 : decode cX2_ofReceipt 9 = .ok (.imul, 1) := by decide +kernel
theorem dX2_ofReceipt_10 : decode cX2_ofReceipt 10 = .ok (.iadd, 1) := by decide +kernel
theorem dX2_ofReceipt_11 : decode cX2_ofReceipt 11 = .ok (.iconst 3, 1) := by decide +kernel
theorem dX2_ofReceipt_12 : decode cX2_ofReceipt 12 = .ok (.iload_n 2, 1) := by decide +kernel
theorem dX2_ofReceipt_13 : decode cX2_ofReceipt 13 = .ok (.imul, 1) := by decide +kernel
theorem dX2_ofReceipt_14 : decode cX2_ofReceipt 14 = .ok (.iadd, 1) := by decide +kernel
theorem dX2_ofReceipt_15 : decode cX2_ofReceipt 15 = .ok (.iload_n 3, 1) := by decide +kernel
theorem dX2_ofReceipt_16 : decode cX2_ofReceipt 16 = .ok (.iadd, 1) := by decide +kernel
theorem dX2_ofReceipt_17 : decode cX2_ofReceipt 17 = .ok (.iaload, 1) := by decide +kernel
theorem dX2_ofReceipt_18 : decode cX2_ofReceipt 18 = .ok (.ireturn, 1) := by decide +kernel
theorem dX2_stateOf_0 : decode cX2_stateOf 0 = .ok (.aload_n 0, 1) := by decide +kernel
theorem dX2_stateOf_1 : decode cX2_stateOf 1 = .ok (.iload_n 1, 1) := by decide +kernel
theorem dX2_stateOf_2 : decode cX2_stateOf 2 = .ok (.invokevirtual 47, 3) := by decide +kernel
theorem dX2_stateOf_5 : decode cX2_stateOf 5 = .ok (.ifCond .ne 9, 3) := by decide +kernel
theorem dX2_stateOf_8 : decode cX2_stateOf 8 = .ok (.iload_n 1, 1) := by decide +kernel
theorem dX2_stateOf_9 : decode cX2_stateOf 9 = .ok (.iconst 1, 1) := by decide +kernel
theorem dX2_stateOf_10 : decode cX2_stateOf 10 = .ok (.iadd, 1) := by decide +kernel
theorem dX2_stateOf_11 : decode cX2_stateOf 11 = .ok (.goto 16, 3) := by decide +kernel
theorem dX2_stateOf_14 : decode cX2_stateOf 14 = .ok (.aload_n 0, 1) := by decide +kernel
theorem dX2_stateOf_15 : decode cX2_stateOf 15 = .ok (.iload_n 1, 1) := by decide +kernel
theorem dX2_stateOf_16 : decode cX2_stateOf 16 = .ok (.aload_n 0, 1) := by decide +kernel
theorem dX2_stateOf_17 : decode cX2_stateOf 17 = .ok (.iload_n 1, 1) := by decide +kernel
theorem dX2_stateOf_18 : decode cX2_stateOf 18 = .ok (.invokevirtual 47, 3) := by decide +kernel
theorem dX2_stateOf_21 : decode cX2_stateOf 21 = .ok (.iconst 1, 1) := by decide +kernel
theorem dX2_stateOf_22 : decode cX2_stateOf 22 = .ok (.isub, 1) := by decide +kernel
theorem dX2_stateOf_23 : decode cX2_stateOf 23 = .ok (.iconst 2, 1) := by decide +kernel
theorem dX2_stateOf_24 : decode cX2_stateOf 24 = .ok (.invokevirtual 51, 3) := by decide +kernel
theorem dX2_stateOf_27 : decode cX2_stateOf 27 = .ok (.ireturn, 1) := by decide +kernel
theorem dX2_way_0 : decode cX2_way 0 = .ok (.iconst 4, 1) := by decide +kernel
theorem dX2_way_1 : decode cX2_way 1 = .ok (.iload_n 0, 1) := by decide +kernel
theorem dX2_way_2 : decode cX2_way 2 = .ok (.imul, 1) := by decide +kernel
theorem dX2_way_3 : decode cX2_way 3 = .ok (.iload_n 1, 1) := by decide +kernel
theorem dX2_way_4 : decode cX2_way 4 = .ok (.iadd, 1) := by decide +kernel
theorem dX2_way_5 : decode cX2_way 5 = .ok (.ireturn, 1) := by decide +kernel
theorem dX2_letters_0 : decode cX2_letters 0 = .ok (.aload_n 0, 1) := by decide +kernel
theorem dX2_letters_1 : decode cX2_letters 1 = .ok (.getfield 7, 3) := by decide +kernel
theorem dX2_letters_4 : decode cX2_letters 4 = .ok (.bipush 123, 2) := by decide +kernel
theorem dX2_letters_6 : decode cX2_letters 6 = .ok (.iload_n 1, 1) := by decide +kernel
theorem dX2_letters_7 : decode cX2_letters 7 = .ok (.iload_n 2, 1) := by decide +kernel
theorem dX2_letters_8 : decode cX2_letters 8 = .ok (.invokestatic 55, 3) := by decide +kernel
theorem dX2_letters_11 : decode cX2_letters 11 = .ok (.iadd, 1) := by decide +kernel
theorem dX2_letters_12 : decode cX2_letters 12 = .ok (.iaload, 1) := by decide +kernel
theorem dX2_letters_13 : decode cX2_letters 13 = .ok (.ireturn, 1) := by decide +kernel
theorem dX2_letterAt_0 : decode cX2_letterAt 0 = .ok (.sipush 143, 3) := by decide +kernel
theorem dX2_letterAt_3 : decode cX2_letterAt 3 = .ok (.bipush 7, 2) := by decide +kernel
theorem dX2_letterAt_5 : decode cX2_letterAt 5 = .ok (.bipush 8, 2) := by decide +kernel
theorem dX2_letterAt_7 : decode cX2_letterAt 7 = .ok (.iload_n 0, 1) := by decide +kernel
theorem dX2_letterAt_8 : decode cX2_letterAt 8 = .ok (.iload_n 1, 1) := by decide +kernel
theorem dX2_letterAt_9 : decode cX2_letterAt 9 = .ok (.invokestatic 55, 3) := by decide +kernel
theorem dX2_letterAt_12 : decode cX2_letterAt 12 = .ok (.imul, 1) := by decide +kernel
theorem dX2_letterAt_13 : decode cX2_letterAt 13 = .ok (.iload_n 2, 1) := by decide +kernel
theorem dX2_letterAt_14 : decode cX2_letterAt 14 = .ok (.iadd, 1) := by decide +kernel
theorem dX2_letterAt_15 : decode cX2_letterAt 15 = .ok (.imul, 1) := by decide +kernel
theorem dX2_letterAt_16 : decode cX2_letterAt 16 = .ok (.iadd, 1) := by decide +kernel
theorem dX2_letterAt_17 : decode cX2_letterAt 17 = .ok (.ireturn, 1) := by decide +kernel
theorem dX2_knownIn_0 : decode cX2_knownIn 0 = .ok (.iload_n 0, 1) := by decide +kernel
theorem dX2_knownIn_1 : decode cX2_knownIn 1 = .ok (.iconst 4, 1) := by decide +kernel
theorem dX2_knownIn_2 : decode cX2_knownIn 2 = .ok (.iload_n 1, 1) := by decide +kernel
theorem dX2_knownIn_3 : decode cX2_knownIn 3 = .ok (.bipush 8, 2) := by decide +kernel
theorem dX2_knownIn_5 : decode cX2_knownIn 5 = .ok (.irem, 1) := by decide +kernel
theorem dX2_knownIn_6 : decode cX2_knownIn 6 = .ok (.imul, 1) := by decide +kernel
theorem dX2_knownIn_7 : decode cX2_knownIn 7 = .ok (.ishr, 1) := by decide +kernel
theorem dX2_knownIn_8 : decode cX2_knownIn 8 = .ok (.bipush 15, 2) := by decide +kernel
theorem dX2_knownIn_10 : decode cX2_knownIn 10 = .ok (.iand, 1) := by decide +kernel
theorem dX2_knownIn_11 : decode cX2_knownIn 11 = .ok (.ireturn, 1) := by decide +kernel
theorem dX2_knownBy_0 : decode cX2_knownBy 0 = .ok (.aload_n 0, 1) := by decide +kernel
theorem dX2_knownBy_1 : decode cX2_knownBy 1 = .ok (.getfield 7, 3) := by decide +kernel
theorem dX2_knownBy_4 : decode cX2_knownBy 4 = .ok (.bipush 107, 2) := by decide +kernel
theorem dX2_knownBy_6 : decode cX2_knownBy 6 = .ok (.iconst 4, 1) := by decide +kernel
theorem dX2_knownBy_7 : decode cX2_knownBy 7 = .ok (.iload_n 1, 1) := by decide +kernel
theorem dX2_knownBy_8 : decode cX2_knownBy 8 = .ok (.imul, 1) := by decide +kernel
theorem dX2_knownBy_9 : decode cX2_knownBy 9 = .ok (.iadd, 1) := by decide +kernel
theorem dX2_knownBy_10 : decode cX2_knownBy 10 = .ok (.iload_n 2, 1) := by decide +kernel
theorem dX2_knownBy_11 : decode cX2_knownBy 11 = .ok (.bipush 8, 2) := by decide +kernel
theorem dX2_knownBy_13 : decode cX2_knownBy 13 = .ok (.idiv, 1) := by decide +kernel
theorem dX2_knownBy_14 : decode cX2_knownBy 14 = .ok (.iadd, 1) := by decide +kernel
theorem dX2_knownBy_15 : decode cX2_knownBy 15 = .ok (.iaload, 1) := by decide +kernel
theorem dX2_knownBy_16 : decode cX2_knownBy 16 = .ok (.iload_n 2, 1) := by decide +kernel
theorem dX2_knownBy_17 : decode cX2_knownBy 17 = .ok (.invokestatic 59, 3) := by decide +kernel
theorem dX2_knownBy_20 : decode cX2_knownBy 20 = .ok (.ireturn, 1) := by decide +kernel
theorem dX2_know_0 : decode cX2_know 0 = .ok (.bipush 107, 2) := by decide +kernel
theorem dX2_know_2 : decode cX2_know 2 = .ok (.iconst 4, 1) := by decide +kernel
theorem dX2_know_3 : decode cX2_know 3 = .ok (.iload_n 1, 1) := by decide +kernel
theorem dX2_know_4 : decode cX2_know 4 = .ok (.imul, 1) := by decide +kernel
theorem dX2_know_5 : decode cX2_know 5 = .ok (.iadd, 1) := by decide +kernel
theorem dX2_know_6 : decode cX2_know 6 = .ok (.iload_n 2, 1) := by decide +kernel
theorem dX2_know_7 : decode cX2_know 7 = .ok (.bipush 8, 2) := by decide +kernel
theorem dX2_know_9 : decode cX2_know 9 = .ok (.idiv, 1) := by decide +kernel
theorem dX2_know_10 : decode cX2_know 10 = .ok (.iadd, 1) := by decide +kernel
theorem dX2_know_11 : decode cX2_know 11 = .ok (.istore 4, 2) := by decide +kernel
theorem dX2_know_13 : decode cX2_know 13 = .ok (.iconst 4, 1) := by decide +kernel
theorem dX2_know_14 : decode cX2_know 14 = .ok (.iload_n 2, 1) := by decide +kernel
theorem dX2_know_15 : decode cX2_know 15 = .ok (.bipush 8, 2) := by decide +kernel
theorem dX2_know_17 : decode cX2_know 17 = .ok (.irem, 1) := by decide +kernel
theorem dX2_know_18 : decode cX2_know 18 = .ok (.imul, 1) := by decide +kernel
theorem dX2_know_19 : decode cX2_know 19 = .ok (.istore 5, 2) := by decide +kernel
theorem dX2_know_21 : decode cX2_know 21 = .ok (.aload_n 0, 1) := by decide +kernel
theorem dX2_know_22 : decode cX2_know 22 = .ok (.getfield 7, 3) := by decide +kernel
theorem dX2_know_25 : decode cX2_know 25 = .ok (.iload 4, 2) := by decide +kernel
theorem dX2_know_27 : decode cX2_know 27 = .ok (.aload_n 0, 1) := by decide +kernel
theorem dX2_know_28 : decode cX2_know 28 = .ok (.getfield 7, 3) := by decide +kernel
theorem dX2_know_31 : decode cX2_know 31 = .ok (.iload 4, 2) := by decide +kernel
theorem dX2_know_33 : decode cX2_know 33 = .ok (.iaload, 1) := by decide +kernel
theorem dX2_know_34 : decode cX2_know 34 = .ok (.bipush 15, 2) := by decide +kernel
theorem dX2_know_36 : decode cX2_know 36 = .ok (.iload 5, 2) := by decide +kernel
theorem dX2_know_38 : decode cX2_know 38 = .ok (.ishl, 1) := by decide +kernel
theorem dX2_know_39 : decode cX2_know 39 = .ok (.iconst (-1), 1) := by decide +kernel
theorem dX2_know_40 : decode cX2_know 40 = .ok (.ixor, 1) := by decide +kernel
theorem dX2_know_41 : decode cX2_know 41 = .ok (.iand, 1) := by decide +kernel
theorem dX2_know_42 : decode cX2_know 42 = .ok (.iload_n 3, 1) := by decide +kernel
theorem dX2_know_43 : decode cX2_know 43 = .ok (.iload 5, 2) := by decide +kernel
theorem dX2_know_45 : decode cX2_know 45 = .ok (.ishl, 1) := by decide +kernel
theorem dX2_know_46 : decode cX2_know 46 = .ok (.ior, 1) := by decide +kernel
theorem dX2_know_47 : decode cX2_know 47 = .ok (.iastore, 1) := by decide +kernel
theorem dX2_know_48 : decode cX2_know 48 = .ok (.aload_n 0, 1) := by decide +kernel
theorem dX2_know_49 : decode cX2_know 49 = .ok (.getfield 7, 3) := by decide +kernel
theorem dX2_know_52 : decode cX2_know 52 = .ok (.bipush 103, 2) := by decide +kernel
theorem dX2_know_54 : decode cX2_know 54 = .ok (.iload_n 1, 1) := by decide +kernel
theorem dX2_know_55 : decode cX2_know 55 = .ok (.iadd, 1) := by decide +kernel
theorem dX2_know_56 : decode cX2_know 56 = .ok (.iload_n 3, 1) := by decide +kernel
theorem dX2_know_57 : decode cX2_know 57 = .ok (.ifCond .ne 21, 3) := by decide +kernel
theorem dX2_know_60 : decode cX2_know 60 = .ok (.aload_n 0, 1) := by decide +kernel
theorem dX2_know_61 : decode cX2_know 61 = .ok (.getfield 7, 3) := by decide +kernel
theorem dX2_know_64 : decode cX2_know 64 = .ok (.bipush 103, 2) := by decide +kernel
theorem dX2_know_66 : decode cX2_know 66 = .ok (.iload_n 1, 1) := by decide +kernel
theorem dX2_know_67 : decode cX2_know 67 = .ok (.iadd, 1) := by decide +kernel
theorem dX2_know_68 : decode cX2_know 68 = .ok (.iaload, 1) := by decide +kernel
theorem dX2_know_69 : decode cX2_know 69 = .ok (.iconst 1, 1) := by decide +kernel
theorem dX2_know_70 : decode cX2_know 70 = .ok (.iload_n 2, 1) := by decide +kernel
theorem dX2_know_71 : decode cX2_know 71 = .ok (.ishl, 1) := by decide +kernel
theorem dX2_know_72 : decode cX2_know 72 = .ok (.iconst (-1), 1) := by decide +kernel
theorem dX2_know_73 : decode cX2_know 73 = .ok (.ixor, 1) := by decide +kernel
theorem dX2_know_74 : decode cX2_know 74 = .ok (.iand, 1) := by decide +kernel
theorem dX2_know_75 : decode cX2_know 75 = .ok (.goto 16, 3) := by decide +kernel
theorem dX2_know_78 : decode cX2_know 78 = .ok (.aload_n 0, 1) := by decide +kernel
theorem dX2_know_79 : decode cX2_know 79 = .ok (.getfield 7, 3) := by decide +kernel
theorem dX2_know_82 : decode cX2_know 82 = .ok (.bipush 103, 2) := by decide +kernel
theorem dX2_know_84 : decode cX2_know 84 = .ok (.iload_n 1, 1) := by decide +kernel
theorem dX2_know_85 : decode cX2_know 85 = .ok (.iadd, 1) := by decide +kernel
theorem dX2_know_86 : decode cX2_know 86 = .ok (.iaload, 1) := by decide +kernel
theorem dX2_know_87 : decode cX2_know 87 = .ok (.iconst 1, 1) := by decide +kernel
theorem dX2_know_88 : decode cX2_know 88 = .ok (.iload_n 2, 1) := by decide +kernel
theorem dX2_know_89 : decode cX2_know 89 = .ok (.ishl, 1) := by decide +kernel
theorem dX2_know_90 : decode cX2_know 90 = .ok (.ior, 1) := by decide +kernel
theorem dX2_know_91 : decode cX2_know 91 = .ok (.iastore, 1) := by decide +kernel
theorem dX2_know_92 : decode cX2_know 92 = .ok (.return_, 1) := by decide +kernel
theorem dX2_write_0 : decode cX2_write 0 = .ok (.iload_n 1, 1) := by decide +kernel
theorem dX2_write_1 : decode cX2_write 1 = .ok (.iload_n 2, 1) := by decide +kernel
theorem dX2_write_2 : decode cX2_write 2 = .ok (.aload_n 0, 1) := by decide +kernel
theorem dX2_write_3 : decode cX2_write 3 = .ok (.iload_n 1, 1) := by decide +kernel
theorem dX2_write_4 : decode cX2_write 4 = .ok (.iload_n 2, 1) := by decide +kernel
theorem dX2_write_5 : decode cX2_write 5 = .ok (.invokevirtual 62, 3) := by decide +kernel
theorem dX2_write_8 : decode cX2_write 8 = .ok (.invokestatic 65, 3) := by decide +kernel
theorem dX2_write_11 : decode cX2_write 11 = .ok (.istore 6, 2) := by decide +kernel
theorem dX2_write_13 : decode cX2_write 13 = .ok (.aload_n 0, 1) := by decide +kernel
theorem dX2_write_14 : decode cX2_write 14 = .ok (.getfield 7, 3) := by decide +kernel
theorem dX2_write_17 : decode cX2_write 17 = .ok (.iload 6, 2) := by decide +kernel
theorem dX2_write_19 : decode cX2_write 19 = .ok (.iload_n 3, 1) := by decide +kernel
theorem dX2_write_20 : decode cX2_write 20 = .ok (.iastore, 1) := by decide +kernel
theorem dX2_write_21 : decode cX2_write 21 = .ok (.aload_n 0, 1) := by decide +kernel
theorem dX2_write_22 : decode cX2_write 22 = .ok (.getfield 7, 3) := by decide +kernel
theorem dX2_write_25 : decode cX2_write 25 = .ok (.iload 6, 2) := by decide +kernel
theorem dX2_write_27 : decode cX2_write 27 = .ok (.iconst 1, 1) := by decide +kernel
theorem dX2_write_28 : decode cX2_write 28 = .ok (.iadd, 1) := by decide +kernel
theorem dX2_write_29 : decode cX2_write 29 = .ok (.iload 4, 2) := by decide +kernel
theorem dX2_write_31 : decode cX2_write 31 = .ok (.iastore, 1) := by decide +kernel
theorem dX2_write_32 : decode cX2_write 32 = .ok (.aload_n 0, 1) := by decide +kernel
theorem dX2_write_33 : decode cX2_write 33 = .ok (.getfield 7, 3) := by decide +kernel
theorem dX2_write_36 : decode cX2_write 36 = .ok (.iload 6, 2) := by decide +kernel
theorem dX2_write_38 : decode cX2_write 38 = .ok (.iconst 2, 1) := by decide +kernel
theorem dX2_write_39 : decode cX2_write 39 = .ok (.iadd, 1) := by decide +kernel
theorem dX2_write_40 : decode cX2_write 40 = .ok (.iload 5, 2) := by decide +kernel
theorem dX2_write_42 : decode cX2_write 42 = .ok (.iastore, 1) := by decide +kernel
theorem dX2_write_43 : decode cX2_write 43 = .ok (.iconst 0, 1) := by decide +kernel
theorem dX2_write_44 : decode cX2_write 44 = .ok (.istore 7, 2) := by decide +kernel
theorem dX2_write_46 : decode cX2_write 46 = .ok (.iload 7, 2) := by decide +kernel
theorem dX2_write_48 : decode cX2_write 48 = .ok (.iconst 4, 1) := by decide +kernel
theorem dX2_write_49 : decode cX2_write 49 = .ok (.if_icmp .ge 46, 3) := by decide +kernel
theorem dX2_write_52 : decode cX2_write 52 = .ok (.aload_n 0, 1) := by decide +kernel
theorem dX2_write_53 : decode cX2_write 53 = .ok (.getfield 7, 3) := by decide +kernel
theorem dX2_write_56 : decode cX2_write 56 = .ok (.iload 6, 2) := by decide +kernel
theorem dX2_write_58 : decode cX2_write 58 = .ok (.iconst 3, 1) := by decide +kernel
theorem dX2_write_59 : decode cX2_write 59 = .ok (.iadd, 1) := by decide +kernel
theorem dX2_write_60 : decode cX2_write 60 = .ok (.iload 7, 2) := by decide +kernel
theorem dX2_write_62 : decode cX2_write 62 = .ok (.iadd, 1) := by decide +kernel
theorem dX2_write_63 : decode cX2_write 63 = .ok (.iload 4, 2) := by decide +kernel
theorem dX2_write_65 : decode cX2_write 65 = .ok (.bipush (-9), 2) := by decide +kernel
theorem dX2_write_67 : decode cX2_write 67 = .ok (.if_icmp .ne 7, 3) := by decide +kernel
theorem dX2_write_70 : decode cX2_write 70 = .ok (.iconst 0, 1) := by decide +kernel
theorem dX2_write_71 : decode cX2_write 71 = .ok (.goto 17, 3) := by decide +kernel
theorem dX2_write_74 : decode cX2_write 74 = .ok (.aload_n 0, 1) := by decide +kernel
theorem dX2_write_75 : decode cX2_write 75 = .ok (.getfield 7, 3) := by decide +kernel
theorem dX2_write_78 : decode cX2_write 78 = .ok (.bipush 107, 2) := by decide +kernel
theorem dX2_write_80 : decode cX2_write 80 = .ok (.iconst 4, 1) := by decide +kernel
theorem dX2_write_81 : decode cX2_write 81 = .ok (.iload_n 1, 1) := by decide +kernel
theorem dX2_write_82 : decode cX2_write 82 = .ok (.imul, 1) := by decide +kernel
theorem dX2_write_83 : decode cX2_write 83 = .ok (.iadd, 1) := by decide +kernel
theorem dX2_write_84 : decode cX2_write 84 = .ok (.iload 7, 2) := by decide +kernel
theorem dX2_write_86 : decode cX2_write 86 = .ok (.iadd, 1) := by decide +kernel
theorem dX2_write_87 : decode cX2_write 87 = .ok (.iaload, 1) := by decide +kernel
theorem dX2_write_88 : decode cX2_write 88 = .ok (.iastore, 1) := by decide +kernel
theorem dX2_write_89 : decode cX2_write 89 = .ok (.iinc 7 1, 3) := by decide +kernel
theorem dX2_write_92 : decode cX2_write 92 = .ok (.goto (-46), 3) := by decide +kernel
theorem dX2_write_95 : decode cX2_write 95 = .ok (.aload_n 0, 1) := by decide +kernel
theorem dX2_write_96 : decode cX2_write 96 = .ok (.getfield 7, 3) := by decide +kernel
theorem dX2_write_99 : decode cX2_write 99 = .ok (.bipush 123, 2) := by decide +kernel
theorem dX2_write_101 : decode cX2_write 101 = .ok (.iload_n 1, 1) := by decide +kernel
theorem dX2_write_102 : decode cX2_write 102 = .ok (.iload_n 2, 1) := by decide +kernel
theorem dX2_write_103 : decode cX2_write 103 = .ok (.invokestatic 55, 3) := by decide +kernel
theorem dX2_write_106 : decode cX2_write 106 = .ok (.iadd, 1) := by decide +kernel
theorem dX2_write_107 : decode cX2_write 107 = .ok (.dup2, 1) := by decide +kernel
theorem dX2_write_108 : decode cX2_write 108 = .ok (.iaload, 1) := by decide +kernel
theorem dX2_write_109 : decode cX2_write 109 = .ok (.iconst 1, 1) := by decide +kernel
theorem dX2_write_110 : decode cX2_write 110 = .ok (.iadd, 1) := by decide +kernel
theorem dX2_write_111 : decode cX2_write 111 = .ok (.iastore, 1) := by decide +kernel
theorem dX2_write_112 : decode cX2_write 112 = .ok (.return_, 1) := by decide +kernel
theorem dX2_had_0 : decode cX2_had 0 = .ok (.iconst 0, 1) := by decide +kernel
theorem dX2_had_1 : decode cX2_had 1 = .ok (.istore_n 3, 1) := by decide +kernel
theorem dX2_had_2 : decode cX2_had 2 = .ok (.iconst 0, 1) := by decide +kernel
theorem dX2_had_3 : decode cX2_had 3 = .ok (.istore 4, 2) := by decide +kernel
theorem dX2_had_5 : decode cX2_had 5 = .ok (.iload 4, 2) := by decide +kernel
theorem dX2_had_7 : decode cX2_had 7 = .ok (.aload_n 0, 1) := by decide +kernel
theorem dX2_had_8 : decode cX2_had 8 = .ok (.iload_n 1, 1) := by decide +kernel
theorem dX2_had_9 : decode cX2_had 9 = .ok (.invokevirtual 47, 3) := by decide +kernel
theorem dX2_had_12 : decode cX2_had 12 = .ok (.if_icmp .ge 29, 3) := by decide +kernel
theorem dX2_had_15 : decode cX2_had 15 = .ok (.iload_n 3, 1) := by decide +kernel
theorem dX2_had_16 : decode cX2_had 16 = .ok (.aload_n 0, 1) := by decide +kernel
theorem dX2_had_17 : decode cX2_had 17 = .ok (.iload_n 1, 1) := by decide +kernel
theorem dX2_had_18 : decode cX2_had 18 = .ok (.iload 4, 2) := by decide +kernel
theorem dX2_had_20 : decode cX2_had 20 = .ok (.iconst 0, 1) := by decide +kernel
theorem dX2_had_21 : decode cX2_had 21 = .ok (.invokevirtual 51, 3) := by decide +kernel
theorem dX2_had_24 : decode cX2_had 24 = .ok (.iload_n 2, 1) := by decide +kernel
theorem dX2_had_25 : decode cX2_had 25 = .ok (.if_icmp .ne 7, 3) := by decide +kernel
theorem dX2_had_28 : decode cX2_had 28 = .ok (.iconst 1, 1) := by decide +kernel
theorem dX2_had_29 : decode cX2_had 29 = .ok (.goto 4, 3) := by decide +kernel
theorem dX2_had_32 : decode cX2_had 32 = .ok (.iconst 0, 1) := by decide +kernel
theorem dX2_had_33 : decode cX2_had 33 = .ok (.iadd, 1) := by decide +kernel
theorem dX2_had_34 : decode cX2_had 34 = .ok (.istore_n 3, 1) := by decide +kernel
theorem dX2_had_35 : decode cX2_had 35 = .ok (.iinc 4 1, 3) := by decide +kernel
theorem dX2_had_38 : decode cX2_had 38 = .ok (.goto (-33), 3) := by decide +kernel
theorem dX2_had_41 : decode cX2_had 41 = .ok (.iload_n 3, 1) := by decide +kernel
theorem dX2_had_42 : decode cX2_had 42 = .ok (.ireturn, 1) := by decide +kernel
theorem dX2_note_0 : decode cX2_note 0 = .ok (.aload_n 0, 1) := by decide +kernel
theorem dX2_note_1 : decode cX2_note 1 = .ok (.getfield 68, 3) := by decide +kernel
theorem dX2_note_4 : decode cX2_note 4 = .ok (.iconst 5, 1) := by decide +kernel
theorem dX2_note_5 : decode cX2_note 5 = .ok (.if_icmp .ne 44, 3) := by decide +kernel
theorem dX2_note_8 : decode cX2_note 8 = .ok (.iconst 0, 1) := by decide +kernel
theorem dX2_note_9 : decode cX2_note 9 = .ok (.istore_n 1, 1) := by decide +kernel
theorem dX2_note_10 : decode cX2_note 10 = .ok (.iload_n 1, 1) := by decide +kernel
theorem dX2_note_11 : decode cX2_note 11 = .ok (.sipush 5052, 3) := by decide +kernel
theorem dX2_note_14 : decode cX2_note 14 = .ok (.if_icmp .ge 25, 3) := by decide +kernel
theorem dX2_note_17 : decode cX2_note 17 = .ok (.aload_n 0, 1) := by decide +kernel
theorem dX2_note_18 : decode cX2_note 18 = .ok (.getfield 13, 3) := by decide +kernel
theorem dX2_note_21 : decode cX2_note 21 = .ok (.iload_n 1, 1) := by decide +kernel
theorem dX2_note_22 : decode cX2_note 22 = .ok (.aload_n 0, 1) := by decide +kernel
theorem dX2_note_23 : decode cX2_note 23 = .ok (.getfield 13, 3) := by decide +kernel
theorem dX2_note_26 : decode cX2_note 26 = .ok (.iload_n 1, 1) := by decide +kernel
theorem dX2_note_27 : decode cX2_note 27 = .ok (.sipush 1263, 3) := by decide +kernel
theorem dX2_note_30 : decode cX2_note 30 = .ok (.iadd, 1) := by decide +kernel
theorem dX2_note_31 : decode cX2_note 31 = .ok (.iaload, 1) := by decide +kernel
theorem dX2_note_32 : decode cX2_note 32 = .ok (.iastore, 1) := by decide +kernel
theorem dX2_note_33 : decode cX2_note 33 = .ok (.iinc 1 1, 3) := by decide +kernel
theorem dX2_note_36 : decode cX2_note 36 = .ok (.goto (-26), 3) := by decide +kernel
theorem dX2_note_39 : decode cX2_note 39 = .ok (.aload_n 0, 1) := by decide +kernel
theorem dX2_note_40 : decode cX2_note 40 = .ok (.dup, 1) := by decide +kernel
theorem dX2_note_41 : decode cX2_note 41 = .ok (.getfield 68, 3) := by decide +kernel
theorem dX2_note_44 : decode cX2_note 44 = .ok (.iconst 1, 1) := by decide +kernel
theorem dX2_note_45 : decode cX2_note 45 = .ok (.isub, 1) := by decide +kernel
theorem dX2_note_46 : decode cX2_note 46 = .ok (.putfield 68, 3) := by decide +kernel
theorem dX2_note_49 : decode cX2_note 49 = .ok (.iconst 0, 1) := by decide +kernel
theorem dX2_note_50 : decode cX2_note 50 = .ok (.istore_n 1, 1) := by decide +kernel
theorem dX2_note_51 : decode cX2_note 51 = .ok (.iload_n 1, 1) := by decide +kernel
theorem dX2_note_52 : decode cX2_note 52 = .ok (.sipush 1263, 3) := by decide +kernel
theorem dX2_note_55 : decode cX2_note 55 = .ok (.if_icmp .ge 30, 3) := by decide +kernel
theorem dX2_note_58 : decode cX2_note 58 = .ok (.aload_n 0, 1) := by decide +kernel
theorem dX2_note_59 : decode cX2_note 59 = .ok (.getfield 13, 3) := by decide +kernel
theorem dX2_note_62 : decode cX2_note 62 = .ok (.sipush 1263, 3) := by decide +kernel
theorem dX2_note_65 : decode cX2_note 65 = .ok (.aload_n 0, 1) := by decide +kernel
theorem dX2_note_66 : decode cX2_note 66 = .ok (.getfield 68, 3) := by decide +kernel
theorem dX2_note_69 : decode cX2_note 69 = .ok (.imul, 1) := by decide +kernel
theorem dX2_note_70 : decode cX2_note 70 = .ok (.iload_n 1, 1) := by decide +kernel
theorem dX2_note_71 : decode cX2_note 71 = .ok (.iadd, 1) := by decide +kernel
theorem dX2_note_72 : decode cX2_note 72 = .ok (.aload_n 0, 1) := by decide +kernel
theorem dX2_note_73 : decode cX2_note 73 = .ok (.getfield 7, 3) := by decide +kernel
theorem dX2_note_76 : decode cX2_note 76 = .ok (.iload_n 1, 1) := by decide +kernel
theorem dX2_note_77 : decode cX2_note 77 = .ok (.iaload, 1) := by decide +kernel
theorem dX2_note_78 : decode cX2_note 78 = .ok (.iastore, 1) := by decide +kernel
theorem dX2_note_79 : decode cX2_note 79 = .ok (.iinc 1 1, 3) := by decide +kernel
theorem dX2_note_82 : decode cX2_note 82 = .ok (.goto (-31), 3) := by decide +kernel
theorem dX2_note_85 : decode cX2_note 85 = .ok (.aload_n 0, 1) := by decide +kernel
theorem dX2_note_86 : decode cX2_note 86 = .ok (.dup, 1) := by decide +kernel
theorem dX2_note_87 : decode cX2_note 87 = .ok (.getfield 68, 3) := by decide +kernel
theorem dX2_note_90 : decode cX2_note 90 = .ok (.iconst 1, 1) := by decide +kernel
theorem dX2_note_91 : decode cX2_note 91 = .ok (.iadd, 1) := by decide +kernel
theorem dX2_note_92 : decode cX2_note 92 = .ok (.putfield 68, 3) := by decide +kernel
theorem dX2_note_95 : decode cX2_note 95 = .ok (.return_, 1) := by decide +kernel
theorem dX2_begins_0 : decode cX2_begins 0 = .ok (.iload_n 1, 1) := by decide +kernel
theorem dX2_begins_1 : decode cX2_begins 1 = .ok (.iconst 2, 1) := by decide +kernel
theorem dX2_begins_2 : decode cX2_begins 2 = .ok (.iconst 4, 1) := by decide +kernel
theorem dX2_begins_3 : decode cX2_begins 3 = .ok (.invokestatic 43, 3) := by decide +kernel
theorem dX2_begins_6 : decode cX2_begins 6 = .ok (.ifCond .eq 12, 3) := by decide +kernel
theorem dX2_begins_9 : decode cX2_begins 9 = .ok (.iload_n 2, 1) := by decide +kernel
theorem dX2_begins_10 : decode cX2_begins 10 = .ok (.iconst 1, 1) := by decide +kernel
theorem dX2_begins_11 : decode cX2_begins 11 = .ok (.iload_n 1, 1) := by decide +kernel
theorem dX2_begins_12 : decode cX2_begins 12 = .ok (.invokestatic 43, 3) := by decide +kernel
theorem dX2_begins_15 : decode cX2_begins 15 = .ok (.ifCond .ne 5, 3) := by decide +kernel
theorem dX2_begins_18 : decode cX2_begins 18 = .ok (.iconst (-1), 1) := by decide +kernel
theorem dX2_begins_19 : decode cX2_begins 19 = .ok (.ireturn, 1) := by decide +kernel
theorem dX2_begins_20 : decode cX2_begins 20 = .ok (.aload_n 0, 1) := by decide +kernel
theorem dX2_begins_21 : decode cX2_begins 21 = .ok (.invokevirtual 72, 3) := by decide +kernel
theorem dX2_begins_24 : decode cX2_begins 24 = .ok (.aload_n 0, 1) := by decide +kernel
theorem dX2_begins_25 : decode cX2_begins 25 = .ok (.iload_n 1, 1) := by decide +kernel
theorem dX2_begins_26 : decode cX2_begins 26 = .ok (.iload_n 2, 1) := by decide +kernel
theorem dX2_begins_27 : decode cX2_begins 27 = .ok (.invokevirtual 35, 3) := by decide +kernel
theorem dX2_begins_30 : decode cX2_begins 30 = .ok (.aload_n 0, 1) := by decide +kernel
theorem dX2_begins_31 : decode cX2_begins 31 = .ok (.iconst 0, 1) := by decide +kernel
theorem dX2_begins_32 : decode cX2_begins 32 = .ok (.putfield 75, 3) := by decide +kernel
theorem dX2_begins_35 : decode cX2_begins 35 = .ok (.aload_n 0, 1) := by decide +kernel
theorem dX2_begins_36 : decode cX2_begins 36 = .ok (.getfield 19, 3) := by decide +kernel
theorem dX2_begins_39 : decode cX2_begins 39 = .ok (.iconst 0, 1) := by decide +kernel
theorem dX2_begins_40 : decode cX2_begins 40 = .ok (.iconst 0, 1) := by decide +kernel
theorem dX2_begins_41 : decode cX2_begins 41 = .ok (.bastore, 1) := by decide +kernel
theorem dX2_begins_42 : decode cX2_begins 42 = .ok (.aload_n 0, 1) := by decide +kernel
theorem dX2_begins_43 : decode cX2_begins 43 = .ok (.getfield 19, 3) := by decide +kernel
theorem dX2_begins_46 : decode cX2_begins 46 = .ok (.iconst 1, 1) := by decide +kernel
theorem dX2_begins_47 : decode cX2_begins 47 = .ok (.iconst 0, 1) := by decide +kernel
theorem dX2_begins_48 : decode cX2_begins 48 = .ok (.bastore, 1) := by decide +kernel
theorem dX2_begins_49 : decode cX2_begins 49 = .ok (.iload_n 1, 1) := by decide +kernel
theorem dX2_begins_50 : decode cX2_begins 50 = .ok (.ireturn, 1) := by decide +kernel
theorem dX2_puts_0 : decode cX2_puts 0 = .ok (.aload_n 0, 1) := by decide +kernel
theorem dX2_puts_1 : decode cX2_puts 1 = .ok (.iload_n 1, 1) := by decide +kernel
theorem dX2_puts_2 : decode cX2_puts 2 = .ok (.invokevirtual 78, 3) := by decide +kernel
theorem dX2_puts_5 : decode cX2_puts 5 = .ok (.ifCond .eq 13, 3) := by decide +kernel
theorem dX2_puts_8 : decode cX2_puts 8 = .ok (.iload_n 2, 1) := by decide +kernel
theorem dX2_puts_9 : decode cX2_puts 9 = .ok (.iconst 0, 1) := by decide +kernel
theorem dX2_puts_10 : decode cX2_puts 10 = .ok (.bipush 99, 2) := by decide +kernel
theorem dX2_puts_12 : decode cX2_puts 12 = .ok (.invokestatic 43, 3) := by decide +kernel
theorem dX2_puts_15 : decode cX2_puts 15 = .ok (.ifCond .ne 5, 3) := by decide +kernel
theorem dX2_puts_18 : decode cX2_puts 18 = .ok (.iconst (-1), 1) := by decide +kernel
theorem dX2_puts_19 : decode cX2_puts 19 = .ok (.ireturn, 1) := by decide +kernel
theorem dX2_puts_20 : decode cX2_puts 20 = .ok (.aload_n 0, 1) := by decide +kernel
theorem dX2_puts_21 : decode cX2_puts 21 = .ok (.invokevirtual 82, 3) := by decide +kernel
theorem dX2_puts_24 : decode cX2_puts 24 = .ok (.istore_n 3, 1) := by decide +kernel
theorem dX2_puts_25 : decode cX2_puts 25 = .ok (.aload_n 0, 1) := by decide +kernel
theorem dX2_puts_26 : decode cX2_puts 26 = .ok (.iload_n 3, 1) := by decide +kernel
theorem dX2_puts_27 : decode cX2_puts 27 = .ok (.iload_n 1, 1) := by decide +kernel
theorem dX2_puts_28 : decode cX2_puts 28 = .ok (.invokevirtual 62, 3) := by decide +kernel
theorem dX2_puts_31 : decode cX2_puts 31 = .ok (.bipush 8, 2) := by decide +kernel
theorem dX2_puts_33 : decode cX2_puts 33 = .ok (.if_icmp .ne 6, 3) := by decide +kernel
theorem dX2_puts_36 : decode cX2_puts 36 = .ok (.bipush (-3), 2) := by decide +kernel
theorem dX2_puts_38 : decode cX2_puts 38 = .ok (.ireturn, 1) := by decide +kernel
theorem dX2_puts_39 : decode cX2_puts 39 = .ok (.aload_n 0, 1) := by decide +kernel
theorem dX2_puts_40 : decode cX2_puts 40 = .ok (.invokevirtual 72, 3) := by decide +kernel
theorem dX2_puts_43 : decode cX2_puts 43 = .ok (.aload_n 0, 1) := by decide +kernel
theorem dX2_puts_44 : decode cX2_puts 44 = .ok (.iload_n 3, 1) := by decide +kernel
theorem dX2_puts_45 : decode cX2_puts 45 = .ok (.iload_n 1, 1) := by decide +kernel
theorem dX2_puts_46 : decode cX2_puts 46 = .ok (.iload_n 2, 1) := by decide +kernel
theorem dX2_puts_47 : decode cX2_puts 47 = .ok (.bipush (-9), 2) := by decide +kernel
theorem dX2_puts_49 : decode cX2_puts 49 = .ok (.iconst 0, 1) := by decide +kernel
theorem dX2_puts_50 : decode cX2_puts 50 = .ok (.invokevirtual 86, 3) := by decide +kernel
theorem dX2_puts_53 : decode cX2_puts 53 = .ok (.aload_n 0, 1) := by decide +kernel
theorem dX2_puts_54 : decode cX2_puts 54 = .ok (.iload_n 3, 1) := by decide +kernel
theorem dX2_puts_55 : decode cX2_puts 55 = .ok (.iload_n 1, 1) := by decide +kernel
theorem dX2_puts_56 : decode cX2_puts 56 = .ok (.invokevirtual 62, 3) := by decide +kernel
theorem dX2_puts_59 : decode cX2_puts 59 = .ok (.iconst 1, 1) := by decide +kernel
theorem dX2_puts_60 : decode cX2_puts 60 = .ok (.isub, 1) := by decide +kernel
theorem dX2_puts_61 : decode cX2_puts 61 = .ok (.ireturn, 1) := by decide +kernel
theorem dX2_isWay_0 : decode cX2_isWay 0 = .ok (.aload_n 0, 1) := by decide +kernel
theorem dX2_isWay_1 : decode cX2_isWay 1 = .ok (.iload_n 2, 1) := by decide +kernel
theorem dX2_isWay_2 : decode cX2_isWay 2 = .ok (.invokevirtual 78, 3) := by decide +kernel
theorem dX2_isWay_5 : decode cX2_isWay 5 = .ok (.ifCond .eq 24, 3) := by decide +kernel
theorem dX2_isWay_8 : decode cX2_isWay 8 = .ok (.iload_n 1, 1) := by decide +kernel
theorem dX2_isWay_9 : decode cX2_isWay 9 = .ok (.iconst 0, 1) := by decide +kernel
theorem dX2_isWay_10 : decode cX2_isWay 10 = .ok (.aload_n 0, 1) := by decide +kernel
theorem dX2_isWay_11 : decode cX2_isWay 11 = .ok (.invokevirtual 82, 3) := by decide +kernel
theorem dX2_isWay_14 : decode cX2_isWay 14 = .ok (.invokestatic 43, 3) := by decide +kernel
theorem dX2_isWay_17 : decode cX2_isWay 17 = .ok (.ifCond .eq 12, 3) := by decide +kernel
theorem dX2_isWay_20 : decode cX2_isWay 20 = .ok (.iload_n 1, 1) := by decide +kernel
theorem dX2_isWay_21 : decode cX2_isWay 21 = .ok (.iload_n 2, 1) := by decide +kernel
theorem dX2_isWay_22 : decode cX2_isWay 22 = .ok (.if_icmp .eq 7, 3) := by decide +kernel
theorem dX2_isWay_25 : decode cX2_isWay 25 = .ok (.iconst 1, 1) := by decide +kernel
theorem dX2_isWay_26 : decode cX2_isWay 26 = .ok (.goto 4, 3) := by decide +kernel
theorem dX2_isWay_29 : decode cX2_isWay 29 = .ok (.iconst 0, 1) := by decide +kernel
theorem dX2_isWay_30 : decode cX2_isWay 30 = .ok (.ireturn, 1) := by decide +kernel
theorem dX2_receives_0 : decode cX2_receives 0 = .ok (.aload_n 0, 1) := by decide +kernel
theorem dX2_receives_1 : decode cX2_receives 1 = .ok (.iload_n 2, 1) := by decide +kernel
theorem dX2_receives_2 : decode cX2_receives 2 = .ok (.iload_n 1, 1) := by decide +kernel
theorem dX2_receives_3 : decode cX2_receives 3 = .ok (.invokevirtual 90, 3) := by decide +kernel
theorem dX2_receives_6 : decode cX2_receives 6 = .ok (.ifCond .ne 5, 3) := by decide +kernel
theorem dX2_receives_9 : decode cX2_receives 9 = .ok (.iconst (-1), 1) := by decide +kernel
theorem dX2_receives_10 : decode cX2_receives 10 = .ok (.ireturn, 1) := by decide +kernel
theorem dX2_receives_11 : decode cX2_receives 11 = .ok (.aload_n 0, 1) := by decide +kernel
theorem dX2_receives_12 : decode cX2_receives 12 = .ok (.iload_n 1, 1) := by decide +kernel
theorem dX2_receives_13 : decode cX2_receives 13 = .ok (.iload_n 2, 1) := by decide +kernel
theorem dX2_receives_14 : decode cX2_receives 14 = .ok (.invokevirtual 93, 3) := by decide +kernel
theorem dX2_receives_17 : decode cX2_receives 17 = .ok (.istore_n 3, 1) := by decide +kernel
theorem dX2_receives_18 : decode cX2_receives 18 = .ok (.aload_n 0, 1) := by decide +kernel
theorem dX2_receives_19 : decode cX2_receives 19 = .ok (.iload_n 1, 1) := by decide +kernel
theorem dX2_receives_20 : decode cX2_receives 20 = .ok (.invokevirtual 96, 3) := by decide +kernel
theorem dX2_receives_23 : decode cX2_receives 23 = .ok (.ifCond .ne 13, 3) := by decide +kernel
theorem dX2_receives_26 : decode cX2_receives 26 = .ok (.iload_n 3, 1) := by decide +kernel
theorem dX2_receives_27 : decode cX2_receives 27 = .ok (.aload_n 0, 1) := by decide +kernel
theorem dX2_receives_28 : decode cX2_receives 28 = .ok (.iload_n 2, 1) := by decide +kernel
theorem dX2_receives_29 : decode cX2_receives 29 = .ok (.iload_n 1, 1) := by decide +kernel
theorem dX2_receives_30 : decode cX2_receives 30 = .ok (.invokevirtual 62, 3) := by decide +kernel
theorem dX2_receives_33 : decode cX2_receives 33 = .ok (.if_icmp .ne 6, 3) := by decide +kernel
theorem dX2_receives_36 : decode cX2_receives 36 = .ok (.bipush (-2), 2) := by decide +kernel
theorem dX2_receives_38 : decode cX2_receives 38 = .ok (.ireturn, 1) := by decide +kernel
theorem dX2_receives_39 : decode cX2_receives 39 = .ok (.aload_n 0, 1) := by decide +kernel
theorem dX2_receives_40 : decode cX2_receives 40 = .ok (.iload_n 1, 1) := by decide +kernel
theorem dX2_receives_41 : decode cX2_receives 41 = .ok (.invokevirtual 47, 3) := by decide +kernel
theorem dX2_receives_44 : decode cX2_receives 44 = .ok (.bipush 8, 2) := by decide +kernel
theorem dX2_receives_46 : decode cX2_receives 46 = .ok (.if_icmp .ne 6, 3) := by decide +kernel
theorem dX2_receives_49 : decode cX2_receives 49 = .ok (.bipush (-3), 2) := by decide +kernel
theorem dX2_receives_51 : decode cX2_receives 51 = .ok (.ireturn, 1) := by decide +kernel
theorem dX2_receives_52 : decode cX2_receives 52 = .ok (.aload_n 0, 1) := by decide +kernel
theorem dX2_receives_53 : decode cX2_receives 53 = .ok (.invokevirtual 72, 3) := by decide +kernel
theorem dX2_receives_56 : decode cX2_receives 56 = .ok (.iload_n 2, 1) := by decide +kernel
theorem dX2_receives_57 : decode cX2_receives 57 = .ok (.iload_n 1, 1) := by decide +kernel
theorem dX2_receives_58 : decode cX2_receives 58 = .ok (.iload_n 3, 1) := by decide +kernel
theorem dX2_receives_59 : decode cX2_receives 59 = .ok (.invokestatic 65, 3) := by decide +kernel
theorem dX2_receives_62 : decode cX2_receives 62 = .ok (.istore 4, 2) := by decide +kernel
theorem dX2_receives_64 : decode cX2_receives 64 = .ok (.aload_n 0, 1) := by decide +kernel
theorem dX2_receives_65 : decode cX2_receives 65 = .ok (.iload_n 1, 1) := by decide +kernel
theorem dX2_receives_66 : decode cX2_receives 66 = .ok (.invokevirtual 47, 3) := by decide +kernel
theorem dX2_receives_69 : decode cX2_receives 69 = .ok (.istore 5, 2) := by decide +kernel
theorem dX2_receives_71 : decode cX2_receives 71 = .ok (.bipush 8, 2) := by decide +kernel
theorem dX2_receives_73 : decode cX2_receives 73 = .ok (.iload_n 1, 1) := by decide +kernel
theorem dX2_receives_74 : decode cX2_receives 74 = .ok (.imul, 1) := by decide +kernel
theorem dX2_receives_75 : decode cX2_receives 75 = .ok (.iload 5, 2) := by decide +kernel
theorem dX2_receives_77 : decode cX2_receives 77 = .ok (.iadd, 1) := by decide +kernel
theorem dX2_receives_78 : decode cX2_receives 78 = .ok (.istore 6, 2) := by decide +kernel
theorem dX2_receives_80 : decode cX2_receives 80 = .ok (.bipush 31, 2) := by decide +kernel
theorem dX2_receives_82 : decode cX2_receives 82 = .ok (.aload_n 0, 1) := by decide +kernel
theorem dX2_receives_83 : decode cX2_receives 83 = .ok (.iload_n 1, 1) := by decide +kernel
theorem dX2_receives_84 : decode cX2_receives 84 = .ok (.invokevirtual 99, 3) := by decide +kernel
theorem dX2_receives_87 : decode cX2_receives 87 = .ok (.imul, 1) := by decide +kernel
theorem dX2_receives_88 : decode cX2_receives 88 = .ok (.aload_n 0, 1) := by decide +kernel
theorem dX2_receives_89 : decode cX2_receives 89 = .ok (.getfield 7, 3) := by decide +kernel
theorem dX2_receives_92 : decode cX2_receives 92 = .ok (.iload 4, 2) := by decide +kernel
theorem dX2_receives_94 : decode cX2_receives 94 = .ok (.iaload, 1) := by decide +kernel
theorem dX2_receives_95 : decode cX2_receives 95 = .ok (.iadd, 1) := by decide +kernel
theorem dX2_receives_96 : decode cX2_receives 96 = .ok (.iload_n 2, 1) := by decide +kernel
theorem dX2_receives_97 : decode cX2_receives 97 = .ok (.iadd, 1) := by decide +kernel
theorem dX2_receives_98 : decode cX2_receives 98 = .ok (.iconst 1, 1) := by decide +kernel
theorem dX2_receives_99 : decode cX2_receives 99 = .ok (.iadd, 1) := by decide +kernel
theorem dX2_receives_100 : decode cX2_receives 100 = .ok (.sipush 997, 3) := by decide +kernel
theorem dX2_receives_103 : decode cX2_receives 103 = .ok (.irem, 1) := by decide +kernel
theorem dX2_receives_104 : decode cX2_receives 104 = .ok (.istore 7, 2) := by decide +kernel
theorem dX2_receives_106 : decode cX2_receives 106 = .ok (.bipush 7, 2) := by decide +kernel
theorem dX2_receives_108 : decode cX2_receives 108 = .ok (.bipush 24, 2) := by decide +kernel
theorem dX2_receives_110 : decode cX2_receives 110 = .ok (.iload_n 1, 1) := by decide +kernel
theorem dX2_receives_111 : decode cX2_receives 111 = .ok (.imul, 1) := by decide +kernel
theorem dX2_receives_112 : decode cX2_receives 112 = .ok (.iadd, 1) := by decide +kernel
theorem dX2_receives_113 : decode cX2_receives 113 = .ok (.iconst 3, 1) := by decide +kernel
theorem dX2_receives_114 : decode cX2_receives 114 = .ok (.iload 5, 2) := by decide +kernel
theorem dX2_receives_116 : decode cX2_receives 116 = .ok (.imul, 1) := by decide +kernel
theorem dX2_receives_117 : decode cX2_receives 117 = .ok (.iadd, 1) := by decide +kernel
theorem dX2_receives_118 : decode cX2_receives 118 = .ok (.istore 8, 2) := by decide +kernel
theorem dX2_receives_120 : decode cX2_receives 120 = .ok (.aload_n 0, 1) := by decide +kernel
theorem dX2_receives_121 : decode cX2_receives 121 = .ok (.getfield 7, 3) := by decide +kernel
theorem dX2_receives_124 : decode cX2_receives 124 = .ok (.iload 8, 2) := by decide +kernel
theorem dX2_receives_126 : decode cX2_receives 126 = .ok (.iload_n 2, 1) := by decide +kernel
theorem dX2_receives_127 : decode cX2_receives 127 = .ok (.iastore, 1) := by decide +kernel
theorem dX2_receives_128 : decode cX2_receives 128 = .ok (.aload_n 0, 1) := by decide +kernel
theorem dX2_receives_129 : decode cX2_receives 129 = .ok (.getfield 7, 3) := by decide +kernel
theorem dX2_receives_132 : decode cX2_receives 132 = .ok (.iload 8, 2) := by decide +kernel
theorem dX2_receives_134 : decode cX2_receives 134 = .ok (.iconst 1, 1) := by decide +kernel
theorem dX2_receives_135 : decode cX2_receives 135 = .ok (.iadd, 1) := by decide +kernel
theorem dX2_receives_136 : decode cX2_receives 136 = .ok (.iload_n 3, 1) := by decide +kernel
theorem dX2_receives_137 : decode cX2_receives 137 = .ok (.iastore, 1) := by decide +kernel
theorem dX2_receives_138 : decode cX2_receives 138 = .ok (.aload_n 0, 1) := by decide +kernel
theorem dX2_receives_139 : decode cX2_receives 139 = .ok (.getfield 7, 3) := by decide +kernel
theorem dX2_receives_142 : decode cX2_receives 142 = .ok (.iload 8, 2) := by decide +kernel
theorem dX2_receives_144 : decode cX2_receives 144 = .ok (.iconst 2, 1) := by decide +kernel
theorem dX2_receives_145 : decode cX2_receives 145 = .ok (.iadd, 1) := by decide +kernel
theorem dX2_receives_146 : decode cX2_receives 146 = .ok (.iload 7, 2) := by decide +kernel
theorem dX2_receives_148 : decode cX2_receives 148 = .ok (.iastore, 1) := by decide +kernel
theorem dX2_receives_149 : decode cX2_receives 149 = .ok (.aload_n 0, 1) := by decide +kernel
theorem dX2_receives_150 : decode cX2_receives 150 = .ok (.getfield 7, 3) := by decide +kernel
theorem dX2_receives_153 : decode cX2_receives 153 = .ok (.iconst 3, 1) := by decide +kernel
theorem dX2_receives_154 : decode cX2_receives 154 = .ok (.iload_n 1, 1) := by decide +kernel
theorem dX2_receives_155 : decode cX2_receives 155 = .ok (.iadd, 1) := by decide +kernel
theorem dX2_receives_156 : decode cX2_receives 156 = .ok (.dup2, 1) := by decide +kernel
theorem dX2_receives_157 : decode cX2_receives 157 = .ok (.iaload, 1) := by decide +kernel
theorem dX2_receives_158 : decode cX2_receives 158 = .ok (.iconst 1, 1) := by decide +kernel
theorem dX2_receives_159 : decode cX2_receives 159 = .ok (.iadd, 1) := by decide +kernel
theorem dX2_receives_160 : decode cX2_receives 160 = .ok (.iastore, 1) := by decide +kernel
theorem dX2_receives_161 : decode cX2_receives 161 = .ok (.aload_n 0, 1) := by decide +kernel
theorem dX2_receives_162 : decode cX2_receives 162 = .ok (.iload_n 1, 1) := by decide +kernel
theorem dX2_receives_163 : decode cX2_receives 163 = .ok (.iload 6, 2) := by decide +kernel
theorem dX2_receives_165 : decode cX2_receives 165 = .ok (.iconst 1, 1) := by decide +kernel
theorem dX2_receives_166 : decode cX2_receives 166 = .ok (.iload_n 1, 1) := by decide +kernel
theorem dX2_receives_167 : decode cX2_receives 167 = .ok (.ishl, 1) := by decide +kernel
theorem dX2_receives_168 : decode cX2_receives 168 = .ok (.invokevirtual 102, 3) := by decide +kernel
theorem dX2_receives_171 : decode cX2_receives 171 = .ok (.iconst 0, 1) := by decide +kernel
theorem dX2_receives_172 : decode cX2_receives 172 = .ok (.istore 9, 2) := by decide +kernel
theorem dX2_receives_174 : decode cX2_receives 174 = .ok (.iload 9, 2) := by decide +kernel
theorem dX2_receives_176 : decode cX2_receives 176 = .ok (.bipush 32, 2) := by decide +kernel
theorem dX2_receives_178 : decode cX2_receives 178 = .ok (.if_icmp .ge 65, 3) := by decide +kernel
theorem dX2_receives_181 : decode cX2_receives 181 = .ok (.aload_n 0, 1) := by decide +kernel
theorem dX2_receives_182 : decode cX2_receives 182 = .ok (.getfield 7, 3) := by decide +kernel
theorem dX2_receives_185 : decode cX2_receives 185 = .ok (.iload 4, 2) := by decide +kernel
theorem dX2_receives_187 : decode cX2_receives 187 = .ok (.iconst 2, 1) := by decide +kernel
theorem dX2_receives_188 : decode cX2_receives 188 = .ok (.iadd, 1) := by decide +kernel
theorem dX2_receives_189 : decode cX2_receives 189 = .ok (.iaload, 1) := by decide +kernel
theorem dX2_receives_190 : decode cX2_receives 190 = .ok (.iload 9, 2) := by decide +kernel
theorem dX2_receives_192 : decode cX2_receives 192 = .ok (.invokestatic 39, 3) := by decide +kernel
theorem dX2_receives_195 : decode cX2_receives 195 = .ok (.ifCond .eq 42, 3) := by decide +kernel
theorem dX2_receives_198 : decode cX2_receives 198 = .ok (.aload_n 0, 1) := by decide +kernel
theorem dX2_receives_199 : decode cX2_receives 199 = .ok (.iload_n 1, 1) := by decide +kernel
theorem dX2_receives_200 : decode cX2_receives 200 = .ok (.iload 9, 2) := by decide +kernel
theorem dX2_receives_202 : decode cX2_receives 202 = .ok (.aload_n 0, 1) := by decide +kernel
theorem dX2_receives_203 : decode cX2_receives 203 = .ok (.iload_n 1, 1) := by decide +kernel
theorem dX2_receives_204 : decode cX2_receives 204 = .ok (.iload 9, 2) := by decide +kernel
theorem dX2_receives_206 : decode cX2_receives 206 = .ok (.invokevirtual 106, 3) := by decide +kernel
theorem dX2_receives_209 : decode cX2_receives 209 = .ok (.aload_n 0, 1) := by decide +kernel
theorem dX2_receives_210 : decode cX2_receives 210 = .ok (.getfield 7, 3) := by decide +kernel
theorem dX2_receives_213 : decode cX2_receives 213 = .ok (.iload 4, 2) := by decide +kernel
theorem dX2_receives_215 : decode cX2_receives 215 = .ok (.iconst 3, 1) := by decide +kernel
theorem dX2_receives_216 : decode cX2_receives 216 = .ok (.iadd, 1) := by decide +kernel
theorem dX2_receives_217 : decode cX2_receives 217 = .ok (.iload 9, 2) := by decide +kernel
theorem dX2_receives_219 : decode cX2_receives 219 = .ok (.bipush 8, 2) := by decide +kernel
theorem dX2_receives_221 : decode cX2_receives 221 = .ok (.idiv, 1) := by decide +kernel
theorem dX2_receives_222 : decode cX2_receives 222 = .ok (.iadd, 1) := by decide +kernel
theorem dX2_receives_223 : decode cX2_receives 223 = .ok (.iaload, 1) := by decide +kernel
theorem dX2_receives_224 : decode cX2_receives 224 = .ok (.iload 9, 2) := by decide +kernel
theorem dX2_receives_226 : decode cX2_receives 226 = .ok (.invokestatic 59, 3) := by decide +kernel
theorem dX2_receives_229 : decode cX2_receives 229 = .ok (.ior, 1) := by decide +kernel
theorem dX2_receives_230 : decode cX2_receives 230 = .ok (.iconst 1, 1) := by decide +kernel
theorem dX2_receives_231 : decode cX2_receives 231 = .ok (.iload_n 1, 1) := by decide +kernel
theorem dX2_receives_232 : decode cX2_receives 232 = .ok (.ishl, 1) := by decide +kernel
theorem dX2_receives_233 : decode cX2_receives 233 = .ok (.ior, 1) := by decide +kernel
theorem dX2_receives_234 : decode cX2_receives 234 = .ok (.invokevirtual 102, 3) := by decide +kernel
theorem dX2_receives_237 : decode cX2_receives 237 = .ok (.iinc 9 1, 3) := by decide +kernel
theorem dX2_receives_240 : decode cX2_receives 240 = .ok (.goto (-66), 3) := by decide +kernel
theorem dX2_receives_243 : decode cX2_receives 243 = .ok (.aload_n 0, 1) := by decide +kernel
theorem dX2_receives_244 : decode cX2_receives 244 = .ok (.iload_n 1, 1) := by decide +kernel
theorem dX2_receives_245 : decode cX2_receives 245 = .ok (.iload 7, 2) := by decide +kernel
theorem dX2_receives_247 : decode cX2_receives 247 = .ok (.iload 6, 2) := by decide +kernel
theorem dX2_receives_249 : decode cX2_receives 249 = .ok (.invokevirtual 109, 3) := by decide +kernel
theorem dX2_receives_252 : decode cX2_receives 252 = .ok (.iload 7, 2) := by decide +kernel
theorem dX2_receives_254 : decode cX2_receives 254 = .ok (.ireturn, 1) := by decide +kernel
theorem dX2_answer_0 : decode cX2_answer 0 = .ok (.iload_n 2, 1) := by decide +kernel
theorem dX2_answer_1 : decode cX2_answer 1 = .ok (.aload_n 0, 1) := by decide +kernel
theorem dX2_answer_2 : decode cX2_answer 2 = .ok (.invokevirtual 82, 3) := by decide +kernel
theorem dX2_answer_5 : decode cX2_answer 5 = .ok (.irem, 1) := by decide +kernel
theorem dX2_answer_6 : decode cX2_answer 6 = .ok (.istore 4, 2) := by decide +kernel
theorem dX2_answer_8 : decode cX2_answer 8 = .ok (.iload_n 2, 1) := by decide +kernel
theorem dX2_answer_9 : decode cX2_answer 9 = .ok (.iconst 3, 1) := by decide +kernel
theorem dX2_answer_10 : decode cX2_answer 10 = .ok (.irem, 1) := by decide +kernel
theorem dX2_answer_11 : decode cX2_answer 11 = .ok (.ifCond .eq 21, 3) := by decide +kernel
theorem dX2_answer_14 : decode cX2_answer 14 = .ok (.iload 4, 2) := by decide +kernel
theorem dX2_answer_16 : decode cX2_answer 16 = .ok (.iload_n 1, 1) := by decide +kernel
theorem dX2_answer_17 : decode cX2_answer 17 = .ok (.if_icmp .eq 15, 3) := by decide +kernel
theorem dX2_answer_20 : decode cX2_answer 20 = .ok (.aload_n 0, 1) := by decide +kernel
theorem dX2_answer_21 : decode cX2_answer 21 = .ok (.iload_n 1, 1) := by decide +kernel
theorem dX2_answer_22 : decode cX2_answer 22 = .ok (.iload 4, 2) := by decide +kernel
theorem dX2_answer_24 : decode cX2_answer 24 = .ok (.invokevirtual 62, 3) := by decide +kernel
theorem dX2_answer_27 : decode cX2_answer 27 = .ok (.bipush 8, 2) := by decide +kernel
theorem dX2_answer_29 : decode cX2_answer 29 = .ok (.if_icmp .ne 4, 3) := by decide +kernel
theorem dX2_answer_32 : decode cX2_answer 32 = .ok (.return_, 1) := by decide +kernel
theorem dX2_answer_33 : decode cX2_answer 33 = .ok (.iconst 0, 1) := by decide +kernel
theorem dX2_answer_34 : decode cX2_answer 34 = .ok (.istore 5, 2) := by decide +kernel
theorem dX2_answer_36 : decode cX2_answer 36 = .ok (.iconst 0, 1) := by decide +kernel
theorem dX2_answer_37 : decode cX2_answer 37 = .ok (.istore 6, 2) := by decide +kernel
theorem dX2_answer_39 : decode cX2_answer 39 = .ok (.iload 6, 2) := by decide +kernel
theorem dX2_answer_41 : decode cX2_answer 41 = .ok (.bipush 32, 2) := by decide +kernel
theorem dX2_answer_43 : decode cX2_answer 43 = .ok (.if_icmp .ge 58, 3) := by decide +kernel
theorem dX2_answer_46 : decode cX2_answer 46 = .ok (.iload 5, 2) := by decide +kernel
theorem dX2_answer_48 : decode cX2_answer 48 = .ok (.aload_n 0, 1) := by decide +kernel
theorem dX2_answer_49 : decode cX2_answer 49 = .ok (.getfield 7, 3) := by decide +kernel
theorem dX2_answer_52 : decode cX2_answer 52 = .ok (.bipush 103, 2) := by decide +kernel
theorem dX2_answer_54 : decode cX2_answer 54 = .ok (.iload_n 1, 1) := by decide +kernel
theorem dX2_answer_55 : decode cX2_answer 55 = .ok (.iadd, 1) := by decide +kernel
theorem dX2_answer_56 : decode cX2_answer 56 = .ok (.iaload, 1) := by decide +kernel
theorem dX2_answer_57 : decode cX2_answer 57 = .ok (.iload 6, 2) := by decide +kernel
theorem dX2_answer_59 : decode cX2_answer 59 = .ok (.invokestatic 39, 3) := by decide +kernel
theorem dX2_answer_62 : decode cX2_answer 62 = .ok (.ifCond .eq 29, 3) := by decide +kernel
theorem dX2_answer_65 : decode cX2_answer 65 = .ok (.aload_n 0, 1) := by decide +kernel
theorem dX2_answer_66 : decode cX2_answer 66 = .ok (.iload_n 1, 1) := by decide +kernel
theorem dX2_answer_67 : decode cX2_answer 67 = .ok (.iload 6, 2) := by decide +kernel
theorem dX2_answer_69 : decode cX2_answer 69 = .ok (.invokevirtual 106, 3) := by decide +kernel
theorem dX2_answer_72 : decode cX2_answer 72 = .ok (.invokestatic 112, 3) := by decide +kernel
theorem dX2_answer_75 : decode cX2_answer 75 = .ok (.aload_n 0, 1) := by decide +kernel
theorem dX2_answer_76 : decode cX2_answer 76 = .ok (.getfield 7, 3) := by decide +kernel
theorem dX2_answer_79 : decode cX2_answer 79 = .ok (.iconst 1, 1) := by decide +kernel
theorem dX2_answer_80 : decode cX2_answer 80 = .ok (.iaload, 1) := by decide +kernel
theorem dX2_answer_81 : decode cX2_answer 81 = .ok (.if_icmp .ge 10, 3) := by decide +kernel
theorem dX2_answer_84 : decode cX2_answer 84 = .ok (.iconst 1, 1) := by decide +kernel
theorem dX2_answer_85 : decode cX2_answer 85 = .ok (.iload 6, 2) := by decide +kernel
theorem dX2_answer_87 : decode cX2_answer 87 = .ok (.ishl, 1) := by decide +kernel
theorem dX2_answer_88 : decode cX2_answer 88 = .ok (.goto 4, 3) := by decide +kernel
theorem dX2_answer_91 : decode cX2_answer 91 = .ok (.iconst 0, 1) := by decide +kernel
theorem dX2_answer_92 : decode cX2_answer 92 = .ok (.ior, 1) := by decide +kernel
theorem dX2_answer_93 : decode cX2_answer 93 = .ok (.istore 5, 2) := by decide +kernel
theorem dX2_answer_95 : decode cX2_answer 95 = .ok (.iinc 6 1, 3) := by decide +kernel
theorem dX2_answer_98 : decode cX2_answer 98 = .ok (.goto (-59), 3) := by decide +kernel
theorem dX2_answer_101 : decode cX2_answer 101 = .ok (.aload_n 0, 1) := by decide +kernel
theorem dX2_answer_102 : decode cX2_answer 102 = .ok (.iload_n 1, 1) := by decide +kernel
theorem dX2_answer_103 : decode cX2_answer 103 = .ok (.iload 4, 2) := by decide +kernel
theorem dX2_answer_105 : decode cX2_answer 105 = .ok (.iload_n 2, 1) := by decide +kernel
theorem dX2_answer_106 : decode cX2_answer 106 = .ok (.bipush 100, 2) := by decide +kernel
theorem dX2_answer_108 : decode cX2_answer 108 = .ok (.irem, 1) := by decide +kernel
theorem dX2_answer_109 : decode cX2_answer 109 = .ok (.iload_n 3, 1) := by decide +kernel
theorem dX2_answer_110 : decode cX2_answer 110 = .ok (.iload 5, 2) := by decide +kernel
theorem dX2_answer_112 : decode cX2_answer 112 = .ok (.invokevirtual 86, 3) := by decide +kernel
theorem dX2_answer_115 : decode cX2_answer 115 = .ok (.return_, 1) := by decide +kernel
theorem dX2_crashes_0 : decode cX2_crashes 0 = .ok (.aload_n 0, 1) := by decide +kernel
theorem dX2_crashes_1 : decode cX2_crashes 1 = .ok (.iload_n 1, 1) := by decide +kernel
theorem dX2_crashes_2 : decode cX2_crashes 2 = .ok (.invokevirtual 78, 3) := by decide +kernel
theorem dX2_crashes_5 : decode cX2_crashes 5 = .ok (.ifCond .ne 5, 3) := by decide +kernel
theorem dX2_crashes_8 : decode cX2_crashes 8 = .ok (.iconst (-1), 1) := by decide +kernel
theorem dX2_crashes_9 : decode cX2_crashes 9 = .ok (.ireturn, 1) := by decide +kernel
theorem dX2_crashes_10 : decode cX2_crashes 10 = .ok (.aload_n 0, 1) := by decide +kernel
theorem dX2_crashes_11 : decode cX2_crashes 11 = .ok (.iload_n 1, 1) := by decide +kernel
theorem dX2_crashes_12 : decode cX2_crashes 12 = .ok (.invokevirtual 96, 3) := by decide +kernel
theorem dX2_crashes_15 : decode cX2_crashes 15 = .ok (.ifCond .eq 6, 3) := by decide +kernel
theorem dX2_crashes_18 : decode cX2_crashes 18 = .ok (.bipush (-2), 2) := by decide +kernel
theorem dX2_crashes_20 : decode cX2_crashes 20 = .ok (.ireturn, 1) := by decide +kernel
theorem dX2_crashes_21 : decode cX2_crashes 21 = .ok (.aload_n 0, 1) := by decide +kernel
theorem dX2_crashes_22 : decode cX2_crashes 22 = .ok (.invokevirtual 72, 3) := by decide +kernel
theorem dX2_crashes_25 : decode cX2_crashes 25 = .ok (.aload_n 0, 1) := by decide +kernel
theorem dX2_crashes_26 : decode cX2_crashes 26 = .ok (.getfield 7, 3) := by decide +kernel
theorem dX2_crashes_29 : decode cX2_crashes 29 = .ok (.iconst 2, 1) := by decide +kernel
theorem dX2_crashes_30 : decode cX2_crashes 30 = .ok (.dup2, 1) := by decide +kernel
theorem dX2_crashes_31 : decode cX2_crashes 31 = .ok (.iaload, 1) := by decide +kernel
theorem dX2_crashes_32 : decode cX2_crashes 32 = .ok (.iconst 1, 1) := by decide +kernel
theorem dX2_crashes_33 : decode cX2_crashes 33 = .ok (.iload_n 1, 1) := by decide +kernel
theorem dX2_crashes_34 : decode cX2_crashes 34 = .ok (.ishl, 1) := by decide +kernel
theorem dX2_crashes_35 : decode cX2_crashes 35 = .ok (.ior, 1) := by decide +kernel
theorem dX2_crashes_36 : decode cX2_crashes 36 = .ok (.iastore, 1) := by decide +kernel
theorem dX2_crashes_37 : decode cX2_crashes 37 = .ok (.aload_n 0, 1) := by decide +kernel
theorem dX2_crashes_38 : decode cX2_crashes 38 = .ok (.getfield 7, 3) := by decide +kernel
theorem dX2_crashes_41 : decode cX2_crashes 41 = .ok (.bipush 103, 2) := by decide +kernel
theorem dX2_crashes_43 : decode cX2_crashes 43 = .ok (.iload_n 1, 1) := by decide +kernel
theorem dX2_crashes_44 : decode cX2_crashes 44 = .ok (.iadd, 1) := by decide +kernel
theorem dX2_crashes_45 : decode cX2_crashes 45 = .ok (.iconst 0, 1) := by decide +kernel
theorem dX2_crashes_46 : decode cX2_crashes 46 = .ok (.iastore, 1) := by decide +kernel
theorem dX2_crashes_47 : decode cX2_crashes 47 = .ok (.iconst 0, 1) := by decide +kernel
theorem dX2_crashes_48 : decode cX2_crashes 48 = .ok (.istore_n 2, 1) := by decide +kernel
theorem dX2_crashes_49 : decode cX2_crashes 49 = .ok (.iload_n 2, 1) := by decide +kernel
theorem dX2_crashes_50 : decode cX2_crashes 50 = .ok (.iconst 4, 1) := by decide +kernel
theorem dX2_crashes_51 : decode cX2_crashes 51 = .ok (.if_icmp .ge 23, 3) := by decide +kernel
theorem dX2_crashes_54 : decode cX2_crashes 54 = .ok (.aload_n 0, 1) := by decide +kernel
theorem dX2_crashes_55 : decode cX2_crashes 55 = .ok (.getfield 7, 3) := by decide +kernel
theorem dX2_crashes_58 : decode cX2_crashes 58 = .ok (.bipush 107, 2) := by decide +kernel
theorem dX2_crashes_60 : decode cX2_crashes 60 = .ok (.iconst 4, 1) := by decide +kernel
theorem dX2_crashes_61 : decode cX2_crashes 61 = .ok (.iload_n 1, 1) := by decide +kernel
theorem dX2_crashes_62 : decode cX2_crashes 62 = .ok (.imul, 1) := by decide +kernel
theorem dX2_crashes_63 : decode cX2_crashes 63 = .ok (.iadd, 1) := by decide +kernel
theorem dX2_crashes_64 : decode cX2_crashes 64 = .ok (.iload_n 2, 1) := by decide +kernel
theorem dX2_crashes_65 : decode cX2_crashes 65 = .ok (.iadd, 1) := by decide +kernel
theorem dX2_crashes_66 : decode cX2_crashes 66 = .ok (.iconst 0, 1) := by decide +kernel
theorem dX2_crashes_67 : decode cX2_crashes 67 = .ok (.iastore, 1) := by decide +kernel
theorem dX2_crashes_68 : decode cX2_crashes 68 = .ok (.iinc 2 1, 3) := by decide +kernel
theorem dX2_crashes_71 : decode cX2_crashes 71 = .ok (.goto (-22), 3) := by decide +kernel
theorem dX2_crashes_74 : decode cX2_crashes 74 = .ok (.aload_n 0, 1) := by decide +kernel
theorem dX2_crashes_75 : decode cX2_crashes 75 = .ok (.getfield 7, 3) := by decide +kernel
theorem dX2_crashes_78 : decode cX2_crashes 78 = .ok (.iconst 2, 1) := by decide +kernel
theorem dX2_crashes_79 : decode cX2_crashes 79 = .ok (.iaload, 1) := by decide +kernel
theorem dX2_crashes_80 : decode cX2_crashes 80 = .ok (.invokestatic 112, 3) := by decide +kernel
theorem dX2_crashes_83 : decode cX2_crashes 83 = .ok (.ireturn, 1) := by decide +kernel
theorem dX2_heldBut_0 : decode cX2_heldBut 0 = .ok (.iconst 0, 1) := by decide +kernel
theorem dX2_heldBut_1 : decode cX2_heldBut 1 = .ok (.istore_n 2, 1) := by decide +kernel
theorem dX2_heldBut_2 : decode cX2_heldBut 2 = .ok (.iconst 0, 1) := by decide +kernel
theorem dX2_heldBut_3 : decode cX2_heldBut 3 = .ok (.istore_n 3, 1) := by decide +kernel
theorem dX2_heldBut_4 : decode cX2_heldBut 4 = .ok (.iload_n 3, 1) := by decide +kernel
theorem dX2_heldBut_5 : decode cX2_heldBut 5 = .ok (.aload_n 0, 1) := by decide +kernel
theorem dX2_heldBut_6 : decode cX2_heldBut 6 = .ok (.invokevirtual 82, 3) := by decide +kernel
theorem dX2_heldBut_9 : decode cX2_heldBut 9 = .ok (.if_icmp .ge 33, 3) := by decide +kernel
theorem dX2_heldBut_12 : decode cX2_heldBut 12 = .ok (.iload_n 2, 1) := by decide +kernel
theorem dX2_heldBut_13 : decode cX2_heldBut 13 = .ok (.iload_n 1, 1) := by decide +kernel
theorem dX2_heldBut_14 : decode cX2_heldBut 14 = .ok (.iload_n 3, 1) := by decide +kernel
theorem dX2_heldBut_15 : decode cX2_heldBut 15 = .ok (.invokestatic 39, 3) := by decide +kernel
theorem dX2_heldBut_18 : decode cX2_heldBut 18 = .ok (.ifCond .eq 7, 3) := by decide +kernel
theorem dX2_heldBut_21 : decode cX2_heldBut 21 = .ok (.iconst 0, 1) := by decide +kernel
theorem dX2_heldBut_22 : decode cX2_heldBut 22 = .ok (.goto 12, 3) := by decide +kernel
theorem dX2_heldBut_25 : decode cX2_heldBut 25 = .ok (.aload_n 0, 1) := by decide +kernel
theorem dX2_heldBut_26 : decode cX2_heldBut 26 = .ok (.getfield 7, 3) := by decide +kernel
theorem dX2_heldBut_29 : decode cX2_heldBut 29 = .ok (.bipush 103, 2) := by decide +kernel
theorem dX2_heldBut_31 : decode cX2_heldBut 31 = .ok (.iload_n 3, 1) := by decide +kernel
theorem dX2_heldBut_32 : decode cX2_heldBut 32 = .ok (.iadd, 1) := by decide +kernel
theorem dX2_heldBut_33 : decode cX2_heldBut 33 = .ok (.iaload, 1) := by decide +kernel
theorem dX2_heldBut_34 : decode cX2_heldBut 34 = .ok (.ior, 1) := by decide +kernel
theorem dX2_heldBut_35 : decode cX2_heldBut 35 = .ok (.istore_n 2, 1) := by decide +kernel
theorem dX2_heldBut_36 : decode cX2_heldBut 36 = .ok (.iinc 3 1, 3) := by decide +kernel
theorem dX2_heldBut_39 : decode cX2_heldBut 39 = .ok (.goto (-35), 3) := by decide +kernel
theorem dX2_heldBut_42 : decode cX2_heldBut 42 = .ok (.iload_n 2, 1) := by decide +kernel
theorem dX2_heldBut_43 : decode cX2_heldBut 43 = .ok (.ireturn, 1) := by decide +kernel
theorem dX2_isKeptCode_0 : decode cX2_isKeptCode 0 = .ok (.iload_n 1, 1) := by decide +kernel
theorem dX2_isKeptCode_1 : decode cX2_isKeptCode 1 = .ok (.bipush (-9), 2) := by decide +kernel
theorem dX2_isKeptCode_3 : decode cX2_isKeptCode 3 = .ok (.if_icmp .eq 19, 3) := by decide +kernel
theorem dX2_isKeptCode_6 : decode cX2_isKeptCode 6 = .ok (.iload_n 1, 1) := by decide +kernel
theorem dX2_isKeptCode_7 : decode cX2_isKeptCode 7 = .ok (.bipush 8, 2) := by decide +kernel
theorem dX2_isKeptCode_9 : decode cX2_isKeptCode 9 = .ok (.irem, 1) := by decide +kernel
theorem dX2_isKeptCode_10 : decode cX2_isKeptCode 10 = .ok (.aload_n 0, 1) := by decide +kernel
theorem dX2_isKeptCode_11 : decode cX2_isKeptCode 11 = .ok (.getfield 29, 3) := by decide +kernel
theorem dX2_isKeptCode_14 : decode cX2_isKeptCode 14 = .ok (.iload_n 1, 1) := by decide +kernel
theorem dX2_isKeptCode_15 : decode cX2_isKeptCode 15 = .ok (.bipush 8, 2) := by decide +kernel
theorem dX2_isKeptCode_17 : decode cX2_isKeptCode 17 = .ok (.idiv, 1) := by decide +kernel
theorem dX2_isKeptCode_18 : decode cX2_isKeptCode 18 = .ok (.iaload, 1) := by decide +kernel
theorem dX2_isKeptCode_19 : decode cX2_isKeptCode 19 = .ok (.if_icmp .ge 7, 3) := by decide +kernel
theorem dX2_isKeptCode_22 : decode cX2_isKeptCode 22 = .ok (.iconst 1, 1) := by decide +kernel
theorem dX2_isKeptCode_23 : decode cX2_isKeptCode 23 = .ok (.goto 4, 3) := by decide +kernel
theorem dX2_isKeptCode_26 : decode cX2_isKeptCode 26 = .ok (.iconst 0, 1) := by decide +kernel
theorem dX2_isKeptCode_27 : decode cX2_isKeptCode 27 = .ok (.ireturn, 1) := by decide +kernel
theorem dX2_birthOf_0 : decode cX2_birthOf 0 = .ok (.aload_n 0, 1) := by decide +kernel
theorem dX2_birthOf_1 : decode cX2_birthOf 1 = .ok (.iload_n 1, 1) := by decide +kernel
theorem dX2_birthOf_2 : decode cX2_birthOf 2 = .ok (.iload_n 2, 1) := by decide +kernel
theorem dX2_birthOf_3 : decode cX2_birthOf 3 = .ok (.iconst 0, 1) := by decide +kernel
theorem dX2_birthOf_4 : decode cX2_birthOf 4 = .ok (.invokevirtual 51, 3) := by decide +kernel
theorem dX2_birthOf_7 : decode cX2_birthOf 7 = .ok (.istore_n 3, 1) := by decide +kernel
theorem dX2_birthOf_8 : decode cX2_birthOf 8 = .ok (.aload_n 0, 1) := by decide +kernel
theorem dX2_birthOf_9 : decode cX2_birthOf 9 = .ok (.getfield 7, 3) := by decide +kernel
theorem dX2_birthOf_12 : decode cX2_birthOf 12 = .ok (.iload_n 3, 1) := by decide +kernel
theorem dX2_birthOf_13 : decode cX2_birthOf 13 = .ok (.iload_n 1, 1) := by decide +kernel
theorem dX2_birthOf_14 : decode cX2_birthOf 14 = .ok (.aload_n 0, 1) := by decide +kernel
theorem dX2_birthOf_15 : decode cX2_birthOf 15 = .ok (.iload_n 1, 1) := by decide +kernel
theorem dX2_birthOf_16 : decode cX2_birthOf 16 = .ok (.iload_n 2, 1) := by decide +kernel
theorem dX2_birthOf_17 : decode cX2_birthOf 17 = .ok (.iconst 1, 1) := by decide +kernel
theorem dX2_birthOf_18 : decode cX2_birthOf 18 = .ok (.invokevirtual 51, 3) := by decide +kernel
theorem dX2_birthOf_21 : decode cX2_birthOf 21 = .ok (.invokestatic 65, 3) := by decide +kernel
theorem dX2_birthOf_24 : decode cX2_birthOf 24 = .ok (.iconst 1, 1) := by decide +kernel
theorem dX2_birthOf_25 : decode cX2_birthOf 25 = .ok (.iadd, 1) := by decide +kernel
theorem dX2_birthOf_26 : decode cX2_birthOf 26 = .ok (.iaload, 1) := by decide +kernel
theorem dX2_birthOf_27 : decode cX2_birthOf 27 = .ok (.ireturn, 1) := by decide +kernel
theorem dX2_findKept_0 : decode cX2_findKept 0 = .ok (.aload_n 0, 1) := by decide +kernel
theorem dX2_findKept_1 : decode cX2_findKept 1 = .ok (.iload_n 1, 1) := by decide +kernel
theorem dX2_findKept_2 : decode cX2_findKept 2 = .ok (.invokevirtual 115, 3) := by decide +kernel
theorem dX2_findKept_5 : decode cX2_findKept 5 = .ok (.istore_n 2, 1) := by decide +kernel
theorem dX2_findKept_6 : decode cX2_findKept 6 = .ok (.iconst 0, 1) := by decide +kernel
theorem dX2_findKept_7 : decode cX2_findKept 7 = .ok (.istore_n 3, 1) := by decide +kernel
theorem dX2_findKept_8 : decode cX2_findKept 8 = .ok (.iload_n 3, 1) := by decide +kernel
theorem dX2_findKept_9 : decode cX2_findKept 9 = .ok (.iconst 4, 1) := by decide +kernel
theorem dX2_findKept_10 : decode cX2_findKept 10 = .ok (.if_icmp .ge 66, 3) := by decide +kernel
theorem dX2_findKept_13 : decode cX2_findKept 13 = .ok (.iconst 0, 1) := by decide +kernel
theorem dX2_findKept_14 : decode cX2_findKept 14 = .ok (.istore 4, 2) := by decide +kernel
theorem dX2_findKept_16 : decode cX2_findKept 16 = .ok (.iload_n 3, 1) := by decide +kernel
theorem dX2_findKept_17 : decode cX2_findKept 17 = .ok (.aload_n 0, 1) := by decide +kernel
theorem dX2_findKept_18 : decode cX2_findKept 18 = .ok (.invokevirtual 82, 3) := by decide +kernel
theorem dX2_findKept_21 : decode cX2_findKept 21 = .ok (.if_icmp .ge 41, 3) := by decide +kernel
theorem dX2_findKept_24 : decode cX2_findKept 24 = .ok (.iload 4, 2) := by decide +kernel
theorem dX2_findKept_26 : decode cX2_findKept 26 = .ok (.aload_n 0, 1) := by decide +kernel
theorem dX2_findKept_27 : decode cX2_findKept 27 = .ok (.iload_n 3, 1) := by decide +kernel
theorem dX2_findKept_28 : decode cX2_findKept 28 = .ok (.invokevirtual 47, 3) := by decide +kernel
theorem dX2_findKept_31 : decode cX2_findKept 31 = .ok (.if_icmp .ge 31, 3) := by decide +kernel
theorem dX2_findKept_34 : decode cX2_findKept 34 = .ok (.iload_n 1, 1) := by decide +kernel
theorem dX2_findKept_35 : decode cX2_findKept 35 = .ok (.iload_n 3, 1) := by decide +kernel
theorem dX2_findKept_36 : decode cX2_findKept 36 = .ok (.invokestatic 39, 3) := by decide +kernel
theorem dX2_findKept_39 : decode cX2_findKept 39 = .ok (.ifCond .eq 17, 3) := by decide +kernel
theorem dX2_findKept_42 : decode cX2_findKept 42 = .ok (.iload_n 2, 1) := by decide +kernel
theorem dX2_findKept_43 : decode cX2_findKept 43 = .ok (.bipush 8, 2) := by decide +kernel
theorem dX2_findKept_45 : decode cX2_findKept 45 = .ok (.iload_n 3, 1) := by decide +kernel
theorem dX2_findKept_46 : decode cX2_findKept 46 = .ok (.imul, 1) := by decide +kernel
theorem dX2_findKept_47 : decode cX2_findKept 47 = .ok (.iload 4, 2) := by decide +kernel
theorem dX2_findKept_49 : decode cX2_findKept 49 = .ok (.iadd, 1) := by decide +kernel
theorem dX2_findKept_50 : decode cX2_findKept 50 = .ok (.invokestatic 39, 3) := by decide +kernel
theorem dX2_findKept_53 : decode cX2_findKept 53 = .ok (.ifCond .eq 9, 3) := by decide +kernel
theorem dX2_findKept_56 : decode cX2_findKept 56 = .ok (.iinc 4 1, 3) := by decide +kernel
theorem dX2_findKept_59 : decode cX2_findKept 59 = .ok (.goto (-43), 3) := by decide +kernel
theorem dX2_findKept_62 : decode cX2_findKept 62 = .ok (.aload_n 0, 1) := by decide +kernel
theorem dX2_findKept_63 : decode cX2_findKept 63 = .ok (.getfield 29, 3) := by decide +kernel
theorem dX2_findKept_66 : decode cX2_findKept 66 = .ok (.iload_n 3, 1) := by decide +kernel
theorem dX2_findKept_67 : decode cX2_findKept 67 = .ok (.iload 4, 2) := by decide +kernel
theorem dX2_findKept_69 : decode cX2_findKept 69 = .ok (.iastore, 1) := by decide +kernel
theorem dX2_findKept_70 : decode cX2_findKept 70 = .ok (.iinc 3 1, 3) := by decide +kernel
theorem dX2_findKept_73 : decode cX2_findKept 73 = .ok (.goto (-65), 3) := by decide +kernel
theorem dX2_findKept_76 : decode cX2_findKept 76 = .ok (.iconst 1, 1) := by decide +kernel
theorem dX2_findKept_77 : decode cX2_findKept 77 = .ok (.istore_n 3, 1) := by decide +kernel
theorem dX2_findKept_78 : decode cX2_findKept 78 = .ok (.iload_n 3, 1) := by decide +kernel
theorem dX2_findKept_79 : decode cX2_findKept 79 = .ok (.ifCond .eq 93, 3) := by decide +kernel
theorem dX2_findKept_82 : decode cX2_findKept 82 = .ok (.iconst 0, 1) := by decide +kernel
theorem dX2_findKept_83 : decode cX2_findKept 83 = .ok (.istore_n 3, 1) := by decide +kernel
theorem dX2_findKept_84 : decode cX2_findKept 84 = .ok (.iconst 0, 1) := by decide +kernel
theorem dX2_findKept_85 : decode cX2_findKept 85 = .ok (.istore 4, 2) := by decide +kernel
theorem dX2_findKept_87 : decode cX2_findKept 87 = .ok (.iload 4, 2) := by decide +kernel
theorem dX2_findKept_89 : decode cX2_findKept 89 = .ok (.aload_n 0, 1) := by decide +kernel
theorem dX2_findKept_90 : decode cX2_findKept 90 = .ok (.invokevirtual 82, 3) := by decide +kernel
theorem dX2_findKept_93 : decode cX2_findKept 93 = .ok (.if_icmp .ge 76, 3) := by decide +kernel
theorem dX2_findKept_96 : decode cX2_findKept 96 = .ok (.iconst 0, 1) := by decide +kernel
theorem dX2_findKept_97 : decode cX2_findKept 97 = .ok (.istore 5, 2) := by decide +kernel
theorem dX2_findKept_99 : decode cX2_findKept 99 = .ok (.iload 5, 2) := by decide +kernel
theorem dX2_findKept_101 : decode cX2_findKept 101 = .ok (.aload_n 0, 1) := by decide +kernel
theorem dX2_findKept_102 : decode cX2_findKept 102 = .ok (.getfield 29, 3) := by decide +kernel
theorem dX2_findKept_105 : decode cX2_findKept 105 = .ok (.iload 4, 2) := by decide +kernel
theorem dX2_findKept_107 : decode cX2_findKept 107 = .ok (.iaload, 1) := by decide +kernel
theorem dX2_findKept_108 : decode cX2_findKept 108 = .ok (.if_icmp .ge 24, 3) := by decide +kernel
theorem dX2_findKept_111 : decode cX2_findKept 111 = .ok (.aload_n 0, 1) := by decide +kernel
theorem dX2_findKept_112 : decode cX2_findKept 112 = .ok (.aload_n 0, 1) := by decide +kernel
theorem dX2_findKept_113 : decode cX2_findKept 113 = .ok (.iload 4, 2) := by decide +kernel
theorem dX2_findKept_115 : decode cX2_findKept 115 = .ok (.iload 5, 2) := by decide +kernel
theorem dX2_findKept_117 : decode cX2_findKept 117 = .ok (.invokevirtual 118, 3) := by decide +kernel
theorem dX2_findKept_120 : decode cX2_findKept 120 = .ok (.invokevirtual 121, 3) := by decide +kernel
theorem dX2_findKept_123 : decode cX2_findKept 123 = .ok (.ifCond .eq 9, 3) := by decide +kernel
theorem dX2_findKept_126 : decode cX2_findKept 126 = .ok (.iinc 5 1, 3) := by decide +kernel
theorem dX2_findKept_129 : decode cX2_findKept 129 = .ok (.goto (-30), 3) := by decide +kernel
theorem dX2_findKept_132 : decode cX2_findKept 132 = .ok (.iload_n 3, 1) := by decide +kernel
theorem dX2_findKept_133 : decode cX2_findKept 133 = .ok (.ifCond .ne 15, 3) := by decide +kernel
theorem dX2_findKept_136 : decode cX2_findKept 136 = .ok (.iload 5, 2) := by decide +kernel
theorem dX2_findKept_138 : decode cX2_findKept 138 = .ok (.aload_n 0, 1) := by decide +kernel
theorem dX2_findKept_139 : decode cX2_findKept 139 = .ok (.getfield 29, 3) := by decide +kernel
theorem dX2_findKept_142 : decode cX2_findKept 142 = .ok (.iload 4, 2) := by decide +kernel
theorem dX2_findKept_144 : decode cX2_findKept 144 = .ok (.iaload, 1) := by decide +kernel
theorem dX2_findKept_145 : decode cX2_findKept 145 = .ok (.if_icmp .ge 7, 3) := by decide +kernel
theorem dX2_findKept_148 : decode cX2_findKept 148 = .ok (.iconst 1, 1) := by decide +kernel
theorem dX2_findKept_149 : decode cX2_findKept 149 = .ok (.goto 4, 3) := by decide +kernel
theorem dX2_findKept_152 : decode cX2_findKept 152 = .ok (.iconst 0, 1) := by decide +kernel
theorem dX2_findKept_153 : decode cX2_findKept 153 = .ok (.istore_n 3, 1) := by decide +kernel
theorem dX2_findKept_154 : decode cX2_findKept 154 = .ok (.aload_n 0, 1) := by decide +kernel
theorem dX2_findKept_155 : decode cX2_findKept 155 = .ok (.getfield 29, 3) := by decide +kernel
theorem dX2_findKept_158 : decode cX2_findKept 158 = .ok (.iload 4, 2) := by decide +kernel
theorem dX2_findKept_160 : decode cX2_findKept 160 = .ok (.iload 5, 2) := by decide +kernel
theorem dX2_findKept_162 : decode cX2_findKept 162 = .ok (.iastore, 1) := by decide +kernel
theorem dX2_findKept_163 : decode cX2_findKept 163 = .ok (.iinc 4 1, 3) := by decide +kernel
theorem dX2_findKept_166 : decode cX2_findKept 166 = .ok (.goto (-79), 3) := by decide +kernel
theorem dX2_findKept_169 : decode cX2_findKept 169 = .ok (.goto (-91), 3) := by decide +kernel
theorem dX2_findKept_172 : decode cX2_findKept 172 = .ok (.return_, 1) := by decide +kernel
theorem dX2_lost_0 : decode cX2_lost 0 = .ok (.iconst 0, 1) := by decide +kernel
theorem dX2_lost_1 : decode cX2_lost 1 = .ok (.istore_n 1, 1) := by decide +kernel
theorem dX2_lost_2 : decode cX2_lost 2 = .ok (.iconst 0, 1) := by decide +kernel
theorem dX2_lost_3 : decode cX2_lost 3 = .ok (.istore_n 2, 1) := by decide +kernel
theorem dX2_lost_4 : decode cX2_lost 4 = .ok (.iload_n 2, 1) := by decide +kernel
theorem dX2_lost_5 : decode cX2_lost 5 = .ok (.aload_n 0, 1) := by decide +kernel
theorem dX2_lost_6 : decode cX2_lost 6 = .ok (.invokevirtual 82, 3) := by decide +kernel
theorem dX2_lost_9 : decode cX2_lost 9 = .ok (.if_icmp .ge 24, 3) := by decide +kernel
theorem dX2_lost_12 : decode cX2_lost 12 = .ok (.iload_n 1, 1) := by decide +kernel
theorem dX2_lost_13 : decode cX2_lost 13 = .ok (.aload_n 0, 1) := by decide +kernel
theorem dX2_lost_14 : decode cX2_lost 14 = .ok (.iload_n 2, 1) := by decide +kernel
theorem dX2_lost_15 : decode cX2_lost 15 = .ok (.invokevirtual 47, 3) := by decide +kernel
theorem dX2_lost_18 : decode cX2_lost 18 = .ok (.aload_n 0, 1) := by decide +kernel
theorem dX2_lost_19 : decode cX2_lost 19 = .ok (.getfield 29, 3) := by decide +kernel
theorem dX2_lost_22 : decode cX2_lost 22 = .ok (.iload_n 2, 1) := by decide +kernel
theorem dX2_lost_23 : decode cX2_lost 23 = .ok (.iaload, 1) := by decide +kernel
theorem dX2_lost_24 : decode cX2_lost 24 = .ok (.isub, 1) := by decide +kernel
theorem dX2_lost_25 : decode cX2_lost 25 = .ok (.iadd, 1) := by decide +kernel
theorem dX2_lost_26 : decode cX2_lost 26 = .ok (.istore_n 1, 1) := by decide +kernel
theorem dX2_lost_27 : decode cX2_lost 27 = .ok (.iinc 2 1, 3) := by decide +kernel
theorem dX2_lost_30 : decode cX2_lost 30 = .ok (.goto (-26), 3) := by decide +kernel
theorem dX2_lost_33 : decode cX2_lost 33 = .ok (.iload_n 1, 1) := by decide +kernel
theorem dX2_lost_34 : decode cX2_lost 34 = .ok (.ireturn, 1) := by decide +kernel
theorem dX2_orphans_0 : decode cX2_orphans 0 = .ok (.iconst 0, 1) := by decide +kernel
theorem dX2_orphans_1 : decode cX2_orphans 1 = .ok (.istore_n 2, 1) := by decide +kernel
theorem dX2_orphans_2 : decode cX2_orphans 2 = .ok (.iconst 0, 1) := by decide +kernel
theorem dX2_orphans_3 : decode cX2_orphans 3 = .ok (.istore_n 3, 1) := by decide +kernel
theorem dX2_orphans_4 : decode cX2_orphans 4 = .ok (.iload_n 3, 1) := by decide +kernel
theorem dX2_orphans_5 : decode cX2_orphans 5 = .ok (.aload_n 0, 1) := by decide +kernel
theorem dX2_orphans_6 : decode cX2_orphans 6 = .ok (.invokevirtual 82, 3) := by decide +kernel
theorem dX2_orphans_9 : decode cX2_orphans 9 = .ok (.if_icmp .ge 39, 3) := by decide +kernel
theorem dX2_orphans_12 : decode cX2_orphans 12 = .ok (.iload_n 2, 1) := by decide +kernel
theorem dX2_orphans_13 : decode cX2_orphans 13 = .ok (.iload_n 1, 1) := by decide +kernel
theorem dX2_orphans_14 : decode cX2_orphans 14 = .ok (.iload_n 3, 1) := by decide +kernel
theorem dX2_orphans_15 : decode cX2_orphans 15 = .ok (.invokestatic 39, 3) := by decide +kernel
theorem dX2_orphans_18 : decode cX2_orphans 18 = .ok (.ifCond .ne 21, 3) := by decide +kernel
theorem dX2_orphans_21 : decode cX2_orphans 21 = .ok (.aload_n 0, 1) := by decide +kernel
theorem dX2_orphans_22 : decode cX2_orphans 22 = .ok (.getfield 29, 3) := by decide +kernel
theorem dX2_orphans_25 : decode cX2_orphans 25 = .ok (.iload_n 3, 1) := by decide +kernel
theorem dX2_orphans_26 : decode cX2_orphans 26 = .ok (.iaload, 1) := by decide +kernel
theorem dX2_orphans_27 : decode cX2_orphans 27 = .ok (.aload_n 0, 1) := by decide +kernel
theorem dX2_orphans_28 : decode cX2_orphans 28 = .ok (.iload_n 3, 1) := by decide +kernel
theorem dX2_orphans_29 : decode cX2_orphans 29 = .ok (.invokevirtual 47, 3) := by decide +kernel
theorem dX2_orphans_32 : decode cX2_orphans 32 = .ok (.if_icmp .ge 7, 3) := by decide +kernel
theorem dX2_orphans_35 : decode cX2_orphans 35 = .ok (.iconst 1, 1) := by decide +kernel
theorem dX2_orphans_36 : decode cX2_orphans 36 = .ok (.goto 4, 3) := by decide +kernel
theorem dX2_orphans_39 : decode cX2_orphans 39 = .ok (.iconst 0, 1) := by decide +kernel
theorem dX2_orphans_40 : decode cX2_orphans 40 = .ok (.iadd, 1) := by decide +kernel
theorem dX2_orphans_41 : decode cX2_orphans 41 = .ok (.istore_n 2, 1) := by decide +kernel
theorem dX2_orphans_42 : decode cX2_orphans 42 = .ok (.iinc 3 1, 3) := by decide +kernel
theorem dX2_orphans_45 : decode cX2_orphans 45 = .ok (.goto (-41), 3) := by decide +kernel
theorem dX2_orphans_48 : decode cX2_orphans 48 = .ok (.iload_n 2, 1) := by decide +kernel
theorem dX2_orphans_49 : decode cX2_orphans 49 = .ok (.ireturn, 1) := by decide +kernel
theorem dX2_codesKept_0 : decode cX2_codesKept 0 = .ok (.iconst 0, 1) := by decide +kernel
theorem dX2_codesKept_1 : decode cX2_codesKept 1 = .ok (.istore_n 1, 1) := by decide +kernel
theorem dX2_codesKept_2 : decode cX2_codesKept 2 = .ok (.iconst 0, 1) := by decide +kernel
theorem dX2_codesKept_3 : decode cX2_codesKept 3 = .ok (.istore_n 2, 1) := by decide +kernel
theorem dX2_codesKept_4 : decode cX2_codesKept 4 = .ok (.iload_n 2, 1) := by decide +kernel
theorem dX2_codesKept_5 : decode cX2_codesKept 5 = .ok (.aload_n 0, 1) := by decide +kernel
theorem dX2_codesKept_6 : decode cX2_codesKept 6 = .ok (.invokevirtual 82, 3) := by decide +kernel
theorem dX2_codesKept_9 : decode cX2_codesKept 9 = .ok (.if_icmp .ge 38, 3) := by decide +kernel
theorem dX2_codesKept_12 : decode cX2_codesKept 12 = .ok (.iconst 0, 1) := by decide +kernel
theorem dX2_codesKept_13 : decode cX2_codesKept 13 = .ok (.istore_n 3, 1) := by decide +kernel
theorem dX2_codesKept_14 : decode cX2_codesKept 14 = .ok (.iload_n 3, 1) := by decide +kernel
theorem dX2_codesKept_15 : decode cX2_codesKept 15 = .ok (.aload_n 0, 1) := by decide +kernel
theorem dX2_codesKept_16 : decode cX2_codesKept 16 = .ok (.getfield 29, 3) := by decide +kernel
theorem dX2_codesKept_19 : decode cX2_codesKept 19 = .ok (.iload_n 2, 1) := by decide +kernel
theorem dX2_codesKept_20 : decode cX2_codesKept 20 = .ok (.iaload, 1) := by decide +kernel
theorem dX2_codesKept_21 : decode cX2_codesKept 21 = .ok (.if_icmp .ge 20, 3) := by decide +kernel
theorem dX2_codesKept_24 : decode cX2_codesKept 24 = .ok (.iload_n 1, 1) := by decide +kernel
theorem dX2_codesKept_25 : decode cX2_codesKept 25 = .ok (.iconst 1, 1) := by decide +kernel
theorem dX2_codesKept_26 : decode cX2_codesKept 26 = .ok (.bipush 8, 2) := by decide +kernel
theorem dX2_codesKept_28 : decode cX2_codesKept 28 = .ok (.iload_n 2, 1) := by decide +kernel
theorem dX2_codesKept_29 : decode cX2_codesKept 29 = .ok (.imul, 1) := by decide +kernel
theorem dX2_codesKept_30 : decode cX2_codesKept 30 = .ok (.iload_n 3, 1) := by decide +kernel
theorem dX2_codesKept_31 : decode cX2_codesKept 31 = .ok (.iadd, 1) := by decide +kernel
theorem dX2_codesKept_32 : decode cX2_codesKept 32 = .ok (.ishl, 1) := by decide +kernel
theorem dX2_codesKept_33 : decode cX2_codesKept 33 = .ok (.ior, 1) := by decide +kernel
theorem dX2_codesKept_34 : decode cX2_codesKept 34 = .ok (.istore_n 1, 1) := by decide +kernel
theorem dX2_codesKept_35 : decode cX2_codesKept 35 = .ok (.iinc 3 1, 3) := by decide +kernel
theorem dX2_codesKept_38 : decode cX2_codesKept 38 = .ok (.goto (-24), 3) := by decide +kernel
theorem dX2_codesKept_41 : decode cX2_codesKept 41 = .ok (.iinc 2 1, 3) := by decide +kernel
theorem dX2_codesKept_44 : decode cX2_codesKept 44 = .ok (.goto (-40), 3) := by decide +kernel
theorem dX2_codesKept_47 : decode cX2_codesKept 47 = .ok (.iload_n 1, 1) := by decide +kernel
theorem dX2_codesKept_48 : decode cX2_codesKept 48 = .ok (.ireturn, 1) := by decide +kernel
theorem dX2_dropLetters_0 : decode cX2_dropLetters 0 = .ok (.iconst 0, 1) := by decide +kernel
theorem dX2_dropLetters_1 : decode cX2_dropLetters 1 = .ok (.istore_n 2, 1) := by decide +kernel
theorem dX2_dropLetters_2 : decode cX2_dropLetters 2 = .ok (.iload_n 2, 1) := by decide +kernel
theorem dX2_dropLetters_3 : decode cX2_dropLetters 3 = .ok (.aload_n 0, 1) := by decide +kernel
theorem dX2_dropLetters_4 : decode cX2_dropLetters 4 = .ok (.invokevirtual 82, 3) := by decide +kernel
theorem dX2_dropLetters_7 : decode cX2_dropLetters 7 = .ok (.if_icmp .ge 99, 3) := by decide +kernel
theorem dX2_dropLetters_10 : decode cX2_dropLetters 10 = .ok (.iconst 0, 1) := by decide +kernel
theorem dX2_dropLetters_11 : decode cX2_dropLetters 11 = .ok (.istore_n 3, 1) := by decide +kernel
theorem dX2_dropLetters_12 : decode cX2_dropLetters 12 = .ok (.iload_n 3, 1) := by decide +kernel
theorem dX2_dropLetters_13 : decode cX2_dropLetters 13 = .ok (.aload_n 0, 1) := by decide +kernel
theorem dX2_dropLetters_14 : decode cX2_dropLetters 14 = .ok (.invokevirtual 82, 3) := by decide +kernel
theorem dX2_dropLetters_17 : decode cX2_dropLetters 17 = .ok (.if_icmp .ge 83, 3) := by decide +kernel
theorem dX2_dropLetters_20 : decode cX2_dropLetters 20 = .ok (.iconst 0, 1) := by decide +kernel
theorem dX2_dropLetters_21 : decode cX2_dropLetters 21 = .ok (.istore 4, 2) := by decide +kernel
theorem dX2_dropLetters_23 : decode cX2_dropLetters 23 = .ok (.iload 4, 2) := by decide +kernel
theorem dX2_dropLetters_25 : decode cX2_dropLetters 25 = .ok (.aload_n 0, 1) := by decide +kernel
theorem dX2_dropLetters_26 : decode cX2_dropLetters 26 = .ok (.iload_n 2, 1) := by decide +kernel
theorem dX2_dropLetters_27 : decode cX2_dropLetters 27 = .ok (.iload_n 3, 1) := by decide +kernel
theorem dX2_dropLetters_28 : decode cX2_dropLetters 28 = .ok (.invokevirtual 62, 3) := by decide +kernel
theorem dX2_dropLetters_31 : decode cX2_dropLetters 31 = .ok (.if_icmp .ge 48, 3) := by decide +kernel
theorem dX2_dropLetters_34 : decode cX2_dropLetters 34 = .ok (.aload_n 0, 1) := by decide +kernel
theorem dX2_dropLetters_35 : decode cX2_dropLetters 35 = .ok (.aload_n 0, 1) := by decide +kernel
theorem dX2_dropLetters_36 : decode cX2_dropLetters 36 = .ok (.getfield 7, 3) := by decide +kernel
theorem dX2_dropLetters_39 : decode cX2_dropLetters 39 = .ok (.iload_n 2, 1) := by decide +kernel
theorem dX2_dropLetters_40 : decode cX2_dropLetters 40 = .ok (.iload_n 3, 1) := by decide +kernel
theorem dX2_dropLetters_41 : decode cX2_dropLetters 41 = .ok (.iload 4, 2) := by decide +kernel
theorem dX2_dropLetters_43 : decode cX2_dropLetters 43 = .ok (.invokestatic 65, 3) := by decide +kernel
theorem dX2_dropLetters_46 : decode cX2_dropLetters 46 = .ok (.iconst 1, 1) := by decide +kernel
theorem dX2_dropLetters_47 : decode cX2_dropLetters 47 = .ok (.iadd, 1) := by decide +kernel
theorem dX2_dropLetters_48 : decode cX2_dropLetters 48 = .ok (.iaload, 1) := by decide +kernel
theorem dX2_dropLetters_49 : decode cX2_dropLetters 49 = .ok (.invokevirtual 121, 3) := by decide +kernel
theorem dX2_dropLetters_52 : decode cX2_dropLetters 52 = .ok (.ifCond .eq 27, 3) := by decide +kernel
theorem dX2_dropLetters_55 : decode cX2_dropLetters 55 = .ok (.aload_n 0, 1) := by decide +kernel
theorem dX2_dropLetters_56 : decode cX2_dropLetters 56 = .ok (.getfield 7, 3) := by decide +kernel
theorem dX2_dropLetters_59 : decode cX2_dropLetters 59 = .ok (.iload_n 2, 1) := by decide +kernel
theorem dX2_dropLetters_60 : decode cX2_dropLetters 60 = .ok (.iload_n 3, 1) := by decide +kernel
theorem dX2_dropLetters_61 : decode cX2_dropLetters 61 = .ok (.iload 4, 2) := by decide +kernel
theorem dX2_dropLetters_63 : decode cX2_dropLetters 63 = .ok (.invokestatic 65, 3) := by decide +kernel
theorem dX2_dropLetters_66 : decode cX2_dropLetters 66 = .ok (.iconst 2, 1) := by decide +kernel
theorem dX2_dropLetters_67 : decode cX2_dropLetters 67 = .ok (.iadd, 1) := by decide +kernel
theorem dX2_dropLetters_68 : decode cX2_dropLetters 68 = .ok (.dup2, 1) := by decide +kernel
theorem dX2_dropLetters_69 : decode cX2_dropLetters 69 = .ok (.iaload, 1) := by decide +kernel
theorem dX2_dropLetters_70 : decode cX2_dropLetters 70 = .ok (.iload_n 1, 1) := by decide +kernel
theorem dX2_dropLetters_71 : decode cX2_dropLetters 71 = .ok (.iand, 1) := by decide +kernel
theorem dX2_dropLetters_72 : decode cX2_dropLetters 72 = .ok (.iastore, 1) := by decide +kernel
theorem dX2_dropLetters_73 : decode cX2_dropLetters 73 = .ok (.iinc 4 1, 3) := by decide +kernel
theorem dX2_dropLetters_76 : decode cX2_dropLetters 76 = .ok (.goto (-53), 3) := by decide +kernel
theorem dX2_dropLetters_79 : decode cX2_dropLetters 79 = .ok (.aload_n 0, 1) := by decide +kernel
theorem dX2_dropLetters_80 : decode cX2_dropLetters 80 = .ok (.getfield 7, 3) := by decide +kernel
theorem dX2_dropLetters_83 : decode cX2_dropLetters 83 = .ok (.bipush 123, 2) := by decide +kernel
theorem dX2_dropLetters_85 : decode cX2_dropLetters 85 = .ok (.iload_n 2, 1) := by decide +kernel
theorem dX2_dropLetters_86 : decode cX2_dropLetters 86 = .ok (.iload_n 3, 1) := by decide +kernel
theorem dX2_dropLetters_87 : decode cX2_dropLetters 87 = .ok (.invokestatic 55, 3) := by decide +kernel
theorem dX2_dropLetters_90 : decode cX2_dropLetters 90 = .ok (.iadd, 1) := by decide +kernel
theorem dX2_dropLetters_91 : decode cX2_dropLetters 91 = .ok (.iload 4, 2) := by decide +kernel
theorem dX2_dropLetters_93 : decode cX2_dropLetters 93 = .ok (.iastore, 1) := by decide +kernel
theorem dX2_dropLetters_94 : decode cX2_dropLetters 94 = .ok (.iinc 3 1, 3) := by decide +kernel
theorem dX2_dropLetters_97 : decode cX2_dropLetters 97 = .ok (.goto (-85), 3) := by decide +kernel
theorem dX2_dropLetters_100 : decode cX2_dropLetters 100 = .ok (.iinc 2 1, 3) := by decide +kernel
theorem dX2_dropLetters_103 : decode cX2_dropLetters 103 = .ok (.goto (-101), 3) := by decide +kernel
theorem dX2_dropLetters_106 : decode cX2_dropLetters 106 = .ok (.return_, 1) := by decide +kernel
theorem dX2_raises_0 : decode cX2_raises 0 = .ok (.aload_n 0, 1) := by decide +kernel
theorem dX2_raises_1 : decode cX2_raises 1 = .ok (.getfield 7, 3) := by decide +kernel
theorem dX2_raises_4 : decode cX2_raises 4 = .ok (.iconst 2, 1) := by decide +kernel
theorem dX2_raises_5 : decode cX2_raises 5 = .ok (.iaload, 1) := by decide +kernel
theorem dX2_raises_6 : decode cX2_raises 6 = .ok (.ifCond .ne 6, 3) := by decide +kernel
theorem dX2_raises_9 : decode cX2_raises 9 = .ok (.bipush (-2), 2) := by decide +kernel
theorem dX2_raises_11 : decode cX2_raises 11 = .ok (.ireturn, 1) := by decide +kernel
theorem dX2_raises_12 : decode cX2_raises 12 = .ok (.aload_n 0, 1) := by decide +kernel
theorem dX2_raises_13 : decode cX2_raises 13 = .ok (.invokevirtual 72, 3) := by decide +kernel
theorem dX2_raises_16 : decode cX2_raises 16 = .ok (.aload_n 0, 1) := by decide +kernel
theorem dX2_raises_17 : decode cX2_raises 17 = .ok (.getfield 7, 3) := by decide +kernel
theorem dX2_raises_20 : decode cX2_raises 20 = .ok (.iconst 2, 1) := by decide +kernel
theorem dX2_raises_21 : decode cX2_raises 21 = .ok (.iaload, 1) := by decide +kernel
theorem dX2_raises_22 : decode cX2_raises 22 = .ok (.istore_n 1, 1) := by decide +kernel
theorem dX2_raises_23 : decode cX2_raises 23 = .ok (.aload_n 0, 1) := by decide +kernel
theorem dX2_raises_24 : decode cX2_raises 24 = .ok (.iload_n 1, 1) := by decide +kernel
theorem dX2_raises_25 : decode cX2_raises 25 = .ok (.invokevirtual 124, 3) := by decide +kernel
theorem dX2_raises_28 : decode cX2_raises 28 = .ok (.aload_n 0, 1) := by decide +kernel
theorem dX2_raises_29 : decode cX2_raises 29 = .ok (.invokevirtual 128, 3) := by decide +kernel
theorem dX2_raises_32 : decode cX2_raises 32 = .ok (.istore_n 2, 1) := by decide +kernel
theorem dX2_raises_33 : decode cX2_raises 33 = .ok (.aload_n 0, 1) := by decide +kernel
theorem dX2_raises_34 : decode cX2_raises 34 = .ok (.invokevirtual 131, 3) := by decide +kernel
theorem dX2_raises_37 : decode cX2_raises 37 = .ok (.istore_n 3, 1) := by decide +kernel
theorem dX2_raises_38 : decode cX2_raises 38 = .ok (.aload_n 0, 1) := by decide +kernel
theorem dX2_raises_39 : decode cX2_raises 39 = .ok (.iload_n 1, 1) := by decide +kernel
theorem dX2_raises_40 : decode cX2_raises 40 = .ok (.invokevirtual 115, 3) := by decide +kernel
theorem dX2_raises_43 : decode cX2_raises 43 = .ok (.iload_n 3, 1) := by decide +kernel
theorem dX2_raises_44 : decode cX2_raises 44 = .ok (.iand, 1) := by decide +kernel
theorem dX2_raises_45 : decode cX2_raises 45 = .ok (.istore 4, 2) := by decide +kernel
theorem dX2_raises_47 : decode cX2_raises 47 = .ok (.aload_n 0, 1) := by decide +kernel
theorem dX2_raises_48 : decode cX2_raises 48 = .ok (.iload_n 3, 1) := by decide +kernel
theorem dX2_raises_49 : decode cX2_raises 49 = .ok (.invokevirtual 134, 3) := by decide +kernel
theorem dX2_raises_52 : decode cX2_raises 52 = .ok (.iconst 0, 1) := by decide +kernel
theorem dX2_raises_53 : decode cX2_raises 53 = .ok (.istore 5, 2) := by decide +kernel
theorem dX2_raises_55 : decode cX2_raises 55 = .ok (.iload 5, 2) := by decide +kernel
theorem dX2_raises_57 : decode cX2_raises 57 = .ok (.aload_n 0, 1) := by decide +kernel
theorem dX2_raises_58 : decode cX2_raises 58 = .ok (.invokevirtual 82, 3) := by decide +kernel
theorem dX2_raises_61 : decode cX2_raises 61 = .ok (.if_icmp .ge 77, 3) := by decide +kernel
theorem dX2_raises_64 : decode cX2_raises 64 = .ok (.aload_n 0, 1) := by decide +kernel
theorem dX2_raises_65 : decode cX2_raises 65 = .ok (.getfield 7, 3) := by decide +kernel
theorem dX2_raises_68 : decode cX2_raises 68 = .ok (.iconst 3, 1) := by decide +kernel
theorem dX2_raises_69 : decode cX2_raises 69 = .ok (.iload 5, 2) := by decide +kernel
theorem dX2_raises_71 : decode cX2_raises 71 = .ok (.iadd, 1) := by decide +kernel
theorem dX2_raises_72 : decode cX2_raises 72 = .ok (.aload_n 0, 1) := by decide +kernel
theorem dX2_raises_73 : decode cX2_raises 73 = .ok (.getfield 29, 3) := by decide +kernel
theorem dX2_raises_76 : decode cX2_raises 76 = .ok (.iload 5, 2) := by decide +kernel
theorem dX2_raises_78 : decode cX2_raises 78 = .ok (.iaload, 1) := by decide +kernel
theorem dX2_raises_79 : decode cX2_raises 79 = .ok (.iastore, 1) := by decide +kernel
theorem dX2_raises_80 : decode cX2_raises 80 = .ok (.iconst 0, 1) := by decide +kernel
theorem dX2_raises_81 : decode cX2_raises 81 = .ok (.istore 6, 2) := by decide +kernel
theorem dX2_raises_83 : decode cX2_raises 83 = .ok (.iload 6, 2) := by decide +kernel
theorem dX2_raises_85 : decode cX2_raises 85 = .ok (.bipush 32, 2) := by decide +kernel
theorem dX2_raises_87 : decode cX2_raises 87 = .ok (.if_icmp .ge 45, 3) := by decide +kernel
theorem dX2_raises_90 : decode cX2_raises 90 = .ok (.aload_n 0, 1) := by decide +kernel
theorem dX2_raises_91 : decode cX2_raises 91 = .ok (.getfield 7, 3) := by decide +kernel
theorem dX2_raises_94 : decode cX2_raises 94 = .ok (.bipush 103, 2) := by decide +kernel
theorem dX2_raises_96 : decode cX2_raises 96 = .ok (.iload 5, 2) := by decide +kernel
theorem dX2_raises_98 : decode cX2_raises 98 = .ok (.iadd, 1) := by decide +kernel
theorem dX2_raises_99 : decode cX2_raises 99 = .ok (.iaload, 1) := by decide +kernel
theorem dX2_raises_100 : decode cX2_raises 100 = .ok (.iload 6, 2) := by decide +kernel
theorem dX2_raises_102 : decode cX2_raises 102 = .ok (.invokestatic 39, 3) := by decide +kernel
theorem dX2_raises_105 : decode cX2_raises 105 = .ok (.ifCond .eq 21, 3) := by decide +kernel
theorem dX2_raises_108 : decode cX2_raises 108 = .ok (.iload_n 3, 1) := by decide +kernel
theorem dX2_raises_109 : decode cX2_raises 109 = .ok (.iload 6, 2) := by decide +kernel
theorem dX2_raises_111 : decode cX2_raises 111 = .ok (.invokestatic 39, 3) := by decide +kernel
theorem dX2_raises_114 : decode cX2_raises 114 = .ok (.ifCond .ne 12, 3) := by decide +kernel
theorem dX2_raises_117 : decode cX2_raises 117 = .ok (.aload_n 0, 1) := by decide +kernel
theorem dX2_raises_118 : decode cX2_raises 118 = .ok (.iload 5, 2) := by decide +kernel
theorem dX2_raises_120 : decode cX2_raises 120 = .ok (.iload 6, 2) := by decide +kernel
theorem dX2_raises_122 : decode cX2_raises 122 = .ok (.iconst 0, 1) := by decide +kernel
theorem dX2_raises_123 : decode cX2_raises 123 = .ok (.invokevirtual 102, 3) := by decide +kernel
theorem dX2_raises_126 : decode cX2_raises 126 = .ok (.iinc 6 1, 3) := by decide +kernel
theorem dX2_raises_129 : decode cX2_raises 129 = .ok (.goto (-46), 3) := by decide +kernel
theorem dX2_raises_132 : decode cX2_raises 132 = .ok (.iinc 5 1, 3) := by decide +kernel
theorem dX2_raises_135 : decode cX2_raises 135 = .ok (.goto (-80), 3) := by decide +kernel
theorem dX2_raises_138 : decode cX2_raises 138 = .ok (.aload_n 0, 1) := by decide +kernel
theorem dX2_raises_139 : decode cX2_raises 139 = .ok (.iload_n 1, 1) := by decide +kernel
theorem dX2_raises_140 : decode cX2_raises 140 = .ok (.iload 4, 2) := by decide +kernel
theorem dX2_raises_142 : decode cX2_raises 142 = .ok (.invokevirtual 137, 3) := by decide +kernel
theorem dX2_raises_145 : decode cX2_raises 145 = .ok (.aload_n 0, 1) := by decide +kernel
theorem dX2_raises_146 : decode cX2_raises 146 = .ok (.getfield 7, 3) := by decide +kernel
theorem dX2_raises_149 : decode cX2_raises 149 = .ok (.iconst 2, 1) := by decide +kernel
theorem dX2_raises_150 : decode cX2_raises 150 = .ok (.iconst 0, 1) := by decide +kernel
theorem dX2_raises_151 : decode cX2_raises 151 = .ok (.iastore, 1) := by decide +kernel
theorem dX2_raises_152 : decode cX2_raises 152 = .ok (.iload_n 2, 1) := by decide +kernel
theorem dX2_raises_153 : decode cX2_raises 153 = .ok (.ireturn, 1) := by decide +kernel
theorem dX2_raiseAll_0 : decode cX2_raiseAll 0 = .ok (.iconst 0, 1) := by decide +kernel
theorem dX2_raiseAll_1 : decode cX2_raiseAll 1 = .ok (.istore_n 3, 1) := by decide +kernel
theorem dX2_raiseAll_2 : decode cX2_raiseAll 2 = .ok (.iload_n 3, 1) := by decide +kernel
theorem dX2_raiseAll_3 : decode cX2_raiseAll 3 = .ok (.bipush 32, 2) := by decide +kernel
theorem dX2_raiseAll_5 : decode cX2_raiseAll 5 = .ok (.if_icmp .ge 104, 3) := by decide +kernel
theorem dX2_raiseAll_8 : decode cX2_raiseAll 8 = .ok (.iload_n 1, 1) := by decide +kernel
theorem dX2_raiseAll_9 : decode cX2_raiseAll 9 = .ok (.istore 4, 2) := by decide +kernel
theorem dX2_raiseAll_11 : decode cX2_raiseAll 11 = .ok (.iconst 0, 1) := by decide +kernel
theorem dX2_raiseAll_12 : decode cX2_raiseAll 12 = .ok (.istore 5, 2) := by decide +kernel
theorem dX2_raiseAll_14 : decode cX2_raiseAll 14 = .ok (.iload 5, 2) := by decide +kernel
theorem dX2_raiseAll_16 : decode cX2_raiseAll 16 = .ok (.aload_n 0, 1) := by decide +kernel
theorem dX2_raiseAll_17 : decode cX2_raiseAll 17 = .ok (.invokevirtual 82, 3) := by decide +kernel
theorem dX2_raiseAll_20 : decode cX2_raiseAll 20 = .ok (.if_icmp .ge 39, 3) := by decide +kernel
theorem dX2_raiseAll_23 : decode cX2_raiseAll 23 = .ok (.iload 4, 2) := by decide +kernel
theorem dX2_raiseAll_25 : decode cX2_raiseAll 25 = .ok (.aload_n 0, 1) := by decide +kernel
theorem dX2_raiseAll_26 : decode cX2_raiseAll 26 = .ok (.getfield 7, 3) := by decide +kernel
theorem dX2_raiseAll_29 : decode cX2_raiseAll 29 = .ok (.bipush 103, 2) := by decide +kernel
theorem dX2_raiseAll_31 : decode cX2_raiseAll 31 = .ok (.iload 5, 2) := by decide +kernel
theorem dX2_raiseAll_33 : decode cX2_raiseAll 33 = .ok (.iadd, 1) := by decide +kernel
theorem dX2_raiseAll_34 : decode cX2_raiseAll 34 = .ok (.iaload, 1) := by decide +kernel
theorem dX2_raiseAll_35 : decode cX2_raiseAll 35 = .ok (.iload_n 3, 1) := by decide +kernel
theorem dX2_raiseAll_36 : decode cX2_raiseAll 36 = .ok (.invokestatic 39, 3) := by decide +kernel
theorem dX2_raiseAll_39 : decode cX2_raiseAll 39 = .ok (.ifCond .eq 10, 3) := by decide +kernel
theorem dX2_raiseAll_42 : decode cX2_raiseAll 42 = .ok (.iconst 1, 1) := by decide +kernel
theorem dX2_raiseAll_43 : decode cX2_raiseAll 43 = .ok (.iload 5, 2) := by decide +kernel
theorem dX2_raiseAll_45 : decode cX2_raiseAll 45 = .ok (.ishl, 1) := by decide +kernel
theorem dX2_raiseAll_46 : decode cX2_raiseAll 46 = .ok (.goto 4, 3) := by decide +kernel
theorem dX2_raiseAll_49 : decode cX2_raiseAll 49 = .ok (.iconst 0, 1) := by decide +kernel
theorem dX2_raiseAll_50 : decode cX2_raiseAll 50 = .ok (.ior, 1) := by decide +kernel
theorem dX2_raiseAll_51 : decode cX2_raiseAll 51 = .ok (.istore 4, 2) := by decide +kernel
theorem dX2_raiseAll_53 : decode cX2_raiseAll 53 = .ok (.iinc 5 1, 3) := by decide +kernel
theorem dX2_raiseAll_56 : decode cX2_raiseAll 56 = .ok (.goto (-42), 3) := by decide +kernel
theorem dX2_raiseAll_59 : decode cX2_raiseAll 59 = .ok (.iconst 0, 1) := by decide +kernel
theorem dX2_raiseAll_60 : decode cX2_raiseAll 60 = .ok (.istore 5, 2) := by decide +kernel
theorem dX2_raiseAll_62 : decode cX2_raiseAll 62 = .ok (.iload 5, 2) := by decide +kernel
theorem dX2_raiseAll_64 : decode cX2_raiseAll 64 = .ok (.aload_n 0, 1) := by decide +kernel
theorem dX2_raiseAll_65 : decode cX2_raiseAll 65 = .ok (.invokevirtual 82, 3) := by decide +kernel
theorem dX2_raiseAll_68 : decode cX2_raiseAll 68 = .ok (.if_icmp .ge 35, 3) := by decide +kernel
theorem dX2_raiseAll_71 : decode cX2_raiseAll 71 = .ok (.iload_n 2, 1) := by decide +kernel
theorem dX2_raiseAll_72 : decode cX2_raiseAll 72 = .ok (.iload_n 3, 1) := by decide +kernel
theorem dX2_raiseAll_73 : decode cX2_raiseAll 73 = .ok (.invokestatic 39, 3) := by decide +kernel
theorem dX2_raiseAll_76 : decode cX2_raiseAll 76 = .ok (.ifCond .eq 27, 3) := by decide +kernel
theorem dX2_raiseAll_79 : decode cX2_raiseAll 79 = .ok (.iload_n 1, 1) := by decide +kernel
theorem dX2_raiseAll_80 : decode cX2_raiseAll 80 = .ok (.iload 5, 2) := by decide +kernel
theorem dX2_raiseAll_82 : decode cX2_raiseAll 82 = .ok (.invokestatic 39, 3) := by decide +kernel
theorem dX2_raiseAll_85 : decode cX2_raiseAll 85 = .ok (.ifCond .eq 12, 3) := by decide +kernel
theorem dX2_raiseAll_88 : decode cX2_raiseAll 88 = .ok (.aload_n 0, 1) := by decide +kernel
theorem dX2_raiseAll_89 : decode cX2_raiseAll 89 = .ok (.iload 5, 2) := by decide +kernel
theorem dX2_raiseAll_91 : decode cX2_raiseAll 91 = .ok (.iload_n 3, 1) := by decide +kernel
theorem dX2_raiseAll_92 : decode cX2_raiseAll 92 = .ok (.iload 4, 2) := by decide +kernel
theorem dX2_raiseAll_94 : decode cX2_raiseAll 94 = .ok (.invokevirtual 102, 3) := by decide +kernel
theorem dX2_raiseAll_97 : decode cX2_raiseAll 97 = .ok (.iinc 5 1, 3) := by decide +kernel
theorem dX2_raiseAll_100 : decode cX2_raiseAll 100 = .ok (.goto (-38), 3) := by decide +kernel
theorem dX2_raiseAll_103 : decode cX2_raiseAll 103 = .ok (.iinc 3 1, 3) := by decide +kernel
theorem dX2_raiseAll_106 : decode cX2_raiseAll 106 = .ok (.goto (-104), 3) := by decide +kernel
theorem dX2_raiseAll_109 : decode cX2_raiseAll 109 = .ok (.return_, 1) := by decide +kernel
theorem dX2_undo_0 : decode cX2_undo 0 = .ok (.aload_n 0, 1) := by decide +kernel
theorem dX2_undo_1 : decode cX2_undo 1 = .ok (.getfield 68, 3) := by decide +kernel
theorem dX2_undo_4 : decode cX2_undo 4 = .ok (.ifCond .ne 6, 3) := by decide +kernel
theorem dX2_undo_7 : decode cX2_undo 7 = .ok (.bipush (-2), 2) := by decide +kernel
theorem dX2_undo_9 : decode cX2_undo 9 = .ok (.ireturn, 1) := by decide +kernel
theorem dX2_undo_10 : decode cX2_undo 10 = .ok (.aload_n 0, 1) := by decide +kernel
theorem dX2_undo_11 : decode cX2_undo 11 = .ok (.dup, 1) := by decide +kernel
theorem dX2_undo_12 : decode cX2_undo 12 = .ok (.getfield 68, 3) := by decide +kernel
theorem dX2_undo_15 : decode cX2_undo 15 = .ok (.iconst 1, 1) := by decide +kernel
theorem dX2_undo_16 : decode cX2_undo 16 = .ok (.isub, 1) := by decide +kernel
theorem dX2_undo_17 : decode cX2_undo 17 = .ok (.putfield 68, 3) := by decide +kernel
theorem dX2_undo_20 : decode cX2_undo 20 = .ok (.iconst 0, 1) := by decide +kernel
theorem dX2_undo_21 : decode cX2_undo 21 = .ok (.istore_n 1, 1) := by decide +kernel
theorem dX2_undo_22 : decode cX2_undo 22 = .ok (.iload_n 1, 1) := by decide +kernel
theorem dX2_undo_23 : decode cX2_undo 23 = .ok (.sipush 1263, 3) := by decide +kernel
theorem dX2_undo_26 : decode cX2_undo 26 = .ok (.if_icmp .ge 30, 3) := by decide +kernel
theorem dX2_undo_29 : decode cX2_undo 29 = .ok (.aload_n 0, 1) := by decide +kernel
theorem dX2_undo_30 : decode cX2_undo 30 = .ok (.getfield 7, 3) := by decide +kernel
theorem dX2_undo_33 : decode cX2_undo 33 = .ok (.iload_n 1, 1) := by decide +kernel
theorem dX2_undo_34 : decode cX2_undo 34 = .ok (.aload_n 0, 1) := by decide +kernel
theorem dX2_undo_35 : decode cX2_undo 35 = .ok (.getfield 13, 3) := by decide +kernel
theorem dX2_undo_38 : decode cX2_undo 38 = .ok (.sipush 1263, 3) := by decide +kernel
theorem dX2_undo_41 : decode cX2_undo 41 = .ok (.aload_n 0, 1) := by decide +kernel
theorem dX2_undo_42 : decode cX2_undo 42 = .ok (.getfield 68, 3) := by decide +kernel
theorem dX2_undo_45 : decode cX2_undo 45 = .ok (.imul, 1) := by decide +kernel
theorem dX2_undo_46 : decode cX2_undo 46 = .ok (.iload_n 1, 1) := by decide +kernel
theorem dX2_undo_47 : decode cX2_undo 47 = .ok (.iadd, 1) := by decide +kernel
theorem dX2_undo_48 : decode cX2_undo 48 = .ok (.iaload, 1) := by decide +kernel
theorem dX2_undo_49 : decode cX2_undo 49 = .ok (.iastore, 1) := by decide +kernel
theorem dX2_undo_50 : decode cX2_undo 50 = .ok (.iinc 1 1, 3) := by decide +kernel
theorem dX2_undo_53 : decode cX2_undo 53 = .ok (.goto (-31), 3) := by decide +kernel
theorem dX2_undo_56 : decode cX2_undo 56 = .ok (.aload_n 0, 1) := by decide +kernel
theorem dX2_undo_57 : decode cX2_undo 57 = .ok (.getfield 68, 3) := by decide +kernel
theorem dX2_undo_60 : decode cX2_undo 60 = .ok (.ireturn, 1) := by decide +kernel
theorem dX2_written_0 : decode cX2_written 0 = .ok (.iconst 0, 1) := by decide +kernel
theorem dX2_written_1 : decode cX2_written 1 = .ok (.istore_n 2, 1) := by decide +kernel
theorem dX2_written_2 : decode cX2_written 2 = .ok (.iconst 0, 1) := by decide +kernel
theorem dX2_written_3 : decode cX2_written 3 = .ok (.istore_n 3, 1) := by decide +kernel
theorem dX2_written_4 : decode cX2_written 4 = .ok (.iload_n 3, 1) := by decide +kernel
theorem dX2_written_5 : decode cX2_written 5 = .ok (.aload_n 0, 1) := by decide +kernel
theorem dX2_written_6 : decode cX2_written 6 = .ok (.invokevirtual 82, 3) := by decide +kernel
theorem dX2_written_9 : decode cX2_written 9 = .ok (.if_icmp .ge 18, 3) := by decide +kernel
theorem dX2_written_12 : decode cX2_written 12 = .ok (.iload_n 2, 1) := by decide +kernel
theorem dX2_written_13 : decode cX2_written 13 = .ok (.aload_n 0, 1) := by decide +kernel
theorem dX2_written_14 : decode cX2_written 14 = .ok (.iload_n 1, 1) := by decide +kernel
theorem dX2_written_15 : decode cX2_written 15 = .ok (.iload_n 3, 1) := by decide +kernel
theorem dX2_written_16 : decode cX2_written 16 = .ok (.invokevirtual 62, 3) := by decide +kernel
theorem dX2_written_19 : decode cX2_written 19 = .ok (.iadd, 1) := by decide +kernel
theorem dX2_written_20 : decode cX2_written 20 = .ok (.istore_n 2, 1) := by decide +kernel
theorem dX2_written_21 : decode cX2_written 21 = .ok (.iinc 3 1, 3) := by decide +kernel
theorem dX2_written_24 : decode cX2_written 24 = .ok (.goto (-20), 3) := by decide +kernel
theorem dX2_written_27 : decode cX2_written 27 = .ok (.iload_n 2, 1) := by decide +kernel
theorem dX2_written_28 : decode cX2_written 28 = .ok (.ireturn, 1) := by decide +kernel
theorem dX2_site_0 : decode cX2_site 0 = .ok (.aload_n 0, 1) := by decide +kernel
theorem dX2_site_1 : decode cX2_site 1 = .ok (.iload_n 1, 1) := by decide +kernel
theorem dX2_site_2 : decode cX2_site 2 = .ok (.invokevirtual 78, 3) := by decide +kernel
theorem dX2_site_5 : decode cX2_site 5 = .ok (.ifCond .ne 5, 3) := by decide +kernel
theorem dX2_site_8 : decode cX2_site 8 = .ok (.iconst (-1), 1) := by decide +kernel
theorem dX2_site_9 : decode cX2_site 9 = .ok (.ireturn, 1) := by decide +kernel
theorem dX2_site_10 : decode cX2_site 10 = .ok (.iload_n 2, 1) := by decide +kernel
theorem dX2_site_11 : decode cX2_site 11 = .ok (.tableswitch 91 0 4 #[33, 52, 58, 71, 85], 33) := by decide +kernel
theorem dX2_site_44 : decode cX2_site 44 = .ok (.aload_n 0, 1) := by decide +kernel
theorem dX2_site_45 : decode cX2_site 45 = .ok (.iload_n 1, 1) := by decide +kernel
theorem dX2_site_46 : decode cX2_site 46 = .ok (.invokevirtual 96, 3) := by decide +kernel
theorem dX2_site_49 : decode cX2_site 49 = .ok (.ifCond .eq 8, 3) := by decide +kernel
theorem dX2_site_52 : decode cX2_site 52 = .ok (.bipush (-9), 2) := by decide +kernel
theorem dX2_site_54 : decode cX2_site 54 = .ok (.goto 8, 3) := by decide +kernel
theorem dX2_site_57 : decode cX2_site 57 = .ok (.aload_n 0, 1) := by decide +kernel
theorem dX2_site_58 : decode cX2_site 58 = .ok (.iload_n 1, 1) := by decide +kernel
theorem dX2_site_59 : decode cX2_site 59 = .ok (.invokevirtual 99, 3) := by decide +kernel
theorem dX2_site_62 : decode cX2_site 62 = .ok (.ireturn, 1) := by decide +kernel
theorem dX2_site_63 : decode cX2_site 63 = .ok (.aload_n 0, 1) := by decide +kernel
theorem dX2_site_64 : decode cX2_site 64 = .ok (.iload_n 1, 1) := by decide +kernel
theorem dX2_site_65 : decode cX2_site 65 = .ok (.invokevirtual 47, 3) := by decide +kernel
theorem dX2_site_68 : decode cX2_site 68 = .ok (.ireturn, 1) := by decide +kernel
theorem dX2_site_69 : decode cX2_site 69 = .ok (.aload_n 0, 1) := by decide +kernel
theorem dX2_site_70 : decode cX2_site 70 = .ok (.getfield 7, 3) := by decide +kernel
theorem dX2_site_73 : decode cX2_site 73 = .ok (.bipush 103, 2) := by decide +kernel
theorem dX2_site_75 : decode cX2_site 75 = .ok (.iload_n 1, 1) := by decide +kernel
theorem dX2_site_76 : decode cX2_site 76 = .ok (.iadd, 1) := by decide +kernel
theorem dX2_site_77 : decode cX2_site 77 = .ok (.iaload, 1) := by decide +kernel
theorem dX2_site_78 : decode cX2_site 78 = .ok (.invokestatic 112, 3) := by decide +kernel
theorem dX2_site_81 : decode cX2_site 81 = .ok (.ireturn, 1) := by decide +kernel
theorem dX2_site_82 : decode cX2_site 82 = .ok (.aload_n 0, 1) := by decide +kernel
theorem dX2_site_83 : decode cX2_site 83 = .ok (.iload_n 1, 1) := by decide +kernel
theorem dX2_site_84 : decode cX2_site 84 = .ok (.invokevirtual 96, 3) := by decide +kernel
theorem dX2_site_87 : decode cX2_site 87 = .ok (.ifCond .eq 7, 3) := by decide +kernel
theorem dX2_site_90 : decode cX2_site 90 = .ok (.iconst 1, 1) := by decide +kernel
theorem dX2_site_91 : decode cX2_site 91 = .ok (.goto 4, 3) := by decide +kernel
theorem dX2_site_94 : decode cX2_site 94 = .ok (.iconst 0, 1) := by decide +kernel
theorem dX2_site_95 : decode cX2_site 95 = .ok (.ireturn, 1) := by decide +kernel
theorem dX2_site_96 : decode cX2_site 96 = .ok (.aload_n 0, 1) := by decide +kernel
theorem dX2_site_97 : decode cX2_site 97 = .ok (.iload_n 1, 1) := by decide +kernel
theorem dX2_site_98 : decode cX2_site 98 = .ok (.invokevirtual 140, 3) := by decide +kernel
theorem dX2_site_101 : decode cX2_site 101 = .ok (.ireturn, 1) := by decide +kernel
theorem dX2_site_102 : decode cX2_site 102 = .ok (.iconst (-1), 1) := by decide +kernel
theorem dX2_site_103 : decode cX2_site 103 = .ok (.ireturn, 1) := by decide +kernel
theorem dX2_holders_0 : decode cX2_holders 0 = .ok (.iconst 0, 1) := by decide +kernel
theorem dX2_holders_1 : decode cX2_holders 1 = .ok (.istore_n 2, 1) := by decide +kernel
theorem dX2_holders_2 : decode cX2_holders 2 = .ok (.iconst 0, 1) := by decide +kernel
theorem dX2_holders_3 : decode cX2_holders 3 = .ok (.istore_n 3, 1) := by decide +kernel
theorem dX2_holders_4 : decode cX2_holders 4 = .ok (.iload_n 3, 1) := by decide +kernel
theorem dX2_holders_5 : decode cX2_holders 5 = .ok (.aload_n 0, 1) := by decide +kernel
theorem dX2_holders_6 : decode cX2_holders 6 = .ok (.invokevirtual 82, 3) := by decide +kernel
theorem dX2_holders_9 : decode cX2_holders 9 = .ok (.if_icmp .ge 35, 3) := by decide +kernel
theorem dX2_holders_12 : decode cX2_holders 12 = .ok (.iload_n 2, 1) := by decide +kernel
theorem dX2_holders_13 : decode cX2_holders 13 = .ok (.aload_n 0, 1) := by decide +kernel
theorem dX2_holders_14 : decode cX2_holders 14 = .ok (.getfield 7, 3) := by decide +kernel
theorem dX2_holders_17 : decode cX2_holders 17 = .ok (.bipush 103, 2) := by decide +kernel
theorem dX2_holders_19 : decode cX2_holders 19 = .ok (.iload_n 3, 1) := by decide +kernel
theorem dX2_holders_20 : decode cX2_holders 20 = .ok (.iadd, 1) := by decide +kernel
theorem dX2_holders_21 : decode cX2_holders 21 = .ok (.iaload, 1) := by decide +kernel
theorem dX2_holders_22 : decode cX2_holders 22 = .ok (.iload_n 1, 1) := by decide +kernel
theorem dX2_holders_23 : decode cX2_holders 23 = .ok (.invokestatic 39, 3) := by decide +kernel
theorem dX2_holders_26 : decode cX2_holders 26 = .ok (.ifCond .eq 9, 3) := by decide +kernel
theorem dX2_holders_29 : decode cX2_holders 29 = .ok (.iconst 1, 1) := by decide +kernel
theorem dX2_holders_30 : decode cX2_holders 30 = .ok (.iload_n 3, 1) := by decide +kernel
theorem dX2_holders_31 : decode cX2_holders 31 = .ok (.ishl, 1) := by decide +kernel
theorem dX2_holders_32 : decode cX2_holders 32 = .ok (.goto 4, 3) := by decide +kernel
theorem dX2_holders_35 : decode cX2_holders 35 = .ok (.iconst 0, 1) := by decide +kernel
theorem dX2_holders_36 : decode cX2_holders 36 = .ok (.ior, 1) := by decide +kernel
theorem dX2_holders_37 : decode cX2_holders 37 = .ok (.istore_n 2, 1) := by decide +kernel
theorem dX2_holders_38 : decode cX2_holders 38 = .ok (.iinc 3 1, 3) := by decide +kernel
theorem dX2_holders_41 : decode cX2_holders 41 = .ok (.goto (-37), 3) := by decide +kernel
theorem dX2_holders_44 : decode cX2_holders 44 = .ok (.iload_n 2, 1) := by decide +kernel
theorem dX2_holders_45 : decode cX2_holders 45 = .ok (.ireturn, 1) := by decide +kernel
theorem dX2_isSafe_0 : decode cX2_isSafe 0 = .ok (.aload_n 0, 1) := by decide +kernel
theorem dX2_isSafe_1 : decode cX2_isSafe 1 = .ok (.bipush 8, 2) := by decide +kernel
theorem dX2_isSafe_3 : decode cX2_isSafe 3 = .ok (.iload_n 1, 1) := by decide +kernel
theorem dX2_isSafe_4 : decode cX2_isSafe 4 = .ok (.imul, 1) := by decide +kernel
theorem dX2_isSafe_5 : decode cX2_isSafe 5 = .ok (.iload_n 2, 1) := by decide +kernel
theorem dX2_isSafe_6 : decode cX2_isSafe 6 = .ok (.iadd, 1) := by decide +kernel
theorem dX2_isSafe_7 : decode cX2_isSafe 7 = .ok (.invokevirtual 143, 3) := by decide +kernel
theorem dX2_isSafe_10 : decode cX2_isSafe 10 = .ok (.invokestatic 112, 3) := by decide +kernel
theorem dX2_isSafe_13 : decode cX2_isSafe 13 = .ok (.aload_n 0, 1) := by decide +kernel
theorem dX2_isSafe_14 : decode cX2_isSafe 14 = .ok (.getfield 7, 3) := by decide +kernel
theorem dX2_isSafe_17 : decode cX2_isSafe 17 = .ok (.iconst 1, 1) := by decide +kernel
theorem dX2_isSafe_18 : decode cX2_isSafe 18 = .ok (.iaload, 1) := by decide +kernel
theorem dX2_isSafe_19 : decode cX2_isSafe 19 = .ok (.if_icmp .lt 7, 3) := by decide +kernel
theorem dX2_isSafe_22 : decode cX2_isSafe 22 = .ok (.iconst 1, 1) := by decide +kernel
theorem dX2_isSafe_23 : decode cX2_isSafe 23 = .ok (.goto 4, 3) := by decide +kernel
theorem dX2_isSafe_26 : decode cX2_isSafe 26 = .ok (.iconst 0, 1) := by decide +kernel
theorem dX2_isSafe_27 : decode cX2_isSafe 27 = .ok (.ireturn, 1) := by decide +kernel
theorem dX2_pastOf_0 : decode cX2_pastOf 0 = .ok (.iconst 1, 1) := by decide +kernel
theorem dX2_pastOf_1 : decode cX2_pastOf 1 = .ok (.bipush 8, 2) := by decide +kernel
theorem dX2_pastOf_3 : decode cX2_pastOf 3 = .ok (.iload_n 1, 1) := by decide +kernel
theorem dX2_pastOf_4 : decode cX2_pastOf 4 = .ok (.imul, 1) := by decide +kernel
theorem dX2_pastOf_5 : decode cX2_pastOf 5 = .ok (.iload_n 2, 1) := by decide +kernel
theorem dX2_pastOf_6 : decode cX2_pastOf 6 = .ok (.iadd, 1) := by decide +kernel
theorem dX2_pastOf_7 : decode cX2_pastOf 7 = .ok (.ishl, 1) := by decide +kernel
theorem dX2_pastOf_8 : decode cX2_pastOf 8 = .ok (.istore_n 3, 1) := by decide +kernel
theorem dX2_pastOf_9 : decode cX2_pastOf 9 = .ok (.iconst 0, 1) := by decide +kernel
theorem dX2_pastOf_10 : decode cX2_pastOf 10 = .ok (.istore 4, 2) := by decide +kernel
theorem dX2_pastOf_12 : decode cX2_pastOf 12 = .ok (.iload 4, 2) := by decide +kernel
theorem dX2_pastOf_14 : decode cX2_pastOf 14 = .ok (.iload_n 3, 1) := by decide +kernel
theorem dX2_pastOf_15 : decode cX2_pastOf 15 = .ok (.if_icmp .eq 114, 3) := by decide +kernel
theorem dX2_pastOf_18 : decode cX2_pastOf 18 = .ok (.iload_n 3, 1) := by decide +kernel
theorem dX2_pastOf_19 : decode cX2_pastOf 19 = .ok (.istore 4, 2) := by decide +kernel
theorem dX2_pastOf_21 : decode cX2_pastOf 21 = .ok (.iconst 0, 1) := by decide +kernel
theorem dX2_pastOf_22 : decode cX2_pastOf 22 = .ok (.istore 5, 2) := by decide +kernel
theorem dX2_pastOf_24 : decode cX2_pastOf 24 = .ok (.iload 5, 2) := by decide +kernel
theorem dX2_pastOf_26 : decode cX2_pastOf 26 = .ok (.aload_n 0, 1) := by decide +kernel
theorem dX2_pastOf_27 : decode cX2_pastOf 27 = .ok (.invokevirtual 82, 3) := by decide +kernel
theorem dX2_pastOf_30 : decode cX2_pastOf 30 = .ok (.if_icmp .ge 96, 3) := by decide +kernel
theorem dX2_pastOf_33 : decode cX2_pastOf 33 = .ok (.iconst 0, 1) := by decide +kernel
theorem dX2_pastOf_34 : decode cX2_pastOf 34 = .ok (.istore 6, 2) := by decide +kernel
theorem dX2_pastOf_36 : decode cX2_pastOf 36 = .ok (.iload 6, 2) := by decide +kernel
theorem dX2_pastOf_38 : decode cX2_pastOf 38 = .ok (.aload_n 0, 1) := by decide +kernel
theorem dX2_pastOf_39 : decode cX2_pastOf 39 = .ok (.iload 5, 2) := by decide +kernel
theorem dX2_pastOf_41 : decode cX2_pastOf 41 = .ok (.invokevirtual 47, 3) := by decide +kernel
theorem dX2_pastOf_44 : decode cX2_pastOf 44 = .ok (.if_icmp .ge 76, 3) := by decide +kernel
theorem dX2_pastOf_47 : decode cX2_pastOf 47 = .ok (.iload_n 3, 1) := by decide +kernel
theorem dX2_pastOf_48 : decode cX2_pastOf 48 = .ok (.bipush 8, 2) := by decide +kernel
theorem dX2_pastOf_50 : decode cX2_pastOf 50 = .ok (.iload 5, 2) := by decide +kernel
theorem dX2_pastOf_52 : decode cX2_pastOf 52 = .ok (.imul, 1) := by decide +kernel
theorem dX2_pastOf_53 : decode cX2_pastOf 53 = .ok (.iload 6, 2) := by decide +kernel
theorem dX2_pastOf_55 : decode cX2_pastOf 55 = .ok (.iadd, 1) := by decide +kernel
theorem dX2_pastOf_56 : decode cX2_pastOf 56 = .ok (.invokestatic 39, 3) := by decide +kernel
theorem dX2_pastOf_59 : decode cX2_pastOf 59 = .ok (.ifCond .eq 55, 3) := by decide +kernel
theorem dX2_pastOf_62 : decode cX2_pastOf 62 = .ok (.aload_n 0, 1) := by decide +kernel
theorem dX2_pastOf_63 : decode cX2_pastOf 63 = .ok (.iload 5, 2) := by decide +kernel
theorem dX2_pastOf_65 : decode cX2_pastOf 65 = .ok (.iload 6, 2) := by decide +kernel
theorem dX2_pastOf_67 : decode cX2_pastOf 67 = .ok (.invokevirtual 118, 3) := by decide +kernel
theorem dX2_pastOf_70 : decode cX2_pastOf 70 = .ok (.istore 7, 2) := by decide +kernel
theorem dX2_pastOf_72 : decode cX2_pastOf 72 = .ok (.iload_n 3, 1) := by decide +kernel
theorem dX2_pastOf_73 : decode cX2_pastOf 73 = .ok (.iload 7, 2) := by decide +kernel
theorem dX2_pastOf_75 : decode cX2_pastOf 75 = .ok (.bipush (-9), 2) := by decide +kernel
theorem dX2_pastOf_77 : decode cX2_pastOf 77 = .ok (.if_icmp .ne 7, 3) := by decide +kernel
theorem dX2_pastOf_80 : decode cX2_pastOf 80 = .ok (.iconst 0, 1) := by decide +kernel
theorem dX2_pastOf_81 : decode cX2_pastOf 81 = .ok (.goto 7, 3) := by decide +kernel
theorem dX2_pastOf_84 : decode cX2_pastOf 84 = .ok (.iconst 1, 1) := by decide +kernel
theorem dX2_pastOf_85 : decode cX2_pastOf 85 = .ok (.iload 7, 2) := by decide +kernel
theorem dX2_pastOf_87 : decode cX2_pastOf 87 = .ok (.ishl, 1) := by decide +kernel
theorem dX2_pastOf_88 : decode cX2_pastOf 88 = .ok (.ior, 1) := by decide +kernel
theorem dX2_pastOf_89 : decode cX2_pastOf 89 = .ok (.istore_n 3, 1) := by decide +kernel
theorem dX2_pastOf_90 : decode cX2_pastOf 90 = .ok (.iload_n 3, 1) := by decide +kernel
theorem dX2_pastOf_91 : decode cX2_pastOf 91 = .ok (.iload 6, 2) := by decide +kernel
theorem dX2_pastOf_93 : decode cX2_pastOf 93 = .ok (.ifCond .ne 7, 3) := by decide +kernel
theorem dX2_pastOf_96 : decode cX2_pastOf 96 = .ok (.iconst 0, 1) := by decide +kernel
theorem dX2_pastOf_97 : decode cX2_pastOf 97 = .ok (.goto 15, 3) := by decide +kernel
theorem dX2_pastOf_100 : decode cX2_pastOf 100 = .ok (.iconst 1, 1) := by decide +kernel
theorem dX2_pastOf_101 : decode cX2_pastOf 101 = .ok (.bipush 8, 2) := by decide +kernel
theorem dX2_pastOf_103 : decode cX2_pastOf 103 = .ok (.iload 5, 2) := by decide +kernel
theorem dX2_pastOf_105 : decode cX2_pastOf 105 = .ok (.imul, 1) := by decide +kernel
theorem dX2_pastOf_106 : decode cX2_pastOf 106 = .ok (.iload 6, 2) := by decide +kernel
theorem dX2_pastOf_108 : decode cX2_pastOf 108 = .ok (.iadd, 1) := by decide +kernel
theorem dX2_pastOf_109 : decode cX2_pastOf 109 = .ok (.iconst 1, 1) := by decide +kernel
theorem dX2_pastOf_110 : decode cX2_pastOf 110 = .ok (.isub, 1) := by decide +kernel
theorem dX2_pastOf_111 : decode cX2_pastOf 111 = .ok (.ishl, 1) := by decide +kernel
theorem dX2_pastOf_112 : decode cX2_pastOf 112 = .ok (.ior, 1) := by decide +kernel
theorem dX2_pastOf_113 : decode cX2_pastOf 113 = .ok (.istore_n 3, 1) := by decide +kernel
theorem dX2_pastOf_114 : decode cX2_pastOf 114 = .ok (.iinc 6 1, 3) := by decide +kernel
theorem dX2_pastOf_117 : decode cX2_pastOf 117 = .ok (.goto (-81), 3) := by decide +kernel
theorem dX2_pastOf_120 : decode cX2_pastOf 120 = .ok (.iinc 5 1, 3) := by decide +kernel
theorem dX2_pastOf_123 : decode cX2_pastOf 123 = .ok (.goto (-99), 3) := by decide +kernel
theorem dX2_pastOf_126 : decode cX2_pastOf 126 = .ok (.goto (-114), 3) := by decide +kernel
theorem dX2_pastOf_129 : decode cX2_pastOf 129 = .ok (.iload_n 3, 1) := by decide +kernel
theorem dX2_pastOf_130 : decode cX2_pastOf 130 = .ok (.ireturn, 1) := by decide +kernel
theorem dX2_isReceipt_0 : decode cX2_isReceipt 0 = .ok (.aload_n 0, 1) := by decide +kernel
theorem dX2_isReceipt_1 : decode cX2_isReceipt 1 = .ok (.iload_n 1, 1) := by decide +kernel
theorem dX2_isReceipt_2 : decode cX2_isReceipt 2 = .ok (.invokevirtual 78, 3) := by decide +kernel
theorem dX2_isReceipt_5 : decode cX2_isReceipt 5 = .ok (.ifCond .eq 22, 3) := by decide +kernel
theorem dX2_isReceipt_8 : decode cX2_isReceipt 8 = .ok (.iload_n 2, 1) := by decide +kernel
theorem dX2_isReceipt_9 : decode cX2_isReceipt 9 = .ok (.iconst 0, 1) := by decide +kernel
theorem dX2_isReceipt_10 : decode cX2_isReceipt 10 = .ok (.aload_n 0, 1) := by decide +kernel
theorem dX2_isReceipt_11 : decode cX2_isReceipt 11 = .ok (.iload_n 1, 1) := by decide +kernel
theorem dX2_isReceipt_12 : decode cX2_isReceipt 12 = .ok (.invokevirtual 47, 3) := by decide +kernel
theorem dX2_isReceipt_15 : decode cX2_isReceipt 15 = .ok (.iconst 1, 1) := by decide +kernel
theorem dX2_isReceipt_16 : decode cX2_isReceipt 16 = .ok (.isub, 1) := by decide +kernel
theorem dX2_isReceipt_17 : decode cX2_isReceipt 17 = .ok (.invokestatic 43, 3) := by decide +kernel
theorem dX2_isReceipt_20 : decode cX2_isReceipt 20 = .ok (.ifCond .eq 7, 3) := by decide +kernel
theorem dX2_isReceipt_23 : decode cX2_isReceipt 23 = .ok (.iconst 1, 1) := by decide +kernel
theorem dX2_isReceipt_24 : decode cX2_isReceipt 24 = .ok (.goto 4, 3) := by decide +kernel
theorem dX2_isReceipt_27 : decode cX2_isReceipt 27 = .ok (.iconst 0, 1) := by decide +kernel
theorem dX2_isReceipt_28 : decode cX2_isReceipt 28 = .ok (.ireturn, 1) := by decide +kernel
theorem dX2_receipt_0 : decode cX2_receipt 0 = .ok (.aload_n 0, 1) := by decide +kernel
theorem dX2_receipt_1 : decode cX2_receipt 1 = .ok (.iload_n 1, 1) := by decide +kernel
theorem dX2_receipt_2 : decode cX2_receipt 2 = .ok (.iload_n 2, 1) := by decide +kernel
theorem dX2_receipt_3 : decode cX2_receipt 3 = .ok (.invokevirtual 146, 3) := by decide +kernel
theorem dX2_receipt_6 : decode cX2_receipt 6 = .ok (.ifCond .ne 5, 3) := by decide +kernel
theorem dX2_receipt_9 : decode cX2_receipt 9 = .ok (.iconst (-1), 1) := by decide +kernel
theorem dX2_receipt_10 : decode cX2_receipt 10 = .ok (.ireturn, 1) := by decide +kernel
theorem dX2_receipt_11 : decode cX2_receipt 11 = .ok (.iload_n 3, 1) := by decide +kernel
theorem dX2_receipt_12 : decode cX2_receipt 12 = .ok (.tableswitch 84 0 5 #[40, 40, 40, 48, 59, 74], 40) := by decide +kernel
theorem dX2_receipt_52 : decode cX2_receipt 52 = .ok (.aload_n 0, 1) := by decide +kernel
theorem dX2_receipt_53 : decode cX2_receipt 53 = .ok (.iload_n 1, 1) := by decide +kernel
theorem dX2_receipt_54 : decode cX2_receipt 54 = .ok (.iload_n 2, 1) := by decide +kernel
theorem dX2_receipt_55 : decode cX2_receipt 55 = .ok (.iload_n 3, 1) := by decide +kernel
theorem dX2_receipt_56 : decode cX2_receipt 56 = .ok (.invokevirtual 51, 3) := by decide +kernel
theorem dX2_receipt_59 : decode cX2_receipt 59 = .ok (.ireturn, 1) := by decide +kernel
theorem dX2_receipt_60 : decode cX2_receipt 60 = .ok (.aload_n 0, 1) := by decide +kernel
theorem dX2_receipt_61 : decode cX2_receipt 61 = .ok (.bipush 8, 2) := by decide +kernel
theorem dX2_receipt_63 : decode cX2_receipt 63 = .ok (.iload_n 1, 1) := by decide +kernel
theorem dX2_receipt_64 : decode cX2_receipt 64 = .ok (.imul, 1) := by decide +kernel
theorem dX2_receipt_65 : decode cX2_receipt 65 = .ok (.iload_n 2, 1) := by decide +kernel
theorem dX2_receipt_66 : decode cX2_receipt 66 = .ok (.iadd, 1) := by decide +kernel
theorem dX2_receipt_67 : decode cX2_receipt 67 = .ok (.invokevirtual 143, 3) := by decide +kernel
theorem dX2_receipt_70 : decode cX2_receipt 70 = .ok (.ireturn, 1) := by decide +kernel
theorem dX2_receipt_71 : decode cX2_receipt 71 = .ok (.aload_n 0, 1) := by decide +kernel
theorem dX2_receipt_72 : decode cX2_receipt 72 = .ok (.iload_n 1, 1) := by decide +kernel
theorem dX2_receipt_73 : decode cX2_receipt 73 = .ok (.iload_n 2, 1) := by decide +kernel
theorem dX2_receipt_74 : decode cX2_receipt 74 = .ok (.invokevirtual 149, 3) := by decide +kernel
theorem dX2_receipt_77 : decode cX2_receipt 77 = .ok (.ifCond .eq 7, 3) := by decide +kernel
theorem dX2_receipt_80 : decode cX2_receipt 80 = .ok (.iconst 1, 1) := by decide +kernel
theorem dX2_receipt_81 : decode cX2_receipt 81 = .ok (.goto 4, 3) := by decide +kernel
theorem dX2_receipt_84 : decode cX2_receipt 84 = .ok (.iconst 0, 1) := by decide +kernel
theorem dX2_receipt_85 : decode cX2_receipt 85 = .ok (.ireturn, 1) := by decide +kernel
theorem dX2_receipt_86 : decode cX2_receipt 86 = .ok (.aload_n 0, 1) := by decide +kernel
theorem dX2_receipt_87 : decode cX2_receipt 87 = .ok (.iload_n 1, 1) := by decide +kernel
theorem dX2_receipt_88 : decode cX2_receipt 88 = .ok (.iload_n 2, 1) := by decide +kernel
theorem dX2_receipt_89 : decode cX2_receipt 89 = .ok (.invokevirtual 152, 3) := by decide +kernel
theorem dX2_receipt_92 : decode cX2_receipt 92 = .ok (.invokestatic 112, 3) := by decide +kernel
theorem dX2_receipt_95 : decode cX2_receipt 95 = .ok (.ireturn, 1) := by decide +kernel
theorem dX2_receipt_96 : decode cX2_receipt 96 = .ok (.iconst (-1), 1) := by decide +kernel
theorem dX2_receipt_97 : decode cX2_receipt 97 = .ok (.ireturn, 1) := by decide +kernel
theorem dX2_letter_0 : decode cX2_letter 0 = .ok (.aload_n 0, 1) := by decide +kernel
theorem dX2_letter_1 : decode cX2_letter 1 = .ok (.iload_n 1, 1) := by decide +kernel
theorem dX2_letter_2 : decode cX2_letter 2 = .ok (.iload_n 2, 1) := by decide +kernel
theorem dX2_letter_3 : decode cX2_letter 3 = .ok (.invokevirtual 90, 3) := by decide +kernel
theorem dX2_letter_6 : decode cX2_letter 6 = .ok (.ifCond .eq 17, 3) := by decide +kernel
theorem dX2_letter_9 : decode cX2_letter 9 = .ok (.iload_n 3, 1) := by decide +kernel
theorem dX2_letter_10 : decode cX2_letter 10 = .ok (.ifCond .lt 13, 3) := by decide +kernel
theorem dX2_letter_13 : decode cX2_letter 13 = .ok (.iload 4, 2) := by decide +kernel
theorem dX2_letter_15 : decode cX2_letter 15 = .ok (.iconst 0, 1) := by decide +kernel
theorem dX2_letter_16 : decode cX2_letter 16 = .ok (.iconst 3, 1) := by decide +kernel
theorem dX2_letter_17 : decode cX2_letter 17 = .ok (.invokestatic 43, 3) := by decide +kernel
theorem dX2_letter_20 : decode cX2_letter 20 = .ok (.ifCond .ne 5, 3) := by decide +kernel
theorem dX2_letter_23 : decode cX2_letter 23 = .ok (.iconst (-1), 1) := by decide +kernel
theorem dX2_letter_24 : decode cX2_letter 24 = .ok (.ireturn, 1) := by decide +kernel
theorem dX2_letter_25 : decode cX2_letter 25 = .ok (.iload_n 3, 1) := by decide +kernel
theorem dX2_letter_26 : decode cX2_letter 26 = .ok (.aload_n 0, 1) := by decide +kernel
theorem dX2_letter_27 : decode cX2_letter 27 = .ok (.iload_n 1, 1) := by decide +kernel
theorem dX2_letter_28 : decode cX2_letter 28 = .ok (.iload_n 2, 1) := by decide +kernel
theorem dX2_letter_29 : decode cX2_letter 29 = .ok (.invokevirtual 62, 3) := by decide +kernel
theorem dX2_letter_32 : decode cX2_letter 32 = .ok (.if_icmp .lt 6, 3) := by decide +kernel
theorem dX2_letter_35 : decode cX2_letter 35 = .ok (.bipush (-9), 2) := by decide +kernel
theorem dX2_letter_37 : decode cX2_letter 37 = .ok (.ireturn, 1) := by decide +kernel
theorem dX2_letter_38 : decode cX2_letter 38 = .ok (.iload_n 1, 1) := by decide +kernel
theorem dX2_letter_39 : decode cX2_letter 39 = .ok (.iload_n 2, 1) := by decide +kernel
theorem dX2_letter_40 : decode cX2_letter 40 = .ok (.iload_n 3, 1) := by decide +kernel
theorem dX2_letter_41 : decode cX2_letter 41 = .ok (.invokestatic 65, 3) := by decide +kernel
theorem dX2_letter_44 : decode cX2_letter 44 = .ok (.istore 5, 2) := by decide +kernel
theorem dX2_letter_46 : decode cX2_letter 46 = .ok (.iload 4, 2) := by decide +kernel
theorem dX2_letter_48 : decode cX2_letter 48 = .ok (.iconst 2, 1) := by decide +kernel
theorem dX2_letter_49 : decode cX2_letter 49 = .ok (.if_icmp .ge 14, 3) := by decide +kernel
theorem dX2_letter_52 : decode cX2_letter 52 = .ok (.aload_n 0, 1) := by decide +kernel
theorem dX2_letter_53 : decode cX2_letter 53 = .ok (.getfield 7, 3) := by decide +kernel
theorem dX2_letter_56 : decode cX2_letter 56 = .ok (.iload 5, 2) := by decide +kernel
theorem dX2_letter_58 : decode cX2_letter 58 = .ok (.iload 4, 2) := by decide +kernel
theorem dX2_letter_60 : decode cX2_letter 60 = .ok (.iadd, 1) := by decide +kernel
theorem dX2_letter_61 : decode cX2_letter 61 = .ok (.iaload, 1) := by decide +kernel
theorem dX2_letter_62 : decode cX2_letter 62 = .ok (.ireturn, 1) := by decide +kernel
theorem dX2_letter_63 : decode cX2_letter 63 = .ok (.iload 4, 2) := by decide +kernel
theorem dX2_letter_65 : decode cX2_letter 65 = .ok (.iconst 2, 1) := by decide +kernel
theorem dX2_letter_66 : decode cX2_letter 66 = .ok (.if_icmp .ne 18, 3) := by decide +kernel
theorem dX2_letter_69 : decode cX2_letter 69 = .ok (.aload_n 0, 1) := by decide +kernel
theorem dX2_letter_70 : decode cX2_letter 70 = .ok (.getfield 7, 3) := by decide +kernel
theorem dX2_letter_73 : decode cX2_letter 73 = .ok (.iload 5, 2) := by decide +kernel
theorem dX2_letter_75 : decode cX2_letter 75 = .ok (.iconst 2, 1) := by decide +kernel
theorem dX2_letter_76 : decode cX2_letter 76 = .ok (.iadd, 1) := by decide +kernel
theorem dX2_letter_77 : decode cX2_letter 77 = .ok (.iaload, 1) := by decide +kernel
theorem dX2_letter_78 : decode cX2_letter 78 = .ok (.invokestatic 112, 3) := by decide +kernel
theorem dX2_letter_81 : decode cX2_letter 81 = .ok (.goto 18, 3) := by decide +kernel
theorem dX2_letter_84 : decode cX2_letter 84 = .ok (.iload_n 3, 1) := by decide +kernel
theorem dX2_letter_85 : decode cX2_letter 85 = .ok (.aload_n 0, 1) := by decide +kernel
theorem dX2_letter_86 : decode cX2_letter 86 = .ok (.iload_n 2, 1) := by decide +kernel
theorem dX2_letter_87 : decode cX2_letter 87 = .ok (.iload_n 1, 1) := by decide +kernel
theorem dX2_letter_88 : decode cX2_letter 88 = .ok (.invokevirtual 93, 3) := by decide +kernel
theorem dX2_letter_91 : decode cX2_letter 91 = .ok (.if_icmp .ge 7, 3) := by decide +kernel
theorem dX2_letter_94 : decode cX2_letter 94 = .ok (.iconst 1, 1) := by decide +kernel
theorem dX2_letter_95 : decode cX2_letter 95 = .ok (.goto 4, 3) := by decide +kernel
theorem dX2_letter_98 : decode cX2_letter 98 = .ok (.iconst 0, 1) := by decide +kernel
theorem dX2_letter_99 : decode cX2_letter 99 = .ok (.ireturn, 1) := by decide +kernel
theorem dX2_nth_0 : decode cX2_nth 0 = .ok (.iload_n 1, 1) := by decide +kernel
theorem dX2_nth_1 : decode cX2_nth 1 = .ok (.istore_n 2, 1) := by decide +kernel
theorem dX2_nth_2 : decode cX2_nth 2 = .ok (.iconst 0, 1) := by decide +kernel
theorem dX2_nth_3 : decode cX2_nth 3 = .ok (.istore_n 3, 1) := by decide +kernel
theorem dX2_nth_4 : decode cX2_nth 4 = .ok (.iload_n 3, 1) := by decide +kernel
theorem dX2_nth_5 : decode cX2_nth 5 = .ok (.bipush 32, 2) := by decide +kernel
theorem dX2_nth_7 : decode cX2_nth 7 = .ok (.if_icmp .ge 26, 3) := by decide +kernel
theorem dX2_nth_10 : decode cX2_nth 10 = .ok (.iload_n 0, 1) := by decide +kernel
theorem dX2_nth_11 : decode cX2_nth 11 = .ok (.iload_n 3, 1) := by decide +kernel
theorem dX2_nth_12 : decode cX2_nth 12 = .ok (.invokestatic 39, 3) := by decide +kernel
theorem dX2_nth_15 : decode cX2_nth 15 = .ok (.ifCond .eq 12, 3) := by decide +kernel
theorem dX2_nth_18 : decode cX2_nth 18 = .ok (.iload_n 2, 1) := by decide +kernel
theorem dX2_nth_19 : decode cX2_nth 19 = .ok (.ifCond .ne 5, 3) := by decide +kernel
theorem dX2_nth_22 : decode cX2_nth 22 = .ok (.iload_n 3, 1) := by decide +kernel
theorem dX2_nth_23 : decode cX2_nth 23 = .ok (.ireturn, 1) := by decide +kernel
theorem dX2_nth_24 : decode cX2_nth 24 = .ok (.iinc 2 (-1), 3) := by decide +kernel
theorem dX2_nth_27 : decode cX2_nth 27 = .ok (.iinc 3 1, 3) := by decide +kernel
theorem dX2_nth_30 : decode cX2_nth 30 = .ok (.goto (-26), 3) := by decide +kernel
theorem dX2_nth_33 : decode cX2_nth 33 = .ok (.bipush (-9), 2) := by decide +kernel
theorem dX2_nth_35 : decode cX2_nth 35 = .ok (.ireturn, 1) := by decide +kernel
theorem dX2_carries_0 : decode cX2_carries 0 = .ok (.aload_n 0, 1) := by decide +kernel
theorem dX2_carries_1 : decode cX2_carries 1 = .ok (.iload_n 1, 1) := by decide +kernel
theorem dX2_carries_2 : decode cX2_carries 2 = .ok (.iload_n 2, 1) := by decide +kernel
theorem dX2_carries_3 : decode cX2_carries 3 = .ok (.invokevirtual 90, 3) := by decide +kernel
theorem dX2_carries_6 : decode cX2_carries 6 = .ok (.ifCond .eq 12, 3) := by decide +kernel
theorem dX2_carries_9 : decode cX2_carries 9 = .ok (.iload_n 3, 1) := by decide +kernel
theorem dX2_carries_10 : decode cX2_carries 10 = .ok (.ifCond .lt 8, 3) := by decide +kernel
theorem dX2_carries_13 : decode cX2_carries 13 = .ok (.iload 4, 2) := by decide +kernel
theorem dX2_carries_15 : decode cX2_carries 15 = .ok (.ifCond .ge 5, 3) := by decide +kernel
theorem dX2_carries_18 : decode cX2_carries 18 = .ok (.iconst (-1), 1) := by decide +kernel
theorem dX2_carries_19 : decode cX2_carries 19 = .ok (.ireturn, 1) := by decide +kernel
theorem dX2_carries_20 : decode cX2_carries 20 = .ok (.iload_n 3, 1) := by decide +kernel
theorem dX2_carries_21 : decode cX2_carries 21 = .ok (.aload_n 0, 1) := by decide +kernel
theorem dX2_carries_22 : decode cX2_carries 22 = .ok (.iload_n 1, 1) := by decide +kernel
theorem dX2_carries_23 : decode cX2_carries 23 = .ok (.iload_n 2, 1) := by decide +kernel
theorem dX2_carries_24 : decode cX2_carries 24 = .ok (.invokevirtual 62, 3) := by decide +kernel
theorem dX2_carries_27 : decode cX2_carries 27 = .ok (.if_icmp .ge 24, 3) := by decide +kernel
theorem dX2_carries_30 : decode cX2_carries 30 = .ok (.aload_n 0, 1) := by decide +kernel
theorem dX2_carries_31 : decode cX2_carries 31 = .ok (.getfield 7, 3) := by decide +kernel
theorem dX2_carries_34 : decode cX2_carries 34 = .ok (.iload_n 1, 1) := by decide +kernel
theorem dX2_carries_35 : decode cX2_carries 35 = .ok (.iload_n 2, 1) := by decide +kernel
theorem dX2_carries_36 : decode cX2_carries 36 = .ok (.iload_n 3, 1) := by decide +kernel
theorem dX2_carries_37 : decode cX2_carries 37 = .ok (.invokestatic 65, 3) := by decide +kernel
theorem dX2_carries_40 : decode cX2_carries 40 = .ok (.iconst 2, 1) := by decide +kernel
theorem dX2_carries_41 : decode cX2_carries 41 = .ok (.iadd, 1) := by decide +kernel
theorem dX2_carries_42 : decode cX2_carries 42 = .ok (.iaload, 1) := by decide +kernel
theorem dX2_carries_43 : decode cX2_carries 43 = .ok (.iload 4, 2) := by decide +kernel
theorem dX2_carries_45 : decode cX2_carries 45 = .ok (.invokestatic 155, 3) := by decide +kernel
theorem dX2_carries_48 : decode cX2_carries 48 = .ok (.goto 5, 3) := by decide +kernel
theorem dX2_carries_51 : decode cX2_carries 51 = .ok (.bipush (-9), 2) := by decide +kernel
theorem dX2_carries_53 : decode cX2_carries 53 = .ok (.ireturn, 1) := by decide +kernel
theorem dX2_knows_0 : decode cX2_knows 0 = .ok (.aload_n 0, 1) := by decide +kernel
theorem dX2_knows_1 : decode cX2_knows 1 = .ok (.iload_n 1, 1) := by decide +kernel
theorem dX2_knows_2 : decode cX2_knows 2 = .ok (.invokevirtual 78, 3) := by decide +kernel
theorem dX2_knows_5 : decode cX2_knows 5 = .ok (.ifCond .eq 22, 3) := by decide +kernel
theorem dX2_knows_8 : decode cX2_knows 8 = .ok (.iload_n 2, 1) := by decide +kernel
theorem dX2_knows_9 : decode cX2_knows 9 = .ok (.iconst 0, 1) := by decide +kernel
theorem dX2_knows_10 : decode cX2_knows 10 = .ok (.bipush 31, 2) := by decide +kernel
theorem dX2_knows_12 : decode cX2_knows 12 = .ok (.invokestatic 43, 3) := by decide +kernel
theorem dX2_knows_15 : decode cX2_knows 15 = .ok (.ifCond .eq 12, 3) := by decide +kernel
theorem dX2_knows_18 : decode cX2_knows 18 = .ok (.aload_n 0, 1) := by decide +kernel
theorem dX2_knows_19 : decode cX2_knows 19 = .ok (.iload_n 1, 1) := by decide +kernel
theorem dX2_knows_20 : decode cX2_knows 20 = .ok (.iload_n 2, 1) := by decide +kernel
theorem dX2_knows_21 : decode cX2_knows 21 = .ok (.invokevirtual 106, 3) := by decide +kernel
theorem dX2_knows_24 : decode cX2_knows 24 = .ok (.goto 4, 3) := by decide +kernel
theorem dX2_knows_27 : decode cX2_knows 27 = .ok (.iconst (-1), 1) := by decide +kernel
theorem dX2_knows_28 : decode cX2_knows 28 = .ok (.ireturn, 1) := by decide +kernel
theorem dX2_past_0 : decode cX2_past 0 = .ok (.aload_n 0, 1) := by decide +kernel
theorem dX2_past_1 : decode cX2_past 1 = .ok (.iload_n 1, 1) := by decide +kernel
theorem dX2_past_2 : decode cX2_past 2 = .ok (.iload_n 2, 1) := by decide +kernel
theorem dX2_past_3 : decode cX2_past 3 = .ok (.invokevirtual 146, 3) := by decide +kernel
theorem dX2_past_6 : decode cX2_past 6 = .ok (.ifCond .eq 20, 3) := by decide +kernel
theorem dX2_past_9 : decode cX2_past 9 = .ok (.iload_n 3, 1) := by decide +kernel
theorem dX2_past_10 : decode cX2_past 10 = .ok (.ifCond .lt 16, 3) := by decide +kernel
theorem dX2_past_13 : decode cX2_past 13 = .ok (.aload_n 0, 1) := by decide +kernel
theorem dX2_past_14 : decode cX2_past 14 = .ok (.iload_n 1, 1) := by decide +kernel
theorem dX2_past_15 : decode cX2_past 15 = .ok (.iload_n 2, 1) := by decide +kernel
theorem dX2_past_16 : decode cX2_past 16 = .ok (.invokevirtual 152, 3) := by decide +kernel
theorem dX2_past_19 : decode cX2_past 19 = .ok (.iload_n 3, 1) := by decide +kernel
theorem dX2_past_20 : decode cX2_past 20 = .ok (.invokestatic 155, 3) := by decide +kernel
theorem dX2_past_23 : decode cX2_past 23 = .ok (.goto 4, 3) := by decide +kernel
theorem dX2_past_26 : decode cX2_past 26 = .ok (.iconst (-1), 1) := by decide +kernel
theorem dX2_past_27 : decode cX2_past 27 = .ok (.ireturn, 1) := by decide +kernel
theorem dX2_risk_0 : decode cX2_risk 0 = .ok (.iload_n 1, 1) := by decide +kernel
theorem dX2_risk_1 : decode cX2_risk 1 = .ok (.iconst 0, 1) := by decide +kernel
theorem dX2_risk_2 : decode cX2_risk 2 = .ok (.iconst 1, 1) := by decide +kernel
theorem dX2_risk_3 : decode cX2_risk 3 = .ok (.aload_n 0, 1) := by decide +kernel
theorem dX2_risk_4 : decode cX2_risk 4 = .ok (.invokevirtual 82, 3) := by decide +kernel
theorem dX2_risk_7 : decode cX2_risk 7 = .ok (.ishl, 1) := by decide +kernel
theorem dX2_risk_8 : decode cX2_risk 8 = .ok (.iconst 1, 1) := by decide +kernel
theorem dX2_risk_9 : decode cX2_risk 9 = .ok (.isub, 1) := by decide +kernel
theorem dX2_risk_10 : decode cX2_risk 10 = .ok (.invokestatic 43, 3) := by decide +kernel
theorem dX2_risk_13 : decode cX2_risk 13 = .ok (.ifCond .eq 12, 3) := by decide +kernel
theorem dX2_risk_16 : decode cX2_risk 16 = .ok (.iload_n 2, 1) := by decide +kernel
theorem dX2_risk_17 : decode cX2_risk 17 = .ok (.iconst 0, 1) := by decide +kernel
theorem dX2_risk_18 : decode cX2_risk 18 = .ok (.iconst 1, 1) := by decide +kernel
theorem dX2_risk_19 : decode cX2_risk 19 = .ok (.invokestatic 43, 3) := by decide +kernel
theorem dX2_risk_22 : decode cX2_risk 22 = .ok (.ifCond .ne 5, 3) := by decide +kernel
theorem dX2_risk_25 : decode cX2_risk 25 = .ok (.iconst (-1), 1) := by decide +kernel
theorem dX2_risk_26 : decode cX2_risk 26 = .ok (.ireturn, 1) := by decide +kernel
theorem dX2_risk_27 : decode cX2_risk 27 = .ok (.aload_n 0, 1) := by decide +kernel
theorem dX2_risk_28 : decode cX2_risk 28 = .ok (.getfield 7, 3) := by decide +kernel
theorem dX2_risk_31 : decode cX2_risk 31 = .ok (.iconst 2, 1) := by decide +kernel
theorem dX2_risk_32 : decode cX2_risk 32 = .ok (.iaload, 1) := by decide +kernel
theorem dX2_risk_33 : decode cX2_risk 33 = .ok (.iload_n 1, 1) := by decide +kernel
theorem dX2_risk_34 : decode cX2_risk 34 = .ok (.ior, 1) := by decide +kernel
theorem dX2_risk_35 : decode cX2_risk 35 = .ok (.istore_n 3, 1) := by decide +kernel
theorem dX2_risk_36 : decode cX2_risk 36 = .ok (.aload_n 0, 1) := by decide +kernel
theorem dX2_risk_37 : decode cX2_risk 37 = .ok (.iload_n 3, 1) := by decide +kernel
theorem dX2_risk_38 : decode cX2_risk 38 = .ok (.invokevirtual 124, 3) := by decide +kernel
theorem dX2_risk_41 : decode cX2_risk 41 = .ok (.iload_n 2, 1) := by decide +kernel
theorem dX2_risk_42 : decode cX2_risk 42 = .ok (.ifCond .ne 10, 3) := by decide +kernel
theorem dX2_risk_45 : decode cX2_risk 45 = .ok (.aload_n 0, 1) := by decide +kernel
theorem dX2_risk_46 : decode cX2_risk 46 = .ok (.invokevirtual 128, 3) := by decide +kernel
theorem dX2_risk_49 : decode cX2_risk 49 = .ok (.goto 8, 3) := by decide +kernel
theorem dX2_risk_52 : decode cX2_risk 52 = .ok (.aload_n 0, 1) := by decide +kernel
theorem dX2_risk_53 : decode cX2_risk 53 = .ok (.iload_n 3, 1) := by decide +kernel
theorem dX2_risk_54 : decode cX2_risk 54 = .ok (.invokevirtual 158, 3) := by decide +kernel
theorem dX2_risk_57 : decode cX2_risk 57 = .ok (.ireturn, 1) := by decide +kernel
theorem dX2_worst_0 : decode cX2_worst 0 = .ok (.iload_n 1, 1) := by decide +kernel
theorem dX2_worst_1 : decode cX2_worst 1 = .ok (.iconst 0, 1) := by decide +kernel
theorem dX2_worst_2 : decode cX2_worst 2 = .ok (.iconst 4, 1) := by decide +kernel
theorem dX2_worst_3 : decode cX2_worst 3 = .ok (.invokestatic 43, 3) := by decide +kernel
theorem dX2_worst_6 : decode cX2_worst 6 = .ok (.ifCond .ne 5, 3) := by decide +kernel
theorem dX2_worst_9 : decode cX2_worst 9 = .ok (.iconst (-1), 1) := by decide +kernel
theorem dX2_worst_10 : decode cX2_worst 10 = .ok (.ireturn, 1) := by decide +kernel
theorem dX2_worst_11 : decode cX2_worst 11 = .ok (.bipush (-9), 2) := by decide +kernel
theorem dX2_worst_13 : decode cX2_worst 13 = .ok (.istore_n 2, 1) := by decide +kernel
theorem dX2_worst_14 : decode cX2_worst 14 = .ok (.iconst 0, 1) := by decide +kernel
theorem dX2_worst_15 : decode cX2_worst 15 = .ok (.istore_n 3, 1) := by decide +kernel
theorem dX2_worst_16 : decode cX2_worst 16 = .ok (.iload_n 3, 1) := by decide +kernel
theorem dX2_worst_17 : decode cX2_worst 17 = .ok (.iconst 1, 1) := by decide +kernel
theorem dX2_worst_18 : decode cX2_worst 18 = .ok (.aload_n 0, 1) := by decide +kernel
theorem dX2_worst_19 : decode cX2_worst 19 = .ok (.invokevirtual 82, 3) := by decide +kernel
theorem dX2_worst_22 : decode cX2_worst 22 = .ok (.ishl, 1) := by decide +kernel
theorem dX2_worst_23 : decode cX2_worst 23 = .ok (.if_icmp .ge 57, 3) := by decide +kernel
theorem dX2_worst_26 : decode cX2_worst 26 = .ok (.iload_n 3, 1) := by decide +kernel
theorem dX2_worst_27 : decode cX2_worst 27 = .ok (.aload_n 0, 1) := by decide +kernel
theorem dX2_worst_28 : decode cX2_worst 28 = .ok (.getfield 7, 3) := by decide +kernel
theorem dX2_worst_31 : decode cX2_worst 31 = .ok (.iconst 2, 1) := by decide +kernel
theorem dX2_worst_32 : decode cX2_worst 32 = .ok (.iaload, 1) := by decide +kernel
theorem dX2_worst_33 : decode cX2_worst 33 = .ok (.iand, 1) := by decide +kernel
theorem dX2_worst_34 : decode cX2_worst 34 = .ok (.ifCond .ne 40, 3) := by decide +kernel
theorem dX2_worst_37 : decode cX2_worst 37 = .ok (.iload_n 3, 1) := by decide +kernel
theorem dX2_worst_38 : decode cX2_worst 38 = .ok (.invokestatic 112, 3) := by decide +kernel
theorem dX2_worst_41 : decode cX2_worst 41 = .ok (.iload_n 1, 1) := by decide +kernel
theorem dX2_worst_42 : decode cX2_worst 42 = .ok (.if_icmp .ne 32, 3) := by decide +kernel
theorem dX2_worst_45 : decode cX2_worst 45 = .ok (.aload_n 0, 1) := by decide +kernel
theorem dX2_worst_46 : decode cX2_worst 46 = .ok (.aload_n 0, 1) := by decide +kernel
theorem dX2_worst_47 : decode cX2_worst 47 = .ok (.getfield 7, 3) := by decide +kernel
theorem dX2_worst_50 : decode cX2_worst 50 = .ok (.iconst 2, 1) := by decide +kernel
theorem dX2_worst_51 : decode cX2_worst 51 = .ok (.iaload, 1) := by decide +kernel
theorem dX2_worst_52 : decode cX2_worst 52 = .ok (.iload_n 3, 1) := by decide +kernel
theorem dX2_worst_53 : decode cX2_worst 53 = .ok (.ior, 1) := by decide +kernel
theorem dX2_worst_54 : decode cX2_worst 54 = .ok (.invokevirtual 124, 3) := by decide +kernel
theorem dX2_worst_57 : decode cX2_worst 57 = .ok (.aload_n 0, 1) := by decide +kernel
theorem dX2_worst_58 : decode cX2_worst 58 = .ok (.invokevirtual 128, 3) := by decide +kernel
theorem dX2_worst_61 : decode cX2_worst 61 = .ok (.iload_n 2, 1) := by decide +kernel
theorem dX2_worst_62 : decode cX2_worst 62 = .ok (.if_icmp .le 10, 3) := by decide +kernel
theorem dX2_worst_65 : decode cX2_worst 65 = .ok (.aload_n 0, 1) := by decide +kernel
theorem dX2_worst_66 : decode cX2_worst 66 = .ok (.invokevirtual 128, 3) := by decide +kernel
theorem dX2_worst_69 : decode cX2_worst 69 = .ok (.goto 4, 3) := by decide +kernel
theorem dX2_worst_72 : decode cX2_worst 72 = .ok (.iload_n 2, 1) := by decide +kernel
theorem dX2_worst_73 : decode cX2_worst 73 = .ok (.istore_n 2, 1) := by decide +kernel
theorem dX2_worst_74 : decode cX2_worst 74 = .ok (.iinc 3 1, 3) := by decide +kernel
theorem dX2_worst_77 : decode cX2_worst 77 = .ok (.goto (-61), 3) := by decide +kernel
theorem dX2_worst_80 : decode cX2_worst 80 = .ok (.iload_n 2, 1) := by decide +kernel
theorem dX2_worst_81 : decode cX2_worst 81 = .ok (.ireturn, 1) := by decide +kernel
theorem dX2_sees_0 : decode cX2_sees 0 = .ok (.aload_n 0, 1) := by decide +kernel
theorem dX2_sees_1 : decode cX2_sees 1 = .ok (.iload_n 1, 1) := by decide +kernel
theorem dX2_sees_2 : decode cX2_sees 2 = .ok (.invokevirtual 78, 3) := by decide +kernel
theorem dX2_sees_5 : decode cX2_sees 5 = .ok (.ifCond .eq 13, 3) := by decide +kernel
theorem dX2_sees_8 : decode cX2_sees 8 = .ok (.iload_n 2, 1) := by decide +kernel
theorem dX2_sees_9 : decode cX2_sees 9 = .ok (.iconst 0, 1) := by decide +kernel
theorem dX2_sees_10 : decode cX2_sees 10 = .ok (.bipush 8, 2) := by decide +kernel
theorem dX2_sees_12 : decode cX2_sees 12 = .ok (.invokestatic 43, 3) := by decide +kernel
theorem dX2_sees_15 : decode cX2_sees 15 = .ok (.ifCond .ne 5, 3) := by decide +kernel
theorem dX2_sees_18 : decode cX2_sees 18 = .ok (.iconst (-1), 1) := by decide +kernel
theorem dX2_sees_19 : decode cX2_sees 19 = .ok (.ireturn, 1) := by decide +kernel
theorem dX2_sees_20 : decode cX2_sees 20 = .ok (.aload_n 0, 1) := by decide +kernel
theorem dX2_sees_21 : decode cX2_sees 21 = .ok (.getfield 75, 3) := by decide +kernel
theorem dX2_sees_24 : decode cX2_sees 24 = .ok (.bipush 6, 2) := by decide +kernel
theorem dX2_sees_26 : decode cX2_sees 26 = .ok (.if_icmp .ne 6, 3) := by decide +kernel
theorem dX2_sees_29 : decode cX2_sees 29 = .ok (.bipush (-3), 2) := by decide +kernel
theorem dX2_sees_31 : decode cX2_sees 31 = .ok (.ireturn, 1) := by decide +kernel
theorem dX2_sees_32 : decode cX2_sees 32 = .ok (.aload_n 0, 1) := by decide +kernel
theorem dX2_sees_33 : decode cX2_sees 33 = .ok (.getfield 23, 3) := by decide +kernel
theorem dX2_sees_36 : decode cX2_sees 36 = .ok (.aload_n 0, 1) := by decide +kernel
theorem dX2_sees_37 : decode cX2_sees 37 = .ok (.getfield 75, 3) := by decide +kernel
theorem dX2_sees_40 : decode cX2_sees 40 = .ok (.iload_n 1, 1) := by decide +kernel
theorem dX2_sees_41 : decode cX2_sees 41 = .ok (.iastore, 1) := by decide +kernel
theorem dX2_sees_42 : decode cX2_sees 42 = .ok (.aload_n 0, 1) := by decide +kernel
theorem dX2_sees_43 : decode cX2_sees 43 = .ok (.getfield 26, 3) := by decide +kernel
theorem dX2_sees_46 : decode cX2_sees 46 = .ok (.aload_n 0, 1) := by decide +kernel
theorem dX2_sees_47 : decode cX2_sees 47 = .ok (.getfield 75, 3) := by decide +kernel
theorem dX2_sees_50 : decode cX2_sees 50 = .ok (.iload_n 2, 1) := by decide +kernel
theorem dX2_sees_51 : decode cX2_sees 51 = .ok (.iastore, 1) := by decide +kernel
theorem dX2_sees_52 : decode cX2_sees 52 = .ok (.aload_n 0, 1) := by decide +kernel
theorem dX2_sees_53 : decode cX2_sees 53 = .ok (.dup, 1) := by decide +kernel
theorem dX2_sees_54 : decode cX2_sees 54 = .ok (.getfield 75, 3) := by decide +kernel
theorem dX2_sees_57 : decode cX2_sees 57 = .ok (.iconst 1, 1) := by decide +kernel
theorem dX2_sees_58 : decode cX2_sees 58 = .ok (.iadd, 1) := by decide +kernel
theorem dX2_sees_59 : decode cX2_sees 59 = .ok (.putfield 75, 3) := by decide +kernel
theorem dX2_sees_62 : decode cX2_sees 62 = .ok (.aload_n 0, 1) := by decide +kernel
theorem dX2_sees_63 : decode cX2_sees 63 = .ok (.getfield 75, 3) := by decide +kernel
theorem dX2_sees_66 : decode cX2_sees 66 = .ok (.ireturn, 1) := by decide +kernel
theorem dX2_forget_0 : decode cX2_forget 0 = .ok (.aload_n 0, 1) := by decide +kernel
theorem dX2_forget_1 : decode cX2_forget 1 = .ok (.getfield 75, 3) := by decide +kernel
theorem dX2_forget_4 : decode cX2_forget 4 = .ok (.istore_n 1, 1) := by decide +kernel
theorem dX2_forget_5 : decode cX2_forget 5 = .ok (.aload_n 0, 1) := by decide +kernel
theorem dX2_forget_6 : decode cX2_forget 6 = .ok (.iconst 0, 1) := by decide +kernel
theorem dX2_forget_7 : decode cX2_forget 7 = .ok (.putfield 75, 3) := by decide +kernel
theorem dX2_forget_10 : decode cX2_forget 10 = .ok (.iload_n 1, 1) := by decide +kernel
theorem dX2_forget_11 : decode cX2_forget 11 = .ok (.ireturn, 1) := by decide +kernel
theorem dX2_fits_0 : decode cX2_fits 0 = .ok (.iload_n 1, 1) := by decide +kernel
theorem dX2_fits_1 : decode cX2_fits 1 = .ok (.ifCond .eq 14, 3) := by decide +kernel
theorem dX2_fits_4 : decode cX2_fits 4 = .ok (.iload_n 1, 1) := by decide +kernel
theorem dX2_fits_5 : decode cX2_fits 5 = .ok (.aload_n 0, 1) := by decide +kernel
theorem dX2_fits_6 : decode cX2_fits 6 = .ok (.getfield 7, 3) := by decide +kernel
theorem dX2_fits_9 : decode cX2_fits 9 = .ok (.iconst 2, 1) := by decide +kernel
theorem dX2_fits_10 : decode cX2_fits 10 = .ok (.iaload, 1) := by decide +kernel
theorem dX2_fits_11 : decode cX2_fits 11 = .ok (.iand, 1) := by decide +kernel
theorem dX2_fits_12 : decode cX2_fits 12 = .ok (.ifCond .eq 5, 3) := by decide +kernel
theorem dX2_fits_15 : decode cX2_fits 15 = .ok (.iconst 0, 1) := by decide +kernel
theorem dX2_fits_16 : decode cX2_fits 16 = .ok (.ireturn, 1) := by decide +kernel
theorem dX2_fits_17 : decode cX2_fits 17 = .ok (.aload_n 0, 1) := by decide +kernel
theorem dX2_fits_18 : decode cX2_fits 18 = .ok (.aload_n 0, 1) := by decide +kernel
theorem dX2_fits_19 : decode cX2_fits 19 = .ok (.getfield 7, 3) := by decide +kernel
theorem dX2_fits_22 : decode cX2_fits 22 = .ok (.iconst 2, 1) := by decide +kernel
theorem dX2_fits_23 : decode cX2_fits 23 = .ok (.iaload, 1) := by decide +kernel
theorem dX2_fits_24 : decode cX2_fits 24 = .ok (.iload_n 1, 1) := by decide +kernel
theorem dX2_fits_25 : decode cX2_fits 25 = .ok (.ior, 1) := by decide +kernel
theorem dX2_fits_26 : decode cX2_fits 26 = .ok (.invokevirtual 124, 3) := by decide +kernel
theorem dX2_fits_29 : decode cX2_fits 29 = .ok (.iconst 1, 1) := by decide +kernel
theorem dX2_fits_30 : decode cX2_fits 30 = .ok (.istore_n 2, 1) := by decide +kernel
theorem dX2_fits_31 : decode cX2_fits 31 = .ok (.iconst 0, 1) := by decide +kernel
theorem dX2_fits_32 : decode cX2_fits 32 = .ok (.istore_n 3, 1) := by decide +kernel
theorem dX2_fits_33 : decode cX2_fits 33 = .ok (.iload_n 3, 1) := by decide +kernel
theorem dX2_fits_34 : decode cX2_fits 34 = .ok (.aload_n 0, 1) := by decide +kernel
theorem dX2_fits_35 : decode cX2_fits 35 = .ok (.getfield 75, 3) := by decide +kernel
theorem dX2_fits_38 : decode cX2_fits 38 = .ok (.if_icmp .ge 39, 3) := by decide +kernel
theorem dX2_fits_41 : decode cX2_fits 41 = .ok (.iload_n 2, 1) := by decide +kernel
theorem dX2_fits_42 : decode cX2_fits 42 = .ok (.ifCond .eq 27, 3) := by decide +kernel
theorem dX2_fits_45 : decode cX2_fits 45 = .ok (.aload_n 0, 1) := by decide +kernel
theorem dX2_fits_46 : decode cX2_fits 46 = .ok (.getfield 29, 3) := by decide +kernel
theorem dX2_fits_49 : decode cX2_fits 49 = .ok (.aload_n 0, 1) := by decide +kernel
theorem dX2_fits_50 : decode cX2_fits 50 = .ok (.getfield 23, 3) := by decide +kernel
theorem dX2_fits_53 : decode cX2_fits 53 = .ok (.iload_n 3, 1) := by decide +kernel
theorem dX2_fits_54 : decode cX2_fits 54 = .ok (.iaload, 1) := by decide +kernel
theorem dX2_fits_55 : decode cX2_fits 55 = .ok (.iaload, 1) := by decide +kernel
theorem dX2_fits_56 : decode cX2_fits 56 = .ok (.aload_n 0, 1) := by decide +kernel
theorem dX2_fits_57 : decode cX2_fits 57 = .ok (.getfield 26, 3) := by decide +kernel
theorem dX2_fits_60 : decode cX2_fits 60 = .ok (.iload_n 3, 1) := by decide +kernel
theorem dX2_fits_61 : decode cX2_fits 61 = .ok (.iaload, 1) := by decide +kernel
theorem dX2_fits_62 : decode cX2_fits 62 = .ok (.if_icmp .ne 7, 3) := by decide +kernel
theorem dX2_fits_65 : decode cX2_fits 65 = .ok (.iconst 1, 1) := by decide +kernel
theorem dX2_fits_66 : decode cX2_fits 66 = .ok (.goto 4, 3) := by decide +kernel
theorem dX2_fits_69 : decode cX2_fits 69 = .ok (.iconst 0, 1) := by decide +kernel
theorem dX2_fits_70 : decode cX2_fits 70 = .ok (.istore_n 2, 1) := by decide +kernel
theorem dX2_fits_71 : decode cX2_fits 71 = .ok (.iinc 3 1, 3) := by decide +kernel
theorem dX2_fits_74 : decode cX2_fits 74 = .ok (.goto (-41), 3) := by decide +kernel
theorem dX2_fits_77 : decode cX2_fits 77 = .ok (.iload_n 2, 1) := by decide +kernel
theorem dX2_fits_78 : decode cX2_fits 78 = .ok (.ireturn, 1) := by decide +kernel
theorem dX2_which_0 : decode cX2_which 0 = .ok (.iload_n 1, 1) := by decide +kernel
theorem dX2_which_1 : decode cX2_which 1 = .ok (.iconst 0, 1) := by decide +kernel
theorem dX2_which_2 : decode cX2_which 2 = .ok (.iconst 1, 1) := by decide +kernel
theorem dX2_which_3 : decode cX2_which 3 = .ok (.invokestatic 43, 3) := by decide +kernel
theorem dX2_which_6 : decode cX2_which 6 = .ok (.ifCond .ne 5, 3) := by decide +kernel
theorem dX2_which_9 : decode cX2_which 9 = .ok (.iconst (-1), 1) := by decide +kernel
theorem dX2_which_10 : decode cX2_which 10 = .ok (.ireturn, 1) := by decide +kernel
theorem dX2_which_11 : decode cX2_which 11 = .ok (.iconst 0, 1) := by decide +kernel
theorem dX2_which_12 : decode cX2_which 12 = .ok (.istore_n 2, 1) := by decide +kernel
theorem dX2_which_13 : decode cX2_which 13 = .ok (.bipush (-9), 2) := by decide +kernel
theorem dX2_which_15 : decode cX2_which 15 = .ok (.istore_n 3, 1) := by decide +kernel
theorem dX2_which_16 : decode cX2_which 16 = .ok (.iconst 0, 1) := by decide +kernel
theorem dX2_which_17 : decode cX2_which 17 = .ok (.istore 4, 2) := by decide +kernel
theorem dX2_which_19 : decode cX2_which 19 = .ok (.iload 4, 2) := by decide +kernel
theorem dX2_which_21 : decode cX2_which 21 = .ok (.iconst 1, 1) := by decide +kernel
theorem dX2_which_22 : decode cX2_which 22 = .ok (.aload_n 0, 1) := by decide +kernel
theorem dX2_which_23 : decode cX2_which 23 = .ok (.invokevirtual 82, 3) := by decide +kernel
theorem dX2_which_26 : decode cX2_which 26 = .ok (.ishl, 1) := by decide +kernel
theorem dX2_which_27 : decode cX2_which 27 = .ok (.if_icmp .ge 32, 3) := by decide +kernel
theorem dX2_which_30 : decode cX2_which 30 = .ok (.aload_n 0, 1) := by decide +kernel
theorem dX2_which_31 : decode cX2_which 31 = .ok (.iload 4, 2) := by decide +kernel
theorem dX2_which_33 : decode cX2_which 33 = .ok (.invokevirtual 161, 3) := by decide +kernel
theorem dX2_which_36 : decode cX2_which 36 = .ok (.ifCond .eq 17, 3) := by decide +kernel
theorem dX2_which_39 : decode cX2_which 39 = .ok (.iload_n 2, 1) := by decide +kernel
theorem dX2_which_40 : decode cX2_which 40 = .ok (.ifCond .ne 8, 3) := by decide +kernel
theorem dX2_which_43 : decode cX2_which 43 = .ok (.iload 4, 2) := by decide +kernel
theorem dX2_which_45 : decode cX2_which 45 = .ok (.goto 4, 3) := by decide +kernel
theorem dX2_which_48 : decode cX2_which 48 = .ok (.iload_n 3, 1) := by decide +kernel
theorem dX2_which_49 : decode cX2_which 49 = .ok (.istore_n 3, 1) := by decide +kernel
theorem dX2_which_50 : decode cX2_which 50 = .ok (.iinc 2 1, 3) := by decide +kernel
theorem dX2_which_53 : decode cX2_which 53 = .ok (.iinc 4 1, 3) := by decide +kernel
theorem dX2_which_56 : decode cX2_which 56 = .ok (.goto (-37), 3) := by decide +kernel
theorem dX2_which_59 : decode cX2_which 59 = .ok (.iload_n 1, 1) := by decide +kernel
theorem dX2_which_60 : decode cX2_which 60 = .ok (.ifCond .ne 7, 3) := by decide +kernel
theorem dX2_which_63 : decode cX2_which 63 = .ok (.iload_n 2, 1) := by decide +kernel
theorem dX2_which_64 : decode cX2_which 64 = .ok (.goto 4, 3) := by decide +kernel
theorem dX2_which_67 : decode cX2_which 67 = .ok (.iload_n 3, 1) := by decide +kernel
theorem dX2_which_68 : decode cX2_which 68 = .ok (.ireturn, 1) := by decide +kernel
theorem dX2_greatest_0 : decode cX2_greatest 0 = .ok (.iconst 0, 1) := by decide +kernel
theorem dX2_greatest_1 : decode cX2_greatest 1 = .ok (.istore_n 2, 1) := by decide +kernel
theorem dX2_greatest_2 : decode cX2_greatest 2 = .ok (.iload_n 2, 1) := by decide +kernel
theorem dX2_greatest_3 : decode cX2_greatest 3 = .ok (.bipush 8, 2) := by decide +kernel
theorem dX2_greatest_5 : decode cX2_greatest 5 = .ok (.if_icmp .gt 16, 3) := by decide +kernel
theorem dX2_greatest_8 : decode cX2_greatest 8 = .ok (.aload_n 0, 1) := by decide +kernel
theorem dX2_greatest_9 : decode cX2_greatest 9 = .ok (.getfield 32, 3) := by decide +kernel
theorem dX2_greatest_12 : decode cX2_greatest 12 = .ok (.iload_n 2, 1) := by decide +kernel
theorem dX2_greatest_13 : decode cX2_greatest 13 = .ok (.iconst 0, 1) := by decide +kernel
theorem dX2_greatest_14 : decode cX2_greatest 14 = .ok (.iastore, 1) := by decide +kernel
theorem dX2_greatest_15 : decode cX2_greatest 15 = .ok (.iinc 2 1, 3) := by decide +kernel
theorem dX2_greatest_18 : decode cX2_greatest 18 = .ok (.goto (-16), 3) := by decide +kernel
theorem dX2_greatest_21 : decode cX2_greatest 21 = .ok (.iconst 0, 1) := by decide +kernel
theorem dX2_greatest_22 : decode cX2_greatest 22 = .ok (.istore_n 2, 1) := by decide +kernel
theorem dX2_greatest_23 : decode cX2_greatest 23 = .ok (.iconst 0, 1) := by decide +kernel
theorem dX2_greatest_24 : decode cX2_greatest 24 = .ok (.istore_n 3, 1) := by decide +kernel
theorem dX2_greatest_25 : decode cX2_greatest 25 = .ok (.iload_n 3, 1) := by decide +kernel
theorem dX2_greatest_26 : decode cX2_greatest 26 = .ok (.iconst 1, 1) := by decide +kernel
theorem dX2_greatest_27 : decode cX2_greatest 27 = .ok (.aload_n 0, 1) := by decide +kernel
theorem dX2_greatest_28 : decode cX2_greatest 28 = .ok (.invokevirtual 82, 3) := by decide +kernel
theorem dX2_greatest_31 : decode cX2_greatest 31 = .ok (.ishl, 1) := by decide +kernel
theorem dX2_greatest_32 : decode cX2_greatest 32 = .ok (.if_icmp .ge 63, 3) := by decide +kernel
theorem dX2_greatest_35 : decode cX2_greatest 35 = .ok (.aload_n 0, 1) := by decide +kernel
theorem dX2_greatest_36 : decode cX2_greatest 36 = .ok (.iload_n 3, 1) := by decide +kernel
theorem dX2_greatest_37 : decode cX2_greatest 37 = .ok (.invokevirtual 161, 3) := by decide +kernel
theorem dX2_greatest_40 : decode cX2_greatest 40 = .ok (.ifCond .eq 49, 3) := by decide +kernel
theorem dX2_greatest_43 : decode cX2_greatest 43 = .ok (.aload_n 0, 1) := by decide +kernel
theorem dX2_greatest_44 : decode cX2_greatest 44 = .ok (.getfield 32, 3) := by decide +kernel
theorem dX2_greatest_47 : decode cX2_greatest 47 = .ok (.aload_n 0, 1) := by decide +kernel
theorem dX2_greatest_48 : decode cX2_greatest 48 = .ok (.getfield 29, 3) := by decide +kernel
theorem dX2_greatest_51 : decode cX2_greatest 51 = .ok (.iload_n 1, 1) := by decide +kernel
theorem dX2_greatest_52 : decode cX2_greatest 52 = .ok (.iaload, 1) := by decide +kernel
theorem dX2_greatest_53 : decode cX2_greatest 53 = .ok (.dup2, 1) := by decide +kernel
theorem dX2_greatest_54 : decode cX2_greatest 54 = .ok (.iaload, 1) := by decide +kernel
theorem dX2_greatest_55 : decode cX2_greatest 55 = .ok (.iconst 1, 1) := by decide +kernel
theorem dX2_greatest_56 : decode cX2_greatest 56 = .ok (.iadd, 1) := by decide +kernel
theorem dX2_greatest_57 : decode cX2_greatest 57 = .ok (.iastore, 1) := by decide +kernel
theorem dX2_greatest_58 : decode cX2_greatest 58 = .ok (.aload_n 0, 1) := by decide +kernel
theorem dX2_greatest_59 : decode cX2_greatest 59 = .ok (.getfield 32, 3) := by decide +kernel
theorem dX2_greatest_62 : decode cX2_greatest 62 = .ok (.aload_n 0, 1) := by decide +kernel
theorem dX2_greatest_63 : decode cX2_greatest 63 = .ok (.getfield 29, 3) := by decide +kernel
theorem dX2_greatest_66 : decode cX2_greatest 66 = .ok (.iload_n 1, 1) := by decide +kernel
theorem dX2_greatest_67 : decode cX2_greatest 67 = .ok (.iaload, 1) := by decide +kernel
theorem dX2_greatest_68 : decode cX2_greatest 68 = .ok (.iaload, 1) := by decide +kernel
theorem dX2_greatest_69 : decode cX2_greatest 69 = .ok (.iload_n 2, 1) := by decide +kernel
theorem dX2_greatest_70 : decode cX2_greatest 70 = .ok (.if_icmp .le 17, 3) := by decide +kernel
theorem dX2_greatest_73 : decode cX2_greatest 73 = .ok (.aload_n 0, 1) := by decide +kernel
theorem dX2_greatest_74 : decode cX2_greatest 74 = .ok (.getfield 32, 3) := by decide +kernel
theorem dX2_greatest_77 : decode cX2_greatest 77 = .ok (.aload_n 0, 1) := by decide +kernel
theorem dX2_greatest_78 : decode cX2_greatest 78 = .ok (.getfield 29, 3) := by decide +kernel
theorem dX2_greatest_81 : decode cX2_greatest 81 = .ok (.iload_n 1, 1) := by decide +kernel
theorem dX2_greatest_82 : decode cX2_greatest 82 = .ok (.iaload, 1) := by decide +kernel
theorem dX2_greatest_83 : decode cX2_greatest 83 = .ok (.iaload, 1) := by decide +kernel
theorem dX2_greatest_84 : decode cX2_greatest 84 = .ok (.goto 4, 3) := by decide +kernel
theorem dX2_greatest_87 : decode cX2_greatest 87 = .ok (.iload_n 2, 1) := by decide +kernel
theorem dX2_greatest_88 : decode cX2_greatest 88 = .ok (.istore_n 2, 1) := by decide +kernel
theorem dX2_greatest_89 : decode cX2_greatest 89 = .ok (.iinc 3 1, 3) := by decide +kernel
theorem dX2_greatest_92 : decode cX2_greatest 92 = .ok (.goto (-67), 3) := by decide +kernel
theorem dX2_greatest_95 : decode cX2_greatest 95 = .ok (.iload_n 2, 1) := by decide +kernel
theorem dX2_greatest_96 : decode cX2_greatest 96 = .ok (.ireturn, 1) := by decide +kernel
theorem dX2_ask_0 : decode cX2_ask 0 = .ok (.aload_n 0, 1) := by decide +kernel
theorem dX2_ask_1 : decode cX2_ask 1 = .ok (.iconst 0, 1) := by decide +kernel
theorem dX2_ask_2 : decode cX2_ask 2 = .ok (.invokevirtual 164, 3) := by decide +kernel
theorem dX2_ask_5 : decode cX2_ask 5 = .ok (.iconst 2, 1) := by decide +kernel
theorem dX2_ask_6 : decode cX2_ask 6 = .ok (.if_icmp .ge 6, 3) := by decide +kernel
theorem dX2_ask_9 : decode cX2_ask 9 = .ok (.bipush (-9), 2) := by decide +kernel
theorem dX2_ask_11 : decode cX2_ask 11 = .ok (.ireturn, 1) := by decide +kernel
theorem dX2_ask_12 : decode cX2_ask 12 = .ok (.iconst 0, 1) := by decide +kernel
theorem dX2_ask_13 : decode cX2_ask 13 = .ok (.istore_n 1, 1) := by decide +kernel
theorem dX2_ask_14 : decode cX2_ask 14 = .ok (.iconst 1, 1) := by decide +kernel
theorem dX2_ask_15 : decode cX2_ask 15 = .ok (.istore_n 2, 1) := by decide +kernel
theorem dX2_ask_16 : decode cX2_ask 16 = .ok (.iload_n 2, 1) := by decide +kernel
theorem dX2_ask_17 : decode cX2_ask 17 = .ok (.aload_n 0, 1) := by decide +kernel
theorem dX2_ask_18 : decode cX2_ask 18 = .ok (.invokevirtual 82, 3) := by decide +kernel
theorem dX2_ask_21 : decode cX2_ask 21 = .ok (.if_icmp .ge 28, 3) := by decide +kernel
theorem dX2_ask_24 : decode cX2_ask 24 = .ok (.aload_n 0, 1) := by decide +kernel
theorem dX2_ask_25 : decode cX2_ask 25 = .ok (.iload_n 2, 1) := by decide +kernel
theorem dX2_ask_26 : decode cX2_ask 26 = .ok (.invokevirtual 167, 3) := by decide +kernel
theorem dX2_ask_29 : decode cX2_ask 29 = .ok (.aload_n 0, 1) := by decide +kernel
theorem dX2_ask_30 : decode cX2_ask 30 = .ok (.iload_n 1, 1) := by decide +kernel
theorem dX2_ask_31 : decode cX2_ask 31 = .ok (.invokevirtual 167, 3) := by decide +kernel
theorem dX2_ask_34 : decode cX2_ask 34 = .ok (.if_icmp .ge 7, 3) := by decide +kernel
theorem dX2_ask_37 : decode cX2_ask 37 = .ok (.iload_n 2, 1) := by decide +kernel
theorem dX2_ask_38 : decode cX2_ask 38 = .ok (.goto 4, 3) := by decide +kernel
theorem dX2_ask_41 : decode cX2_ask 41 = .ok (.iload_n 1, 1) := by decide +kernel
theorem dX2_ask_42 : decode cX2_ask 42 = .ok (.istore_n 1, 1) := by decide +kernel
theorem dX2_ask_43 : decode cX2_ask 43 = .ok (.iinc 2 1, 3) := by decide +kernel
theorem dX2_ask_46 : decode cX2_ask 46 = .ok (.goto (-30), 3) := by decide +kernel
theorem dX2_ask_49 : decode cX2_ask 49 = .ok (.iload_n 1, 1) := by decide +kernel
theorem dX2_ask_50 : decode cX2_ask 50 = .ok (.ireturn, 1) := by decide +kernel
theorem dX2_allReceipts_0 : decode cX2_allReceipts 0 = .ok (.iconst 0, 1) := by decide +kernel
theorem dX2_allReceipts_1 : decode cX2_allReceipts 1 = .ok (.istore_n 1, 1) := by decide +kernel
theorem dX2_allReceipts_2 : decode cX2_allReceipts 2 = .ok (.iconst 0, 1) := by decide +kernel
theorem dX2_allReceipts_3 : decode cX2_allReceipts 3 = .ok (.istore_n 2, 1) := by decide +kernel
theorem dX2_allReceipts_4 : decode cX2_allReceipts 4 = .ok (.iload_n 2, 1) := by decide +kernel
theorem dX2_allReceipts_5 : decode cX2_allReceipts 5 = .ok (.aload_n 0, 1) := by decide +kernel
theorem dX2_allReceipts_6 : decode cX2_allReceipts 6 = .ok (.invokevirtual 82, 3) := by decide +kernel
theorem dX2_allReceipts_9 : decode cX2_allReceipts 9 = .ok (.if_icmp .ge 17, 3) := by decide +kernel
theorem dX2_allReceipts_12 : decode cX2_allReceipts 12 = .ok (.iload_n 1, 1) := by decide +kernel
theorem dX2_allReceipts_13 : decode cX2_allReceipts 13 = .ok (.aload_n 0, 1) := by decide +kernel
theorem dX2_allReceipts_14 : decode cX2_allReceipts 14 = .ok (.iload_n 2, 1) := by decide +kernel
theorem dX2_allReceipts_15 : decode cX2_allReceipts 15 = .ok (.invokevirtual 47, 3) := by decide +kernel
theorem dX2_allReceipts_18 : decode cX2_allReceipts 18 = .ok (.iadd, 1) := by decide +kernel
theorem dX2_allReceipts_19 : decode cX2_allReceipts 19 = .ok (.istore_n 1, 1) := by decide +kernel
theorem dX2_allReceipts_20 : decode cX2_allReceipts 20 = .ok (.iinc 2 1, 3) := by decide +kernel
theorem dX2_allReceipts_23 : decode cX2_allReceipts 23 = .ok (.goto (-19), 3) := by decide +kernel
theorem dX2_allReceipts_26 : decode cX2_allReceipts 26 = .ok (.iload_n 1, 1) := by decide +kernel
theorem dX2_allReceipts_27 : decode cX2_allReceipts 27 = .ok (.ireturn, 1) := by decide +kernel
theorem dX2_keep_0 : decode cX2_keep 0 = .ok (.iload_n 1, 1) := by decide +kernel
theorem dX2_keep_1 : decode cX2_keep 1 = .ok (.iconst 0, 1) := by decide +kernel
theorem dX2_keep_2 : decode cX2_keep 2 = .ok (.iconst 1, 1) := by decide +kernel
theorem dX2_keep_3 : decode cX2_keep 3 = .ok (.invokestatic 43, 3) := by decide +kernel
theorem dX2_keep_6 : decode cX2_keep 6 = .ok (.ifCond .ne 5, 3) := by decide +kernel
theorem dX2_keep_9 : decode cX2_keep 9 = .ok (.iconst (-1), 1) := by decide +kernel
theorem dX2_keep_10 : decode cX2_keep 10 = .ok (.ireturn, 1) := by decide +kernel
theorem dX2_keep_11 : decode cX2_keep 11 = .ok (.iconst 0, 1) := by decide +kernel
theorem dX2_keep_12 : decode cX2_keep 12 = .ok (.istore_n 2, 1) := by decide +kernel
theorem dX2_keep_13 : decode cX2_keep 13 = .ok (.iload_n 2, 1) := by decide +kernel
theorem dX2_keep_14 : decode cX2_keep 14 = .ok (.sipush 1263, 3) := by decide +kernel
theorem dX2_keep_17 : decode cX2_keep 17 = .ok (.if_icmp .ge 27, 3) := by decide +kernel
theorem dX2_keep_20 : decode cX2_keep 20 = .ok (.aload_n 0, 1) := by decide +kernel
theorem dX2_keep_21 : decode cX2_keep 21 = .ok (.getfield 16, 3) := by decide +kernel
theorem dX2_keep_24 : decode cX2_keep 24 = .ok (.sipush 1263, 3) := by decide +kernel
theorem dX2_keep_27 : decode cX2_keep 27 = .ok (.iload_n 1, 1) := by decide +kernel
theorem dX2_keep_28 : decode cX2_keep 28 = .ok (.imul, 1) := by decide +kernel
theorem dX2_keep_29 : decode cX2_keep 29 = .ok (.iload_n 2, 1) := by decide +kernel
theorem dX2_keep_30 : decode cX2_keep 30 = .ok (.iadd, 1) := by decide +kernel
theorem dX2_keep_31 : decode cX2_keep 31 = .ok (.aload_n 0, 1) := by decide +kernel
theorem dX2_keep_32 : decode cX2_keep 32 = .ok (.getfield 7, 3) := by decide +kernel
theorem dX2_keep_35 : decode cX2_keep 35 = .ok (.iload_n 2, 1) := by decide +kernel
theorem dX2_keep_36 : decode cX2_keep 36 = .ok (.iaload, 1) := by decide +kernel
theorem dX2_keep_37 : decode cX2_keep 37 = .ok (.iastore, 1) := by decide +kernel
theorem dX2_keep_38 : decode cX2_keep 38 = .ok (.iinc 2 1, 3) := by decide +kernel
theorem dX2_keep_41 : decode cX2_keep 41 = .ok (.goto (-28), 3) := by decide +kernel
theorem dX2_keep_44 : decode cX2_keep 44 = .ok (.aload_n 0, 1) := by decide +kernel
theorem dX2_keep_45 : decode cX2_keep 45 = .ok (.getfield 19, 3) := by decide +kernel
theorem dX2_keep_48 : decode cX2_keep 48 = .ok (.iload_n 1, 1) := by decide +kernel
theorem dX2_keep_49 : decode cX2_keep 49 = .ok (.iconst 1, 1) := by decide +kernel
theorem dX2_keep_50 : decode cX2_keep 50 = .ok (.bastore, 1) := by decide +kernel
theorem dX2_keep_51 : decode cX2_keep 51 = .ok (.aload_n 0, 1) := by decide +kernel
theorem dX2_keep_52 : decode cX2_keep 52 = .ok (.invokevirtual 170, 3) := by decide +kernel
theorem dX2_keep_55 : decode cX2_keep 55 = .ok (.ireturn, 1) := by decide +kernel
theorem dX2_back_0 : decode cX2_back 0 = .ok (.iload_n 1, 1) := by decide +kernel
theorem dX2_back_1 : decode cX2_back 1 = .ok (.iconst 0, 1) := by decide +kernel
theorem dX2_back_2 : decode cX2_back 2 = .ok (.iconst 1, 1) := by decide +kernel
theorem dX2_back_3 : decode cX2_back 3 = .ok (.invokestatic 43, 3) := by decide +kernel
theorem dX2_back_6 : decode cX2_back 6 = .ok (.ifCond .ne 5, 3) := by decide +kernel
theorem dX2_back_9 : decode cX2_back 9 = .ok (.iconst (-1), 1) := by decide +kernel
theorem dX2_back_10 : decode cX2_back 10 = .ok (.ireturn, 1) := by decide +kernel
theorem dX2_back_11 : decode cX2_back 11 = .ok (.aload_n 0, 1) := by decide +kernel
theorem dX2_back_12 : decode cX2_back 12 = .ok (.getfield 19, 3) := by decide +kernel
theorem dX2_back_15 : decode cX2_back 15 = .ok (.iload_n 1, 1) := by decide +kernel
theorem dX2_back_16 : decode cX2_back 16 = .ok (.baload, 1) := by decide +kernel
theorem dX2_back_17 : decode cX2_back 17 = .ok (.ifCond .ne 6, 3) := by decide +kernel
theorem dX2_back_20 : decode cX2_back 20 = .ok (.bipush (-2), 2) := by decide +kernel
theorem dX2_back_22 : decode cX2_back 22 = .ok (.ireturn, 1) := by decide +kernel
theorem dX2_back_23 : decode cX2_back 23 = .ok (.iconst 0, 1) := by decide +kernel
theorem dX2_back_24 : decode cX2_back 24 = .ok (.istore_n 2, 1) := by decide +kernel
theorem dX2_back_25 : decode cX2_back 25 = .ok (.iload_n 2, 1) := by decide +kernel
theorem dX2_back_26 : decode cX2_back 26 = .ok (.sipush 1263, 3) := by decide +kernel
theorem dX2_back_29 : decode cX2_back 29 = .ok (.if_icmp .ge 27, 3) := by decide +kernel
theorem dX2_back_32 : decode cX2_back 32 = .ok (.aload_n 0, 1) := by decide +kernel
theorem dX2_back_33 : decode cX2_back 33 = .ok (.getfield 7, 3) := by decide +kernel
theorem dX2_back_36 : decode cX2_back 36 = .ok (.iload_n 2, 1) := by decide +kernel
theorem dX2_back_37 : decode cX2_back 37 = .ok (.aload_n 0, 1) := by decide +kernel
theorem dX2_back_38 : decode cX2_back 38 = .ok (.getfield 16, 3) := by decide +kernel
theorem dX2_back_41 : decode cX2_back 41 = .ok (.sipush 1263, 3) := by decide +kernel
theorem dX2_back_44 : decode cX2_back 44 = .ok (.iload_n 1, 1) := by decide +kernel
theorem dX2_back_45 : decode cX2_back 45 = .ok (.imul, 1) := by decide +kernel
theorem dX2_back_46 : decode cX2_back 46 = .ok (.iload_n 2, 1) := by decide +kernel
theorem dX2_back_47 : decode cX2_back 47 = .ok (.iadd, 1) := by decide +kernel
theorem dX2_back_48 : decode cX2_back 48 = .ok (.iaload, 1) := by decide +kernel
theorem dX2_back_49 : decode cX2_back 49 = .ok (.iastore, 1) := by decide +kernel
theorem dX2_back_50 : decode cX2_back 50 = .ok (.iinc 2 1, 3) := by decide +kernel
theorem dX2_back_53 : decode cX2_back 53 = .ok (.goto (-28), 3) := by decide +kernel
theorem dX2_back_56 : decode cX2_back 56 = .ok (.aload_n 0, 1) := by decide +kernel
theorem dX2_back_57 : decode cX2_back 57 = .ok (.iconst 0, 1) := by decide +kernel
theorem dX2_back_58 : decode cX2_back 58 = .ok (.putfield 68, 3) := by decide +kernel
theorem dX2_back_61 : decode cX2_back 61 = .ok (.aload_n 0, 1) := by decide +kernel
theorem dX2_back_62 : decode cX2_back 62 = .ok (.invokevirtual 170, 3) := by decide +kernel
theorem dX2_back_65 : decode cX2_back 65 = .ok (.ireturn, 1) := by decide +kernel
theorem dX2_allLetters_0 : decode cX2_allLetters 0 = .ok (.iconst 0, 1) := by decide +kernel
theorem dX2_allLetters_1 : decode cX2_allLetters 1 = .ok (.istore_n 1, 1) := by decide +kernel
theorem dX2_allLetters_2 : decode cX2_allLetters 2 = .ok (.iconst 0, 1) := by decide +kernel
theorem dX2_allLetters_3 : decode cX2_allLetters 3 = .ok (.istore_n 2, 1) := by decide +kernel
theorem dX2_allLetters_4 : decode cX2_allLetters 4 = .ok (.iload_n 2, 1) := by decide +kernel
theorem dX2_allLetters_5 : decode cX2_allLetters 5 = .ok (.aload_n 0, 1) := by decide +kernel
theorem dX2_allLetters_6 : decode cX2_allLetters 6 = .ok (.invokevirtual 82, 3) := by decide +kernel
theorem dX2_allLetters_9 : decode cX2_allLetters 9 = .ok (.if_icmp .gt 17, 3) := by decide +kernel
theorem dX2_allLetters_12 : decode cX2_allLetters 12 = .ok (.iload_n 1, 1) := by decide +kernel
theorem dX2_allLetters_13 : decode cX2_allLetters 13 = .ok (.aload_n 0, 1) := by decide +kernel
theorem dX2_allLetters_14 : decode cX2_allLetters 14 = .ok (.iload_n 2, 1) := by decide +kernel
theorem dX2_allLetters_15 : decode cX2_allLetters 15 = .ok (.invokevirtual 140, 3) := by decide +kernel
theorem dX2_allLetters_18 : decode cX2_allLetters 18 = .ok (.iadd, 1) := by decide +kernel
theorem dX2_allLetters_19 : decode cX2_allLetters 19 = .ok (.istore_n 1, 1) := by decide +kernel
theorem dX2_allLetters_20 : decode cX2_allLetters 20 = .ok (.iinc 2 1, 3) := by decide +kernel
theorem dX2_allLetters_23 : decode cX2_allLetters 23 = .ok (.goto (-19), 3) := by decide +kernel
theorem dX2_allLetters_26 : decode cX2_allLetters 26 = .ok (.iload_n 1, 1) := by decide +kernel
theorem dX2_allLetters_27 : decode cX2_allLetters 27 = .ok (.ireturn, 1) := by decide +kernel
theorem dX2_allSafe_0 : decode cX2_allSafe 0 = .ok (.iconst 0, 1) := by decide +kernel
theorem dX2_allSafe_1 : decode cX2_allSafe 1 = .ok (.istore_n 1, 1) := by decide +kernel
theorem dX2_allSafe_2 : decode cX2_allSafe 2 = .ok (.iconst 0, 1) := by decide +kernel
theorem dX2_allSafe_3 : decode cX2_allSafe 3 = .ok (.istore_n 2, 1) := by decide +kernel
theorem dX2_allSafe_4 : decode cX2_allSafe 4 = .ok (.iload_n 2, 1) := by decide +kernel
theorem dX2_allSafe_5 : decode cX2_allSafe 5 = .ok (.aload_n 0, 1) := by decide +kernel
theorem dX2_allSafe_6 : decode cX2_allSafe 6 = .ok (.invokevirtual 82, 3) := by decide +kernel
theorem dX2_allSafe_9 : decode cX2_allSafe 9 = .ok (.if_icmp .ge 43, 3) := by decide +kernel
theorem dX2_allSafe_12 : decode cX2_allSafe 12 = .ok (.iconst 0, 1) := by decide +kernel
theorem dX2_allSafe_13 : decode cX2_allSafe 13 = .ok (.istore_n 3, 1) := by decide +kernel
theorem dX2_allSafe_14 : decode cX2_allSafe 14 = .ok (.iload_n 3, 1) := by decide +kernel
theorem dX2_allSafe_15 : decode cX2_allSafe 15 = .ok (.aload_n 0, 1) := by decide +kernel
theorem dX2_allSafe_16 : decode cX2_allSafe 16 = .ok (.iload_n 2, 1) := by decide +kernel
theorem dX2_allSafe_17 : decode cX2_allSafe 17 = .ok (.invokevirtual 47, 3) := by decide +kernel
theorem dX2_allSafe_20 : decode cX2_allSafe 20 = .ok (.if_icmp .ge 26, 3) := by decide +kernel
theorem dX2_allSafe_23 : decode cX2_allSafe 23 = .ok (.iload_n 1, 1) := by decide +kernel
theorem dX2_allSafe_24 : decode cX2_allSafe 24 = .ok (.aload_n 0, 1) := by decide +kernel
theorem dX2_allSafe_25 : decode cX2_allSafe 25 = .ok (.iload_n 2, 1) := by decide +kernel
theorem dX2_allSafe_26 : decode cX2_allSafe 26 = .ok (.iload_n 3, 1) := by decide +kernel
theorem dX2_allSafe_27 : decode cX2_allSafe 27 = .ok (.invokevirtual 149, 3) := by decide +kernel
theorem dX2_allSafe_30 : decode cX2_allSafe 30 = .ok (.ifCond .eq 7, 3) := by decide +kernel
theorem dX2_allSafe_33 : decode cX2_allSafe 33 = .ok (.iconst 1, 1) := by decide +kernel
theorem dX2_allSafe_34 : decode cX2_allSafe 34 = .ok (.goto 4, 3) := by decide +kernel
theorem dX2_allSafe_37 : decode cX2_allSafe 37 = .ok (.iconst 0, 1) := by decide +kernel
theorem dX2_allSafe_38 : decode cX2_allSafe 38 = .ok (.iadd, 1) := by decide +kernel
theorem dX2_allSafe_39 : decode cX2_allSafe 39 = .ok (.istore_n 1, 1) := by decide +kernel
theorem dX2_allSafe_40 : decode cX2_allSafe 40 = .ok (.iinc 3 1, 3) := by decide +kernel
theorem dX2_allSafe_43 : decode cX2_allSafe 43 = .ok (.goto (-29), 3) := by decide +kernel
theorem dX2_allSafe_46 : decode cX2_allSafe 46 = .ok (.iinc 2 1, 3) := by decide +kernel
theorem dX2_allSafe_49 : decode cX2_allSafe 49 = .ok (.goto (-45), 3) := by decide +kernel
theorem dX2_allSafe_52 : decode cX2_allSafe 52 = .ok (.iload_n 1, 1) := by decide +kernel
theorem dX2_allSafe_53 : decode cX2_allSafe 53 = .ok (.ireturn, 1) := by decide +kernel
theorem dX2_allCarried_0 : decode cX2_allCarried 0 = .ok (.iconst 0, 1) := by decide +kernel
theorem dX2_allCarried_1 : decode cX2_allCarried 1 = .ok (.istore_n 1, 1) := by decide +kernel
theorem dX2_allCarried_2 : decode cX2_allCarried 2 = .ok (.iconst 0, 1) := by decide +kernel
theorem dX2_allCarried_3 : decode cX2_allCarried 3 = .ok (.istore_n 2, 1) := by decide +kernel
theorem dX2_allCarried_4 : decode cX2_allCarried 4 = .ok (.iload_n 2, 1) := by decide +kernel
theorem dX2_allCarried_5 : decode cX2_allCarried 5 = .ok (.aload_n 0, 1) := by decide +kernel
theorem dX2_allCarried_6 : decode cX2_allCarried 6 = .ok (.invokevirtual 82, 3) := by decide +kernel
theorem dX2_allCarried_9 : decode cX2_allCarried 9 = .ok (.if_icmp .gt 65, 3) := by decide +kernel
theorem dX2_allCarried_12 : decode cX2_allCarried 12 = .ok (.iconst 0, 1) := by decide +kernel
theorem dX2_allCarried_13 : decode cX2_allCarried 13 = .ok (.istore_n 3, 1) := by decide +kernel
theorem dX2_allCarried_14 : decode cX2_allCarried 14 = .ok (.iload_n 3, 1) := by decide +kernel
theorem dX2_allCarried_15 : decode cX2_allCarried 15 = .ok (.aload_n 0, 1) := by decide +kernel
theorem dX2_allCarried_16 : decode cX2_allCarried 16 = .ok (.invokevirtual 82, 3) := by decide +kernel
theorem dX2_allCarried_19 : decode cX2_allCarried 19 = .ok (.if_icmp .ge 49, 3) := by decide +kernel
theorem dX2_allCarried_22 : decode cX2_allCarried 22 = .ok (.iconst 0, 1) := by decide +kernel
theorem dX2_allCarried_23 : decode cX2_allCarried 23 = .ok (.istore 4, 2) := by decide +kernel
theorem dX2_allCarried_25 : decode cX2_allCarried 25 = .ok (.iload 4, 2) := by decide +kernel
theorem dX2_allCarried_27 : decode cX2_allCarried 27 = .ok (.aload_n 0, 1) := by decide +kernel
theorem dX2_allCarried_28 : decode cX2_allCarried 28 = .ok (.iload_n 2, 1) := by decide +kernel
theorem dX2_allCarried_29 : decode cX2_allCarried 29 = .ok (.iload_n 3, 1) := by decide +kernel
theorem dX2_allCarried_30 : decode cX2_allCarried 30 = .ok (.invokevirtual 62, 3) := by decide +kernel
theorem dX2_allCarried_33 : decode cX2_allCarried 33 = .ok (.if_icmp .ge 29, 3) := by decide +kernel
theorem dX2_allCarried_36 : decode cX2_allCarried 36 = .ok (.iload_n 1, 1) := by decide +kernel
theorem dX2_allCarried_37 : decode cX2_allCarried 37 = .ok (.aload_n 0, 1) := by decide +kernel
theorem dX2_allCarried_38 : decode cX2_allCarried 38 = .ok (.getfield 7, 3) := by decide +kernel
theorem dX2_allCarried_41 : decode cX2_allCarried 41 = .ok (.iload_n 2, 1) := by decide +kernel
theorem dX2_allCarried_42 : decode cX2_allCarried 42 = .ok (.iload_n 3, 1) := by decide +kernel
theorem dX2_allCarried_43 : decode cX2_allCarried 43 = .ok (.iload 4, 2) := by decide +kernel
theorem dX2_allCarried_45 : decode cX2_allCarried 45 = .ok (.invokestatic 65, 3) := by decide +kernel
theorem dX2_allCarried_48 : decode cX2_allCarried 48 = .ok (.iconst 2, 1) := by decide +kernel
theorem dX2_allCarried_49 : decode cX2_allCarried 49 = .ok (.iadd, 1) := by decide +kernel
theorem dX2_allCarried_50 : decode cX2_allCarried 50 = .ok (.iaload, 1) := by decide +kernel
theorem dX2_allCarried_51 : decode cX2_allCarried 51 = .ok (.invokestatic 112, 3) := by decide +kernel
theorem dX2_allCarried_54 : decode cX2_allCarried 54 = .ok (.iadd, 1) := by decide +kernel
theorem dX2_allCarried_55 : decode cX2_allCarried 55 = .ok (.istore_n 1, 1) := by decide +kernel
theorem dX2_allCarried_56 : decode cX2_allCarried 56 = .ok (.iinc 4 1, 3) := by decide +kernel
theorem dX2_allCarried_59 : decode cX2_allCarried 59 = .ok (.goto (-34), 3) := by decide +kernel
theorem dX2_allCarried_62 : decode cX2_allCarried 62 = .ok (.iinc 3 1, 3) := by decide +kernel
theorem dX2_allCarried_65 : decode cX2_allCarried 65 = .ok (.goto (-51), 3) := by decide +kernel
theorem dX2_allCarried_68 : decode cX2_allCarried 68 = .ok (.iinc 2 1, 3) := by decide +kernel
theorem dX2_allCarried_71 : decode cX2_allCarried 71 = .ok (.goto (-67), 3) := by decide +kernel
theorem dX2_allCarried_74 : decode cX2_allCarried 74 = .ok (.iload_n 1, 1) := by decide +kernel
theorem dX2_allCarried_75 : decode cX2_allCarried 75 = .ok (.ireturn, 1) := by decide +kernel
theorem dX2_count_0 : decode cX2_count 0 = .ok (.iload_n 1, 1) := by decide +kernel
theorem dX2_count_1 : decode cX2_count 1 = .ok (.tableswitch 114 0 9 #[55, 60, 67, 72, 77, 87, 94, 99, 104, 109], 55) := by decide +kernel
theorem dX2_count_56 : decode cX2_count 56 = .ok (.aload_n 0, 1) := by decide +kernel
theorem dX2_count_57 : decode cX2_count 57 = .ok (.invokevirtual 82, 3) := by decide +kernel
theorem dX2_count_60 : decode cX2_count 60 = .ok (.ireturn, 1) := by decide +kernel
theorem dX2_count_61 : decode cX2_count 61 = .ok (.aload_n 0, 1) := by decide +kernel
theorem dX2_count_62 : decode cX2_count 62 = .ok (.getfield 7, 3) := by decide +kernel
theorem dX2_count_65 : decode cX2_count 65 = .ok (.iconst 1, 1) := by decide +kernel
theorem dX2_count_66 : decode cX2_count 66 = .ok (.iaload, 1) := by decide +kernel
theorem dX2_count_67 : decode cX2_count 67 = .ok (.ireturn, 1) := by decide +kernel
theorem dX2_count_68 : decode cX2_count 68 = .ok (.aload_n 0, 1) := by decide +kernel
theorem dX2_count_69 : decode cX2_count 69 = .ok (.invokevirtual 170, 3) := by decide +kernel
theorem dX2_count_72 : decode cX2_count 72 = .ok (.ireturn, 1) := by decide +kernel
theorem dX2_count_73 : decode cX2_count 73 = .ok (.aload_n 0, 1) := by decide +kernel
theorem dX2_count_74 : decode cX2_count 74 = .ok (.invokevirtual 173, 3) := by decide +kernel
theorem dX2_count_77 : decode cX2_count 77 = .ok (.ireturn, 1) := by decide +kernel
theorem dX2_count_78 : decode cX2_count 78 = .ok (.aload_n 0, 1) := by decide +kernel
theorem dX2_count_79 : decode cX2_count 79 = .ok (.invokevirtual 173, 3) := by decide +kernel
theorem dX2_count_82 : decode cX2_count 82 = .ok (.aload_n 0, 1) := by decide +kernel
theorem dX2_count_83 : decode cX2_count 83 = .ok (.invokevirtual 170, 3) := by decide +kernel
theorem dX2_count_86 : decode cX2_count 86 = .ok (.isub, 1) := by decide +kernel
theorem dX2_count_87 : decode cX2_count 87 = .ok (.ireturn, 1) := by decide +kernel
theorem dX2_count_88 : decode cX2_count 88 = .ok (.aload_n 0, 1) := by decide +kernel
theorem dX2_count_89 : decode cX2_count 89 = .ok (.getfield 7, 3) := by decide +kernel
theorem dX2_count_92 : decode cX2_count 92 = .ok (.iconst 2, 1) := by decide +kernel
theorem dX2_count_93 : decode cX2_count 93 = .ok (.iaload, 1) := by decide +kernel
theorem dX2_count_94 : decode cX2_count 94 = .ok (.ireturn, 1) := by decide +kernel
theorem dX2_count_95 : decode cX2_count 95 = .ok (.aload_n 0, 1) := by decide +kernel
theorem dX2_count_96 : decode cX2_count 96 = .ok (.invokevirtual 176, 3) := by decide +kernel
theorem dX2_count_99 : decode cX2_count 99 = .ok (.ireturn, 1) := by decide +kernel
theorem dX2_count_100 : decode cX2_count 100 = .ok (.aload_n 0, 1) := by decide +kernel
theorem dX2_count_101 : decode cX2_count 101 = .ok (.invokevirtual 179, 3) := by decide +kernel
theorem dX2_count_104 : decode cX2_count 104 = .ok (.ireturn, 1) := by decide +kernel
theorem dX2_count_105 : decode cX2_count 105 = .ok (.aload_n 0, 1) := by decide +kernel
theorem dX2_count_106 : decode cX2_count 106 = .ok (.getfield 75, 3) := by decide +kernel
theorem dX2_count_109 : decode cX2_count 109 = .ok (.ireturn, 1) := by decide +kernel
theorem dX2_count_110 : decode cX2_count 110 = .ok (.aload_n 0, 1) := by decide +kernel
theorem dX2_count_111 : decode cX2_count 111 = .ok (.getfield 68, 3) := by decide +kernel
theorem dX2_count_114 : decode cX2_count 114 = .ok (.ireturn, 1) := by decide +kernel
theorem dX2_count_115 : decode cX2_count 115 = .ok (.iconst (-1), 1) := by decide +kernel
theorem dX2_count_116 : decode cX2_count 116 = .ok (.ireturn, 1) := by decide +kernel
