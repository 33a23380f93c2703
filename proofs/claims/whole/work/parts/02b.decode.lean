theorem dX1_init_0 : decode cX1_init 0 = .ok (.aload_n 0, 1) := by decide +kernel
theorem dX1_init_1 : decode cX1_init 1 = .ok (.invokespecial 3, 3) := by decide +kernel
theorem dX1_init_4 : decode cX1_init 4 = .ok (.aload_n 0, 1) := by decide +kernel
theorem dX1_init_5 : decode cX1_init 5 = .ok (.new 9, 3) := by decide +kernel
theorem dX1_init_8 : decode cX1_init 8 = .ok (.dup, 1) := by decide +kernel
theorem dX1_init_9 : decode cX1_init 9 = .ok (.invokespecial 11, 3) := by decide +kernel
theorem dX1_init_12 : decode cX1_init 12 = .ok (.putfield 12, 3) := by decide +kernel
theorem dX1_init_15 : decode cX1_init 15 = .ok (.aload_n 0, 1) := by decide +kernel
theorem dX1_init_16 : decode cX1_init 16 = .ok (.iconst 5, 1) := by decide +kernel
theorem dX1_init_17 : decode cX1_init 17 = .ok (.anewarray 9, 3) := by decide +kernel
theorem dX1_init_20 : decode cX1_init 20 = .ok (.putfield 16, 3) := by decide +kernel
theorem dX1_init_23 : decode cX1_init 23 = .ok (.iconst 0, 1) := by decide +kernel
theorem dX1_init_24 : decode cX1_init 24 = .ok (.istore_n 1, 1) := by decide +kernel
theorem dX1_init_25 : decode cX1_init 25 = .ok (.iload_n 1, 1) := by decide +kernel
theorem dX1_init_26 : decode cX1_init 26 = .ok (.iconst 5, 1) := by decide +kernel
theorem dX1_init_27 : decode cX1_init 27 = .ok (.if_icmp .ge 22, 3) := by decide +kernel
theorem dX1_init_30 : decode cX1_init 30 = .ok (.aload_n 0, 1) := by decide +kernel
theorem dX1_init_31 : decode cX1_init 31 = .ok (.getfield 16, 3) := by decide +kernel
theorem dX1_init_34 : decode cX1_init 34 = .ok (.iload_n 1, 1) := by decide +kernel
theorem dX1_init_35 : decode cX1_init 35 = .ok (.new 9, 3) := by decide +kernel
theorem dX1_init_38 : decode cX1_init 38 = .ok (.dup, 1) := by decide +kernel
theorem dX1_init_39 : decode cX1_init 39 = .ok (.invokespecial 11, 3) := by decide +kernel
theorem dX1_init_42 : decode cX1_init 42 = .ok (.aastore, 1) := by decide +kernel
theorem dX1_init_43 : decode cX1_init 43 = .ok (.iinc 1 1, 3) := by decide +kernel
theorem dX1_init_46 : decode cX1_init 46 = .ok (.goto (-21), 3) := by decide +kernel
theorem dX1_init_49 : decode cX1_init 49 = .ok (.aload_n 0, 1) := by decide +kernel
theorem dX1_init_50 : decode cX1_init 50 = .ok (.iconst 2, 1) := by decide +kernel
theorem dX1_init_51 : decode cX1_init 51 = .ok (.anewarray 9, 3) := by decide +kernel
theorem dX1_init_54 : decode cX1_init 54 = .ok (.putfield 20, 3) := by decide +kernel
theorem dX1_init_57 : decode cX1_init 57 = .ok (.iconst 0, 1) := by decide +kernel
theorem dX1_init_58 : decode cX1_init 58 = .ok (.istore_n 1, 1) := by decide +kernel
theorem dX1_init_59 : decode cX1_init 59 = .ok (.iload_n 1, 1) := by decide +kernel
theorem dX1_init_60 : decode cX1_init 60 = .ok (.iconst 2, 1) := by decide +kernel
theorem dX1_init_61 : decode cX1_init 61 = .ok (.if_icmp .ge 22, 3) := by decide +kernel
theorem dX1_init_64 : decode cX1_init 64 = .ok (.aload_n 0, 1) := by decide +kernel
theorem dX1_init_65 : decode cX1_init 65 = .ok (.getfield 20, 3) := by decide +kernel
theorem dX1_init_68 : decode cX1_init 68 = .ok (.iload_n 1, 1) := by decide +kernel
theorem dX1_init_69 : decode cX1_init 69 = .ok (.new 9, 3) := by decide +kernel
theorem dX1_init_72 : decode cX1_init 72 = .ok (.dup, 1) := by decide +kernel
theorem dX1_init_73 : decode cX1_init 73 = .ok (.invokespecial 11, 3) := by decide +kernel
theorem dX1_init_76 : decode cX1_init 76 = .ok (.aastore, 1) := by decide +kernel
theorem dX1_init_77 : decode cX1_init 77 = .ok (.iinc 1 1, 3) := by decide +kernel
theorem dX1_init_80 : decode cX1_init 80 = .ok (.goto (-21), 3) := by decide +kernel
theorem dX1_init_83 : decode cX1_init 83 = .ok (.aload_n 0, 1) := by decide +kernel
theorem dX1_init_84 : decode cX1_init 84 = .ok (.bipush 6, 2) := by decide +kernel
theorem dX1_init_86 : decode cX1_init 86 = .ok (.newarray .int, 2) := by decide +kernel
theorem dX1_init_88 : decode cX1_init 88 = .ok (.putfield 23, 3) := by decide +kernel
theorem dX1_init_91 : decode cX1_init 91 = .ok (.aload_n 0, 1) := by decide +kernel
theorem dX1_init_92 : decode cX1_init 92 = .ok (.bipush 6, 2) := by decide +kernel
theorem dX1_init_94 : decode cX1_init 94 = .ok (.newarray .int, 2) := by decide +kernel
theorem dX1_init_96 : decode cX1_init 96 = .ok (.putfield 27, 3) := by decide +kernel
theorem dX1_init_99 : decode cX1_init 99 = .ok (.aload_n 0, 1) := by decide +kernel
theorem dX1_init_100 : decode cX1_init 100 = .ok (.bipush 16, 2) := by decide +kernel
theorem dX1_init_102 : decode cX1_init 102 = .ok (.newarray .int, 2) := by decide +kernel
theorem dX1_init_104 : decode cX1_init 104 = .ok (.putfield 30, 3) := by decide +kernel
theorem dX1_init_107 : decode cX1_init 107 = .ok (.aload_n 0, 1) := by decide +kernel
theorem dX1_init_108 : decode cX1_init 108 = .ok (.bipush 9, 2) := by decide +kernel
theorem dX1_init_110 : decode cX1_init 110 = .ok (.newarray .int, 2) := by decide +kernel
theorem dX1_init_112 : decode cX1_init 112 = .ok (.putfield 33, 3) := by decide +kernel
theorem dX1_init_115 : decode cX1_init 115 = .ok (.return_, 1) := by decide +kernel
theorem dX1_begins_0 : decode cX1_begins 0 = .ok (.iload_n 1, 1) := by decide +kernel
theorem dX1_begins_1 : decode cX1_begins 1 = .ok (.iconst 2, 1) := by decide +kernel
theorem dX1_begins_2 : decode cX1_begins 2 = .ok (.if_icmp .lt 18, 3) := by decide +kernel
theorem dX1_begins_5 : decode cX1_begins 5 = .ok (.iload_n 1, 1) := by decide +kernel
theorem dX1_begins_6 : decode cX1_begins 6 = .ok (.iconst 4, 1) := by decide +kernel
theorem dX1_begins_7 : decode cX1_begins 7 = .ok (.if_icmp .gt 13, 3) := by decide +kernel
theorem dX1_begins_10 : decode cX1_begins 10 = .ok (.iload_n 2, 1) := by decide +kernel
theorem dX1_begins_11 : decode cX1_begins 11 = .ok (.iconst 1, 1) := by decide +kernel
theorem dX1_begins_12 : decode cX1_begins 12 = .ok (.if_icmp .lt 8, 3) := by decide +kernel
theorem dX1_begins_15 : decode cX1_begins 15 = .ok (.iload_n 2, 1) := by decide +kernel
theorem dX1_begins_16 : decode cX1_begins 16 = .ok (.iload_n 1, 1) := by decide +kernel
theorem dX1_begins_17 : decode cX1_begins 17 = .ok (.if_icmp .le 5, 3) := by decide +kernel
theorem dX1_begins_20 : decode cX1_begins 20 = .ok (.iconst (-1), 1) := by decide +kernel
theorem dX1_begins_21 : decode cX1_begins 21 = .ok (.ireturn, 1) := by decide +kernel
theorem dX1_begins_22 : decode cX1_begins 22 = .ok (.aload_n 0, 1) := by decide +kernel
theorem dX1_begins_23 : decode cX1_begins 23 = .ok (.invokevirtual 36, 3) := by decide +kernel
theorem dX1_begins_26 : decode cX1_begins 26 = .ok (.aload_n 0, 1) := by decide +kernel
theorem dX1_begins_27 : decode cX1_begins 27 = .ok (.getfield 12, 3) := by decide +kernel
theorem dX1_begins_30 : decode cX1_begins 30 = .ok (.iload_n 1, 1) := by decide +kernel
theorem dX1_begins_31 : decode cX1_begins 31 = .ok (.iload_n 2, 1) := by decide +kernel
theorem dX1_begins_32 : decode cX1_begins 32 = .ok (.invokevirtual 39, 3) := by decide +kernel
theorem dX1_begins_35 : decode cX1_begins 35 = .ok (.aload_n 0, 1) := by decide +kernel
theorem dX1_begins_36 : decode cX1_begins 36 = .ok (.iconst 0, 1) := by decide +kernel
theorem dX1_begins_37 : decode cX1_begins 37 = .ok (.putfield 43, 3) := by decide +kernel
theorem dX1_begins_40 : decode cX1_begins 40 = .ok (.aload_n 0, 1) := by decide +kernel
theorem dX1_begins_41 : decode cX1_begins 41 = .ok (.iconst 0, 1) := by decide +kernel
theorem dX1_begins_42 : decode cX1_begins 42 = .ok (.putfield 47, 3) := by decide +kernel
theorem dX1_begins_45 : decode cX1_begins 45 = .ok (.iload_n 1, 1) := by decide +kernel
theorem dX1_begins_46 : decode cX1_begins 46 = .ok (.ireturn, 1) := by decide +kernel
theorem dX1_puts_0 : decode cX1_puts 0 = .ok (.aload_n 0, 1) := by decide +kernel
theorem dX1_puts_1 : decode cX1_puts 1 = .ok (.getfield 12, 3) := by decide +kernel
theorem dX1_puts_4 : decode cX1_puts 4 = .ok (.iload_n 1, 1) := by decide +kernel
theorem dX1_puts_5 : decode cX1_puts 5 = .ok (.invokevirtual 50, 3) := by decide +kernel
theorem dX1_puts_8 : decode cX1_puts 8 = .ok (.ifCond .eq 13, 3) := by decide +kernel
theorem dX1_puts_11 : decode cX1_puts 11 = .ok (.iload_n 2, 1) := by decide +kernel
theorem dX1_puts_12 : decode cX1_puts 12 = .ok (.ifCond .lt 9, 3) := by decide +kernel
theorem dX1_puts_15 : decode cX1_puts 15 = .ok (.iload_n 2, 1) := by decide +kernel
theorem dX1_puts_16 : decode cX1_puts 16 = .ok (.bipush 99, 2) := by decide +kernel
theorem dX1_puts_18 : decode cX1_puts 18 = .ok (.if_icmp .le 5, 3) := by decide +kernel
theorem dX1_puts_21 : decode cX1_puts 21 = .ok (.iconst (-1), 1) := by decide +kernel
theorem dX1_puts_22 : decode cX1_puts 22 = .ok (.ireturn, 1) := by decide +kernel
theorem dX1_puts_23 : decode cX1_puts 23 = .ok (.aload_n 0, 1) := by decide +kernel
theorem dX1_puts_24 : decode cX1_puts 24 = .ok (.getfield 12, 3) := by decide +kernel
theorem dX1_puts_27 : decode cX1_puts 27 = .ok (.aload_n 0, 1) := by decide +kernel
theorem dX1_puts_28 : decode cX1_puts 28 = .ok (.getfield 12, 3) := by decide +kernel
theorem dX1_puts_31 : decode cX1_puts 31 = .ok (.getfield 54, 3) := by decide +kernel
theorem dX1_puts_34 : decode cX1_puts 34 = .ok (.iload_n 1, 1) := by decide +kernel
theorem dX1_puts_35 : decode cX1_puts 35 = .ok (.invokevirtual 57, 3) := by decide +kernel
theorem dX1_puts_38 : decode cX1_puts 38 = .ok (.istore_n 3, 1) := by decide +kernel
theorem dX1_puts_39 : decode cX1_puts 39 = .ok (.iload_n 3, 1) := by decide +kernel
theorem dX1_puts_40 : decode cX1_puts 40 = .ok (.bipush 8, 2) := by decide +kernel
theorem dX1_puts_42 : decode cX1_puts 42 = .ok (.if_icmp .lt 6, 3) := by decide +kernel
theorem dX1_puts_45 : decode cX1_puts 45 = .ok (.bipush (-3), 2) := by decide +kernel
theorem dX1_puts_47 : decode cX1_puts 47 = .ok (.ireturn, 1) := by decide +kernel
theorem dX1_puts_48 : decode cX1_puts 48 = .ok (.aload_n 0, 1) := by decide +kernel
theorem dX1_puts_49 : decode cX1_puts 49 = .ok (.invokevirtual 36, 3) := by decide +kernel
theorem dX1_puts_52 : decode cX1_puts 52 = .ok (.aload_n 0, 1) := by decide +kernel
theorem dX1_puts_53 : decode cX1_puts 53 = .ok (.getfield 12, 3) := by decide +kernel
theorem dX1_puts_56 : decode cX1_puts 56 = .ok (.aload_n 0, 1) := by decide +kernel
theorem dX1_puts_57 : decode cX1_puts 57 = .ok (.getfield 12, 3) := by decide +kernel
theorem dX1_puts_60 : decode cX1_puts 60 = .ok (.getfield 54, 3) := by decide +kernel
theorem dX1_puts_63 : decode cX1_puts 63 = .ok (.iload_n 1, 1) := by decide +kernel
theorem dX1_puts_64 : decode cX1_puts 64 = .ok (.iload_n 2, 1) := by decide +kernel
theorem dX1_puts_65 : decode cX1_puts 65 = .ok (.bipush (-9), 2) := by decide +kernel
theorem dX1_puts_67 : decode cX1_puts 67 = .ok (.iconst 0, 1) := by decide +kernel
theorem dX1_puts_68 : decode cX1_puts 68 = .ok (.invokevirtual 61, 3) := by decide +kernel
theorem dX1_puts_71 : decode cX1_puts 71 = .ok (.iload_n 3, 1) := by decide +kernel
theorem dX1_puts_72 : decode cX1_puts 72 = .ok (.ireturn, 1) := by decide +kernel
theorem dX1_receives_0 : decode cX1_receives 0 = .ok (.aload_n 0, 1) := by decide +kernel
theorem dX1_receives_1 : decode cX1_receives 1 = .ok (.getfield 12, 3) := by decide +kernel
theorem dX1_receives_4 : decode cX1_receives 4 = .ok (.iload_n 2, 1) := by decide +kernel
theorem dX1_receives_5 : decode cX1_receives 5 = .ok (.iload_n 1, 1) := by decide +kernel
theorem dX1_receives_6 : decode cX1_receives 6 = .ok (.invokevirtual 65, 3) := by decide +kernel
theorem dX1_receives_9 : decode cX1_receives 9 = .ok (.ifCond .ne 5, 3) := by decide +kernel
theorem dX1_receives_12 : decode cX1_receives 12 = .ok (.iconst (-1), 1) := by decide +kernel
theorem dX1_receives_13 : decode cX1_receives 13 = .ok (.ireturn, 1) := by decide +kernel
theorem dX1_receives_14 : decode cX1_receives 14 = .ok (.aload_n 0, 1) := by decide +kernel
theorem dX1_receives_15 : decode cX1_receives 15 = .ok (.getfield 12, 3) := by decide +kernel
theorem dX1_receives_18 : decode cX1_receives 18 = .ok (.iload_n 1, 1) := by decide +kernel
theorem dX1_receives_19 : decode cX1_receives 19 = .ok (.invokevirtual 69, 3) := by decide +kernel
theorem dX1_receives_22 : decode cX1_receives 22 = .ok (.ifCond .ne 24, 3) := by decide +kernel
theorem dX1_receives_25 : decode cX1_receives 25 = .ok (.aload_n 0, 1) := by decide +kernel
theorem dX1_receives_26 : decode cX1_receives 26 = .ok (.getfield 12, 3) := by decide +kernel
theorem dX1_receives_29 : decode cX1_receives 29 = .ok (.iload_n 2, 1) := by decide +kernel
theorem dX1_receives_30 : decode cX1_receives 30 = .ok (.iload_n 1, 1) := by decide +kernel
theorem dX1_receives_31 : decode cX1_receives 31 = .ok (.invokevirtual 72, 3) := by decide +kernel
theorem dX1_receives_34 : decode cX1_receives 34 = .ok (.aload_n 0, 1) := by decide +kernel
theorem dX1_receives_35 : decode cX1_receives 35 = .ok (.getfield 12, 3) := by decide +kernel
theorem dX1_receives_38 : decode cX1_receives 38 = .ok (.iload_n 2, 1) := by decide +kernel
theorem dX1_receives_39 : decode cX1_receives 39 = .ok (.iload_n 1, 1) := by decide +kernel
theorem dX1_receives_40 : decode cX1_receives 40 = .ok (.invokevirtual 57, 3) := by decide +kernel
theorem dX1_receives_43 : decode cX1_receives 43 = .ok (.if_icmp .lt 6, 3) := by decide +kernel
theorem dX1_receives_46 : decode cX1_receives 46 = .ok (.bipush (-2), 2) := by decide +kernel
theorem dX1_receives_48 : decode cX1_receives 48 = .ok (.ireturn, 1) := by decide +kernel
theorem dX1_receives_49 : decode cX1_receives 49 = .ok (.aload_n 0, 1) := by decide +kernel
theorem dX1_receives_50 : decode cX1_receives 50 = .ok (.getfield 12, 3) := by decide +kernel
theorem dX1_receives_53 : decode cX1_receives 53 = .ok (.getfield 75, 3) := by decide +kernel
theorem dX1_receives_56 : decode cX1_receives 56 = .ok (.iload_n 1, 1) := by decide +kernel
theorem dX1_receives_57 : decode cX1_receives 57 = .ok (.iaload, 1) := by decide +kernel
theorem dX1_receives_58 : decode cX1_receives 58 = .ok (.bipush 8, 2) := by decide +kernel
theorem dX1_receives_60 : decode cX1_receives 60 = .ok (.if_icmp .lt 6, 3) := by decide +kernel
theorem dX1_receives_63 : decode cX1_receives 63 = .ok (.bipush (-3), 2) := by decide +kernel
theorem dX1_receives_65 : decode cX1_receives 65 = .ok (.ireturn, 1) := by decide +kernel
theorem dX1_receives_66 : decode cX1_receives 66 = .ok (.aload_n 0, 1) := by decide +kernel
theorem dX1_receives_67 : decode cX1_receives 67 = .ok (.invokevirtual 36, 3) := by decide +kernel
theorem dX1_receives_70 : decode cX1_receives 70 = .ok (.aload_n 0, 1) := by decide +kernel
theorem dX1_receives_71 : decode cX1_receives 71 = .ok (.getfield 12, 3) := by decide +kernel
theorem dX1_receives_74 : decode cX1_receives 74 = .ok (.iload_n 2, 1) := by decide +kernel
theorem dX1_receives_75 : decode cX1_receives 75 = .ok (.iload_n 1, 1) := by decide +kernel
theorem dX1_receives_76 : decode cX1_receives 76 = .ok (.invokevirtual 78, 3) := by decide +kernel
theorem dX1_receives_79 : decode cX1_receives 79 = .ok (.aload_n 0, 1) := by decide +kernel
theorem dX1_receives_80 : decode cX1_receives 80 = .ok (.getfield 12, 3) := by decide +kernel
theorem dX1_receives_83 : decode cX1_receives 83 = .ok (.iload_n 1, 1) := by decide +kernel
theorem dX1_receives_84 : decode cX1_receives 84 = .ok (.invokevirtual 81, 3) := by decide +kernel
theorem dX1_receives_87 : decode cX1_receives 87 = .ok (.ireturn, 1) := by decide +kernel
theorem dX1_crashes_0 : decode cX1_crashes 0 = .ok (.aload_n 0, 1) := by decide +kernel
theorem dX1_crashes_1 : decode cX1_crashes 1 = .ok (.getfield 12, 3) := by decide +kernel
theorem dX1_crashes_4 : decode cX1_crashes 4 = .ok (.iload_n 1, 1) := by decide +kernel
theorem dX1_crashes_5 : decode cX1_crashes 5 = .ok (.invokevirtual 50, 3) := by decide +kernel
theorem dX1_crashes_8 : decode cX1_crashes 8 = .ok (.ifCond .ne 5, 3) := by decide +kernel
theorem dX1_crashes_11 : decode cX1_crashes 11 = .ok (.iconst (-1), 1) := by decide +kernel
theorem dX1_crashes_12 : decode cX1_crashes 12 = .ok (.ireturn, 1) := by decide +kernel
theorem dX1_crashes_13 : decode cX1_crashes 13 = .ok (.aload_n 0, 1) := by decide +kernel
theorem dX1_crashes_14 : decode cX1_crashes 14 = .ok (.getfield 12, 3) := by decide +kernel
theorem dX1_crashes_17 : decode cX1_crashes 17 = .ok (.iload_n 1, 1) := by decide +kernel
theorem dX1_crashes_18 : decode cX1_crashes 18 = .ok (.invokevirtual 69, 3) := by decide +kernel
theorem dX1_crashes_21 : decode cX1_crashes 21 = .ok (.ifCond .eq 6, 3) := by decide +kernel
theorem dX1_crashes_24 : decode cX1_crashes 24 = .ok (.bipush (-2), 2) := by decide +kernel
theorem dX1_crashes_26 : decode cX1_crashes 26 = .ok (.ireturn, 1) := by decide +kernel
theorem dX1_crashes_27 : decode cX1_crashes 27 = .ok (.aload_n 0, 1) := by decide +kernel
theorem dX1_crashes_28 : decode cX1_crashes 28 = .ok (.invokevirtual 36, 3) := by decide +kernel
theorem dX1_crashes_31 : decode cX1_crashes 31 = .ok (.aload_n 0, 1) := by decide +kernel
theorem dX1_crashes_32 : decode cX1_crashes 32 = .ok (.getfield 12, 3) := by decide +kernel
theorem dX1_crashes_35 : decode cX1_crashes 35 = .ok (.iload_n 1, 1) := by decide +kernel
theorem dX1_crashes_36 : decode cX1_crashes 36 = .ok (.invokevirtual 85, 3) := by decide +kernel
theorem dX1_crashes_39 : decode cX1_crashes 39 = .ok (.aload_n 0, 1) := by decide +kernel
theorem dX1_crashes_40 : decode cX1_crashes 40 = .ok (.getfield 12, 3) := by decide +kernel
theorem dX1_crashes_43 : decode cX1_crashes 43 = .ok (.getfield 89, 3) := by decide +kernel
theorem dX1_crashes_46 : decode cX1_crashes 46 = .ok (.invokestatic 92, 3) := by decide +kernel
theorem dX1_crashes_49 : decode cX1_crashes 49 = .ok (.ireturn, 1) := by decide +kernel
theorem dX1_raises_0 : decode cX1_raises 0 = .ok (.aload_n 0, 1) := by decide +kernel
theorem dX1_raises_1 : decode cX1_raises 1 = .ok (.getfield 12, 3) := by decide +kernel
theorem dX1_raises_4 : decode cX1_raises 4 = .ok (.getfield 89, 3) := by decide +kernel
theorem dX1_raises_7 : decode cX1_raises 7 = .ok (.ifCond .ne 6, 3) := by decide +kernel
theorem dX1_raises_10 : decode cX1_raises 10 = .ok (.bipush (-2), 2) := by decide +kernel
theorem dX1_raises_12 : decode cX1_raises 12 = .ok (.ireturn, 1) := by decide +kernel
theorem dX1_raises_13 : decode cX1_raises 13 = .ok (.aload_n 0, 1) := by decide +kernel
theorem dX1_raises_14 : decode cX1_raises 14 = .ok (.invokevirtual 36, 3) := by decide +kernel
theorem dX1_raises_17 : decode cX1_raises 17 = .ok (.aload_n 0, 1) := by decide +kernel
theorem dX1_raises_18 : decode cX1_raises 18 = .ok (.getfield 12, 3) := by decide +kernel
theorem dX1_raises_21 : decode cX1_raises 21 = .ok (.invokevirtual 97, 3) := by decide +kernel
theorem dX1_raises_24 : decode cX1_raises 24 = .ok (.ireturn, 1) := by decide +kernel
theorem dX1_undo_0 : decode cX1_undo 0 = .ok (.aload_n 0, 1) := by decide +kernel
theorem dX1_undo_1 : decode cX1_undo 1 = .ok (.getfield 101, 3) := by decide +kernel
theorem dX1_undo_4 : decode cX1_undo 4 = .ok (.ifCond .gt 6, 3) := by decide +kernel
theorem dX1_undo_7 : decode cX1_undo 7 = .ok (.bipush (-2), 2) := by decide +kernel
theorem dX1_undo_9 : decode cX1_undo 9 = .ok (.ireturn, 1) := by decide +kernel
theorem dX1_undo_10 : decode cX1_undo 10 = .ok (.aload_n 0, 1) := by decide +kernel
theorem dX1_undo_11 : decode cX1_undo 11 = .ok (.aload_n 0, 1) := by decide +kernel
theorem dX1_undo_12 : decode cX1_undo 12 = .ok (.getfield 104, 3) := by decide +kernel
theorem dX1_undo_15 : decode cX1_undo 15 = .ok (.iconst 5, 1) := by decide +kernel
theorem dX1_undo_16 : decode cX1_undo 16 = .ok (.iadd, 1) := by decide +kernel
theorem dX1_undo_17 : decode cX1_undo 17 = .ok (.iconst 1, 1) := by decide +kernel
theorem dX1_undo_18 : decode cX1_undo 18 = .ok (.isub, 1) := by decide +kernel
theorem dX1_undo_19 : decode cX1_undo 19 = .ok (.iconst 5, 1) := by decide +kernel
theorem dX1_undo_20 : decode cX1_undo 20 = .ok (.irem, 1) := by decide +kernel
theorem dX1_undo_21 : decode cX1_undo 21 = .ok (.putfield 104, 3) := by decide +kernel
theorem dX1_undo_24 : decode cX1_undo 24 = .ok (.aload_n 0, 1) := by decide +kernel
theorem dX1_undo_25 : decode cX1_undo 25 = .ok (.getfield 12, 3) := by decide +kernel
theorem dX1_undo_28 : decode cX1_undo 28 = .ok (.aload_n 0, 1) := by decide +kernel
theorem dX1_undo_29 : decode cX1_undo 29 = .ok (.getfield 16, 3) := by decide +kernel
theorem dX1_undo_32 : decode cX1_undo 32 = .ok (.aload_n 0, 1) := by decide +kernel
theorem dX1_undo_33 : decode cX1_undo 33 = .ok (.getfield 104, 3) := by decide +kernel
theorem dX1_undo_36 : decode cX1_undo 36 = .ok (.aaload, 1) := by decide +kernel
theorem dX1_undo_37 : decode cX1_undo 37 = .ok (.invokevirtual 107, 3) := by decide +kernel
theorem dX1_undo_40 : decode cX1_undo 40 = .ok (.aload_n 0, 1) := by decide +kernel
theorem dX1_undo_41 : decode cX1_undo 41 = .ok (.dup, 1) := by decide +kernel
theorem dX1_undo_42 : decode cX1_undo 42 = .ok (.getfield 101, 3) := by decide +kernel
theorem dX1_undo_45 : decode cX1_undo 45 = .ok (.iconst 1, 1) := by decide +kernel
theorem dX1_undo_46 : decode cX1_undo 46 = .ok (.isub, 1) := by decide +kernel
theorem dX1_undo_47 : decode cX1_undo 47 = .ok (.putfield 101, 3) := by decide +kernel
theorem dX1_undo_50 : decode cX1_undo 50 = .ok (.aload_n 0, 1) := by decide +kernel
theorem dX1_undo_51 : decode cX1_undo 51 = .ok (.getfield 101, 3) := by decide +kernel
theorem dX1_undo_54 : decode cX1_undo 54 = .ok (.ireturn, 1) := by decide +kernel
theorem dX1_site_0 : decode cX1_site 0 = .ok (.aload_n 0, 1) := by decide +kernel
theorem dX1_site_1 : decode cX1_site 1 = .ok (.getfield 12, 3) := by decide +kernel
theorem dX1_site_4 : decode cX1_site 4 = .ok (.iload_n 1, 1) := by decide +kernel
theorem dX1_site_5 : decode cX1_site 5 = .ok (.invokevirtual 50, 3) := by decide +kernel
theorem dX1_site_8 : decode cX1_site 8 = .ok (.ifCond .ne 5, 3) := by decide +kernel
theorem dX1_site_11 : decode cX1_site 11 = .ok (.iconst (-1), 1) := by decide +kernel
theorem dX1_site_12 : decode cX1_site 12 = .ok (.ireturn, 1) := by decide +kernel
theorem dX1_site_13 : decode cX1_site 13 = .ok (.iload_n 2, 1) := by decide +kernel
theorem dX1_site_14 : decode cX1_site 14 = .ok (.tableswitch 107 0 4 #[34, 59, 69, 81, 98], 34) := by decide +kernel
theorem dX1_site_48 : decode cX1_site 48 = .ok (.aload_n 0, 1) := by decide +kernel
theorem dX1_site_49 : decode cX1_site 49 = .ok (.getfield 12, 3) := by decide +kernel
theorem dX1_site_52 : decode cX1_site 52 = .ok (.iload_n 1, 1) := by decide +kernel
theorem dX1_site_53 : decode cX1_site 53 = .ok (.invokevirtual 69, 3) := by decide +kernel
theorem dX1_site_56 : decode cX1_site 56 = .ok (.ifCond .eq 8, 3) := by decide +kernel
theorem dX1_site_59 : decode cX1_site 59 = .ok (.bipush (-9), 2) := by decide +kernel
theorem dX1_site_61 : decode cX1_site 61 = .ok (.goto 11, 3) := by decide +kernel
theorem dX1_site_64 : decode cX1_site 64 = .ok (.aload_n 0, 1) := by decide +kernel
theorem dX1_site_65 : decode cX1_site 65 = .ok (.getfield 12, 3) := by decide +kernel
theorem dX1_site_68 : decode cX1_site 68 = .ok (.iload_n 1, 1) := by decide +kernel
theorem dX1_site_69 : decode cX1_site 69 = .ok (.invokevirtual 81, 3) := by decide +kernel
theorem dX1_site_72 : decode cX1_site 72 = .ok (.ireturn, 1) := by decide +kernel
theorem dX1_site_73 : decode cX1_site 73 = .ok (.aload_n 0, 1) := by decide +kernel
theorem dX1_site_74 : decode cX1_site 74 = .ok (.getfield 12, 3) := by decide +kernel
theorem dX1_site_77 : decode cX1_site 77 = .ok (.getfield 75, 3) := by decide +kernel
theorem dX1_site_80 : decode cX1_site 80 = .ok (.iload_n 1, 1) := by decide +kernel
theorem dX1_site_81 : decode cX1_site 81 = .ok (.iaload, 1) := by decide +kernel
theorem dX1_site_82 : decode cX1_site 82 = .ok (.ireturn, 1) := by decide +kernel
theorem dX1_site_83 : decode cX1_site 83 = .ok (.aload_n 0, 1) := by decide +kernel
theorem dX1_site_84 : decode cX1_site 84 = .ok (.getfield 12, 3) := by decide +kernel
theorem dX1_site_87 : decode cX1_site 87 = .ok (.iload_n 1, 1) := by decide +kernel
theorem dX1_site_88 : decode cX1_site 88 = .ok (.invokevirtual 111, 3) := by decide +kernel
theorem dX1_site_91 : decode cX1_site 91 = .ok (.invokestatic 92, 3) := by decide +kernel
theorem dX1_site_94 : decode cX1_site 94 = .ok (.ireturn, 1) := by decide +kernel
theorem dX1_site_95 : decode cX1_site 95 = .ok (.aload_n 0, 1) := by decide +kernel
theorem dX1_site_96 : decode cX1_site 96 = .ok (.getfield 12, 3) := by decide +kernel
theorem dX1_site_99 : decode cX1_site 99 = .ok (.iload_n 1, 1) := by decide +kernel
theorem dX1_site_100 : decode cX1_site 100 = .ok (.invokevirtual 69, 3) := by decide +kernel
theorem dX1_site_103 : decode cX1_site 103 = .ok (.ifCond .eq 7, 3) := by decide +kernel
theorem dX1_site_106 : decode cX1_site 106 = .ok (.iconst 1, 1) := by decide +kernel
theorem dX1_site_107 : decode cX1_site 107 = .ok (.goto 4, 3) := by decide +kernel
theorem dX1_site_110 : decode cX1_site 110 = .ok (.iconst 0, 1) := by decide +kernel
theorem dX1_site_111 : decode cX1_site 111 = .ok (.ireturn, 1) := by decide +kernel
theorem dX1_site_112 : decode cX1_site 112 = .ok (.aload_n 0, 1) := by decide +kernel
theorem dX1_site_113 : decode cX1_site 113 = .ok (.getfield 12, 3) := by decide +kernel
theorem dX1_site_116 : decode cX1_site 116 = .ok (.iload_n 1, 1) := by decide +kernel
theorem dX1_site_117 : decode cX1_site 117 = .ok (.invokevirtual 114, 3) := by decide +kernel
theorem dX1_site_120 : decode cX1_site 120 = .ok (.ireturn, 1) := by decide +kernel
theorem dX1_site_121 : decode cX1_site 121 = .ok (.iconst (-1), 1) := by decide +kernel
theorem dX1_site_122 : decode cX1_site 122 = .ok (.ireturn, 1) := by decide +kernel
theorem dX1_receipt_0 : decode cX1_receipt 0 = .ok (.aload_n 0, 1) := by decide +kernel
theorem dX1_receipt_1 : decode cX1_receipt 1 = .ok (.getfield 12, 3) := by decide +kernel
theorem dX1_receipt_4 : decode cX1_receipt 4 = .ok (.iload_n 1, 1) := by decide +kernel
theorem dX1_receipt_5 : decode cX1_receipt 5 = .ok (.iload_n 2, 1) := by decide +kernel
theorem dX1_receipt_6 : decode cX1_receipt 6 = .ok (.invokevirtual 117, 3) := by decide +kernel
theorem dX1_receipt_9 : decode cX1_receipt 9 = .ok (.ifCond .ne 5, 3) := by decide +kernel
theorem dX1_receipt_12 : decode cX1_receipt 12 = .ok (.iconst (-1), 1) := by decide +kernel
theorem dX1_receipt_13 : decode cX1_receipt 13 = .ok (.ireturn, 1) := by decide +kernel
theorem dX1_receipt_14 : decode cX1_receipt 14 = .ok (.iload_n 1, 1) := by decide +kernel
theorem dX1_receipt_15 : decode cX1_receipt 15 = .ok (.iload_n 2, 1) := by decide +kernel
theorem dX1_receipt_16 : decode cX1_receipt 16 = .ok (.invokestatic 120, 3) := by decide +kernel
theorem dX1_receipt_19 : decode cX1_receipt 19 = .ok (.istore 4, 2) := by decide +kernel
theorem dX1_receipt_21 : decode cX1_receipt 21 = .ok (.iload_n 3, 1) := by decide +kernel
theorem dX1_receipt_22 : decode cX1_receipt 22 = .ok (.tableswitch 113 0 5 #[38, 49, 60, 71, 81, 99], 38) := by decide +kernel
theorem dX1_receipt_60 : decode cX1_receipt 60 = .ok (.aload_n 0, 1) := by decide +kernel
theorem dX1_receipt_61 : decode cX1_receipt 61 = .ok (.getfield 12, 3) := by decide +kernel
theorem dX1_receipt_64 : decode cX1_receipt 64 = .ok (.getfield 123, 3) := by decide +kernel
theorem dX1_receipt_67 : decode cX1_receipt 67 = .ok (.iload 4, 2) := by decide +kernel
theorem dX1_receipt_69 : decode cX1_receipt 69 = .ok (.iaload, 1) := by decide +kernel
theorem dX1_receipt_70 : decode cX1_receipt 70 = .ok (.ireturn, 1) := by decide +kernel
theorem dX1_receipt_71 : decode cX1_receipt 71 = .ok (.aload_n 0, 1) := by decide +kernel
theorem dX1_receipt_72 : decode cX1_receipt 72 = .ok (.getfield 12, 3) := by decide +kernel
theorem dX1_receipt_75 : decode cX1_receipt 75 = .ok (.getfield 126, 3) := by decide +kernel
theorem dX1_receipt_78 : decode cX1_receipt 78 = .ok (.iload 4, 2) := by decide +kernel
theorem dX1_receipt_80 : decode cX1_receipt 80 = .ok (.iaload, 1) := by decide +kernel
theorem dX1_receipt_81 : decode cX1_receipt 81 = .ok (.ireturn, 1) := by decide +kernel
theorem dX1_receipt_82 : decode cX1_receipt 82 = .ok (.aload_n 0, 1) := by decide +kernel
theorem dX1_receipt_83 : decode cX1_receipt 83 = .ok (.getfield 12, 3) := by decide +kernel
theorem dX1_receipt_86 : decode cX1_receipt 86 = .ok (.getfield 129, 3) := by decide +kernel
theorem dX1_receipt_89 : decode cX1_receipt 89 = .ok (.iload 4, 2) := by decide +kernel
theorem dX1_receipt_91 : decode cX1_receipt 91 = .ok (.iaload, 1) := by decide +kernel
theorem dX1_receipt_92 : decode cX1_receipt 92 = .ok (.ireturn, 1) := by decide +kernel
theorem dX1_receipt_93 : decode cX1_receipt 93 = .ok (.aload_n 0, 1) := by decide +kernel
theorem dX1_receipt_94 : decode cX1_receipt 94 = .ok (.getfield 12, 3) := by decide +kernel
theorem dX1_receipt_97 : decode cX1_receipt 97 = .ok (.iload 4, 2) := by decide +kernel
theorem dX1_receipt_99 : decode cX1_receipt 99 = .ok (.invokevirtual 132, 3) := by decide +kernel
theorem dX1_receipt_102 : decode cX1_receipt 102 = .ok (.ireturn, 1) := by decide +kernel
theorem dX1_receipt_103 : decode cX1_receipt 103 = .ok (.aload_n 0, 1) := by decide +kernel
theorem dX1_receipt_104 : decode cX1_receipt 104 = .ok (.getfield 12, 3) := by decide +kernel
theorem dX1_receipt_107 : decode cX1_receipt 107 = .ok (.iload 4, 2) := by decide +kernel
theorem dX1_receipt_109 : decode cX1_receipt 109 = .ok (.invokevirtual 135, 3) := by decide +kernel
theorem dX1_receipt_112 : decode cX1_receipt 112 = .ok (.ifCond .eq 7, 3) := by decide +kernel
theorem dX1_receipt_115 : decode cX1_receipt 115 = .ok (.iconst 1, 1) := by decide +kernel
theorem dX1_receipt_116 : decode cX1_receipt 116 = .ok (.goto 4, 3) := by decide +kernel
theorem dX1_receipt_119 : decode cX1_receipt 119 = .ok (.iconst 0, 1) := by decide +kernel
theorem dX1_receipt_120 : decode cX1_receipt 120 = .ok (.ireturn, 1) := by decide +kernel
theorem dX1_receipt_121 : decode cX1_receipt 121 = .ok (.aload_n 0, 1) := by decide +kernel
theorem dX1_receipt_122 : decode cX1_receipt 122 = .ok (.getfield 12, 3) := by decide +kernel
theorem dX1_receipt_125 : decode cX1_receipt 125 = .ok (.getfield 138, 3) := by decide +kernel
theorem dX1_receipt_128 : decode cX1_receipt 128 = .ok (.iload 4, 2) := by decide +kernel
theorem dX1_receipt_130 : decode cX1_receipt 130 = .ok (.iaload, 1) := by decide +kernel
theorem dX1_receipt_131 : decode cX1_receipt 131 = .ok (.invokestatic 92, 3) := by decide +kernel
theorem dX1_receipt_134 : decode cX1_receipt 134 = .ok (.ireturn, 1) := by decide +kernel
theorem dX1_receipt_135 : decode cX1_receipt 135 = .ok (.iconst (-1), 1) := by decide +kernel
theorem dX1_receipt_136 : decode cX1_receipt 136 = .ok (.ireturn, 1) := by decide +kernel
theorem dX1_letter_0 : decode cX1_letter 0 = .ok (.aload_n 0, 1) := by decide +kernel
theorem dX1_letter_1 : decode cX1_letter 1 = .ok (.getfield 12, 3) := by decide +kernel
theorem dX1_letter_4 : decode cX1_letter 4 = .ok (.iload_n 1, 1) := by decide +kernel
theorem dX1_letter_5 : decode cX1_letter 5 = .ok (.iload_n 2, 1) := by decide +kernel
theorem dX1_letter_6 : decode cX1_letter 6 = .ok (.invokevirtual 65, 3) := by decide +kernel
theorem dX1_letter_9 : decode cX1_letter 9 = .ok (.ifCond .eq 18, 3) := by decide +kernel
theorem dX1_letter_12 : decode cX1_letter 12 = .ok (.iload_n 3, 1) := by decide +kernel
theorem dX1_letter_13 : decode cX1_letter 13 = .ok (.ifCond .lt 14, 3) := by decide +kernel
theorem dX1_letter_16 : decode cX1_letter 16 = .ok (.iload 4, 2) := by decide +kernel
theorem dX1_letter_18 : decode cX1_letter 18 = .ok (.ifCond .lt 9, 3) := by decide +kernel
theorem dX1_letter_21 : decode cX1_letter 21 = .ok (.iload 4, 2) := by decide +kernel
theorem dX1_letter_23 : decode cX1_letter 23 = .ok (.iconst 3, 1) := by decide +kernel
theorem dX1_letter_24 : decode cX1_letter 24 = .ok (.if_icmp .le 5, 3) := by decide +kernel
theorem dX1_letter_27 : decode cX1_letter 27 = .ok (.iconst (-1), 1) := by decide +kernel
theorem dX1_letter_28 : decode cX1_letter 28 = .ok (.ireturn, 1) := by decide +kernel
theorem dX1_letter_29 : decode cX1_letter 29 = .ok (.iload_n 3, 1) := by decide +kernel
theorem dX1_letter_30 : decode cX1_letter 30 = .ok (.aload_n 0, 1) := by decide +kernel
theorem dX1_letter_31 : decode cX1_letter 31 = .ok (.getfield 12, 3) := by decide +kernel
theorem dX1_letter_34 : decode cX1_letter 34 = .ok (.iload_n 1, 1) := by decide +kernel
theorem dX1_letter_35 : decode cX1_letter 35 = .ok (.iload_n 2, 1) := by decide +kernel
theorem dX1_letter_36 : decode cX1_letter 36 = .ok (.invokevirtual 57, 3) := by decide +kernel
theorem dX1_letter_39 : decode cX1_letter 39 = .ok (.if_icmp .lt 6, 3) := by decide +kernel
theorem dX1_letter_42 : decode cX1_letter 42 = .ok (.bipush (-9), 2) := by decide +kernel
theorem dX1_letter_44 : decode cX1_letter 44 = .ok (.ireturn, 1) := by decide +kernel
theorem dX1_letter_45 : decode cX1_letter 45 = .ok (.iload_n 1, 1) := by decide +kernel
theorem dX1_letter_46 : decode cX1_letter 46 = .ok (.iload_n 2, 1) := by decide +kernel
theorem dX1_letter_47 : decode cX1_letter 47 = .ok (.iload_n 3, 1) := by decide +kernel
theorem dX1_letter_48 : decode cX1_letter 48 = .ok (.invokestatic 141, 3) := by decide +kernel
theorem dX1_letter_51 : decode cX1_letter 51 = .ok (.istore 5, 2) := by decide +kernel
theorem dX1_letter_53 : decode cX1_letter 53 = .ok (.iload 4, 2) := by decide +kernel
theorem dX1_letter_55 : decode cX1_letter 55 = .ok (.tableswitch 61 0 2 #[25, 36, 47], 25) := by decide +kernel
theorem dX1_letter_80 : decode cX1_letter 80 = .ok (.aload_n 0, 1) := by decide +kernel
theorem dX1_letter_81 : decode cX1_letter 81 = .ok (.getfield 12, 3) := by decide +kernel
theorem dX1_letter_84 : decode cX1_letter 84 = .ok (.getfield 145, 3) := by decide +kernel
theorem dX1_letter_87 : decode cX1_letter 87 = .ok (.iload 5, 2) := by decide +kernel
theorem dX1_letter_89 : decode cX1_letter 89 = .ok (.iaload, 1) := by decide +kernel
theorem dX1_letter_90 : decode cX1_letter 90 = .ok (.ireturn, 1) := by decide +kernel
theorem dX1_letter_91 : decode cX1_letter 91 = .ok (.aload_n 0, 1) := by decide +kernel
theorem dX1_letter_92 : decode cX1_letter 92 = .ok (.getfield 12, 3) := by decide +kernel
theorem dX1_letter_95 : decode cX1_letter 95 = .ok (.getfield 148, 3) := by decide +kernel
theorem dX1_letter_98 : decode cX1_letter 98 = .ok (.iload 5, 2) := by decide +kernel
theorem dX1_letter_100 : decode cX1_letter 100 = .ok (.iaload, 1) := by decide +kernel
theorem dX1_letter_101 : decode cX1_letter 101 = .ok (.ireturn, 1) := by decide +kernel
theorem dX1_letter_102 : decode cX1_letter 102 = .ok (.aload_n 0, 1) := by decide +kernel
theorem dX1_letter_103 : decode cX1_letter 103 = .ok (.getfield 12, 3) := by decide +kernel
theorem dX1_letter_106 : decode cX1_letter 106 = .ok (.getfield 151, 3) := by decide +kernel
theorem dX1_letter_109 : decode cX1_letter 109 = .ok (.iload 5, 2) := by decide +kernel
theorem dX1_letter_111 : decode cX1_letter 111 = .ok (.iaload, 1) := by decide +kernel
theorem dX1_letter_112 : decode cX1_letter 112 = .ok (.invokestatic 92, 3) := by decide +kernel
theorem dX1_letter_115 : decode cX1_letter 115 = .ok (.ireturn, 1) := by decide +kernel
theorem dX1_letter_116 : decode cX1_letter 116 = .ok (.iload_n 3, 1) := by decide +kernel
theorem dX1_letter_117 : decode cX1_letter 117 = .ok (.aload_n 0, 1) := by decide +kernel
theorem dX1_letter_118 : decode cX1_letter 118 = .ok (.getfield 12, 3) := by decide +kernel
theorem dX1_letter_121 : decode cX1_letter 121 = .ok (.iload_n 1, 1) := by decide +kernel
theorem dX1_letter_122 : decode cX1_letter 122 = .ok (.iload_n 2, 1) := by decide +kernel
theorem dX1_letter_123 : decode cX1_letter 123 = .ok (.invokevirtual 72, 3) := by decide +kernel
theorem dX1_letter_126 : decode cX1_letter 126 = .ok (.if_icmp .ge 7, 3) := by decide +kernel
theorem dX1_letter_129 : decode cX1_letter 129 = .ok (.iconst 1, 1) := by decide +kernel
theorem dX1_letter_130 : decode cX1_letter 130 = .ok (.goto 4, 3) := by decide +kernel
theorem dX1_letter_133 : decode cX1_letter 133 = .ok (.iconst 0, 1) := by decide +kernel
theorem dX1_letter_134 : decode cX1_letter 134 = .ok (.ireturn, 1) := by decide +kernel
theorem dX1_carries_0 : decode cX1_carries 0 = .ok (.aload_n 0, 1) := by decide +kernel
theorem dX1_carries_1 : decode cX1_carries 1 = .ok (.getfield 12, 3) := by decide +kernel
theorem dX1_carries_4 : decode cX1_carries 4 = .ok (.iload_n 1, 1) := by decide +kernel
theorem dX1_carries_5 : decode cX1_carries 5 = .ok (.iload_n 2, 1) := by decide +kernel
theorem dX1_carries_6 : decode cX1_carries 6 = .ok (.invokevirtual 65, 3) := by decide +kernel
theorem dX1_carries_9 : decode cX1_carries 9 = .ok (.ifCond .eq 12, 3) := by decide +kernel
theorem dX1_carries_12 : decode cX1_carries 12 = .ok (.iload_n 3, 1) := by decide +kernel
theorem dX1_carries_13 : decode cX1_carries 13 = .ok (.ifCond .lt 8, 3) := by decide +kernel
theorem dX1_carries_16 : decode cX1_carries 16 = .ok (.iload 4, 2) := by decide +kernel
theorem dX1_carries_18 : decode cX1_carries 18 = .ok (.ifCond .ge 5, 3) := by decide +kernel
theorem dX1_carries_21 : decode cX1_carries 21 = .ok (.iconst (-1), 1) := by decide +kernel
theorem dX1_carries_22 : decode cX1_carries 22 = .ok (.ireturn, 1) := by decide +kernel
theorem dX1_carries_23 : decode cX1_carries 23 = .ok (.iload_n 3, 1) := by decide +kernel
theorem dX1_carries_24 : decode cX1_carries 24 = .ok (.aload_n 0, 1) := by decide +kernel
theorem dX1_carries_25 : decode cX1_carries 25 = .ok (.getfield 12, 3) := by decide +kernel
theorem dX1_carries_28 : decode cX1_carries 28 = .ok (.iload_n 1, 1) := by decide +kernel
theorem dX1_carries_29 : decode cX1_carries 29 = .ok (.iload_n 2, 1) := by decide +kernel
theorem dX1_carries_30 : decode cX1_carries 30 = .ok (.invokevirtual 57, 3) := by decide +kernel
theorem dX1_carries_33 : decode cX1_carries 33 = .ok (.if_icmp .lt 6, 3) := by decide +kernel
theorem dX1_carries_36 : decode cX1_carries 36 = .ok (.bipush (-9), 2) := by decide +kernel
theorem dX1_carries_38 : decode cX1_carries 38 = .ok (.ireturn, 1) := by decide +kernel
theorem dX1_carries_39 : decode cX1_carries 39 = .ok (.aload_n 0, 1) := by decide +kernel
theorem dX1_carries_40 : decode cX1_carries 40 = .ok (.getfield 12, 3) := by decide +kernel
theorem dX1_carries_43 : decode cX1_carries 43 = .ok (.getfield 151, 3) := by decide +kernel
theorem dX1_carries_46 : decode cX1_carries 46 = .ok (.iload_n 1, 1) := by decide +kernel
theorem dX1_carries_47 : decode cX1_carries 47 = .ok (.iload_n 2, 1) := by decide +kernel
theorem dX1_carries_48 : decode cX1_carries 48 = .ok (.iload_n 3, 1) := by decide +kernel
theorem dX1_carries_49 : decode cX1_carries 49 = .ok (.invokestatic 141, 3) := by decide +kernel
theorem dX1_carries_52 : decode cX1_carries 52 = .ok (.iaload, 1) := by decide +kernel
theorem dX1_carries_53 : decode cX1_carries 53 = .ok (.iload 4, 2) := by decide +kernel
theorem dX1_carries_55 : decode cX1_carries 55 = .ok (.invokestatic 154, 3) := by decide +kernel
theorem dX1_carries_58 : decode cX1_carries 58 = .ok (.ireturn, 1) := by decide +kernel
theorem dX1_knows_0 : decode cX1_knows 0 = .ok (.aload_n 0, 1) := by decide +kernel
theorem dX1_knows_1 : decode cX1_knows 1 = .ok (.getfield 12, 3) := by decide +kernel
theorem dX1_knows_4 : decode cX1_knows 4 = .ok (.iload_n 1, 1) := by decide +kernel
theorem dX1_knows_5 : decode cX1_knows 5 = .ok (.invokevirtual 50, 3) := by decide +kernel
theorem dX1_knows_8 : decode cX1_knows 8 = .ok (.ifCond .eq 13, 3) := by decide +kernel
theorem dX1_knows_11 : decode cX1_knows 11 = .ok (.iload_n 2, 1) := by decide +kernel
theorem dX1_knows_12 : decode cX1_knows 12 = .ok (.ifCond .lt 9, 3) := by decide +kernel
theorem dX1_knows_15 : decode cX1_knows 15 = .ok (.iload_n 2, 1) := by decide +kernel
theorem dX1_knows_16 : decode cX1_knows 16 = .ok (.bipush 32, 2) := by decide +kernel
theorem dX1_knows_18 : decode cX1_knows 18 = .ok (.if_icmp .lt 5, 3) := by decide +kernel
theorem dX1_knows_21 : decode cX1_knows 21 = .ok (.iconst (-1), 1) := by decide +kernel
theorem dX1_knows_22 : decode cX1_knows 22 = .ok (.ireturn, 1) := by decide +kernel
theorem dX1_knows_23 : decode cX1_knows 23 = .ok (.aload_n 0, 1) := by decide +kernel
theorem dX1_knows_24 : decode cX1_knows 24 = .ok (.getfield 12, 3) := by decide +kernel
theorem dX1_knows_27 : decode cX1_knows 27 = .ok (.iload_n 1, 1) := by decide +kernel
theorem dX1_knows_28 : decode cX1_knows 28 = .ok (.iload_n 2, 1) := by decide +kernel
theorem dX1_knows_29 : decode cX1_knows 29 = .ok (.invokevirtual 157, 3) := by decide +kernel
theorem dX1_knows_32 : decode cX1_knows 32 = .ok (.ireturn, 1) := by decide +kernel
theorem dX1_past_0 : decode cX1_past 0 = .ok (.aload_n 0, 1) := by decide +kernel
theorem dX1_past_1 : decode cX1_past 1 = .ok (.getfield 12, 3) := by decide +kernel
theorem dX1_past_4 : decode cX1_past 4 = .ok (.iload_n 1, 1) := by decide +kernel
theorem dX1_past_5 : decode cX1_past 5 = .ok (.iload_n 2, 1) := by decide +kernel
theorem dX1_past_6 : decode cX1_past 6 = .ok (.invokevirtual 117, 3) := by decide +kernel
theorem dX1_past_9 : decode cX1_past 9 = .ok (.ifCond .eq 7, 3) := by decide +kernel
theorem dX1_past_12 : decode cX1_past 12 = .ok (.iload_n 3, 1) := by decide +kernel
theorem dX1_past_13 : decode cX1_past 13 = .ok (.ifCond .ge 5, 3) := by decide +kernel
theorem dX1_past_16 : decode cX1_past 16 = .ok (.iconst (-1), 1) := by decide +kernel
theorem dX1_past_17 : decode cX1_past 17 = .ok (.ireturn, 1) := by decide +kernel
theorem dX1_past_18 : decode cX1_past 18 = .ok (.aload_n 0, 1) := by decide +kernel
theorem dX1_past_19 : decode cX1_past 19 = .ok (.getfield 12, 3) := by decide +kernel
theorem dX1_past_22 : decode cX1_past 22 = .ok (.getfield 138, 3) := by decide +kernel
theorem dX1_past_25 : decode cX1_past 25 = .ok (.iload_n 1, 1) := by decide +kernel
theorem dX1_past_26 : decode cX1_past 26 = .ok (.iload_n 2, 1) := by decide +kernel
theorem dX1_past_27 : decode cX1_past 27 = .ok (.invokestatic 120, 3) := by decide +kernel
theorem dX1_past_30 : decode cX1_past 30 = .ok (.iaload, 1) := by decide +kernel
theorem dX1_past_31 : decode cX1_past 31 = .ok (.iload_n 3, 1) := by decide +kernel
theorem dX1_past_32 : decode cX1_past 32 = .ok (.invokestatic 154, 3) := by decide +kernel
theorem dX1_past_35 : decode cX1_past 35 = .ok (.ireturn, 1) := by decide +kernel
theorem dX1_risk_0 : decode cX1_risk 0 = .ok (.iload_n 1, 1) := by decide +kernel
theorem dX1_risk_1 : decode cX1_risk 1 = .ok (.ifCond .lt 23, 3) := by decide +kernel
theorem dX1_risk_4 : decode cX1_risk 4 = .ok (.iload_n 1, 1) := by decide +kernel
theorem dX1_risk_5 : decode cX1_risk 5 = .ok (.aload_n 0, 1) := by decide +kernel
theorem dX1_risk_6 : decode cX1_risk 6 = .ok (.getfield 12, 3) := by decide +kernel
theorem dX1_risk_9 : decode cX1_risk 9 = .ok (.invokevirtual 160, 3) := by decide +kernel
theorem dX1_risk_12 : decode cX1_risk 12 = .ok (.if_icmp .gt 12, 3) := by decide +kernel
theorem dX1_risk_15 : decode cX1_risk 15 = .ok (.iload_n 2, 1) := by decide +kernel
theorem dX1_risk_16 : decode cX1_risk 16 = .ok (.ifCond .lt 8, 3) := by decide +kernel
theorem dX1_risk_19 : decode cX1_risk 19 = .ok (.iload_n 2, 1) := by decide +kernel
theorem dX1_risk_20 : decode cX1_risk 20 = .ok (.iconst 1, 1) := by decide +kernel
theorem dX1_risk_21 : decode cX1_risk 21 = .ok (.if_icmp .le 5, 3) := by decide +kernel
theorem dX1_risk_24 : decode cX1_risk 24 = .ok (.iconst (-1), 1) := by decide +kernel
theorem dX1_risk_25 : decode cX1_risk 25 = .ok (.ireturn, 1) := by decide +kernel
theorem dX1_risk_26 : decode cX1_risk 26 = .ok (.aload_n 0, 1) := by decide +kernel
theorem dX1_risk_27 : decode cX1_risk 27 = .ok (.getfield 12, 3) := by decide +kernel
theorem dX1_risk_30 : decode cX1_risk 30 = .ok (.getfield 89, 3) := by decide +kernel
theorem dX1_risk_33 : decode cX1_risk 33 = .ok (.iload_n 1, 1) := by decide +kernel
theorem dX1_risk_34 : decode cX1_risk 34 = .ok (.ior, 1) := by decide +kernel
theorem dX1_risk_35 : decode cX1_risk 35 = .ok (.istore_n 3, 1) := by decide +kernel
theorem dX1_risk_36 : decode cX1_risk 36 = .ok (.aload_n 0, 1) := by decide +kernel
theorem dX1_risk_37 : decode cX1_risk 37 = .ok (.getfield 12, 3) := by decide +kernel
theorem dX1_risk_40 : decode cX1_risk 40 = .ok (.iload_n 3, 1) := by decide +kernel
theorem dX1_risk_41 : decode cX1_risk 41 = .ok (.invokevirtual 163, 3) := by decide +kernel
theorem dX1_risk_44 : decode cX1_risk 44 = .ok (.istore 4, 2) := by decide +kernel
theorem dX1_risk_46 : decode cX1_risk 46 = .ok (.iload_n 2, 1) := by decide +kernel
theorem dX1_risk_47 : decode cX1_risk 47 = .ok (.ifCond .ne 15, 3) := by decide +kernel
theorem dX1_risk_50 : decode cX1_risk 50 = .ok (.aload_n 0, 1) := by decide +kernel
theorem dX1_risk_51 : decode cX1_risk 51 = .ok (.getfield 12, 3) := by decide +kernel
theorem dX1_risk_54 : decode cX1_risk 54 = .ok (.iload 4, 2) := by decide +kernel
theorem dX1_risk_56 : decode cX1_risk 56 = .ok (.invokevirtual 166, 3) := by decide +kernel
theorem dX1_risk_59 : decode cX1_risk 59 = .ok (.goto 13, 3) := by decide +kernel
theorem dX1_risk_62 : decode cX1_risk 62 = .ok (.aload_n 0, 1) := by decide +kernel
theorem dX1_risk_63 : decode cX1_risk 63 = .ok (.getfield 12, 3) := by decide +kernel
theorem dX1_risk_66 : decode cX1_risk 66 = .ok (.iload 4, 2) := by decide +kernel
theorem dX1_risk_68 : decode cX1_risk 68 = .ok (.iload_n 3, 1) := by decide +kernel
theorem dX1_risk_69 : decode cX1_risk 69 = .ok (.invokevirtual 169, 3) := by decide +kernel
theorem dX1_risk_72 : decode cX1_risk 72 = .ok (.ireturn, 1) := by decide +kernel
theorem dX1_worst_0 : decode cX1_worst 0 = .ok (.iload_n 1, 1) := by decide +kernel
theorem dX1_worst_1 : decode cX1_worst 1 = .ok (.ifCond .lt 8, 3) := by decide +kernel
theorem dX1_worst_4 : decode cX1_worst 4 = .ok (.iload_n 1, 1) := by decide +kernel
theorem dX1_worst_5 : decode cX1_worst 5 = .ok (.iconst 4, 1) := by decide +kernel
theorem dX1_worst_6 : decode cX1_worst 6 = .ok (.if_icmp .le 5, 3) := by decide +kernel
theorem dX1_worst_9 : decode cX1_worst 9 = .ok (.iconst (-1), 1) := by decide +kernel
theorem dX1_worst_10 : decode cX1_worst 10 = .ok (.ireturn, 1) := by decide +kernel
theorem dX1_worst_11 : decode cX1_worst 11 = .ok (.bipush (-9), 2) := by decide +kernel
theorem dX1_worst_13 : decode cX1_worst 13 = .ok (.istore_n 2, 1) := by decide +kernel
theorem dX1_worst_14 : decode cX1_worst 14 = .ok (.aload_n 0, 1) := by decide +kernel
theorem dX1_worst_15 : decode cX1_worst 15 = .ok (.getfield 12, 3) := by decide +kernel
theorem dX1_worst_18 : decode cX1_worst 18 = .ok (.invokevirtual 160, 3) := by decide +kernel
theorem dX1_worst_21 : decode cX1_worst 21 = .ok (.istore_n 3, 1) := by decide +kernel
theorem dX1_worst_22 : decode cX1_worst 22 = .ok (.iconst 0, 1) := by decide +kernel
theorem dX1_worst_23 : decode cX1_worst 23 = .ok (.istore 4, 2) := by decide +kernel
theorem dX1_worst_25 : decode cX1_worst 25 = .ok (.iload 4, 2) := by decide +kernel
theorem dX1_worst_27 : decode cX1_worst 27 = .ok (.iload_n 3, 1) := by decide +kernel
theorem dX1_worst_28 : decode cX1_worst 28 = .ok (.if_icmp .gt 60, 3) := by decide +kernel
theorem dX1_worst_31 : decode cX1_worst 31 = .ok (.iload 4, 2) := by decide +kernel
theorem dX1_worst_33 : decode cX1_worst 33 = .ok (.aload_n 0, 1) := by decide +kernel
theorem dX1_worst_34 : decode cX1_worst 34 = .ok (.getfield 12, 3) := by decide +kernel
theorem dX1_worst_37 : decode cX1_worst 37 = .ok (.getfield 89, 3) := by decide +kernel
theorem dX1_worst_40 : decode cX1_worst 40 = .ok (.iand, 1) := by decide +kernel
theorem dX1_worst_41 : decode cX1_worst 41 = .ok (.ifCond .ne 41, 3) := by decide +kernel
theorem dX1_worst_44 : decode cX1_worst 44 = .ok (.iload 4, 2) := by decide +kernel
theorem dX1_worst_46 : decode cX1_worst 46 = .ok (.invokestatic 92, 3) := by decide +kernel
theorem dX1_worst_49 : decode cX1_worst 49 = .ok (.iload_n 1, 1) := by decide +kernel
theorem dX1_worst_50 : decode cX1_worst 50 = .ok (.if_icmp .ne 32, 3) := by decide +kernel
theorem dX1_worst_53 : decode cX1_worst 53 = .ok (.iload_n 2, 1) := by decide +kernel
theorem dX1_worst_54 : decode cX1_worst 54 = .ok (.aload_n 0, 1) := by decide +kernel
theorem dX1_worst_55 : decode cX1_worst 55 = .ok (.getfield 12, 3) := by decide +kernel
theorem dX1_worst_58 : decode cX1_worst 58 = .ok (.aload_n 0, 1) := by decide +kernel
theorem dX1_worst_59 : decode cX1_worst 59 = .ok (.getfield 12, 3) := by decide +kernel
theorem dX1_worst_62 : decode cX1_worst 62 = .ok (.aload_n 0, 1) := by decide +kernel
theorem dX1_worst_63 : decode cX1_worst 63 = .ok (.getfield 12, 3) := by decide +kernel
theorem dX1_worst_66 : decode cX1_worst 66 = .ok (.getfield 89, 3) := by decide +kernel
theorem dX1_worst_69 : decode cX1_worst 69 = .ok (.iload 4, 2) := by decide +kernel
theorem dX1_worst_71 : decode cX1_worst 71 = .ok (.ior, 1) := by decide +kernel
theorem dX1_worst_72 : decode cX1_worst 72 = .ok (.invokevirtual 163, 3) := by decide +kernel
theorem dX1_worst_75 : decode cX1_worst 75 = .ok (.invokevirtual 166, 3) := by decide +kernel
theorem dX1_worst_78 : decode cX1_worst 78 = .ok (.invokestatic 172, 3) := by decide +kernel
theorem dX1_worst_81 : decode cX1_worst 81 = .ok (.istore_n 2, 1) := by decide +kernel
theorem dX1_worst_82 : decode cX1_worst 82 = .ok (.iinc 4 1, 3) := by decide +kernel
theorem dX1_worst_85 : decode cX1_worst 85 = .ok (.goto (-60), 3) := by decide +kernel
theorem dX1_worst_88 : decode cX1_worst 88 = .ok (.iload_n 2, 1) := by decide +kernel
theorem dX1_worst_89 : decode cX1_worst 89 = .ok (.ireturn, 1) := by decide +kernel
theorem dX1_sees_0 : decode cX1_sees 0 = .ok (.aload_n 0, 1) := by decide +kernel
theorem dX1_sees_1 : decode cX1_sees 1 = .ok (.getfield 12, 3) := by decide +kernel
theorem dX1_sees_4 : decode cX1_sees 4 = .ok (.iload_n 1, 1) := by decide +kernel
theorem dX1_sees_5 : decode cX1_sees 5 = .ok (.invokevirtual 50, 3) := by decide +kernel
theorem dX1_sees_8 : decode cX1_sees 8 = .ok (.ifCond .eq 13, 3) := by decide +kernel
theorem dX1_sees_11 : decode cX1_sees 11 = .ok (.iload_n 2, 1) := by decide +kernel
theorem dX1_sees_12 : decode cX1_sees 12 = .ok (.ifCond .lt 9, 3) := by decide +kernel
theorem dX1_sees_15 : decode cX1_sees 15 = .ok (.iload_n 2, 1) := by decide +kernel
theorem dX1_sees_16 : decode cX1_sees 16 = .ok (.bipush 8, 2) := by decide +kernel
theorem dX1_sees_18 : decode cX1_sees 18 = .ok (.if_icmp .le 5, 3) := by decide +kernel
theorem dX1_sees_21 : decode cX1_sees 21 = .ok (.iconst (-1), 1) := by decide +kernel
theorem dX1_sees_22 : decode cX1_sees 22 = .ok (.ireturn, 1) := by decide +kernel
theorem dX1_sees_23 : decode cX1_sees 23 = .ok (.aload_n 0, 1) := by decide +kernel
theorem dX1_sees_24 : decode cX1_sees 24 = .ok (.getfield 43, 3) := by decide +kernel
theorem dX1_sees_27 : decode cX1_sees 27 = .ok (.bipush 6, 2) := by decide +kernel
theorem dX1_sees_29 : decode cX1_sees 29 = .ok (.if_icmp .lt 6, 3) := by decide +kernel
theorem dX1_sees_32 : decode cX1_sees 32 = .ok (.bipush (-3), 2) := by decide +kernel
theorem dX1_sees_34 : decode cX1_sees 34 = .ok (.ireturn, 1) := by decide +kernel
theorem dX1_sees_35 : decode cX1_sees 35 = .ok (.aload_n 0, 1) := by decide +kernel
theorem dX1_sees_36 : decode cX1_sees 36 = .ok (.getfield 23, 3) := by decide +kernel
theorem dX1_sees_39 : decode cX1_sees 39 = .ok (.aload_n 0, 1) := by decide +kernel
theorem dX1_sees_40 : decode cX1_sees 40 = .ok (.getfield 43, 3) := by decide +kernel
theorem dX1_sees_43 : decode cX1_sees 43 = .ok (.iload_n 1, 1) := by decide +kernel
theorem dX1_sees_44 : decode cX1_sees 44 = .ok (.iastore, 1) := by decide +kernel
theorem dX1_sees_45 : decode cX1_sees 45 = .ok (.aload_n 0, 1) := by decide +kernel
theorem dX1_sees_46 : decode cX1_sees 46 = .ok (.getfield 27, 3) := by decide +kernel
theorem dX1_sees_49 : decode cX1_sees 49 = .ok (.aload_n 0, 1) := by decide +kernel
theorem dX1_sees_50 : decode cX1_sees 50 = .ok (.getfield 43, 3) := by decide +kernel
theorem dX1_sees_53 : decode cX1_sees 53 = .ok (.iload_n 2, 1) := by decide +kernel
theorem dX1_sees_54 : decode cX1_sees 54 = .ok (.iastore, 1) := by decide +kernel
theorem dX1_sees_55 : decode cX1_sees 55 = .ok (.aload_n 0, 1) := by decide +kernel
theorem dX1_sees_56 : decode cX1_sees 56 = .ok (.dup, 1) := by decide +kernel
theorem dX1_sees_57 : decode cX1_sees 57 = .ok (.getfield 43, 3) := by decide +kernel
theorem dX1_sees_60 : decode cX1_sees 60 = .ok (.iconst 1, 1) := by decide +kernel
theorem dX1_sees_61 : decode cX1_sees 61 = .ok (.iadd, 1) := by decide +kernel
theorem dX1_sees_62 : decode cX1_sees 62 = .ok (.putfield 43, 3) := by decide +kernel
theorem dX1_sees_65 : decode cX1_sees 65 = .ok (.aload_n 0, 1) := by decide +kernel
theorem dX1_sees_66 : decode cX1_sees 66 = .ok (.getfield 43, 3) := by decide +kernel
theorem dX1_sees_69 : decode cX1_sees 69 = .ok (.ireturn, 1) := by decide +kernel
theorem dX1_forget_0 : decode cX1_forget 0 = .ok (.aload_n 0, 1) := by decide +kernel
theorem dX1_forget_1 : decode cX1_forget 1 = .ok (.getfield 43, 3) := by decide +kernel
theorem dX1_forget_4 : decode cX1_forget 4 = .ok (.istore_n 1, 1) := by decide +kernel
theorem dX1_forget_5 : decode cX1_forget 5 = .ok (.aload_n 0, 1) := by decide +kernel
theorem dX1_forget_6 : decode cX1_forget 6 = .ok (.iconst 0, 1) := by decide +kernel
theorem dX1_forget_7 : decode cX1_forget 7 = .ok (.putfield 43, 3) := by decide +kernel
theorem dX1_forget_10 : decode cX1_forget 10 = .ok (.iload_n 1, 1) := by decide +kernel
theorem dX1_forget_11 : decode cX1_forget 11 = .ok (.ireturn, 1) := by decide +kernel
theorem dX1_which_0 : decode cX1_which 0 = .ok (.iload_n 1, 1) := by decide +kernel
theorem dX1_which_1 : decode cX1_which 1 = .ok (.ifCond .lt 8, 3) := by decide +kernel
theorem dX1_which_4 : decode cX1_which 4 = .ok (.iload_n 1, 1) := by decide +kernel
theorem dX1_which_5 : decode cX1_which 5 = .ok (.iconst 1, 1) := by decide +kernel
theorem dX1_which_6 : decode cX1_which 6 = .ok (.if_icmp .le 5, 3) := by decide +kernel
theorem dX1_which_9 : decode cX1_which 9 = .ok (.iconst (-1), 1) := by decide +kernel
theorem dX1_which_10 : decode cX1_which 10 = .ok (.ireturn, 1) := by decide +kernel
theorem dX1_which_11 : decode cX1_which 11 = .ok (.aload_n 0, 1) := by decide +kernel
theorem dX1_which_12 : decode cX1_which 12 = .ok (.invokevirtual 177, 3) := by decide +kernel
theorem dX1_which_15 : decode cX1_which 15 = .ok (.istore_n 2, 1) := by decide +kernel
theorem dX1_which_16 : decode cX1_which 16 = .ok (.iload_n 1, 1) := by decide +kernel
theorem dX1_which_17 : decode cX1_which 17 = .ok (.ifCond .ne 8, 3) := by decide +kernel
theorem dX1_which_20 : decode cX1_which 20 = .ok (.iload_n 2, 1) := by decide +kernel
theorem dX1_which_21 : decode cX1_which 21 = .ok (.invokestatic 92, 3) := by decide +kernel
theorem dX1_which_24 : decode cX1_which 24 = .ok (.ireturn, 1) := by decide +kernel
theorem dX1_which_25 : decode cX1_which 25 = .ok (.iload_n 2, 1) := by decide +kernel
theorem dX1_which_26 : decode cX1_which 26 = .ok (.iconst 0, 1) := by decide +kernel
theorem dX1_which_27 : decode cX1_which 27 = .ok (.invokestatic 154, 3) := by decide +kernel
theorem dX1_which_30 : decode cX1_which 30 = .ok (.ireturn, 1) := by decide +kernel
theorem dX1_ask_0 : decode cX1_ask 0 = .ok (.aload_n 0, 1) := by decide +kernel
theorem dX1_ask_1 : decode cX1_ask 1 = .ok (.invokevirtual 177, 3) := by decide +kernel
theorem dX1_ask_4 : decode cX1_ask 4 = .ok (.istore_n 1, 1) := by decide +kernel
theorem dX1_ask_5 : decode cX1_ask 5 = .ok (.iload_n 1, 1) := by decide +kernel
theorem dX1_ask_6 : decode cX1_ask 6 = .ok (.invokestatic 92, 3) := by decide +kernel
theorem dX1_ask_9 : decode cX1_ask 9 = .ok (.iconst 1, 1) := by decide +kernel
theorem dX1_ask_10 : decode cX1_ask 10 = .ok (.if_icmp .gt 6, 3) := by decide +kernel
theorem dX1_ask_13 : decode cX1_ask 13 = .ok (.bipush (-9), 2) := by decide +kernel
theorem dX1_ask_15 : decode cX1_ask 15 = .ok (.ireturn, 1) := by decide +kernel
theorem dX1_ask_16 : decode cX1_ask 16 = .ok (.bipush (-9), 2) := by decide +kernel
theorem dX1_ask_18 : decode cX1_ask 18 = .ok (.istore_n 2, 1) := by decide +kernel
theorem dX1_ask_19 : decode cX1_ask 19 = .ok (.iconst 0, 1) := by decide +kernel
theorem dX1_ask_20 : decode cX1_ask 20 = .ok (.istore_n 3, 1) := by decide +kernel
theorem dX1_ask_21 : decode cX1_ask 21 = .ok (.iconst 0, 1) := by decide +kernel
theorem dX1_ask_22 : decode cX1_ask 22 = .ok (.istore 4, 2) := by decide +kernel
theorem dX1_ask_24 : decode cX1_ask 24 = .ok (.iload 4, 2) := by decide +kernel
theorem dX1_ask_26 : decode cX1_ask 26 = .ok (.aload_n 0, 1) := by decide +kernel
theorem dX1_ask_27 : decode cX1_ask 27 = .ok (.getfield 12, 3) := by decide +kernel
theorem dX1_ask_30 : decode cX1_ask 30 = .ok (.getfield 54, 3) := by decide +kernel
theorem dX1_ask_33 : decode cX1_ask 33 = .ok (.if_icmp .ge 36, 3) := by decide +kernel
theorem dX1_ask_36 : decode cX1_ask 36 = .ok (.aload_n 0, 1) := by decide +kernel
theorem dX1_ask_37 : decode cX1_ask 37 = .ok (.iload_n 1, 1) := by decide +kernel
theorem dX1_ask_38 : decode cX1_ask 38 = .ok (.iload 4, 2) := by decide +kernel
theorem dX1_ask_40 : decode cX1_ask 40 = .ok (.invokevirtual 180, 3) := by decide +kernel
theorem dX1_ask_43 : decode cX1_ask 43 = .ok (.istore 5, 2) := by decide +kernel
theorem dX1_ask_45 : decode cX1_ask 45 = .ok (.iload_n 2, 1) := by decide +kernel
theorem dX1_ask_46 : decode cX1_ask 46 = .ok (.bipush (-9), 2) := by decide +kernel
theorem dX1_ask_48 : decode cX1_ask 48 = .ok (.if_icmp .eq 9, 3) := by decide +kernel
theorem dX1_ask_51 : decode cX1_ask 51 = .ok (.iload 5, 2) := by decide +kernel
theorem dX1_ask_53 : decode cX1_ask 53 = .ok (.iload_n 3, 1) := by decide +kernel
theorem dX1_ask_54 : decode cX1_ask 54 = .ok (.if_icmp .ge 9, 3) := by decide +kernel
theorem dX1_ask_57 : decode cX1_ask 57 = .ok (.iload 4, 2) := by decide +kernel
theorem dX1_ask_59 : decode cX1_ask 59 = .ok (.istore_n 2, 1) := by decide +kernel
theorem dX1_ask_60 : decode cX1_ask 60 = .ok (.iload 5, 2) := by decide +kernel
theorem dX1_ask_62 : decode cX1_ask 62 = .ok (.istore_n 3, 1) := by decide +kernel
theorem dX1_ask_63 : decode cX1_ask 63 = .ok (.iinc 4 1, 3) := by decide +kernel
theorem dX1_ask_66 : decode cX1_ask 66 = .ok (.goto (-42), 3) := by decide +kernel
theorem dX1_ask_69 : decode cX1_ask 69 = .ok (.iload_n 2, 1) := by decide +kernel
theorem dX1_ask_70 : decode cX1_ask 70 = .ok (.ireturn, 1) := by decide +kernel
theorem dX1_keep_0 : decode cX1_keep 0 = .ok (.iload_n 1, 1) := by decide +kernel
theorem dX1_keep_1 : decode cX1_keep 1 = .ok (.ifCond .lt 8, 3) := by decide +kernel
theorem dX1_keep_4 : decode cX1_keep 4 = .ok (.iload_n 1, 1) := by decide +kernel
theorem dX1_keep_5 : decode cX1_keep 5 = .ok (.iconst 2, 1) := by decide +kernel
theorem dX1_keep_6 : decode cX1_keep 6 = .ok (.if_icmp .lt 5, 3) := by decide +kernel
theorem dX1_keep_9 : decode cX1_keep 9 = .ok (.iconst (-1), 1) := by decide +kernel
theorem dX1_keep_10 : decode cX1_keep 10 = .ok (.ireturn, 1) := by decide +kernel
theorem dX1_keep_11 : decode cX1_keep 11 = .ok (.aload_n 0, 1) := by decide +kernel
theorem dX1_keep_12 : decode cX1_keep 12 = .ok (.getfield 20, 3) := by decide +kernel
theorem dX1_keep_15 : decode cX1_keep 15 = .ok (.iload_n 1, 1) := by decide +kernel
theorem dX1_keep_16 : decode cX1_keep 16 = .ok (.aaload, 1) := by decide +kernel
theorem dX1_keep_17 : decode cX1_keep 17 = .ok (.aload_n 0, 1) := by decide +kernel
theorem dX1_keep_18 : decode cX1_keep 18 = .ok (.getfield 12, 3) := by decide +kernel
theorem dX1_keep_21 : decode cX1_keep 21 = .ok (.invokevirtual 107, 3) := by decide +kernel
theorem dX1_keep_24 : decode cX1_keep 24 = .ok (.aload_n 0, 1) := by decide +kernel
theorem dX1_keep_25 : decode cX1_keep 25 = .ok (.dup, 1) := by decide +kernel
theorem dX1_keep_26 : decode cX1_keep 26 = .ok (.getfield 47, 3) := by decide +kernel
theorem dX1_keep_29 : decode cX1_keep 29 = .ok (.iconst 1, 1) := by decide +kernel
theorem dX1_keep_30 : decode cX1_keep 30 = .ok (.iload_n 1, 1) := by decide +kernel
theorem dX1_keep_31 : decode cX1_keep 31 = .ok (.ishl, 1) := by decide +kernel
theorem dX1_keep_32 : decode cX1_keep 32 = .ok (.ior, 1) := by decide +kernel
theorem dX1_keep_33 : decode cX1_keep 33 = .ok (.putfield 47, 3) := by decide +kernel
theorem dX1_keep_36 : decode cX1_keep 36 = .ok (.aload_n 0, 1) := by decide +kernel
theorem dX1_keep_37 : decode cX1_keep 37 = .ok (.getfield 12, 3) := by decide +kernel
theorem dX1_keep_40 : decode cX1_keep 40 = .ok (.invokevirtual 183, 3) := by decide +kernel
theorem dX1_keep_43 : decode cX1_keep 43 = .ok (.ireturn, 1) := by decide +kernel
theorem dX1_back_0 : decode cX1_back 0 = .ok (.iload_n 1, 1) := by decide +kernel
theorem dX1_back_1 : decode cX1_back 1 = .ok (.ifCond .lt 8, 3) := by decide +kernel
theorem dX1_back_4 : decode cX1_back 4 = .ok (.iload_n 1, 1) := by decide +kernel
theorem dX1_back_5 : decode cX1_back 5 = .ok (.iconst 2, 1) := by decide +kernel
theorem dX1_back_6 : decode cX1_back 6 = .ok (.if_icmp .lt 5, 3) := by decide +kernel
theorem dX1_back_9 : decode cX1_back 9 = .ok (.iconst (-1), 1) := by decide +kernel
theorem dX1_back_10 : decode cX1_back 10 = .ok (.ireturn, 1) := by decide +kernel
theorem dX1_back_11 : decode cX1_back 11 = .ok (.aload_n 0, 1) := by decide +kernel
theorem dX1_back_12 : decode cX1_back 12 = .ok (.getfield 47, 3) := by decide +kernel
theorem dX1_back_15 : decode cX1_back 15 = .ok (.iload_n 1, 1) := by decide +kernel
theorem dX1_back_16 : decode cX1_back 16 = .ok (.ishr, 1) := by decide +kernel
theorem dX1_back_17 : decode cX1_back 17 = .ok (.iconst 1, 1) := by decide +kernel
theorem dX1_back_18 : decode cX1_back 18 = .ok (.iand, 1) := by decide +kernel
theorem dX1_back_19 : decode cX1_back 19 = .ok (.ifCond .ne 6, 3) := by decide +kernel
theorem dX1_back_22 : decode cX1_back 22 = .ok (.bipush (-2), 2) := by decide +kernel
theorem dX1_back_24 : decode cX1_back 24 = .ok (.ireturn, 1) := by decide +kernel
theorem dX1_back_25 : decode cX1_back 25 = .ok (.aload_n 0, 1) := by decide +kernel
theorem dX1_back_26 : decode cX1_back 26 = .ok (.getfield 12, 3) := by decide +kernel
theorem dX1_back_29 : decode cX1_back 29 = .ok (.aload_n 0, 1) := by decide +kernel
theorem dX1_back_30 : decode cX1_back 30 = .ok (.getfield 20, 3) := by decide +kernel
theorem dX1_back_33 : decode cX1_back 33 = .ok (.iload_n 1, 1) := by decide +kernel
theorem dX1_back_34 : decode cX1_back 34 = .ok (.aaload, 1) := by decide +kernel
theorem dX1_back_35 : decode cX1_back 35 = .ok (.invokevirtual 107, 3) := by decide +kernel
theorem dX1_back_38 : decode cX1_back 38 = .ok (.aload_n 0, 1) := by decide +kernel
theorem dX1_back_39 : decode cX1_back 39 = .ok (.iconst 0, 1) := by decide +kernel
theorem dX1_back_40 : decode cX1_back 40 = .ok (.putfield 101, 3) := by decide +kernel
theorem dX1_back_43 : decode cX1_back 43 = .ok (.aload_n 0, 1) := by decide +kernel
theorem dX1_back_44 : decode cX1_back 44 = .ok (.getfield 12, 3) := by decide +kernel
theorem dX1_back_47 : decode cX1_back 47 = .ok (.invokevirtual 183, 3) := by decide +kernel
theorem dX1_back_50 : decode cX1_back 50 = .ok (.ireturn, 1) := by decide +kernel
theorem dX1_count_0 : decode cX1_count 0 = .ok (.iload_n 1, 1) := by decide +kernel
theorem dX1_count_1 : decode cX1_count 1 = .ok (.tableswitch 137 0 9 #[55, 63, 71, 79, 87, 103, 111, 119, 127, 132], 55) := by decide +kernel
theorem dX1_count_56 : decode cX1_count 56 = .ok (.aload_n 0, 1) := by decide +kernel
theorem dX1_count_57 : decode cX1_count 57 = .ok (.getfield 12, 3) := by decide +kernel
theorem dX1_count_60 : decode cX1_count 60 = .ok (.getfield 54, 3) := by decide +kernel
theorem dX1_count_63 : decode cX1_count 63 = .ok (.ireturn, 1) := by decide +kernel
theorem dX1_count_64 : decode cX1_count 64 = .ok (.aload_n 0, 1) := by decide +kernel
theorem dX1_count_65 : decode cX1_count 65 = .ok (.getfield 12, 3) := by decide +kernel
theorem dX1_count_68 : decode cX1_count 68 = .ok (.getfield 186, 3) := by decide +kernel
theorem dX1_count_71 : decode cX1_count 71 = .ok (.ireturn, 1) := by decide +kernel
theorem dX1_count_72 : decode cX1_count 72 = .ok (.aload_n 0, 1) := by decide +kernel
theorem dX1_count_73 : decode cX1_count 73 = .ok (.getfield 12, 3) := by decide +kernel
theorem dX1_count_76 : decode cX1_count 76 = .ok (.invokevirtual 183, 3) := by decide +kernel
theorem dX1_count_79 : decode cX1_count 79 = .ok (.ireturn, 1) := by decide +kernel
theorem dX1_count_80 : decode cX1_count 80 = .ok (.aload_n 0, 1) := by decide +kernel
theorem dX1_count_81 : decode cX1_count 81 = .ok (.getfield 12, 3) := by decide +kernel
theorem dX1_count_84 : decode cX1_count 84 = .ok (.invokevirtual 189, 3) := by decide +kernel
theorem dX1_count_87 : decode cX1_count 87 = .ok (.ireturn, 1) := by decide +kernel
theorem dX1_count_88 : decode cX1_count 88 = .ok (.aload_n 0, 1) := by decide +kernel
theorem dX1_count_89 : decode cX1_count 89 = .ok (.getfield 12, 3) := by decide +kernel
theorem dX1_count_92 : decode cX1_count 92 = .ok (.invokevirtual 189, 3) := by decide +kernel
theorem dX1_count_95 : decode cX1_count 95 = .ok (.aload_n 0, 1) := by decide +kernel
theorem dX1_count_96 : decode cX1_count 96 = .ok (.getfield 12, 3) := by decide +kernel
theorem dX1_count_99 : decode cX1_count 99 = .ok (.invokevirtual 183, 3) := by decide +kernel
theorem dX1_count_102 : decode cX1_count 102 = .ok (.isub, 1) := by decide +kernel
theorem dX1_count_103 : decode cX1_count 103 = .ok (.ireturn, 1) := by decide +kernel
theorem dX1_count_104 : decode cX1_count 104 = .ok (.aload_n 0, 1) := by decide +kernel
theorem dX1_count_105 : decode cX1_count 105 = .ok (.getfield 12, 3) := by decide +kernel
theorem dX1_count_108 : decode cX1_count 108 = .ok (.getfield 89, 3) := by decide +kernel
theorem dX1_count_111 : decode cX1_count 111 = .ok (.ireturn, 1) := by decide +kernel
theorem dX1_count_112 : decode cX1_count 112 = .ok (.aload_n 0, 1) := by decide +kernel
theorem dX1_count_113 : decode cX1_count 113 = .ok (.getfield 12, 3) := by decide +kernel
theorem dX1_count_116 : decode cX1_count 116 = .ok (.invokevirtual 192, 3) := by decide +kernel
theorem dX1_count_119 : decode cX1_count 119 = .ok (.ireturn, 1) := by decide +kernel
theorem dX1_count_120 : decode cX1_count 120 = .ok (.aload_n 0, 1) := by decide +kernel
theorem dX1_count_121 : decode cX1_count 121 = .ok (.getfield 12, 3) := by decide +kernel
theorem dX1_count_124 : decode cX1_count 124 = .ok (.invokevirtual 195, 3) := by decide +kernel
theorem dX1_count_127 : decode cX1_count 127 = .ok (.ireturn, 1) := by decide +kernel
theorem dX1_count_128 : decode cX1_count 128 = .ok (.aload_n 0, 1) := by decide +kernel
theorem dX1_count_129 : decode cX1_count 129 = .ok (.getfield 43, 3) := by decide +kernel
theorem dX1_count_132 : decode cX1_count 132 = .ok (.ireturn, 1) := by decide +kernel
theorem dX1_count_133 : decode cX1_count 133 = .ok (.aload_n 0, 1) := by decide +kernel
theorem dX1_count_134 : decode cX1_count 134 = .ok (.getfield 101, 3) := by decide +kernel
theorem dX1_count_137 : decode cX1_count 137 = .ok (.ireturn, 1) := by decide +kernel
theorem dX1_count_138 : decode cX1_count 138 = .ok (.iconst (-1), 1) := by decide +kernel
theorem dX1_count_139 : decode cX1_count 139 = .ok (.ireturn, 1) := by decide +kernel
theorem dX1_remember_0 : decode cX1_remember 0 = .ok (.aload_n 0, 1) := by decide +kernel
theorem dX1_remember_1 : decode cX1_remember 1 = .ok (.getfield 16, 3) := by decide +kernel
theorem dX1_remember_4 : decode cX1_remember 4 = .ok (.aload_n 0, 1) := by decide +kernel
theorem dX1_remember_5 : decode cX1_remember 5 = .ok (.getfield 104, 3) := by decide +kernel
theorem dX1_remember_8 : decode cX1_remember 8 = .ok (.aaload, 1) := by decide +kernel
theorem dX1_remember_9 : decode cX1_remember 9 = .ok (.aload_n 0, 1) := by decide +kernel
theorem dX1_remember_10 : decode cX1_remember 10 = .ok (.getfield 12, 3) := by decide +kernel
theorem dX1_remember_13 : decode cX1_remember 13 = .ok (.invokevirtual 107, 3) := by decide +kernel
theorem dX1_remember_16 : decode cX1_remember 16 = .ok (.aload_n 0, 1) := by decide +kernel
theorem dX1_remember_17 : decode cX1_remember 17 = .ok (.aload_n 0, 1) := by decide +kernel
theorem dX1_remember_18 : decode cX1_remember 18 = .ok (.getfield 104, 3) := by decide +kernel
theorem dX1_remember_21 : decode cX1_remember 21 = .ok (.iconst 1, 1) := by decide +kernel
theorem dX1_remember_22 : decode cX1_remember 22 = .ok (.iadd, 1) := by decide +kernel
theorem dX1_remember_23 : decode cX1_remember 23 = .ok (.iconst 5, 1) := by decide +kernel
theorem dX1_remember_24 : decode cX1_remember 24 = .ok (.irem, 1) := by decide +kernel
theorem dX1_remember_25 : decode cX1_remember 25 = .ok (.putfield 104, 3) := by decide +kernel
theorem dX1_remember_28 : decode cX1_remember 28 = .ok (.aload_n 0, 1) := by decide +kernel
theorem dX1_remember_29 : decode cX1_remember 29 = .ok (.aload_n 0, 1) := by decide +kernel
theorem dX1_remember_30 : decode cX1_remember 30 = .ok (.getfield 101, 3) := by decide +kernel
theorem dX1_remember_33 : decode cX1_remember 33 = .ok (.iconst 1, 1) := by decide +kernel
theorem dX1_remember_34 : decode cX1_remember 34 = .ok (.iadd, 1) := by decide +kernel
theorem dX1_remember_35 : decode cX1_remember 35 = .ok (.iconst 5, 1) := by decide +kernel
theorem dX1_remember_36 : decode cX1_remember 36 = .ok (.invokestatic 198, 3) := by decide +kernel
theorem dX1_remember_39 : decode cX1_remember 39 = .ok (.putfield 101, 3) := by decide +kernel
theorem dX1_remember_42 : decode cX1_remember 42 = .ok (.return_, 1) := by decide +kernel
theorem dX1_possibleSets_0 : decode cX1_possibleSets 0 = .ok (.iconst 0, 1) := by decide +kernel
theorem dX1_possibleSets_1 : decode cX1_possibleSets 1 = .ok (.istore_n 1, 1) := by decide +kernel
theorem dX1_possibleSets_2 : decode cX1_possibleSets 2 = .ok (.aload_n 0, 1) := by decide +kernel
theorem dX1_possibleSets_3 : decode cX1_possibleSets 3 = .ok (.getfield 12, 3) := by decide +kernel
theorem dX1_possibleSets_6 : decode cX1_possibleSets 6 = .ok (.invokevirtual 160, 3) := by decide +kernel
theorem dX1_possibleSets_9 : decode cX1_possibleSets 9 = .ok (.istore_n 2, 1) := by decide +kernel
theorem dX1_possibleSets_10 : decode cX1_possibleSets 10 = .ok (.iconst 1, 1) := by decide +kernel
theorem dX1_possibleSets_11 : decode cX1_possibleSets 11 = .ok (.istore_n 3, 1) := by decide +kernel
theorem dX1_possibleSets_12 : decode cX1_possibleSets 12 = .ok (.iload_n 3, 1) := by decide +kernel
theorem dX1_possibleSets_13 : decode cX1_possibleSets 13 = .ok (.iload_n 2, 1) := by decide +kernel
theorem dX1_possibleSets_14 : decode cX1_possibleSets 14 = .ok (.if_icmp .gt 66, 3) := by decide +kernel
theorem dX1_possibleSets_17 : decode cX1_possibleSets 17 = .ok (.iload_n 3, 1) := by decide +kernel
theorem dX1_possibleSets_18 : decode cX1_possibleSets 18 = .ok (.aload_n 0, 1) := by decide +kernel
theorem dX1_possibleSets_19 : decode cX1_possibleSets 19 = .ok (.getfield 12, 3) := by decide +kernel
theorem dX1_possibleSets_22 : decode cX1_possibleSets 22 = .ok (.getfield 89, 3) := by decide +kernel
theorem dX1_possibleSets_25 : decode cX1_possibleSets 25 = .ok (.iand, 1) := by decide +kernel
theorem dX1_possibleSets_26 : decode cX1_possibleSets 26 = .ok (.ifCond .ne 48, 3) := by decide +kernel
theorem dX1_possibleSets_29 : decode cX1_possibleSets 29 = .ok (.aload_n 0, 1) := by decide +kernel
theorem dX1_possibleSets_30 : decode cX1_possibleSets 30 = .ok (.getfield 30, 3) := by decide +kernel
theorem dX1_possibleSets_33 : decode cX1_possibleSets 33 = .ok (.iload_n 3, 1) := by decide +kernel
theorem dX1_possibleSets_34 : decode cX1_possibleSets 34 = .ok (.aload_n 0, 1) := by decide +kernel
theorem dX1_possibleSets_35 : decode cX1_possibleSets 35 = .ok (.getfield 12, 3) := by decide +kernel
theorem dX1_possibleSets_38 : decode cX1_possibleSets 38 = .ok (.aload_n 0, 1) := by decide +kernel
theorem dX1_possibleSets_39 : decode cX1_possibleSets 39 = .ok (.getfield 12, 3) := by decide +kernel
theorem dX1_possibleSets_42 : decode cX1_possibleSets 42 = .ok (.getfield 89, 3) := by decide +kernel
theorem dX1_possibleSets_45 : decode cX1_possibleSets 45 = .ok (.iload_n 3, 1) := by decide +kernel
theorem dX1_possibleSets_46 : decode cX1_possibleSets 46 = .ok (.ior, 1) := by decide +kernel
theorem dX1_possibleSets_47 : decode cX1_possibleSets 47 = .ok (.invokevirtual 163, 3) := by decide +kernel
theorem dX1_possibleSets_50 : decode cX1_possibleSets 50 = .ok (.iastore, 1) := by decide +kernel
theorem dX1_possibleSets_51 : decode cX1_possibleSets 51 = .ok (.iload_n 1, 1) := by decide +kernel
theorem dX1_possibleSets_52 : decode cX1_possibleSets 52 = .ok (.aload_n 0, 1) := by decide +kernel
theorem dX1_possibleSets_53 : decode cX1_possibleSets 53 = .ok (.aload_n 0, 1) := by decide +kernel
theorem dX1_possibleSets_54 : decode cX1_possibleSets 54 = .ok (.getfield 30, 3) := by decide +kernel
theorem dX1_possibleSets_57 : decode cX1_possibleSets 57 = .ok (.iload_n 3, 1) := by decide +kernel
theorem dX1_possibleSets_58 : decode cX1_possibleSets 58 = .ok (.iaload, 1) := by decide +kernel
theorem dX1_possibleSets_59 : decode cX1_possibleSets 59 = .ok (.invokevirtual 201, 3) := by decide +kernel
theorem dX1_possibleSets_62 : decode cX1_possibleSets 62 = .ok (.ifCond .eq 9, 3) := by decide +kernel
theorem dX1_possibleSets_65 : decode cX1_possibleSets 65 = .ok (.iconst 1, 1) := by decide +kernel
theorem dX1_possibleSets_66 : decode cX1_possibleSets 66 = .ok (.iload_n 3, 1) := by decide +kernel
theorem dX1_possibleSets_67 : decode cX1_possibleSets 67 = .ok (.ishl, 1) := by decide +kernel
theorem dX1_possibleSets_68 : decode cX1_possibleSets 68 = .ok (.goto 4, 3) := by decide +kernel
theorem dX1_possibleSets_71 : decode cX1_possibleSets 71 = .ok (.iconst 0, 1) := by decide +kernel
theorem dX1_possibleSets_72 : decode cX1_possibleSets 72 = .ok (.ior, 1) := by decide +kernel
theorem dX1_possibleSets_73 : decode cX1_possibleSets 73 = .ok (.istore_n 1, 1) := by decide +kernel
theorem dX1_possibleSets_74 : decode cX1_possibleSets 74 = .ok (.iinc 3 1, 3) := by decide +kernel
theorem dX1_possibleSets_77 : decode cX1_possibleSets 77 = .ok (.goto (-65), 3) := by decide +kernel
theorem dX1_possibleSets_80 : decode cX1_possibleSets 80 = .ok (.iload_n 1, 1) := by decide +kernel
theorem dX1_possibleSets_81 : decode cX1_possibleSets 81 = .ok (.ireturn, 1) := by decide +kernel
theorem dX1_agreesWithSeen_0 : decode cX1_agreesWithSeen 0 = .ok (.iconst 0, 1) := by decide +kernel
theorem dX1_agreesWithSeen_1 : decode cX1_agreesWithSeen 1 = .ok (.istore_n 2, 1) := by decide +kernel
theorem dX1_agreesWithSeen_2 : decode cX1_agreesWithSeen 2 = .ok (.iload_n 2, 1) := by decide +kernel
theorem dX1_agreesWithSeen_3 : decode cX1_agreesWithSeen 3 = .ok (.aload_n 0, 1) := by decide +kernel
theorem dX1_agreesWithSeen_4 : decode cX1_agreesWithSeen 4 = .ok (.getfield 43, 3) := by decide +kernel
theorem dX1_agreesWithSeen_7 : decode cX1_agreesWithSeen 7 = .ok (.if_icmp .ge 30, 3) := by decide +kernel
theorem dX1_agreesWithSeen_10 : decode cX1_agreesWithSeen 10 = .ok (.iload_n 1, 1) := by decide +kernel
theorem dX1_agreesWithSeen_11 : decode cX1_agreesWithSeen 11 = .ok (.aload_n 0, 1) := by decide +kernel
theorem dX1_agreesWithSeen_12 : decode cX1_agreesWithSeen 12 = .ok (.getfield 23, 3) := by decide +kernel
theorem dX1_agreesWithSeen_15 : decode cX1_agreesWithSeen 15 = .ok (.iload_n 2, 1) := by decide +kernel
theorem dX1_agreesWithSeen_16 : decode cX1_agreesWithSeen 16 = .ok (.iaload, 1) := by decide +kernel
theorem dX1_agreesWithSeen_17 : decode cX1_agreesWithSeen 17 = .ok (.invokestatic 204, 3) := by decide +kernel
theorem dX1_agreesWithSeen_20 : decode cX1_agreesWithSeen 20 = .ok (.aload_n 0, 1) := by decide +kernel
theorem dX1_agreesWithSeen_21 : decode cX1_agreesWithSeen 21 = .ok (.getfield 27, 3) := by decide +kernel
theorem dX1_agreesWithSeen_24 : decode cX1_agreesWithSeen 24 = .ok (.iload_n 2, 1) := by decide +kernel
theorem dX1_agreesWithSeen_25 : decode cX1_agreesWithSeen 25 = .ok (.iaload, 1) := by decide +kernel
theorem dX1_agreesWithSeen_26 : decode cX1_agreesWithSeen 26 = .ok (.if_icmp .eq 5, 3) := by decide +kernel
theorem dX1_agreesWithSeen_29 : decode cX1_agreesWithSeen 29 = .ok (.iconst 0, 1) := by decide +kernel
theorem dX1_agreesWithSeen_30 : decode cX1_agreesWithSeen 30 = .ok (.ireturn, 1) := by decide +kernel
theorem dX1_agreesWithSeen_31 : decode cX1_agreesWithSeen 31 = .ok (.iinc 2 1, 3) := by decide +kernel
theorem dX1_agreesWithSeen_34 : decode cX1_agreesWithSeen 34 = .ok (.goto (-32), 3) := by decide +kernel
theorem dX1_agreesWithSeen_37 : decode cX1_agreesWithSeen 37 = .ok (.iconst 1, 1) := by decide +kernel
theorem dX1_agreesWithSeen_38 : decode cX1_agreesWithSeen 38 = .ok (.ireturn, 1) := by decide +kernel
theorem dX1_mostAlike_0 : decode cX1_mostAlike 0 = .ok (.aload_n 0, 1) := by decide +kernel
theorem dX1_mostAlike_1 : decode cX1_mostAlike 1 = .ok (.getfield 33, 3) := by decide +kernel
theorem dX1_mostAlike_4 : decode cX1_mostAlike 4 = .ok (.iconst 0, 1) := by decide +kernel
theorem dX1_mostAlike_5 : decode cX1_mostAlike 5 = .ok (.invokestatic 207, 3) := by decide +kernel
theorem dX1_mostAlike_8 : decode cX1_mostAlike 8 = .ok (.iconst 0, 1) := by decide +kernel
theorem dX1_mostAlike_9 : decode cX1_mostAlike 9 = .ok (.istore_n 3, 1) := by decide +kernel
theorem dX1_mostAlike_10 : decode cX1_mostAlike 10 = .ok (.aload_n 0, 1) := by decide +kernel
theorem dX1_mostAlike_11 : decode cX1_mostAlike 11 = .ok (.getfield 12, 3) := by decide +kernel
theorem dX1_mostAlike_14 : decode cX1_mostAlike 14 = .ok (.invokevirtual 160, 3) := by decide +kernel
theorem dX1_mostAlike_17 : decode cX1_mostAlike 17 = .ok (.istore 4, 2) := by decide +kernel
theorem dX1_mostAlike_19 : decode cX1_mostAlike 19 = .ok (.iconst 1, 1) := by decide +kernel
theorem dX1_mostAlike_20 : decode cX1_mostAlike 20 = .ok (.istore 5, 2) := by decide +kernel
theorem dX1_mostAlike_22 : decode cX1_mostAlike 22 = .ok (.iload 5, 2) := by decide +kernel
theorem dX1_mostAlike_24 : decode cX1_mostAlike 24 = .ok (.iload 4, 2) := by decide +kernel
theorem dX1_mostAlike_26 : decode cX1_mostAlike 26 = .ok (.if_icmp .gt 54, 3) := by decide +kernel
theorem dX1_mostAlike_29 : decode cX1_mostAlike 29 = .ok (.iload_n 1, 1) := by decide +kernel
theorem dX1_mostAlike_30 : decode cX1_mostAlike 30 = .ok (.iload 5, 2) := by decide +kernel
theorem dX1_mostAlike_32 : decode cX1_mostAlike 32 = .ok (.ishr, 1) := by decide +kernel
theorem dX1_mostAlike_33 : decode cX1_mostAlike 33 = .ok (.iconst 1, 1) := by decide +kernel
theorem dX1_mostAlike_34 : decode cX1_mostAlike 34 = .ok (.iand, 1) := by decide +kernel
theorem dX1_mostAlike_35 : decode cX1_mostAlike 35 = .ok (.ifCond .eq 39, 3) := by decide +kernel
theorem dX1_mostAlike_38 : decode cX1_mostAlike 38 = .ok (.aload_n 0, 1) := by decide +kernel
theorem dX1_mostAlike_39 : decode cX1_mostAlike 39 = .ok (.getfield 30, 3) := by decide +kernel
theorem dX1_mostAlike_42 : decode cX1_mostAlike 42 = .ok (.iload 5, 2) := by decide +kernel
theorem dX1_mostAlike_44 : decode cX1_mostAlike 44 = .ok (.iaload, 1) := by decide +kernel
theorem dX1_mostAlike_45 : decode cX1_mostAlike 45 = .ok (.iload_n 2, 1) := by decide +kernel
theorem dX1_mostAlike_46 : decode cX1_mostAlike 46 = .ok (.invokestatic 204, 3) := by decide +kernel
theorem dX1_mostAlike_49 : decode cX1_mostAlike 49 = .ok (.istore 6, 2) := by decide +kernel
theorem dX1_mostAlike_51 : decode cX1_mostAlike 51 = .ok (.aload_n 0, 1) := by decide +kernel
theorem dX1_mostAlike_52 : decode cX1_mostAlike 52 = .ok (.getfield 33, 3) := by decide +kernel
theorem dX1_mostAlike_55 : decode cX1_mostAlike 55 = .ok (.iload 6, 2) := by decide +kernel
theorem dX1_mostAlike_57 : decode cX1_mostAlike 57 = .ok (.dup2, 1) := by decide +kernel
theorem dX1_mostAlike_58 : decode cX1_mostAlike 58 = .ok (.iaload, 1) := by decide +kernel
theorem dX1_mostAlike_59 : decode cX1_mostAlike 59 = .ok (.iconst 1, 1) := by decide +kernel
theorem dX1_mostAlike_60 : decode cX1_mostAlike 60 = .ok (.iadd, 1) := by decide +kernel
theorem dX1_mostAlike_61 : decode cX1_mostAlike 61 = .ok (.iastore, 1) := by decide +kernel
theorem dX1_mostAlike_62 : decode cX1_mostAlike 62 = .ok (.iload_n 3, 1) := by decide +kernel
theorem dX1_mostAlike_63 : decode cX1_mostAlike 63 = .ok (.aload_n 0, 1) := by decide +kernel
theorem dX1_mostAlike_64 : decode cX1_mostAlike 64 = .ok (.getfield 33, 3) := by decide +kernel
theorem dX1_mostAlike_67 : decode cX1_mostAlike 67 = .ok (.iload 6, 2) := by decide +kernel
theorem dX1_mostAlike_69 : decode cX1_mostAlike 69 = .ok (.iaload, 1) := by decide +kernel
theorem dX1_mostAlike_70 : decode cX1_mostAlike 70 = .ok (.invokestatic 172, 3) := by decide +kernel
theorem dX1_mostAlike_73 : decode cX1_mostAlike 73 = .ok (.istore_n 3, 1) := by decide +kernel
theorem dX1_mostAlike_74 : decode cX1_mostAlike 74 = .ok (.iinc 5 1, 3) := by decide +kernel
theorem dX1_mostAlike_77 : decode cX1_mostAlike 77 = .ok (.goto (-55), 3) := by decide +kernel
theorem dX1_mostAlike_80 : decode cX1_mostAlike 80 = .ok (.iload_n 3, 1) := by decide +kernel
theorem dX1_mostAlike_81 : decode cX1_mostAlike 81 = .ok (.ireturn, 1) := by decide +kernel
theorem dX1_numberAt_0 : decode cX1_numberAt 0 = .ok (.iconst 0, 1) := by decide +kernel
theorem dX1_numberAt_1 : decode cX1_numberAt 1 = .ok (.istore_n 2, 1) := by decide +kernel
theorem dX1_numberAt_2 : decode cX1_numberAt 2 = .ok (.iconst 0, 1) := by decide +kernel
theorem dX1_numberAt_3 : decode cX1_numberAt 3 = .ok (.istore_n 3, 1) := by decide +kernel
theorem dX1_numberAt_4 : decode cX1_numberAt 4 = .ok (.iload_n 3, 1) := by decide +kernel
theorem dX1_numberAt_5 : decode cX1_numberAt 5 = .ok (.bipush 32, 2) := by decide +kernel
theorem dX1_numberAt_7 : decode cX1_numberAt 7 = .ok (.if_icmp .ge 27, 3) := by decide +kernel
theorem dX1_numberAt_10 : decode cX1_numberAt 10 = .ok (.iload_n 0, 1) := by decide +kernel
theorem dX1_numberAt_11 : decode cX1_numberAt 11 = .ok (.iload_n 3, 1) := by decide +kernel
theorem dX1_numberAt_12 : decode cX1_numberAt 12 = .ok (.iushr, 1) := by decide +kernel
theorem dX1_numberAt_13 : decode cX1_numberAt 13 = .ok (.iconst 1, 1) := by decide +kernel
theorem dX1_numberAt_14 : decode cX1_numberAt 14 = .ok (.iand, 1) := by decide +kernel
theorem dX1_numberAt_15 : decode cX1_numberAt 15 = .ok (.ifCond .eq 13, 3) := by decide +kernel
theorem dX1_numberAt_18 : decode cX1_numberAt 18 = .ok (.iload_n 2, 1) := by decide +kernel
theorem dX1_numberAt_19 : decode cX1_numberAt 19 = .ok (.iload_n 1, 1) := by decide +kernel
theorem dX1_numberAt_20 : decode cX1_numberAt 20 = .ok (.if_icmp .ne 5, 3) := by decide +kernel
theorem dX1_numberAt_23 : decode cX1_numberAt 23 = .ok (.iload_n 3, 1) := by decide +kernel
theorem dX1_numberAt_24 : decode cX1_numberAt 24 = .ok (.ireturn, 1) := by decide +kernel
theorem dX1_numberAt_25 : decode cX1_numberAt 25 = .ok (.iinc 2 1, 3) := by decide +kernel
theorem dX1_numberAt_28 : decode cX1_numberAt 28 = .ok (.iinc 3 1, 3) := by decide +kernel
theorem dX1_numberAt_31 : decode cX1_numberAt 31 = .ok (.goto (-27), 3) := by decide +kernel
theorem dX1_numberAt_34 : decode cX1_numberAt 34 = .ok (.bipush (-9), 2) := by decide +kernel
theorem dX1_numberAt_36 : decode cX1_numberAt 36 = .ok (.ireturn, 1) := by decide +kernel
