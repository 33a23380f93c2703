theorem dJ6_bitCount_0f7a4_0 : decode cJ6_bitCount_0f7a4 0 = .ok (.iload_n 0, 1) := by decide +kernel
theorem dJ6_bitCount_0f7a4_1 : decode cJ6_bitCount_0f7a4 1 = .ok (.iload_n 0, 1) := by decide +kernel
theorem dJ6_bitCount_0f7a4_2 : decode cJ6_bitCount_0f7a4 2 = .ok (.iconst 1, 1) := by decide +kernel
theorem dJ6_bitCount_0f7a4_3 : decode cJ6_bitCount_0f7a4 3 = .ok (.iushr, 1) := by decide +kernel
theorem dJ6_bitCount_0f7a4_4 : decode cJ6_bitCount_0f7a4 4 = .ok (.ldc_w 265, 3) := by decide +kernel
theorem dJ6_bitCount_0f7a4_7 : decode cJ6_bitCount_0f7a4 7 = .ok (.iand, 1) := by decide +kernel
theorem dJ6_bitCount_0f7a4_8 : decode cJ6_bitCount_0f7a4 8 = .ok (.isub, 1) := by decide +kernel
theorem dJ6_bitCount_0f7a4_9 : decode cJ6_bitCount_0f7a4 9 = .ok (.istore_n 0, 1) := by decide +kernel
theorem dJ6_bitCount_0f7a4_10 : decode cJ6_bitCount_0f7a4 10 = .ok (.iload_n 0, 1) := by decide +kernel
theorem dJ6_bitCount_0f7a4_11 : decode cJ6_bitCount_0f7a4 11 = .ok (.ldc_w 266, 3) := by decide +kernel
theorem dJ6_bitCount_0f7a4_14 : decode cJ6_bitCount_0f7a4 14 = .ok (.iand, 1) := by decide +kernel
theorem dJ6_bitCount_0f7a4_15 : decode cJ6_bitCount_0f7a4 15 = .ok (.iload_n 0, 1) := by decide +kernel
theorem dJ6_bitCount_0f7a4_16 : decode cJ6_bitCount_0f7a4 16 = .ok (.iconst 2, 1) := by decide +kernel
theorem dJ6_bitCount_0f7a4_17 : decode cJ6_bitCount_0f7a4 17 = .ok (.iushr, 1) := by decide +kernel
theorem dJ6_bitCount_0f7a4_18 : decode cJ6_bitCount_0f7a4 18 = .ok (.ldc_w 266, 3) := by decide +kernel
theorem dJ6_bitCount_0f7a4_21 : decode cJ6_bitCount_0f7a4 21 = .ok (.iand, 1) := by decide +kernel
theorem dJ6_bitCount_0f7a4_22 : decode cJ6_bitCount_0f7a4 22 = .ok (.iadd, 1) := by decide +kernel
theorem dJ6_bitCount_0f7a4_23 : decode cJ6_bitCount_0f7a4 23 = .ok (.istore_n 0, 1) := by decide +kernel
theorem dJ6_bitCount_0f7a4_24 : decode cJ6_bitCount_0f7a4 24 = .ok (.iload_n 0, 1) := by decide +kernel
theorem dJ6_bitCount_0f7a4_25 : decode cJ6_bitCount_0f7a4 25 = .ok (.iload_n 0, 1) := by decide +kernel
theorem dJ6_bitCount_0f7a4_26 : decode cJ6_bitCount_0f7a4 26 = .ok (.iconst 4, 1) := by decide +kernel
theorem dJ6_bitCount_0f7a4_27 : decode cJ6_bitCount_0f7a4 27 = .ok (.iushr, 1) := by decide +kernel
theorem dJ6_bitCount_0f7a4_28 : decode cJ6_bitCount_0f7a4 28 = .ok (.iadd, 1) := by decide +kernel
theorem dJ6_bitCount_0f7a4_29 : decode cJ6_bitCount_0f7a4 29 = .ok (.ldc_w 267, 3) := by decide +kernel
theorem dJ6_bitCount_0f7a4_32 : decode cJ6_bitCount_0f7a4 32 = .ok (.iand, 1) := by decide +kernel
theorem dJ6_bitCount_0f7a4_33 : decode cJ6_bitCount_0f7a4 33 = .ok (.istore_n 0, 1) := by decide +kernel
theorem dJ6_bitCount_0f7a4_34 : decode cJ6_bitCount_0f7a4 34 = .ok (.iload_n 0, 1) := by decide +kernel
theorem dJ6_bitCount_0f7a4_35 : decode cJ6_bitCount_0f7a4 35 = .ok (.iload_n 0, 1) := by decide +kernel
theorem dJ6_bitCount_0f7a4_36 : decode cJ6_bitCount_0f7a4 36 = .ok (.bipush 8, 2) := by decide +kernel
theorem dJ6_bitCount_0f7a4_38 : decode cJ6_bitCount_0f7a4 38 = .ok (.iushr, 1) := by decide +kernel
theorem dJ6_bitCount_0f7a4_39 : decode cJ6_bitCount_0f7a4 39 = .ok (.iadd, 1) := by decide +kernel
theorem dJ6_bitCount_0f7a4_40 : decode cJ6_bitCount_0f7a4 40 = .ok (.istore_n 0, 1) := by decide +kernel
theorem dJ6_bitCount_0f7a4_41 : decode cJ6_bitCount_0f7a4 41 = .ok (.iload_n 0, 1) := by decide +kernel
theorem dJ6_bitCount_0f7a4_42 : decode cJ6_bitCount_0f7a4 42 = .ok (.iload_n 0, 1) := by decide +kernel
theorem dJ6_bitCount_0f7a4_43 : decode cJ6_bitCount_0f7a4 43 = .ok (.bipush 16, 2) := by decide +kernel
theorem dJ6_bitCount_0f7a4_45 : decode cJ6_bitCount_0f7a4 45 = .ok (.iushr, 1) := by decide +kernel
theorem dJ6_bitCount_0f7a4_46 : decode cJ6_bitCount_0f7a4 46 = .ok (.iadd, 1) := by decide +kernel
theorem dJ6_bitCount_0f7a4_47 : decode cJ6_bitCount_0f7a4 47 = .ok (.istore_n 0, 1) := by decide +kernel
theorem dJ6_bitCount_0f7a4_48 : decode cJ6_bitCount_0f7a4 48 = .ok (.iload_n 0, 1) := by decide +kernel
theorem dJ6_bitCount_0f7a4_49 : decode cJ6_bitCount_0f7a4 49 = .ok (.bipush 63, 2) := by decide +kernel
theorem dJ6_bitCount_0f7a4_51 : decode cJ6_bitCount_0f7a4 51 = .ok (.iand, 1) := by decide +kernel
theorem dJ6_bitCount_0f7a4_52 : decode cJ6_bitCount_0f7a4 52 = .ok (.ireturn, 1) := by decide +kernel
theorem dJ9_max_7cf53_0 : decode cJ9_max_7cf53 0 = .ok (.iload_n 0, 1) := by decide +kernel
theorem dJ9_max_7cf53_1 : decode cJ9_max_7cf53 1 = .ok (.iload_n 1, 1) := by decide +kernel
theorem dJ9_max_7cf53_2 : decode cJ9_max_7cf53 2 = .ok (.if_icmp .lt 7, 3) := by decide +kernel
theorem dJ9_max_7cf53_5 : decode cJ9_max_7cf53 5 = .ok (.iload_n 0, 1) := by decide +kernel
theorem dJ9_max_7cf53_6 : decode cJ9_max_7cf53 6 = .ok (.goto 4, 3) := by decide +kernel
theorem dJ9_max_7cf53_9 : decode cJ9_max_7cf53 9 = .ok (.iload_n 1, 1) := by decide +kernel
theorem dJ9_max_7cf53_10 : decode cJ9_max_7cf53 10 = .ok (.ireturn, 1) := by decide +kernel
theorem dJ9_min_7cf53_0 : decode cJ9_min_7cf53 0 = .ok (.iload_n 0, 1) := by decide +kernel
theorem dJ9_min_7cf53_1 : decode cJ9_min_7cf53 1 = .ok (.iload_n 1, 1) := by decide +kernel
theorem dJ9_min_7cf53_2 : decode cJ9_min_7cf53 2 = .ok (.if_icmp .gt 7, 3) := by decide +kernel
theorem dJ9_min_7cf53_5 : decode cJ9_min_7cf53 5 = .ok (.iload_n 0, 1) := by decide +kernel
theorem dJ9_min_7cf53_6 : decode cJ9_min_7cf53 6 = .ok (.goto 4, 3) := by decide +kernel
theorem dJ9_min_7cf53_9 : decode cJ9_min_7cf53 9 = .ok (.iload_n 1, 1) := by decide +kernel
theorem dJ9_min_7cf53_10 : decode cJ9_min_7cf53 10 = .ok (.ireturn, 1) := by decide +kernel
theorem dJ7_fill_53178_0 : decode cJ7_fill_53178 0 = .ok (.iconst 0, 1) := by decide +kernel
theorem dJ7_fill_53178_1 : decode cJ7_fill_53178 1 = .ok (.istore_n 2, 1) := by decide +kernel
theorem dJ7_fill_53178_2 : decode cJ7_fill_53178 2 = .ok (.aload_n 0, 1) := by decide +kernel
theorem dJ7_fill_53178_3 : decode cJ7_fill_53178 3 = .ok (.arraylength, 1) := by decide +kernel
theorem dJ7_fill_53178_4 : decode cJ7_fill_53178 4 = .ok (.istore_n 3, 1) := by decide +kernel
theorem dJ7_fill_53178_5 : decode cJ7_fill_53178 5 = .ok (.iload_n 2, 1) := by decide +kernel
theorem dJ7_fill_53178_6 : decode cJ7_fill_53178 6 = .ok (.iload_n 3, 1) := by decide +kernel
theorem dJ7_fill_53178_7 : decode cJ7_fill_53178 7 = .ok (.if_icmp .ge 13, 3) := by decide +kernel
theorem dJ7_fill_53178_10 : decode cJ7_fill_53178 10 = .ok (.aload_n 0, 1) := by decide +kernel
theorem dJ7_fill_53178_11 : decode cJ7_fill_53178 11 = .ok (.iload_n 2, 1) := by decide +kernel
theorem dJ7_fill_53178_12 : decode cJ7_fill_53178 12 = .ok (.iload_n 1, 1) := by decide +kernel
theorem dJ7_fill_53178_13 : decode cJ7_fill_53178 13 = .ok (.iastore, 1) := by decide +kernel
theorem dJ7_fill_53178_14 : decode cJ7_fill_53178 14 = .ok (.iinc 2 1, 3) := by decide +kernel
theorem dJ7_fill_53178_17 : decode cJ7_fill_53178 17 = .ok (.goto (-12), 3) := by decide +kernel
theorem dJ7_fill_53178_20 : decode cJ7_fill_53178 20 = .ok (.return_, 1) := by decide +kernel
theorem dX0_init_0 : decode cX0_init 0 = .ok (.aload_n 0, 1) := by decide +kernel
theorem dX0_init_1 : decode cX0_init 1 = .ok (.invokespecial 3, 3) := by decide +kernel
theorem dX0_init_4 : decode cX0_init 4 = .ok (.aload_n 0, 1) := by decide +kernel
theorem dX0_init_5 : decode cX0_init 5 = .ok (.iconst 4, 1) := by decide +kernel
theorem dX0_init_6 : decode cX0_init 6 = .ok (.newarray .int, 2) := by decide +kernel
theorem dX0_init_8 : decode cX0_init 8 = .ok (.putfield 9, 3) := by decide +kernel
theorem dX0_init_11 : decode cX0_init 11 = .ok (.aload_n 0, 1) := by decide +kernel
theorem dX0_init_12 : decode cX0_init 12 = .ok (.bipush 32, 2) := by decide +kernel
theorem dX0_init_14 : decode cX0_init 14 = .ok (.newarray .int, 2) := by decide +kernel
theorem dX0_init_16 : decode cX0_init 16 = .ok (.putfield 15, 3) := by decide +kernel
theorem dX0_init_19 : decode cX0_init 19 = .ok (.aload_n 0, 1) := by decide +kernel
theorem dX0_init_20 : decode cX0_init 20 = .ok (.bipush 32, 2) := by decide +kernel
theorem dX0_init_22 : decode cX0_init 22 = .ok (.newarray .int, 2) := by decide +kernel
theorem dX0_init_24 : decode cX0_init 24 = .ok (.putfield 18, 3) := by decide +kernel
theorem dX0_init_27 : decode cX0_init 27 = .ok (.aload_n 0, 1) := by decide +kernel
theorem dX0_init_28 : decode cX0_init 28 = .ok (.bipush 32, 2) := by decide +kernel
theorem dX0_init_30 : decode cX0_init 30 = .ok (.newarray .int, 2) := by decide +kernel
theorem dX0_init_32 : decode cX0_init 32 = .ok (.putfield 21, 3) := by decide +kernel
theorem dX0_init_35 : decode cX0_init 35 = .ok (.aload_n 0, 1) := by decide +kernel
theorem dX0_init_36 : decode cX0_init 36 = .ok (.bipush 32, 2) := by decide +kernel
theorem dX0_init_38 : decode cX0_init 38 = .ok (.newarray .int, 2) := by decide +kernel
theorem dX0_init_40 : decode cX0_init 40 = .ok (.putfield 24, 3) := by decide +kernel
theorem dX0_init_43 : decode cX0_init 43 = .ok (.aload_n 0, 1) := by decide +kernel
theorem dX0_init_44 : decode cX0_init 44 = .ok (.bipush 20, 2) := by decide +kernel
theorem dX0_init_46 : decode cX0_init 46 = .ok (.newarray .int, 2) := by decide +kernel
theorem dX0_init_48 : decode cX0_init 48 = .ok (.putfield 27, 3) := by decide +kernel
theorem dX0_init_51 : decode cX0_init 51 = .ok (.aload_n 0, 1) := by decide +kernel
theorem dX0_init_52 : decode cX0_init 52 = .ok (.sipush 160, 3) := by decide +kernel
theorem dX0_init_55 : decode cX0_init 55 = .ok (.newarray .int, 2) := by decide +kernel
theorem dX0_init_57 : decode cX0_init 57 = .ok (.putfield 30, 3) := by decide +kernel
theorem dX0_init_60 : decode cX0_init 60 = .ok (.aload_n 0, 1) := by decide +kernel
theorem dX0_init_61 : decode cX0_init 61 = .ok (.sipush 160, 3) := by decide +kernel
theorem dX0_init_64 : decode cX0_init 64 = .ok (.newarray .int, 2) := by decide +kernel
theorem dX0_init_66 : decode cX0_init 66 = .ok (.putfield 33, 3) := by decide +kernel
theorem dX0_init_69 : decode cX0_init 69 = .ok (.aload_n 0, 1) := by decide +kernel
theorem dX0_init_70 : decode cX0_init 70 = .ok (.sipush 160, 3) := by decide +kernel
theorem dX0_init_73 : decode cX0_init 73 = .ok (.newarray .int, 2) := by decide +kernel
theorem dX0_init_75 : decode cX0_init 75 = .ok (.putfield 36, 3) := by decide +kernel
theorem dX0_init_78 : decode cX0_init 78 = .ok (.aload_n 0, 1) := by decide +kernel
theorem dX0_init_79 : decode cX0_init 79 = .ok (.sipush 640, 3) := by decide +kernel
theorem dX0_init_82 : decode cX0_init 82 = .ok (.newarray .int, 2) := by decide +kernel
theorem dX0_init_84 : decode cX0_init 84 = .ok (.putfield 39, 3) := by decide +kernel
theorem dX0_init_87 : decode cX0_init 87 = .ok (.aload_n 0, 1) := by decide +kernel
theorem dX0_init_88 : decode cX0_init 88 = .ok (.bipush 16, 2) := by decide +kernel
theorem dX0_init_90 : decode cX0_init 90 = .ok (.newarray .int, 2) := by decide +kernel
theorem dX0_init_92 : decode cX0_init 92 = .ok (.putfield 42, 3) := by decide +kernel
theorem dX0_init_95 : decode cX0_init 95 = .ok (.aload_n 0, 1) := by decide +kernel
theorem dX0_init_96 : decode cX0_init 96 = .ok (.iconst 3, 1) := by decide +kernel
theorem dX0_init_97 : decode cX0_init 97 = .ok (.iconst 2, 1) := by decide +kernel
theorem dX0_init_98 : decode cX0_init 98 = .ok (.invokevirtual 45, 3) := by decide +kernel
theorem dX0_init_101 : decode cX0_init 101 = .ok (.return_, 1) := by decide +kernel
theorem dX0_start_0 : decode cX0_start 0 = .ok (.aload_n 0, 1) := by decide +kernel
theorem dX0_start_1 : decode cX0_start 1 = .ok (.iload_n 1, 1) := by decide +kernel
theorem dX0_start_2 : decode cX0_start 2 = .ok (.putfield 49, 3) := by decide +kernel
theorem dX0_start_5 : decode cX0_start 5 = .ok (.aload_n 0, 1) := by decide +kernel
theorem dX0_start_6 : decode cX0_start 6 = .ok (.iload_n 2, 1) := by decide +kernel
theorem dX0_start_7 : decode cX0_start 7 = .ok (.putfield 53, 3) := by decide +kernel
theorem dX0_start_10 : decode cX0_start 10 = .ok (.aload_n 0, 1) := by decide +kernel
theorem dX0_start_11 : decode cX0_start 11 = .ok (.iconst 0, 1) := by decide +kernel
theorem dX0_start_12 : decode cX0_start 12 = .ok (.putfield 56, 3) := by decide +kernel
theorem dX0_start_15 : decode cX0_start 15 = .ok (.aload_n 0, 1) := by decide +kernel
theorem dX0_start_16 : decode cX0_start 16 = .ok (.getfield 9, 3) := by decide +kernel
theorem dX0_start_19 : decode cX0_start 19 = .ok (.iconst 0, 1) := by decide +kernel
theorem dX0_start_20 : decode cX0_start 20 = .ok (.invokestatic 59, 3) := by decide +kernel
theorem dX0_start_23 : decode cX0_start 23 = .ok (.aload_n 0, 1) := by decide +kernel
theorem dX0_start_24 : decode cX0_start 24 = .ok (.getfield 27, 3) := by decide +kernel
theorem dX0_start_27 : decode cX0_start 27 = .ok (.iconst 0, 1) := by decide +kernel
theorem dX0_start_28 : decode cX0_start 28 = .ok (.invokestatic 59, 3) := by decide +kernel
theorem dX0_start_31 : decode cX0_start 31 = .ok (.aload_n 0, 1) := by decide +kernel
theorem dX0_start_32 : decode cX0_start 32 = .ok (.getfield 42, 3) := by decide +kernel
theorem dX0_start_35 : decode cX0_start 35 = .ok (.iconst 0, 1) := by decide +kernel
theorem dX0_start_36 : decode cX0_start 36 = .ok (.invokestatic 59, 3) := by decide +kernel
theorem dX0_start_39 : decode cX0_start 39 = .ok (.return_, 1) := by decide +kernel
theorem dX0_become_0 : decode cX0_become 0 = .ok (.aload_n 0, 1) := by decide +kernel
theorem dX0_become_1 : decode cX0_become 1 = .ok (.aload_n 1, 1) := by decide +kernel
theorem dX0_become_2 : decode cX0_become 2 = .ok (.getfield 49, 3) := by decide +kernel
theorem dX0_become_5 : decode cX0_become 5 = .ok (.putfield 49, 3) := by decide +kernel
theorem dX0_become_8 : decode cX0_become 8 = .ok (.aload_n 0, 1) := by decide +kernel
theorem dX0_become_9 : decode cX0_become 9 = .ok (.aload_n 1, 1) := by decide +kernel
theorem dX0_become_10 : decode cX0_become 10 = .ok (.getfield 53, 3) := by decide +kernel
theorem dX0_become_13 : decode cX0_become 13 = .ok (.putfield 53, 3) := by decide +kernel
theorem dX0_become_16 : decode cX0_become 16 = .ok (.aload_n 0, 1) := by decide +kernel
theorem dX0_become_17 : decode cX0_become 17 = .ok (.aload_n 1, 1) := by decide +kernel
theorem dX0_become_18 : decode cX0_become 18 = .ok (.getfield 56, 3) := by decide +kernel
theorem dX0_become_21 : decode cX0_become 21 = .ok (.putfield 56, 3) := by decide +kernel
theorem dX0_become_24 : decode cX0_become 24 = .ok (.aload_n 1, 1) := by decide +kernel
theorem dX0_become_25 : decode cX0_become 25 = .ok (.getfield 9, 3) := by decide +kernel
theorem dX0_become_28 : decode cX0_become 28 = .ok (.iconst 0, 1) := by decide +kernel
theorem dX0_become_29 : decode cX0_become 29 = .ok (.aload_n 0, 1) := by decide +kernel
theorem dX0_become_30 : decode cX0_become 30 = .ok (.getfield 9, 3) := by decide +kernel
theorem dX0_become_33 : decode cX0_become 33 = .ok (.iconst 0, 1) := by decide +kernel
theorem dX0_become_34 : decode cX0_become 34 = .ok (.iconst 4, 1) := by decide +kernel
theorem dX0_become_35 : decode cX0_become 35 = .ok (.invokestatic 65, 3) := by decide +kernel
theorem dX0_become_38 : decode cX0_become 38 = .ok (.aload_n 1, 1) := by decide +kernel
theorem dX0_become_39 : decode cX0_become 39 = .ok (.getfield 15, 3) := by decide +kernel
theorem dX0_become_42 : decode cX0_become 42 = .ok (.iconst 0, 1) := by decide +kernel
theorem dX0_become_43 : decode cX0_become 43 = .ok (.aload_n 0, 1) := by decide +kernel
theorem dX0_become_44 : decode cX0_become 44 = .ok (.getfield 15, 3) := by decide +kernel
theorem dX0_become_47 : decode cX0_become 47 = .ok (.iconst 0, 1) := by decide +kernel
theorem dX0_become_48 : decode cX0_become 48 = .ok (.bipush 32, 2) := by decide +kernel
theorem dX0_become_50 : decode cX0_become 50 = .ok (.invokestatic 65, 3) := by decide +kernel
theorem dX0_become_53 : decode cX0_become 53 = .ok (.aload_n 1, 1) := by decide +kernel
theorem dX0_become_54 : decode cX0_become 54 = .ok (.getfield 18, 3) := by decide +kernel
theorem dX0_become_57 : decode cX0_become 57 = .ok (.iconst 0, 1) := by decide +kernel
theorem dX0_become_58 : decode cX0_become 58 = .ok (.aload_n 0, 1) := by decide +kernel
theorem dX0_become_59 : decode cX0_become 59 = .ok (.getfield 18, 3) := by decide +kernel
theorem dX0_become_62 : decode cX0_become 62 = .ok (.iconst 0, 1) := by decide +kernel
theorem dX0_become_63 : decode cX0_become 63 = .ok (.bipush 32, 2) := by decide +kernel
theorem dX0_become_65 : decode cX0_become 65 = .ok (.invokestatic 65, 3) := by decide +kernel
theorem dX0_become_68 : decode cX0_become 68 = .ok (.aload_n 1, 1) := by decide +kernel
theorem dX0_become_69 : decode cX0_become 69 = .ok (.getfield 21, 3) := by decide +kernel
theorem dX0_become_72 : decode cX0_become 72 = .ok (.iconst 0, 1) := by decide +kernel
theorem dX0_become_73 : decode cX0_become 73 = .ok (.aload_n 0, 1) := by decide +kernel
theorem dX0_become_74 : decode cX0_become 74 = .ok (.getfield 21, 3) := by decide +kernel
theorem dX0_become_77 : decode cX0_become 77 = .ok (.iconst 0, 1) := by decide +kernel
theorem dX0_become_78 : decode cX0_become 78 = .ok (.bipush 32, 2) := by decide +kernel
theorem dX0_become_80 : decode cX0_become 80 = .ok (.invokestatic 65, 3) := by decide +kernel
theorem dX0_become_83 : decode cX0_become 83 = .ok (.aload_n 1, 1) := by decide +kernel
theorem dX0_become_84 : decode cX0_become 84 = .ok (.getfield 24, 3) := by decide +kernel
theorem dX0_become_87 : decode cX0_become 87 = .ok (.iconst 0, 1) := by decide +kernel
theorem dX0_become_88 : decode cX0_become 88 = .ok (.aload_n 0, 1) := by decide +kernel
theorem dX0_become_89 : decode cX0_become 89 = .ok (.getfield 24, 3) := by decide +kernel
theorem dX0_become_92 : decode cX0_become 92 = .ok (.iconst 0, 1) := by decide +kernel
theorem dX0_become_93 : decode cX0_become 93 = .ok (.bipush 32, 2) := by decide +kernel
theorem dX0_become_95 : decode cX0_become 95 = .ok (.invokestatic 65, 3) := by decide +kernel
theorem dX0_become_98 : decode cX0_become 98 = .ok (.aload_n 1, 1) := by decide +kernel
theorem dX0_become_99 : decode cX0_become 99 = .ok (.getfield 27, 3) := by decide +kernel
theorem dX0_become_102 : decode cX0_become 102 = .ok (.iconst 0, 1) := by decide +kernel
theorem dX0_become_103 : decode cX0_become 103 = .ok (.aload_n 0, 1) := by decide +kernel
theorem dX0_become_104 : decode cX0_become 104 = .ok (.getfield 27, 3) := by decide +kernel
theorem dX0_become_107 : decode cX0_become 107 = .ok (.iconst 0, 1) := by decide +kernel
theorem dX0_become_108 : decode cX0_become 108 = .ok (.bipush 20, 2) := by decide +kernel
theorem dX0_become_110 : decode cX0_become 110 = .ok (.invokestatic 65, 3) := by decide +kernel
theorem dX0_become_113 : decode cX0_become 113 = .ok (.aload_n 1, 1) := by decide +kernel
theorem dX0_become_114 : decode cX0_become 114 = .ok (.getfield 30, 3) := by decide +kernel
theorem dX0_become_117 : decode cX0_become 117 = .ok (.iconst 0, 1) := by decide +kernel
theorem dX0_become_118 : decode cX0_become 118 = .ok (.aload_n 0, 1) := by decide +kernel
theorem dX0_become_119 : decode cX0_become 119 = .ok (.getfield 30, 3) := by decide +kernel
theorem dX0_become_122 : decode cX0_become 122 = .ok (.iconst 0, 1) := by decide +kernel
theorem dX0_become_123 : decode cX0_become 123 = .ok (.sipush 160, 3) := by decide +kernel
theorem dX0_become_126 : decode cX0_become 126 = .ok (.invokestatic 65, 3) := by decide +kernel
theorem dX0_become_129 : decode cX0_become 129 = .ok (.aload_n 1, 1) := by decide +kernel
theorem dX0_become_130 : decode cX0_become 130 = .ok (.getfield 33, 3) := by decide +kernel
theorem dX0_become_133 : decode cX0_become 133 = .ok (.iconst 0, 1) := by decide +kernel
theorem dX0_become_134 : decode cX0_become 134 = .ok (.aload_n 0, 1) := by decide +kernel
theorem dX0_become_135 : decode cX0_become 135 = .ok (.getfield 33, 3) := by decide +kernel
theorem dX0_become_138 : decode cX0_become 138 = .ok (.iconst 0, 1) := by decide +kernel
theorem dX0_become_139 : decode cX0_become 139 = .ok (.sipush 160, 3) := by decide +kernel
theorem dX0_become_142 : decode cX0_become 142 = .ok (.invokestatic 65, 3) := by decide +kernel
theorem dX0_become_145 : decode cX0_become 145 = .ok (.aload_n 1, 1) := by decide +kernel
theorem dX0_become_146 : decode cX0_become 146 = .ok (.getfield 36, 3) := by decide +kernel
theorem dX0_become_149 : decode cX0_become 149 = .ok (.iconst 0, 1) := by decide +kernel
theorem dX0_become_150 : decode cX0_become 150 = .ok (.aload_n 0, 1) := by decide +kernel
theorem dX0_become_151 : decode cX0_become 151 = .ok (.getfield 36, 3) := by decide +kernel
theorem dX0_become_154 : decode cX0_become 154 = .ok (.iconst 0, 1) := by decide +kernel
theorem dX0_become_155 : decode cX0_become 155 = .ok (.sipush 160, 3) := by decide +kernel
theorem dX0_become_158 : decode cX0_become 158 = .ok (.invokestatic 65, 3) := by decide +kernel
theorem dX0_become_161 : decode cX0_become 161 = .ok (.aload_n 1, 1) := by decide +kernel
theorem dX0_become_162 : decode cX0_become 162 = .ok (.getfield 39, 3) := by decide +kernel
theorem dX0_become_165 : decode cX0_become 165 = .ok (.iconst 0, 1) := by decide +kernel
theorem dX0_become_166 : decode cX0_become 166 = .ok (.aload_n 0, 1) := by decide +kernel
theorem dX0_become_167 : decode cX0_become 167 = .ok (.getfield 39, 3) := by decide +kernel
theorem dX0_become_170 : decode cX0_become 170 = .ok (.iconst 0, 1) := by decide +kernel
theorem dX0_become_171 : decode cX0_become 171 = .ok (.sipush 640, 3) := by decide +kernel
theorem dX0_become_174 : decode cX0_become 174 = .ok (.invokestatic 65, 3) := by decide +kernel
theorem dX0_become_177 : decode cX0_become 177 = .ok (.aload_n 1, 1) := by decide +kernel
theorem dX0_become_178 : decode cX0_become 178 = .ok (.getfield 42, 3) := by decide +kernel
theorem dX0_become_181 : decode cX0_become 181 = .ok (.iconst 0, 1) := by decide +kernel
theorem dX0_become_182 : decode cX0_become 182 = .ok (.aload_n 0, 1) := by decide +kernel
theorem dX0_become_183 : decode cX0_become 183 = .ok (.getfield 42, 3) := by decide +kernel
theorem dX0_become_186 : decode cX0_become 186 = .ok (.iconst 0, 1) := by decide +kernel
theorem dX0_become_187 : decode cX0_become 187 = .ok (.bipush 16, 2) := by decide +kernel
theorem dX0_become_189 : decode cX0_become 189 = .ok (.invokestatic 65, 3) := by decide +kernel
theorem dX0_become_192 : decode cX0_become 192 = .ok (.return_, 1) := by decide +kernel
theorem dX0_codeOf_0 : decode cX0_codeOf 0 = .ok (.iload_n 0, 1) := by decide +kernel
theorem dX0_codeOf_1 : decode cX0_codeOf 1 = .ok (.bipush 8, 2) := by decide +kernel
theorem dX0_codeOf_3 : decode cX0_codeOf 3 = .ok (.imul, 1) := by decide +kernel
theorem dX0_codeOf_4 : decode cX0_codeOf 4 = .ok (.iload_n 1, 1) := by decide +kernel
theorem dX0_codeOf_5 : decode cX0_codeOf 5 = .ok (.iadd, 1) := by decide +kernel
theorem dX0_codeOf_6 : decode cX0_codeOf 6 = .ok (.ireturn, 1) := by decide +kernel
theorem dX0_codesOf_0 : decode cX0_codesOf 0 = .ok (.sipush 255, 3) := by decide +kernel
theorem dX0_codesOf_3 : decode cX0_codesOf 3 = .ok (.iload_n 0, 1) := by decide +kernel
theorem dX0_codesOf_4 : decode cX0_codesOf 4 = .ok (.bipush 8, 2) := by decide +kernel
theorem dX0_codesOf_6 : decode cX0_codesOf 6 = .ok (.imul, 1) := by decide +kernel
theorem dX0_codesOf_7 : decode cX0_codesOf 7 = .ok (.ishl, 1) := by decide +kernel
theorem dX0_codesOf_8 : decode cX0_codesOf 8 = .ok (.ireturn, 1) := by decide +kernel
theorem dX0_receiptsIn_0 : decode cX0_receiptsIn 0 = .ok (.iload_n 0, 1) := by decide +kernel
theorem dX0_receiptsIn_1 : decode cX0_receiptsIn 1 = .ok (.iload_n 1, 1) := by decide +kernel
theorem dX0_receiptsIn_2 : decode cX0_receiptsIn 2 = .ok (.invokestatic 71, 3) := by decide +kernel
theorem dX0_receiptsIn_5 : decode cX0_receiptsIn 5 = .ok (.iand, 1) := by decide +kernel
theorem dX0_receiptsIn_6 : decode cX0_receiptsIn 6 = .ok (.invokestatic 75, 3) := by decide +kernel
theorem dX0_receiptsIn_9 : decode cX0_receiptsIn 9 = .ok (.ireturn, 1) := by decide +kernel
theorem dX0_wayOf_0 : decode cX0_wayOf 0 = .ok (.iload_n 0, 1) := by decide +kernel
theorem dX0_wayOf_1 : decode cX0_wayOf 1 = .ok (.iconst 4, 1) := by decide +kernel
theorem dX0_wayOf_2 : decode cX0_wayOf 2 = .ok (.imul, 1) := by decide +kernel
theorem dX0_wayOf_3 : decode cX0_wayOf 3 = .ok (.iload_n 1, 1) := by decide +kernel
theorem dX0_wayOf_4 : decode cX0_wayOf 4 = .ok (.iadd, 1) := by decide +kernel
theorem dX0_wayOf_5 : decode cX0_wayOf 5 = .ok (.ireturn, 1) := by decide +kernel
theorem dX0_letterOn_0 : decode cX0_letterOn 0 = .ok (.iload_n 0, 1) := by decide +kernel
theorem dX0_letterOn_1 : decode cX0_letterOn 1 = .ok (.iload_n 1, 1) := by decide +kernel
theorem dX0_letterOn_2 : decode cX0_letterOn 2 = .ok (.invokestatic 80, 3) := by decide +kernel
theorem dX0_letterOn_5 : decode cX0_letterOn 5 = .ok (.bipush 8, 2) := by decide +kernel
theorem dX0_letterOn_7 : decode cX0_letterOn 7 = .ok (.imul, 1) := by decide +kernel
theorem dX0_letterOn_8 : decode cX0_letterOn 8 = .ok (.iload_n 2, 1) := by decide +kernel
theorem dX0_letterOn_9 : decode cX0_letterOn 9 = .ok (.iadd, 1) := by decide +kernel
theorem dX0_letterOn_10 : decode cX0_letterOn 10 = .ok (.ireturn, 1) := by decide +kernel
theorem dX0_isSite_0 : decode cX0_isSite 0 = .ok (.iload_n 1, 1) := by decide +kernel
theorem dX0_isSite_1 : decode cX0_isSite 1 = .ok (.ifCond .lt 15, 3) := by decide +kernel
theorem dX0_isSite_4 : decode cX0_isSite 4 = .ok (.iload_n 1, 1) := by decide +kernel
theorem dX0_isSite_5 : decode cX0_isSite 5 = .ok (.aload_n 0, 1) := by decide +kernel
theorem dX0_isSite_6 : decode cX0_isSite 6 = .ok (.getfield 49, 3) := by decide +kernel
theorem dX0_isSite_9 : decode cX0_isSite 9 = .ok (.if_icmp .ge 7, 3) := by decide +kernel
theorem dX0_isSite_12 : decode cX0_isSite 12 = .ok (.iconst 1, 1) := by decide +kernel
theorem dX0_isSite_13 : decode cX0_isSite 13 = .ok (.goto 4, 3) := by decide +kernel
theorem dX0_isSite_16 : decode cX0_isSite 16 = .ok (.iconst 0, 1) := by decide +kernel
theorem dX0_isSite_17 : decode cX0_isSite 17 = .ok (.ireturn, 1) := by decide +kernel
theorem dX0_isWay_0 : decode cX0_isWay 0 = .ok (.iload_n 1, 1) := by decide +kernel
theorem dX0_isWay_1 : decode cX0_isWay 1 = .ok (.ifCond .lt 28, 3) := by decide +kernel
theorem dX0_isWay_4 : decode cX0_isWay 4 = .ok (.iload_n 1, 1) := by decide +kernel
theorem dX0_isWay_5 : decode cX0_isWay 5 = .ok (.aload_n 0, 1) := by decide +kernel
theorem dX0_isWay_6 : decode cX0_isWay 6 = .ok (.getfield 49, 3) := by decide +kernel
theorem dX0_isWay_9 : decode cX0_isWay 9 = .ok (.if_icmp .gt 20, 3) := by decide +kernel
theorem dX0_isWay_12 : decode cX0_isWay 12 = .ok (.aload_n 0, 1) := by decide +kernel
theorem dX0_isWay_13 : decode cX0_isWay 13 = .ok (.iload_n 2, 1) := by decide +kernel
theorem dX0_isWay_14 : decode cX0_isWay 14 = .ok (.invokevirtual 84, 3) := by decide +kernel
theorem dX0_isWay_17 : decode cX0_isWay 17 = .ok (.ifCond .eq 12, 3) := by decide +kernel
theorem dX0_isWay_20 : decode cX0_isWay 20 = .ok (.iload_n 1, 1) := by decide +kernel
theorem dX0_isWay_21 : decode cX0_isWay 21 = .ok (.iload_n 2, 1) := by decide +kernel
theorem dX0_isWay_22 : decode cX0_isWay 22 = .ok (.if_icmp .eq 7, 3) := by decide +kernel
theorem dX0_isWay_25 : decode cX0_isWay 25 = .ok (.iconst 1, 1) := by decide +kernel
theorem dX0_isWay_26 : decode cX0_isWay 26 = .ok (.goto 4, 3) := by decide +kernel
theorem dX0_isWay_29 : decode cX0_isWay 29 = .ok (.iconst 0, 1) := by decide +kernel
theorem dX0_isWay_30 : decode cX0_isWay 30 = .ok (.ireturn, 1) := by decide +kernel
theorem dX0_isReceipt_0 : decode cX0_isReceipt 0 = .ok (.aload_n 0, 1) := by decide +kernel
theorem dX0_isReceipt_1 : decode cX0_isReceipt 1 = .ok (.iload_n 1, 1) := by decide +kernel
theorem dX0_isReceipt_2 : decode cX0_isReceipt 2 = .ok (.invokevirtual 84, 3) := by decide +kernel
theorem dX0_isReceipt_5 : decode cX0_isReceipt 5 = .ok (.ifCond .eq 21, 3) := by decide +kernel
theorem dX0_isReceipt_8 : decode cX0_isReceipt 8 = .ok (.iload_n 2, 1) := by decide +kernel
theorem dX0_isReceipt_9 : decode cX0_isReceipt 9 = .ok (.ifCond .lt 17, 3) := by decide +kernel
theorem dX0_isReceipt_12 : decode cX0_isReceipt 12 = .ok (.iload_n 2, 1) := by decide +kernel
theorem dX0_isReceipt_13 : decode cX0_isReceipt 13 = .ok (.aload_n 0, 1) := by decide +kernel
theorem dX0_isReceipt_14 : decode cX0_isReceipt 14 = .ok (.getfield 9, 3) := by decide +kernel
theorem dX0_isReceipt_17 : decode cX0_isReceipt 17 = .ok (.iload_n 1, 1) := by decide +kernel
theorem dX0_isReceipt_18 : decode cX0_isReceipt 18 = .ok (.iaload, 1) := by decide +kernel
theorem dX0_isReceipt_19 : decode cX0_isReceipt 19 = .ok (.if_icmp .ge 7, 3) := by decide +kernel
theorem dX0_isReceipt_22 : decode cX0_isReceipt 22 = .ok (.iconst 1, 1) := by decide +kernel
theorem dX0_isReceipt_23 : decode cX0_isReceipt 23 = .ok (.goto 4, 3) := by decide +kernel
theorem dX0_isReceipt_26 : decode cX0_isReceipt 26 = .ok (.iconst 0, 1) := by decide +kernel
theorem dX0_isReceipt_27 : decode cX0_isReceipt 27 = .ok (.ireturn, 1) := by decide +kernel
theorem dX0_isDown_0 : decode cX0_isDown 0 = .ok (.aload_n 0, 1) := by decide +kernel
theorem dX0_isDown_1 : decode cX0_isDown 1 = .ok (.getfield 56, 3) := by decide +kernel
theorem dX0_isDown_4 : decode cX0_isDown 4 = .ok (.iload_n 1, 1) := by decide +kernel
theorem dX0_isDown_5 : decode cX0_isDown 5 = .ok (.ishr, 1) := by decide +kernel
theorem dX0_isDown_6 : decode cX0_isDown 6 = .ok (.iconst 1, 1) := by decide +kernel
theorem dX0_isDown_7 : decode cX0_isDown 7 = .ok (.iand, 1) := by decide +kernel
theorem dX0_isDown_8 : decode cX0_isDown 8 = .ok (.ifCond .eq 7, 3) := by decide +kernel
theorem dX0_isDown_11 : decode cX0_isDown 11 = .ok (.iconst 1, 1) := by decide +kernel
theorem dX0_isDown_12 : decode cX0_isDown 12 = .ok (.goto 4, 3) := by decide +kernel
theorem dX0_isDown_15 : decode cX0_isDown 15 = .ok (.iconst 0, 1) := by decide +kernel
theorem dX0_isDown_16 : decode cX0_isDown 16 = .ok (.ireturn, 1) := by decide +kernel
theorem dX0_allSites_0 : decode cX0_allSites 0 = .ok (.iconst 1, 1) := by decide +kernel
theorem dX0_allSites_1 : decode cX0_allSites 1 = .ok (.aload_n 0, 1) := by decide +kernel
theorem dX0_allSites_2 : decode cX0_allSites 2 = .ok (.getfield 49, 3) := by decide +kernel
theorem dX0_allSites_5 : decode cX0_allSites 5 = .ok (.ishl, 1) := by decide +kernel
theorem dX0_allSites_6 : decode cX0_allSites 6 = .ok (.iconst 1, 1) := by decide +kernel
theorem dX0_allSites_7 : decode cX0_allSites 7 = .ok (.isub, 1) := by decide +kernel
theorem dX0_allSites_8 : decode cX0_allSites 8 = .ok (.ireturn, 1) := by decide +kernel
theorem dX0_stateOf_0 : decode cX0_stateOf 0 = .ok (.aload_n 0, 1) := by decide +kernel
theorem dX0_stateOf_1 : decode cX0_stateOf 1 = .ok (.getfield 9, 3) := by decide +kernel
theorem dX0_stateOf_4 : decode cX0_stateOf 4 = .ok (.iload_n 1, 1) := by decide +kernel
theorem dX0_stateOf_5 : decode cX0_stateOf 5 = .ok (.iaload, 1) := by decide +kernel
theorem dX0_stateOf_6 : decode cX0_stateOf 6 = .ok (.ifCond .ne 9, 3) := by decide +kernel
theorem dX0_stateOf_9 : decode cX0_stateOf 9 = .ok (.iload_n 1, 1) := by decide +kernel
theorem dX0_stateOf_10 : decode cX0_stateOf 10 = .ok (.iconst 1, 1) := by decide +kernel
theorem dX0_stateOf_11 : decode cX0_stateOf 11 = .ok (.iadd, 1) := by decide +kernel
theorem dX0_stateOf_12 : decode cX0_stateOf 12 = .ok (.goto 20, 3) := by decide +kernel
theorem dX0_stateOf_15 : decode cX0_stateOf 15 = .ok (.aload_n 0, 1) := by decide +kernel
theorem dX0_stateOf_16 : decode cX0_stateOf 16 = .ok (.getfield 21, 3) := by decide +kernel
theorem dX0_stateOf_19 : decode cX0_stateOf 19 = .ok (.iload_n 1, 1) := by decide +kernel
theorem dX0_stateOf_20 : decode cX0_stateOf 20 = .ok (.aload_n 0, 1) := by decide +kernel
theorem dX0_stateOf_21 : decode cX0_stateOf 21 = .ok (.getfield 9, 3) := by decide +kernel
theorem dX0_stateOf_24 : decode cX0_stateOf 24 = .ok (.iload_n 1, 1) := by decide +kernel
theorem dX0_stateOf_25 : decode cX0_stateOf 25 = .ok (.iaload, 1) := by decide +kernel
theorem dX0_stateOf_26 : decode cX0_stateOf 26 = .ok (.iconst 1, 1) := by decide +kernel
theorem dX0_stateOf_27 : decode cX0_stateOf 27 = .ok (.isub, 1) := by decide +kernel
theorem dX0_stateOf_28 : decode cX0_stateOf 28 = .ok (.invokestatic 88, 3) := by decide +kernel
theorem dX0_stateOf_31 : decode cX0_stateOf 31 = .ok (.iaload, 1) := by decide +kernel
theorem dX0_stateOf_32 : decode cX0_stateOf 32 = .ok (.ireturn, 1) := by decide +kernel
theorem dX0_allReceipts_0 : decode cX0_allReceipts 0 = .ok (.iconst 0, 1) := by decide +kernel
theorem dX0_allReceipts_1 : decode cX0_allReceipts 1 = .ok (.istore_n 1, 1) := by decide +kernel
theorem dX0_allReceipts_2 : decode cX0_allReceipts 2 = .ok (.iconst 0, 1) := by decide +kernel
theorem dX0_allReceipts_3 : decode cX0_allReceipts 3 = .ok (.istore_n 2, 1) := by decide +kernel
theorem dX0_allReceipts_4 : decode cX0_allReceipts 4 = .ok (.iload_n 2, 1) := by decide +kernel
theorem dX0_allReceipts_5 : decode cX0_allReceipts 5 = .ok (.aload_n 0, 1) := by decide +kernel
theorem dX0_allReceipts_6 : decode cX0_allReceipts 6 = .ok (.getfield 49, 3) := by decide +kernel
theorem dX0_allReceipts_9 : decode cX0_allReceipts 9 = .ok (.if_icmp .ge 18, 3) := by decide +kernel
theorem dX0_allReceipts_12 : decode cX0_allReceipts 12 = .ok (.iload_n 1, 1) := by decide +kernel
theorem dX0_allReceipts_13 : decode cX0_allReceipts 13 = .ok (.aload_n 0, 1) := by decide +kernel
theorem dX0_allReceipts_14 : decode cX0_allReceipts 14 = .ok (.getfield 9, 3) := by decide +kernel
theorem dX0_allReceipts_17 : decode cX0_allReceipts 17 = .ok (.iload_n 2, 1) := by decide +kernel
theorem dX0_allReceipts_18 : decode cX0_allReceipts 18 = .ok (.iaload, 1) := by decide +kernel
theorem dX0_allReceipts_19 : decode cX0_allReceipts 19 = .ok (.iadd, 1) := by decide +kernel
theorem dX0_allReceipts_20 : decode cX0_allReceipts 20 = .ok (.istore_n 1, 1) := by decide +kernel
theorem dX0_allReceipts_21 : decode cX0_allReceipts 21 = .ok (.iinc 2 1, 3) := by decide +kernel
theorem dX0_allReceipts_24 : decode cX0_allReceipts 24 = .ok (.goto (-20), 3) := by decide +kernel
theorem dX0_allReceipts_27 : decode cX0_allReceipts 27 = .ok (.iload_n 1, 1) := by decide +kernel
theorem dX0_allReceipts_28 : decode cX0_allReceipts 28 = .ok (.ireturn, 1) := by decide +kernel
theorem dX0_lettersOn_0 : decode cX0_lettersOn 0 = .ok (.aload_n 0, 1) := by decide +kernel
theorem dX0_lettersOn_1 : decode cX0_lettersOn 1 = .ok (.getfield 27, 3) := by decide +kernel
theorem dX0_lettersOn_4 : decode cX0_lettersOn 4 = .ok (.iload_n 1, 1) := by decide +kernel
theorem dX0_lettersOn_5 : decode cX0_lettersOn 5 = .ok (.iload_n 2, 1) := by decide +kernel
theorem dX0_lettersOn_6 : decode cX0_lettersOn 6 = .ok (.invokestatic 80, 3) := by decide +kernel
theorem dX0_lettersOn_9 : decode cX0_lettersOn 9 = .ok (.iaload, 1) := by decide +kernel
theorem dX0_lettersOn_10 : decode cX0_lettersOn 10 = .ok (.ireturn, 1) := by decide +kernel
theorem dX0_lettersBy_0 : decode cX0_lettersBy 0 = .ok (.iconst 0, 1) := by decide +kernel
theorem dX0_lettersBy_1 : decode cX0_lettersBy 1 = .ok (.istore_n 2, 1) := by decide +kernel
theorem dX0_lettersBy_2 : decode cX0_lettersBy 2 = .ok (.iconst 0, 1) := by decide +kernel
theorem dX0_lettersBy_3 : decode cX0_lettersBy 3 = .ok (.istore_n 3, 1) := by decide +kernel
theorem dX0_lettersBy_4 : decode cX0_lettersBy 4 = .ok (.iload_n 3, 1) := by decide +kernel
theorem dX0_lettersBy_5 : decode cX0_lettersBy 5 = .ok (.aload_n 0, 1) := by decide +kernel
theorem dX0_lettersBy_6 : decode cX0_lettersBy 6 = .ok (.getfield 49, 3) := by decide +kernel
theorem dX0_lettersBy_9 : decode cX0_lettersBy 9 = .ok (.if_icmp .ge 18, 3) := by decide +kernel
theorem dX0_lettersBy_12 : decode cX0_lettersBy 12 = .ok (.iload_n 2, 1) := by decide +kernel
theorem dX0_lettersBy_13 : decode cX0_lettersBy 13 = .ok (.aload_n 0, 1) := by decide +kernel
theorem dX0_lettersBy_14 : decode cX0_lettersBy 14 = .ok (.iload_n 1, 1) := by decide +kernel
theorem dX0_lettersBy_15 : decode cX0_lettersBy 15 = .ok (.iload_n 3, 1) := by decide +kernel
theorem dX0_lettersBy_16 : decode cX0_lettersBy 16 = .ok (.invokevirtual 91, 3) := by decide +kernel
theorem dX0_lettersBy_19 : decode cX0_lettersBy 19 = .ok (.iadd, 1) := by decide +kernel
theorem dX0_lettersBy_20 : decode cX0_lettersBy 20 = .ok (.istore_n 2, 1) := by decide +kernel
theorem dX0_lettersBy_21 : decode cX0_lettersBy 21 = .ok (.iinc 3 1, 3) := by decide +kernel
theorem dX0_lettersBy_24 : decode cX0_lettersBy 24 = .ok (.goto (-20), 3) := by decide +kernel
theorem dX0_lettersBy_27 : decode cX0_lettersBy 27 = .ok (.iload_n 2, 1) := by decide +kernel
theorem dX0_lettersBy_28 : decode cX0_lettersBy 28 = .ok (.ireturn, 1) := by decide +kernel
theorem dX0_allLetters_0 : decode cX0_allLetters 0 = .ok (.iconst 0, 1) := by decide +kernel
theorem dX0_allLetters_1 : decode cX0_allLetters 1 = .ok (.istore_n 1, 1) := by decide +kernel
theorem dX0_allLetters_2 : decode cX0_allLetters 2 = .ok (.iconst 0, 1) := by decide +kernel
theorem dX0_allLetters_3 : decode cX0_allLetters 3 = .ok (.istore_n 2, 1) := by decide +kernel
theorem dX0_allLetters_4 : decode cX0_allLetters 4 = .ok (.iload_n 2, 1) := by decide +kernel
theorem dX0_allLetters_5 : decode cX0_allLetters 5 = .ok (.aload_n 0, 1) := by decide +kernel
theorem dX0_allLetters_6 : decode cX0_allLetters 6 = .ok (.getfield 49, 3) := by decide +kernel
theorem dX0_allLetters_9 : decode cX0_allLetters 9 = .ok (.if_icmp .gt 17, 3) := by decide +kernel
theorem dX0_allLetters_12 : decode cX0_allLetters 12 = .ok (.iload_n 1, 1) := by decide +kernel
theorem dX0_allLetters_13 : decode cX0_allLetters 13 = .ok (.aload_n 0, 1) := by decide +kernel
theorem dX0_allLetters_14 : decode cX0_allLetters 14 = .ok (.iload_n 2, 1) := by decide +kernel
theorem dX0_allLetters_15 : decode cX0_allLetters 15 = .ok (.invokevirtual 94, 3) := by decide +kernel
theorem dX0_allLetters_18 : decode cX0_allLetters 18 = .ok (.iadd, 1) := by decide +kernel
theorem dX0_allLetters_19 : decode cX0_allLetters 19 = .ok (.istore_n 1, 1) := by decide +kernel
theorem dX0_allLetters_20 : decode cX0_allLetters 20 = .ok (.iinc 2 1, 3) := by decide +kernel
theorem dX0_allLetters_23 : decode cX0_allLetters 23 = .ok (.goto (-19), 3) := by decide +kernel
theorem dX0_allLetters_26 : decode cX0_allLetters 26 = .ok (.iload_n 1, 1) := by decide +kernel
theorem dX0_allLetters_27 : decode cX0_allLetters 27 = .ok (.ireturn, 1) := by decide +kernel
theorem dX0_allCarried_0 : decode cX0_allCarried 0 = .ok (.iconst 0, 1) := by decide +kernel
theorem dX0_allCarried_1 : decode cX0_allCarried 1 = .ok (.istore_n 1, 1) := by decide +kernel
theorem dX0_allCarried_2 : decode cX0_allCarried 2 = .ok (.iconst 0, 1) := by decide +kernel
theorem dX0_allCarried_3 : decode cX0_allCarried 3 = .ok (.istore_n 2, 1) := by decide +kernel
theorem dX0_allCarried_4 : decode cX0_allCarried 4 = .ok (.iload_n 2, 1) := by decide +kernel
theorem dX0_allCarried_5 : decode cX0_allCarried 5 = .ok (.aload_n 0, 1) := by decide +kernel
theorem dX0_allCarried_6 : decode cX0_allCarried 6 = .ok (.getfield 49, 3) := by decide +kernel
theorem dX0_allCarried_9 : decode cX0_allCarried 9 = .ok (.if_icmp .ge 34, 3) := by decide +kernel
theorem dX0_allCarried_12 : decode cX0_allCarried 12 = .ok (.iconst 0, 1) := by decide +kernel
theorem dX0_allCarried_13 : decode cX0_allCarried 13 = .ok (.istore_n 3, 1) := by decide +kernel
theorem dX0_allCarried_14 : decode cX0_allCarried 14 = .ok (.iload_n 3, 1) := by decide +kernel
theorem dX0_allCarried_15 : decode cX0_allCarried 15 = .ok (.aload_n 0, 1) := by decide +kernel
theorem dX0_allCarried_16 : decode cX0_allCarried 16 = .ok (.getfield 49, 3) := by decide +kernel
theorem dX0_allCarried_19 : decode cX0_allCarried 19 = .ok (.if_icmp .ge 18, 3) := by decide +kernel
theorem dX0_allCarried_22 : decode cX0_allCarried 22 = .ok (.iload_n 1, 1) := by decide +kernel
theorem dX0_allCarried_23 : decode cX0_allCarried 23 = .ok (.aload_n 0, 1) := by decide +kernel
theorem dX0_allCarried_24 : decode cX0_allCarried 24 = .ok (.iload_n 2, 1) := by decide +kernel
theorem dX0_allCarried_25 : decode cX0_allCarried 25 = .ok (.iload_n 3, 1) := by decide +kernel
theorem dX0_allCarried_26 : decode cX0_allCarried 26 = .ok (.invokevirtual 97, 3) := by decide +kernel
theorem dX0_allCarried_29 : decode cX0_allCarried 29 = .ok (.iadd, 1) := by decide +kernel
theorem dX0_allCarried_30 : decode cX0_allCarried 30 = .ok (.istore_n 1, 1) := by decide +kernel
theorem dX0_allCarried_31 : decode cX0_allCarried 31 = .ok (.iinc 3 1, 3) := by decide +kernel
theorem dX0_allCarried_34 : decode cX0_allCarried 34 = .ok (.goto (-20), 3) := by decide +kernel
theorem dX0_allCarried_37 : decode cX0_allCarried 37 = .ok (.iinc 2 1, 3) := by decide +kernel
theorem dX0_allCarried_40 : decode cX0_allCarried 40 = .ok (.goto (-36), 3) := by decide +kernel
theorem dX0_allCarried_43 : decode cX0_allCarried 43 = .ok (.iload_n 1, 1) := by decide +kernel
theorem dX0_allCarried_44 : decode cX0_allCarried 44 = .ok (.ireturn, 1) := by decide +kernel
theorem dX0_carriedOn_0 : decode cX0_carriedOn 0 = .ok (.iconst 0, 1) := by decide +kernel
theorem dX0_carriedOn_1 : decode cX0_carriedOn 1 = .ok (.istore_n 3, 1) := by decide +kernel
theorem dX0_carriedOn_2 : decode cX0_carriedOn 2 = .ok (.aload_n 0, 1) := by decide +kernel
theorem dX0_carriedOn_3 : decode cX0_carriedOn 3 = .ok (.iload_n 1, 1) := by decide +kernel
theorem dX0_carriedOn_4 : decode cX0_carriedOn 4 = .ok (.iload_n 2, 1) := by decide +kernel
theorem dX0_carriedOn_5 : decode cX0_carriedOn 5 = .ok (.invokevirtual 91, 3) := by decide +kernel
theorem dX0_carriedOn_8 : decode cX0_carriedOn 8 = .ok (.istore 4, 2) := by decide +kernel
theorem dX0_carriedOn_10 : decode cX0_carriedOn 10 = .ok (.iconst 0, 1) := by decide +kernel
theorem dX0_carriedOn_11 : decode cX0_carriedOn 11 = .ok (.istore 5, 2) := by decide +kernel
theorem dX0_carriedOn_13 : decode cX0_carriedOn 13 = .ok (.iload 5, 2) := by decide +kernel
theorem dX0_carriedOn_15 : decode cX0_carriedOn 15 = .ok (.iload 4, 2) := by decide +kernel
theorem dX0_carriedOn_17 : decode cX0_carriedOn 17 = .ok (.if_icmp .ge 27, 3) := by decide +kernel
theorem dX0_carriedOn_20 : decode cX0_carriedOn 20 = .ok (.iload_n 3, 1) := by decide +kernel
theorem dX0_carriedOn_21 : decode cX0_carriedOn 21 = .ok (.aload_n 0, 1) := by decide +kernel
theorem dX0_carriedOn_22 : decode cX0_carriedOn 22 = .ok (.getfield 36, 3) := by decide +kernel
theorem dX0_carriedOn_25 : decode cX0_carriedOn 25 = .ok (.iload_n 1, 1) := by decide +kernel
theorem dX0_carriedOn_26 : decode cX0_carriedOn 26 = .ok (.iload_n 2, 1) := by decide +kernel
theorem dX0_carriedOn_27 : decode cX0_carriedOn 27 = .ok (.iload 5, 2) := by decide +kernel
theorem dX0_carriedOn_29 : decode cX0_carriedOn 29 = .ok (.invokestatic 100, 3) := by decide +kernel
theorem dX0_carriedOn_32 : decode cX0_carriedOn 32 = .ok (.iaload, 1) := by decide +kernel
theorem dX0_carriedOn_33 : decode cX0_carriedOn 33 = .ok (.invokestatic 75, 3) := by decide +kernel
theorem dX0_carriedOn_36 : decode cX0_carriedOn 36 = .ok (.iadd, 1) := by decide +kernel
theorem dX0_carriedOn_37 : decode cX0_carriedOn 37 = .ok (.istore_n 3, 1) := by decide +kernel
theorem dX0_carriedOn_38 : decode cX0_carriedOn 38 = .ok (.iinc 5 1, 3) := by decide +kernel
theorem dX0_carriedOn_41 : decode cX0_carriedOn 41 = .ok (.goto (-28), 3) := by decide +kernel
theorem dX0_carriedOn_44 : decode cX0_carriedOn 44 = .ok (.iload_n 3, 1) := by decide +kernel
theorem dX0_carriedOn_45 : decode cX0_carriedOn 45 = .ok (.ireturn, 1) := by decide +kernel
theorem dX0_takenFrom_0 : decode cX0_takenFrom 0 = .ok (.iconst 0, 1) := by decide +kernel
theorem dX0_takenFrom_1 : decode cX0_takenFrom 1 = .ok (.istore_n 3, 1) := by decide +kernel
theorem dX0_takenFrom_2 : decode cX0_takenFrom 2 = .ok (.iconst 0, 1) := by decide +kernel
theorem dX0_takenFrom_3 : decode cX0_takenFrom 3 = .ok (.istore 4, 2) := by decide +kernel
theorem dX0_takenFrom_5 : decode cX0_takenFrom 5 = .ok (.iload 4, 2) := by decide +kernel
theorem dX0_takenFrom_7 : decode cX0_takenFrom 7 = .ok (.aload_n 0, 1) := by decide +kernel
theorem dX0_takenFrom_8 : decode cX0_takenFrom 8 = .ok (.getfield 9, 3) := by decide +kernel
theorem dX0_takenFrom_11 : decode cX0_takenFrom 11 = .ok (.iload_n 2, 1) := by decide +kernel
theorem dX0_takenFrom_12 : decode cX0_takenFrom 12 = .ok (.iaload, 1) := by decide +kernel
theorem dX0_takenFrom_13 : decode cX0_takenFrom 13 = .ok (.if_icmp .ge 27, 3) := by decide +kernel
theorem dX0_takenFrom_16 : decode cX0_takenFrom 16 = .ok (.aload_n 0, 1) := by decide +kernel
theorem dX0_takenFrom_17 : decode cX0_takenFrom 17 = .ok (.getfield 15, 3) := by decide +kernel
theorem dX0_takenFrom_20 : decode cX0_takenFrom 20 = .ok (.iload_n 2, 1) := by decide +kernel
theorem dX0_takenFrom_21 : decode cX0_takenFrom 21 = .ok (.iload 4, 2) := by decide +kernel
theorem dX0_takenFrom_23 : decode cX0_takenFrom 23 = .ok (.invokestatic 88, 3) := by decide +kernel
theorem dX0_takenFrom_26 : decode cX0_takenFrom 26 = .ok (.iaload, 1) := by decide +kernel
theorem dX0_takenFrom_27 : decode cX0_takenFrom 27 = .ok (.iload_n 1, 1) := by decide +kernel
theorem dX0_takenFrom_28 : decode cX0_takenFrom 28 = .ok (.if_icmp .ne 6, 3) := by decide +kernel
theorem dX0_takenFrom_31 : decode cX0_takenFrom 31 = .ok (.iinc 3 1, 3) := by decide +kernel
theorem dX0_takenFrom_34 : decode cX0_takenFrom 34 = .ok (.iinc 4 1, 3) := by decide +kernel
theorem dX0_takenFrom_37 : decode cX0_takenFrom 37 = .ok (.goto (-32), 3) := by decide +kernel
theorem dX0_takenFrom_40 : decode cX0_takenFrom 40 = .ok (.iload_n 3, 1) := by decide +kernel
theorem dX0_takenFrom_41 : decode cX0_takenFrom 41 = .ok (.ireturn, 1) := by decide +kernel
theorem dX0_heldBy_0 : decode cX0_heldBy 0 = .ok (.aload_n 0, 1) := by decide +kernel
theorem dX0_heldBy_1 : decode cX0_heldBy 1 = .ok (.getfield 42, 3) := by decide +kernel
theorem dX0_heldBy_4 : decode cX0_heldBy 4 = .ok (.iload_n 1, 1) := by decide +kernel
theorem dX0_heldBy_5 : decode cX0_heldBy 5 = .ok (.iconst 4, 1) := by decide +kernel
theorem dX0_heldBy_6 : decode cX0_heldBy 6 = .ok (.imul, 1) := by decide +kernel
theorem dX0_heldBy_7 : decode cX0_heldBy 7 = .ok (.iload_n 1, 1) := by decide +kernel
theorem dX0_heldBy_8 : decode cX0_heldBy 8 = .ok (.iadd, 1) := by decide +kernel
theorem dX0_heldBy_9 : decode cX0_heldBy 9 = .ok (.iaload, 1) := by decide +kernel
theorem dX0_heldBy_10 : decode cX0_heldBy 10 = .ok (.ireturn, 1) := by decide +kernel
theorem dX0_holdersOf_0 : decode cX0_holdersOf 0 = .ok (.iconst 0, 1) := by decide +kernel
theorem dX0_holdersOf_1 : decode cX0_holdersOf 1 = .ok (.istore_n 2, 1) := by decide +kernel
theorem dX0_holdersOf_2 : decode cX0_holdersOf 2 = .ok (.iconst 0, 1) := by decide +kernel
theorem dX0_holdersOf_3 : decode cX0_holdersOf 3 = .ok (.istore_n 3, 1) := by decide +kernel
theorem dX0_holdersOf_4 : decode cX0_holdersOf 4 = .ok (.iload_n 3, 1) := by decide +kernel
theorem dX0_holdersOf_5 : decode cX0_holdersOf 5 = .ok (.aload_n 0, 1) := by decide +kernel
theorem dX0_holdersOf_6 : decode cX0_holdersOf 6 = .ok (.getfield 49, 3) := by decide +kernel
theorem dX0_holdersOf_9 : decode cX0_holdersOf 9 = .ok (.if_icmp .ge 23, 3) := by decide +kernel
theorem dX0_holdersOf_12 : decode cX0_holdersOf 12 = .ok (.iload_n 2, 1) := by decide +kernel
theorem dX0_holdersOf_13 : decode cX0_holdersOf 13 = .ok (.aload_n 0, 1) := by decide +kernel
theorem dX0_holdersOf_14 : decode cX0_holdersOf 14 = .ok (.iload_n 3, 1) := by decide +kernel
theorem dX0_holdersOf_15 : decode cX0_holdersOf 15 = .ok (.invokevirtual 104, 3) := by decide +kernel
theorem dX0_holdersOf_18 : decode cX0_holdersOf 18 = .ok (.iload_n 1, 1) := by decide +kernel
theorem dX0_holdersOf_19 : decode cX0_holdersOf 19 = .ok (.iushr, 1) := by decide +kernel
theorem dX0_holdersOf_20 : decode cX0_holdersOf 20 = .ok (.iconst 1, 1) := by decide +kernel
theorem dX0_holdersOf_21 : decode cX0_holdersOf 21 = .ok (.iand, 1) := by decide +kernel
theorem dX0_holdersOf_22 : decode cX0_holdersOf 22 = .ok (.iload_n 3, 1) := by decide +kernel
theorem dX0_holdersOf_23 : decode cX0_holdersOf 23 = .ok (.ishl, 1) := by decide +kernel
theorem dX0_holdersOf_24 : decode cX0_holdersOf 24 = .ok (.ior, 1) := by decide +kernel
theorem dX0_holdersOf_25 : decode cX0_holdersOf 25 = .ok (.istore_n 2, 1) := by decide +kernel
theorem dX0_holdersOf_26 : decode cX0_holdersOf 26 = .ok (.iinc 3 1, 3) := by decide +kernel
theorem dX0_holdersOf_29 : decode cX0_holdersOf 29 = .ok (.goto (-25), 3) := by decide +kernel
theorem dX0_holdersOf_32 : decode cX0_holdersOf 32 = .ok (.iload_n 2, 1) := by decide +kernel
theorem dX0_holdersOf_33 : decode cX0_holdersOf 33 = .ok (.ireturn, 1) := by decide +kernel
theorem dX0_holdersKnown_0 : decode cX0_holdersKnown 0 = .ok (.iconst 0, 1) := by decide +kernel
theorem dX0_holdersKnown_1 : decode cX0_holdersKnown 1 = .ok (.istore_n 3, 1) := by decide +kernel
theorem dX0_holdersKnown_2 : decode cX0_holdersKnown 2 = .ok (.iconst 0, 1) := by decide +kernel
theorem dX0_holdersKnown_3 : decode cX0_holdersKnown 3 = .ok (.istore 4, 2) := by decide +kernel
theorem dX0_holdersKnown_5 : decode cX0_holdersKnown 5 = .ok (.iload 4, 2) := by decide +kernel
theorem dX0_holdersKnown_7 : decode cX0_holdersKnown 7 = .ok (.aload_n 0, 1) := by decide +kernel
theorem dX0_holdersKnown_8 : decode cX0_holdersKnown 8 = .ok (.getfield 49, 3) := by decide +kernel
theorem dX0_holdersKnown_11 : decode cX0_holdersKnown 11 = .ok (.if_icmp .ge 30, 3) := by decide +kernel
theorem dX0_holdersKnown_14 : decode cX0_holdersKnown 14 = .ok (.iload_n 3, 1) := by decide +kernel
theorem dX0_holdersKnown_15 : decode cX0_holdersKnown 15 = .ok (.aload_n 0, 1) := by decide +kernel
theorem dX0_holdersKnown_16 : decode cX0_holdersKnown 16 = .ok (.getfield 42, 3) := by decide +kernel
theorem dX0_holdersKnown_19 : decode cX0_holdersKnown 19 = .ok (.iload_n 1, 1) := by decide +kernel
theorem dX0_holdersKnown_20 : decode cX0_holdersKnown 20 = .ok (.iconst 4, 1) := by decide +kernel
theorem dX0_holdersKnown_21 : decode cX0_holdersKnown 21 = .ok (.imul, 1) := by decide +kernel
theorem dX0_holdersKnown_22 : decode cX0_holdersKnown 22 = .ok (.iload 4, 2) := by decide +kernel
theorem dX0_holdersKnown_24 : decode cX0_holdersKnown 24 = .ok (.iadd, 1) := by decide +kernel
theorem dX0_holdersKnown_25 : decode cX0_holdersKnown 25 = .ok (.iaload, 1) := by decide +kernel
theorem dX0_holdersKnown_26 : decode cX0_holdersKnown 26 = .ok (.iload_n 2, 1) := by decide +kernel
theorem dX0_holdersKnown_27 : decode cX0_holdersKnown 27 = .ok (.iushr, 1) := by decide +kernel
theorem dX0_holdersKnown_28 : decode cX0_holdersKnown 28 = .ok (.iconst 1, 1) := by decide +kernel
theorem dX0_holdersKnown_29 : decode cX0_holdersKnown 29 = .ok (.iand, 1) := by decide +kernel
theorem dX0_holdersKnown_30 : decode cX0_holdersKnown 30 = .ok (.iload 4, 2) := by decide +kernel
theorem dX0_holdersKnown_32 : decode cX0_holdersKnown 32 = .ok (.ishl, 1) := by decide +kernel
theorem dX0_holdersKnown_33 : decode cX0_holdersKnown 33 = .ok (.ior, 1) := by decide +kernel
theorem dX0_holdersKnown_34 : decode cX0_holdersKnown 34 = .ok (.istore_n 3, 1) := by decide +kernel
theorem dX0_holdersKnown_35 : decode cX0_holdersKnown 35 = .ok (.iinc 4 1, 3) := by decide +kernel
theorem dX0_holdersKnown_38 : decode cX0_holdersKnown 38 = .ok (.goto (-33), 3) := by decide +kernel
theorem dX0_holdersKnown_41 : decode cX0_holdersKnown 41 = .ok (.iload_n 3, 1) := by decide +kernel
theorem dX0_holdersKnown_42 : decode cX0_holdersKnown 42 = .ok (.ireturn, 1) := by decide +kernel
theorem dX0_isSafe_0 : decode cX0_isSafe 0 = .ok (.aload_n 0, 1) := by decide +kernel
theorem dX0_isSafe_1 : decode cX0_isSafe 1 = .ok (.iload_n 1, 1) := by decide +kernel
theorem dX0_isSafe_2 : decode cX0_isSafe 2 = .ok (.invokevirtual 107, 3) := by decide +kernel
theorem dX0_isSafe_5 : decode cX0_isSafe 5 = .ok (.invokestatic 75, 3) := by decide +kernel
theorem dX0_isSafe_8 : decode cX0_isSafe 8 = .ok (.aload_n 0, 1) := by decide +kernel
theorem dX0_isSafe_9 : decode cX0_isSafe 9 = .ok (.getfield 53, 3) := by decide +kernel
theorem dX0_isSafe_12 : decode cX0_isSafe 12 = .ok (.if_icmp .lt 7, 3) := by decide +kernel
theorem dX0_isSafe_15 : decode cX0_isSafe 15 = .ok (.iconst 1, 1) := by decide +kernel
theorem dX0_isSafe_16 : decode cX0_isSafe 16 = .ok (.goto 4, 3) := by decide +kernel
theorem dX0_isSafe_19 : decode cX0_isSafe 19 = .ok (.iconst 0, 1) := by decide +kernel
theorem dX0_isSafe_20 : decode cX0_isSafe 20 = .ok (.ireturn, 1) := by decide +kernel
theorem dX0_safeReceipts_0 : decode cX0_safeReceipts 0 = .ok (.iconst 0, 1) := by decide +kernel
theorem dX0_safeReceipts_1 : decode cX0_safeReceipts 1 = .ok (.istore_n 1, 1) := by decide +kernel
theorem dX0_safeReceipts_2 : decode cX0_safeReceipts 2 = .ok (.iconst 0, 1) := by decide +kernel
theorem dX0_safeReceipts_3 : decode cX0_safeReceipts 3 = .ok (.istore_n 2, 1) := by decide +kernel
theorem dX0_safeReceipts_4 : decode cX0_safeReceipts 4 = .ok (.iload_n 2, 1) := by decide +kernel
theorem dX0_safeReceipts_5 : decode cX0_safeReceipts 5 = .ok (.aload_n 0, 1) := by decide +kernel
theorem dX0_safeReceipts_6 : decode cX0_safeReceipts 6 = .ok (.getfield 49, 3) := by decide +kernel
theorem dX0_safeReceipts_9 : decode cX0_safeReceipts 9 = .ok (.if_icmp .ge 42, 3) := by decide +kernel
theorem dX0_safeReceipts_12 : decode cX0_safeReceipts 12 = .ok (.iconst 0, 1) := by decide +kernel
theorem dX0_safeReceipts_13 : decode cX0_safeReceipts 13 = .ok (.istore_n 3, 1) := by decide +kernel
theorem dX0_safeReceipts_14 : decode cX0_safeReceipts 14 = .ok (.iload_n 3, 1) := by decide +kernel
theorem dX0_safeReceipts_15 : decode cX0_safeReceipts 15 = .ok (.aload_n 0, 1) := by decide +kernel
theorem dX0_safeReceipts_16 : decode cX0_safeReceipts 16 = .ok (.getfield 9, 3) := by decide +kernel
theorem dX0_safeReceipts_19 : decode cX0_safeReceipts 19 = .ok (.iload_n 2, 1) := by decide +kernel
theorem dX0_safeReceipts_20 : decode cX0_safeReceipts 20 = .ok (.iaload, 1) := by decide +kernel
theorem dX0_safeReceipts_21 : decode cX0_safeReceipts 21 = .ok (.if_icmp .ge 24, 3) := by decide +kernel
theorem dX0_safeReceipts_24 : decode cX0_safeReceipts 24 = .ok (.aload_n 0, 1) := by decide +kernel
theorem dX0_safeReceipts_25 : decode cX0_safeReceipts 25 = .ok (.iload_n 2, 1) := by decide +kernel
theorem dX0_safeReceipts_26 : decode cX0_safeReceipts 26 = .ok (.iload_n 3, 1) := by decide +kernel
theorem dX0_safeReceipts_27 : decode cX0_safeReceipts 27 = .ok (.invokestatic 88, 3) := by decide +kernel
theorem dX0_safeReceipts_30 : decode cX0_safeReceipts 30 = .ok (.invokevirtual 110, 3) := by decide +kernel
theorem dX0_safeReceipts_33 : decode cX0_safeReceipts 33 = .ok (.ifCond .eq 6, 3) := by decide +kernel
theorem dX0_safeReceipts_36 : decode cX0_safeReceipts 36 = .ok (.iinc 1 1, 3) := by decide +kernel
theorem dX0_safeReceipts_39 : decode cX0_safeReceipts 39 = .ok (.iinc 3 1, 3) := by decide +kernel
theorem dX0_safeReceipts_42 : decode cX0_safeReceipts 42 = .ok (.goto (-28), 3) := by decide +kernel
theorem dX0_safeReceipts_45 : decode cX0_safeReceipts 45 = .ok (.iinc 2 1, 3) := by decide +kernel
theorem dX0_safeReceipts_48 : decode cX0_safeReceipts 48 = .ok (.goto (-44), 3) := by decide +kernel
theorem dX0_safeReceipts_51 : decode cX0_safeReceipts 51 = .ok (.iload_n 1, 1) := by decide +kernel
theorem dX0_safeReceipts_52 : decode cX0_safeReceipts 52 = .ok (.ireturn, 1) := by decide +kernel
theorem dX0_unsafeFor_0 : decode cX0_unsafeFor 0 = .ok (.iconst 0, 1) := by decide +kernel
theorem dX0_unsafeFor_1 : decode cX0_unsafeFor 1 = .ok (.istore_n 2, 1) := by decide +kernel
theorem dX0_unsafeFor_2 : decode cX0_unsafeFor 2 = .ok (.iconst 0, 1) := by decide +kernel
theorem dX0_unsafeFor_3 : decode cX0_unsafeFor 3 = .ok (.istore_n 3, 1) := by decide +kernel
theorem dX0_unsafeFor_4 : decode cX0_unsafeFor 4 = .ok (.iload_n 3, 1) := by decide +kernel
theorem dX0_unsafeFor_5 : decode cX0_unsafeFor 5 = .ok (.bipush 32, 2) := by decide +kernel
theorem dX0_unsafeFor_7 : decode cX0_unsafeFor 7 = .ok (.if_icmp .ge 43, 3) := by decide +kernel
theorem dX0_unsafeFor_10 : decode cX0_unsafeFor 10 = .ok (.aload_n 0, 1) := by decide +kernel
theorem dX0_unsafeFor_11 : decode cX0_unsafeFor 11 = .ok (.iload_n 1, 1) := by decide +kernel
theorem dX0_unsafeFor_12 : decode cX0_unsafeFor 12 = .ok (.invokevirtual 104, 3) := by decide +kernel
theorem dX0_unsafeFor_15 : decode cX0_unsafeFor 15 = .ok (.iload_n 3, 1) := by decide +kernel
theorem dX0_unsafeFor_16 : decode cX0_unsafeFor 16 = .ok (.iushr, 1) := by decide +kernel
theorem dX0_unsafeFor_17 : decode cX0_unsafeFor 17 = .ok (.iconst 1, 1) := by decide +kernel
theorem dX0_unsafeFor_18 : decode cX0_unsafeFor 18 = .ok (.iand, 1) := by decide +kernel
theorem dX0_unsafeFor_19 : decode cX0_unsafeFor 19 = .ok (.ifCond .eq 25, 3) := by decide +kernel
theorem dX0_unsafeFor_22 : decode cX0_unsafeFor 22 = .ok (.aload_n 0, 1) := by decide +kernel
theorem dX0_unsafeFor_23 : decode cX0_unsafeFor 23 = .ok (.iload_n 1, 1) := by decide +kernel
theorem dX0_unsafeFor_24 : decode cX0_unsafeFor 24 = .ok (.iload_n 3, 1) := by decide +kernel
theorem dX0_unsafeFor_25 : decode cX0_unsafeFor 25 = .ok (.invokevirtual 113, 3) := by decide +kernel
theorem dX0_unsafeFor_28 : decode cX0_unsafeFor 28 = .ok (.invokestatic 75, 3) := by decide +kernel
theorem dX0_unsafeFor_31 : decode cX0_unsafeFor 31 = .ok (.aload_n 0, 1) := by decide +kernel
theorem dX0_unsafeFor_32 : decode cX0_unsafeFor 32 = .ok (.getfield 53, 3) := by decide +kernel
theorem dX0_unsafeFor_35 : decode cX0_unsafeFor 35 = .ok (.if_icmp .ge 9, 3) := by decide +kernel
theorem dX0_unsafeFor_38 : decode cX0_unsafeFor 38 = .ok (.iload_n 2, 1) := by decide +kernel
theorem dX0_unsafeFor_39 : decode cX0_unsafeFor 39 = .ok (.iconst 1, 1) := by decide +kernel
theorem dX0_unsafeFor_40 : decode cX0_unsafeFor 40 = .ok (.iload_n 3, 1) := by decide +kernel
theorem dX0_unsafeFor_41 : decode cX0_unsafeFor 41 = .ok (.ishl, 1) := by decide +kernel
theorem dX0_unsafeFor_42 : decode cX0_unsafeFor 42 = .ok (.ior, 1) := by decide +kernel
theorem dX0_unsafeFor_43 : decode cX0_unsafeFor 43 = .ok (.istore_n 2, 1) := by decide +kernel
theorem dX0_unsafeFor_44 : decode cX0_unsafeFor 44 = .ok (.iinc 3 1, 3) := by decide +kernel
theorem dX0_unsafeFor_47 : decode cX0_unsafeFor 47 = .ok (.goto (-43), 3) := by decide +kernel
theorem dX0_unsafeFor_50 : decode cX0_unsafeFor 50 = .ok (.iload_n 2, 1) := by decide +kernel
theorem dX0_unsafeFor_51 : decode cX0_unsafeFor 51 = .ok (.ireturn, 1) := by decide +kernel
theorem dX0_write_0 : decode cX0_write 0 = .ok (.iload_n 1, 1) := by decide +kernel
theorem dX0_write_1 : decode cX0_write 1 = .ok (.iload_n 2, 1) := by decide +kernel
theorem dX0_write_2 : decode cX0_write 2 = .ok (.aload_n 0, 1) := by decide +kernel
theorem dX0_write_3 : decode cX0_write 3 = .ok (.iload_n 1, 1) := by decide +kernel
theorem dX0_write_4 : decode cX0_write 4 = .ok (.iload_n 2, 1) := by decide +kernel
theorem dX0_write_5 : decode cX0_write 5 = .ok (.invokevirtual 91, 3) := by decide +kernel
theorem dX0_write_8 : decode cX0_write 8 = .ok (.invokestatic 100, 3) := by decide +kernel
theorem dX0_write_11 : decode cX0_write 11 = .ok (.istore 6, 2) := by decide +kernel
theorem dX0_write_13 : decode cX0_write 13 = .ok (.aload_n 0, 1) := by decide +kernel
theorem dX0_write_14 : decode cX0_write 14 = .ok (.getfield 30, 3) := by decide +kernel
theorem dX0_write_17 : decode cX0_write 17 = .ok (.iload 6, 2) := by decide +kernel
theorem dX0_write_19 : decode cX0_write 19 = .ok (.iload_n 3, 1) := by decide +kernel
theorem dX0_write_20 : decode cX0_write 20 = .ok (.iastore, 1) := by decide +kernel
theorem dX0_write_21 : decode cX0_write 21 = .ok (.aload_n 0, 1) := by decide +kernel
theorem dX0_write_22 : decode cX0_write 22 = .ok (.getfield 33, 3) := by decide +kernel
theorem dX0_write_25 : decode cX0_write 25 = .ok (.iload 6, 2) := by decide +kernel
theorem dX0_write_27 : decode cX0_write 27 = .ok (.iload 4, 2) := by decide +kernel
theorem dX0_write_29 : decode cX0_write 29 = .ok (.iastore, 1) := by decide +kernel
theorem dX0_write_30 : decode cX0_write 30 = .ok (.aload_n 0, 1) := by decide +kernel
theorem dX0_write_31 : decode cX0_write 31 = .ok (.getfield 36, 3) := by decide +kernel
theorem dX0_write_34 : decode cX0_write 34 = .ok (.iload 6, 2) := by decide +kernel
theorem dX0_write_36 : decode cX0_write 36 = .ok (.iload 5, 2) := by decide +kernel
theorem dX0_write_38 : decode cX0_write 38 = .ok (.iastore, 1) := by decide +kernel
theorem dX0_write_39 : decode cX0_write 39 = .ok (.iconst 0, 1) := by decide +kernel
theorem dX0_write_40 : decode cX0_write 40 = .ok (.istore 7, 2) := by decide +kernel
theorem dX0_write_42 : decode cX0_write 42 = .ok (.iload 7, 2) := by decide +kernel
theorem dX0_write_44 : decode cX0_write 44 = .ok (.iconst 4, 1) := by decide +kernel
theorem dX0_write_45 : decode cX0_write 45 = .ok (.if_icmp .ge 47, 3) := by decide +kernel
theorem dX0_write_48 : decode cX0_write 48 = .ok (.aload_n 0, 1) := by decide +kernel
theorem dX0_write_49 : decode cX0_write 49 = .ok (.getfield 39, 3) := by decide +kernel
theorem dX0_write_52 : decode cX0_write 52 = .ok (.iload 6, 2) := by decide +kernel
theorem dX0_write_54 : decode cX0_write 54 = .ok (.iconst 4, 1) := by decide +kernel
theorem dX0_write_55 : decode cX0_write 55 = .ok (.imul, 1) := by decide +kernel
theorem dX0_write_56 : decode cX0_write 56 = .ok (.iload 7, 2) := by decide +kernel
theorem dX0_write_58 : decode cX0_write 58 = .ok (.iadd, 1) := by decide +kernel
theorem dX0_write_59 : decode cX0_write 59 = .ok (.aload_n 0, 1) := by decide +kernel
theorem dX0_write_60 : decode cX0_write 60 = .ok (.iload_n 1, 1) := by decide +kernel
theorem dX0_write_61 : decode cX0_write 61 = .ok (.invokevirtual 84, 3) := by decide +kernel
theorem dX0_write_64 : decode cX0_write 64 = .ok (.ifCond .eq 20, 3) := by decide +kernel
theorem dX0_write_67 : decode cX0_write 67 = .ok (.aload_n 0, 1) := by decide +kernel
theorem dX0_write_68 : decode cX0_write 68 = .ok (.getfield 42, 3) := by decide +kernel
theorem dX0_write_71 : decode cX0_write 71 = .ok (.iload_n 1, 1) := by decide +kernel
theorem dX0_write_72 : decode cX0_write 72 = .ok (.iconst 4, 1) := by decide +kernel
theorem dX0_write_73 : decode cX0_write 73 = .ok (.imul, 1) := by decide +kernel
theorem dX0_write_74 : decode cX0_write 74 = .ok (.iload 7, 2) := by decide +kernel
theorem dX0_write_76 : decode cX0_write 76 = .ok (.iadd, 1) := by decide +kernel
theorem dX0_write_77 : decode cX0_write 77 = .ok (.iaload, 1) := by decide +kernel
theorem dX0_write_78 : decode cX0_write 78 = .ok (.iload 5, 2) := by decide +kernel
theorem dX0_write_80 : decode cX0_write 80 = .ok (.iand, 1) := by decide +kernel
theorem dX0_write_81 : decode cX0_write 81 = .ok (.goto 4, 3) := by decide +kernel
theorem dX0_write_84 : decode cX0_write 84 = .ok (.iconst 0, 1) := by decide +kernel
theorem dX0_write_85 : decode cX0_write 85 = .ok (.iastore, 1) := by decide +kernel
theorem dX0_write_86 : decode cX0_write 86 = .ok (.iinc 7 1, 3) := by decide +kernel
theorem dX0_write_89 : decode cX0_write 89 = .ok (.goto (-47), 3) := by decide +kernel
theorem dX0_write_92 : decode cX0_write 92 = .ok (.aload_n 0, 1) := by decide +kernel
theorem dX0_write_93 : decode cX0_write 93 = .ok (.getfield 27, 3) := by decide +kernel
theorem dX0_write_96 : decode cX0_write 96 = .ok (.iload_n 1, 1) := by decide +kernel
theorem dX0_write_97 : decode cX0_write 97 = .ok (.iload_n 2, 1) := by decide +kernel
theorem dX0_write_98 : decode cX0_write 98 = .ok (.invokestatic 80, 3) := by decide +kernel
theorem dX0_write_101 : decode cX0_write 101 = .ok (.dup2, 1) := by decide +kernel
theorem dX0_write_102 : decode cX0_write 102 = .ok (.iaload, 1) := by decide +kernel
theorem dX0_write_103 : decode cX0_write 103 = .ok (.iconst 1, 1) := by decide +kernel
theorem dX0_write_104 : decode cX0_write 104 = .ok (.iadd, 1) := by decide +kernel
theorem dX0_write_105 : decode cX0_write 105 = .ok (.iastore, 1) := by decide +kernel
theorem dX0_write_106 : decode cX0_write 106 = .ok (.return_, 1) := by decide +kernel
theorem dX0_take_0 : decode cX0_take 0 = .ok (.aload_n 0, 1) := by decide +kernel
theorem dX0_take_1 : decode cX0_take 1 = .ok (.iload_n 1, 1) := by decide +kernel
theorem dX0_take_2 : decode cX0_take 2 = .ok (.iload_n 2, 1) := by decide +kernel
theorem dX0_take_3 : decode cX0_take 3 = .ok (.invokevirtual 116, 3) := by decide +kernel
theorem dX0_take_6 : decode cX0_take 6 = .ok (.istore_n 3, 1) := by decide +kernel
theorem dX0_take_7 : decode cX0_take 7 = .ok (.iload_n 1, 1) := by decide +kernel
theorem dX0_take_8 : decode cX0_take 8 = .ok (.iload_n 2, 1) := by decide +kernel
theorem dX0_take_9 : decode cX0_take 9 = .ok (.iload_n 3, 1) := by decide +kernel
theorem dX0_take_10 : decode cX0_take 10 = .ok (.invokestatic 100, 3) := by decide +kernel
theorem dX0_take_13 : decode cX0_take 13 = .ok (.istore 4, 2) := by decide +kernel
theorem dX0_take_15 : decode cX0_take 15 = .ok (.iload_n 2, 1) := by decide +kernel
theorem dX0_take_16 : decode cX0_take 16 = .ok (.aload_n 0, 1) := by decide +kernel
theorem dX0_take_17 : decode cX0_take 17 = .ok (.getfield 9, 3) := by decide +kernel
theorem dX0_take_20 : decode cX0_take 20 = .ok (.iload_n 2, 1) := by decide +kernel
theorem dX0_take_21 : decode cX0_take 21 = .ok (.iaload, 1) := by decide +kernel
theorem dX0_take_22 : decode cX0_take 22 = .ok (.invokestatic 88, 3) := by decide +kernel
theorem dX0_take_25 : decode cX0_take 25 = .ok (.istore 5, 2) := by decide +kernel
theorem dX0_take_27 : decode cX0_take 27 = .ok (.aload_n 0, 1) := by decide +kernel
theorem dX0_take_28 : decode cX0_take 28 = .ok (.getfield 15, 3) := by decide +kernel
theorem dX0_take_31 : decode cX0_take 31 = .ok (.iload 5, 2) := by decide +kernel
theorem dX0_take_33 : decode cX0_take 33 = .ok (.iload_n 1, 1) := by decide +kernel
theorem dX0_take_34 : decode cX0_take 34 = .ok (.iastore, 1) := by decide +kernel
theorem dX0_take_35 : decode cX0_take 35 = .ok (.aload_n 0, 1) := by decide +kernel
theorem dX0_take_36 : decode cX0_take 36 = .ok (.getfield 18, 3) := by decide +kernel
theorem dX0_take_39 : decode cX0_take 39 = .ok (.iload 5, 2) := by decide +kernel
theorem dX0_take_41 : decode cX0_take 41 = .ok (.iload_n 3, 1) := by decide +kernel
theorem dX0_take_42 : decode cX0_take 42 = .ok (.iastore, 1) := by decide +kernel
theorem dX0_take_43 : decode cX0_take 43 = .ok (.aload_n 0, 1) := by decide +kernel
theorem dX0_take_44 : decode cX0_take 44 = .ok (.getfield 21, 3) := by decide +kernel
theorem dX0_take_47 : decode cX0_take 47 = .ok (.iload 5, 2) := by decide +kernel
theorem dX0_take_49 : decode cX0_take 49 = .ok (.bipush 31, 2) := by decide +kernel
theorem dX0_take_51 : decode cX0_take 51 = .ok (.aload_n 0, 1) := by decide +kernel
theorem dX0_take_52 : decode cX0_take 52 = .ok (.iload_n 2, 1) := by decide +kernel
theorem dX0_take_53 : decode cX0_take 53 = .ok (.invokevirtual 119, 3) := by decide +kernel
theorem dX0_take_56 : decode cX0_take 56 = .ok (.imul, 1) := by decide +kernel
theorem dX0_take_57 : decode cX0_take 57 = .ok (.aload_n 0, 1) := by decide +kernel
theorem dX0_take_58 : decode cX0_take 58 = .ok (.getfield 30, 3) := by decide +kernel
theorem dX0_take_61 : decode cX0_take 61 = .ok (.iload 4, 2) := by decide +kernel
theorem dX0_take_63 : decode cX0_take 63 = .ok (.iaload, 1) := by decide +kernel
theorem dX0_take_64 : decode cX0_take 64 = .ok (.iadd, 1) := by decide +kernel
theorem dX0_take_65 : decode cX0_take 65 = .ok (.iload_n 1, 1) := by decide +kernel
theorem dX0_take_66 : decode cX0_take 66 = .ok (.iadd, 1) := by decide +kernel
theorem dX0_take_67 : decode cX0_take 67 = .ok (.iconst 1, 1) := by decide +kernel
theorem dX0_take_68 : decode cX0_take 68 = .ok (.iadd, 1) := by decide +kernel
theorem dX0_take_69 : decode cX0_take 69 = .ok (.sipush 997, 3) := by decide +kernel
theorem dX0_take_72 : decode cX0_take 72 = .ok (.irem, 1) := by decide +kernel
theorem dX0_take_73 : decode cX0_take 73 = .ok (.iastore, 1) := by decide +kernel
theorem dX0_take_74 : decode cX0_take 74 = .ok (.aload_n 0, 1) := by decide +kernel
theorem dX0_take_75 : decode cX0_take 75 = .ok (.getfield 24, 3) := by decide +kernel
theorem dX0_take_78 : decode cX0_take 78 = .ok (.iload 5, 2) := by decide +kernel
theorem dX0_take_80 : decode cX0_take 80 = .ok (.iconst 1, 1) := by decide +kernel
theorem dX0_take_81 : decode cX0_take 81 = .ok (.iload 5, 2) := by decide +kernel
theorem dX0_take_83 : decode cX0_take 83 = .ok (.ishl, 1) := by decide +kernel
theorem dX0_take_84 : decode cX0_take 84 = .ok (.aload_n 0, 1) := by decide +kernel
theorem dX0_take_85 : decode cX0_take 85 = .ok (.iload_n 2, 1) := by decide +kernel
theorem dX0_take_86 : decode cX0_take 86 = .ok (.invokevirtual 122, 3) := by decide +kernel
theorem dX0_take_89 : decode cX0_take 89 = .ok (.ior, 1) := by decide +kernel
theorem dX0_take_90 : decode cX0_take 90 = .ok (.aload_n 0, 1) := by decide +kernel
theorem dX0_take_91 : decode cX0_take 91 = .ok (.iload 4, 2) := by decide +kernel
theorem dX0_take_93 : decode cX0_take 93 = .ok (.invokevirtual 125, 3) := by decide +kernel
theorem dX0_take_96 : decode cX0_take 96 = .ok (.ior, 1) := by decide +kernel
theorem dX0_take_97 : decode cX0_take 97 = .ok (.iastore, 1) := by decide +kernel
theorem dX0_take_98 : decode cX0_take 98 = .ok (.aload_n 0, 1) := by decide +kernel
theorem dX0_take_99 : decode cX0_take 99 = .ok (.getfield 9, 3) := by decide +kernel
theorem dX0_take_102 : decode cX0_take 102 = .ok (.iload_n 2, 1) := by decide +kernel
theorem dX0_take_103 : decode cX0_take 103 = .ok (.dup2, 1) := by decide +kernel
theorem dX0_take_104 : decode cX0_take 104 = .ok (.iaload, 1) := by decide +kernel
theorem dX0_take_105 : decode cX0_take 105 = .ok (.iconst 1, 1) := by decide +kernel
theorem dX0_take_106 : decode cX0_take 106 = .ok (.iadd, 1) := by decide +kernel
theorem dX0_take_107 : decode cX0_take 107 = .ok (.iastore, 1) := by decide +kernel
theorem dX0_take_108 : decode cX0_take 108 = .ok (.aload_n 0, 1) := by decide +kernel
theorem dX0_take_109 : decode cX0_take 109 = .ok (.iload_n 2, 1) := by decide +kernel
theorem dX0_take_110 : decode cX0_take 110 = .ok (.iload 5, 2) := by decide +kernel
theorem dX0_take_112 : decode cX0_take 112 = .ok (.iload 4, 2) := by decide +kernel
theorem dX0_take_114 : decode cX0_take 114 = .ok (.invokevirtual 128, 3) := by decide +kernel
theorem dX0_take_117 : decode cX0_take 117 = .ok (.aload_n 0, 1) := by decide +kernel
theorem dX0_take_118 : decode cX0_take 118 = .ok (.iload_n 2, 1) := by decide +kernel
theorem dX0_take_119 : decode cX0_take 119 = .ok (.iload 5, 2) := by decide +kernel
theorem dX0_take_121 : decode cX0_take 121 = .ok (.invokevirtual 132, 3) := by decide +kernel
theorem dX0_take_124 : decode cX0_take 124 = .ok (.return_, 1) := by decide +kernel
theorem dX0_pastAhead_0 : decode cX0_pastAhead 0 = .ok (.aload_n 0, 1) := by decide +kernel
theorem dX0_pastAhead_1 : decode cX0_pastAhead 1 = .ok (.getfield 9, 3) := by decide +kernel
theorem dX0_pastAhead_4 : decode cX0_pastAhead 4 = .ok (.iload_n 1, 1) := by decide +kernel
theorem dX0_pastAhead_5 : decode cX0_pastAhead 5 = .ok (.iaload, 1) := by decide +kernel
theorem dX0_pastAhead_6 : decode cX0_pastAhead 6 = .ok (.ifCond .ne 7, 3) := by decide +kernel
theorem dX0_pastAhead_9 : decode cX0_pastAhead 9 = .ok (.iconst 0, 1) := by decide +kernel
theorem dX0_pastAhead_10 : decode cX0_pastAhead 10 = .ok (.goto 20, 3) := by decide +kernel
theorem dX0_pastAhead_13 : decode cX0_pastAhead 13 = .ok (.aload_n 0, 1) := by decide +kernel
theorem dX0_pastAhead_14 : decode cX0_pastAhead 14 = .ok (.getfield 24, 3) := by decide +kernel
theorem dX0_pastAhead_17 : decode cX0_pastAhead 17 = .ok (.iload_n 1, 1) := by decide +kernel
theorem dX0_pastAhead_18 : decode cX0_pastAhead 18 = .ok (.aload_n 0, 1) := by decide +kernel
theorem dX0_pastAhead_19 : decode cX0_pastAhead 19 = .ok (.getfield 9, 3) := by decide +kernel
theorem dX0_pastAhead_22 : decode cX0_pastAhead 22 = .ok (.iload_n 1, 1) := by decide +kernel
theorem dX0_pastAhead_23 : decode cX0_pastAhead 23 = .ok (.iaload, 1) := by decide +kernel
theorem dX0_pastAhead_24 : decode cX0_pastAhead 24 = .ok (.iconst 1, 1) := by decide +kernel
theorem dX0_pastAhead_25 : decode cX0_pastAhead 25 = .ok (.isub, 1) := by decide +kernel
theorem dX0_pastAhead_26 : decode cX0_pastAhead 26 = .ok (.invokestatic 88, 3) := by decide +kernel
theorem dX0_pastAhead_29 : decode cX0_pastAhead 29 = .ok (.iaload, 1) := by decide +kernel
theorem dX0_pastAhead_30 : decode cX0_pastAhead 30 = .ok (.ireturn, 1) := by decide +kernel
theorem dX0_pastOfBirth_0 : decode cX0_pastOfBirth 0 = .ok (.aload_n 0, 1) := by decide +kernel
theorem dX0_pastOfBirth_1 : decode cX0_pastOfBirth 1 = .ok (.getfield 33, 3) := by decide +kernel
theorem dX0_pastOfBirth_4 : decode cX0_pastOfBirth 4 = .ok (.iload_n 1, 1) := by decide +kernel
theorem dX0_pastOfBirth_5 : decode cX0_pastOfBirth 5 = .ok (.iaload, 1) := by decide +kernel
theorem dX0_pastOfBirth_6 : decode cX0_pastOfBirth 6 = .ok (.ifCond .ge 7, 3) := by decide +kernel
theorem dX0_pastOfBirth_9 : decode cX0_pastOfBirth 9 = .ok (.iconst 0, 1) := by decide +kernel
theorem dX0_pastOfBirth_10 : decode cX0_pastOfBirth 10 = .ok (.goto 14, 3) := by decide +kernel
theorem dX0_pastOfBirth_13 : decode cX0_pastOfBirth 13 = .ok (.aload_n 0, 1) := by decide +kernel
theorem dX0_pastOfBirth_14 : decode cX0_pastOfBirth 14 = .ok (.getfield 24, 3) := by decide +kernel
theorem dX0_pastOfBirth_17 : decode cX0_pastOfBirth 17 = .ok (.aload_n 0, 1) := by decide +kernel
theorem dX0_pastOfBirth_18 : decode cX0_pastOfBirth 18 = .ok (.getfield 33, 3) := by decide +kernel
theorem dX0_pastOfBirth_21 : decode cX0_pastOfBirth 21 = .ok (.iload_n 1, 1) := by decide +kernel
theorem dX0_pastOfBirth_22 : decode cX0_pastOfBirth 22 = .ok (.iaload, 1) := by decide +kernel
theorem dX0_pastOfBirth_23 : decode cX0_pastOfBirth 23 = .ok (.iaload, 1) := by decide +kernel
theorem dX0_pastOfBirth_24 : decode cX0_pastOfBirth 24 = .ok (.ireturn, 1) := by decide +kernel
theorem dX0_learn_0 : decode cX0_learn 0 = .ok (.iconst 0, 1) := by decide +kernel
theorem dX0_learn_1 : decode cX0_learn 1 = .ok (.istore 4, 2) := by decide +kernel
theorem dX0_learn_3 : decode cX0_learn 3 = .ok (.iload 4, 2) := by decide +kernel
theorem dX0_learn_5 : decode cX0_learn 5 = .ok (.aload_n 0, 1) := by decide +kernel
theorem dX0_learn_6 : decode cX0_learn 6 = .ok (.getfield 49, 3) := by decide +kernel
theorem dX0_learn_9 : decode cX0_learn 9 = .ok (.if_icmp .ge 34, 3) := by decide +kernel
theorem dX0_learn_12 : decode cX0_learn 12 = .ok (.aload_n 0, 1) := by decide +kernel
theorem dX0_learn_13 : decode cX0_learn 13 = .ok (.getfield 42, 3) := by decide +kernel
theorem dX0_learn_16 : decode cX0_learn 16 = .ok (.iload_n 1, 1) := by decide +kernel
theorem dX0_learn_17 : decode cX0_learn 17 = .ok (.iconst 4, 1) := by decide +kernel
theorem dX0_learn_18 : decode cX0_learn 18 = .ok (.imul, 1) := by decide +kernel
theorem dX0_learn_19 : decode cX0_learn 19 = .ok (.iload 4, 2) := by decide +kernel
theorem dX0_learn_21 : decode cX0_learn 21 = .ok (.iadd, 1) := by decide +kernel
theorem dX0_learn_22 : decode cX0_learn 22 = .ok (.dup2, 1) := by decide +kernel
theorem dX0_learn_23 : decode cX0_learn 23 = .ok (.iaload, 1) := by decide +kernel
theorem dX0_learn_24 : decode cX0_learn 24 = .ok (.aload_n 0, 1) := by decide +kernel
theorem dX0_learn_25 : decode cX0_learn 25 = .ok (.getfield 39, 3) := by decide +kernel
theorem dX0_learn_28 : decode cX0_learn 28 = .ok (.iload_n 3, 1) := by decide +kernel
theorem dX0_learn_29 : decode cX0_learn 29 = .ok (.iconst 4, 1) := by decide +kernel
theorem dX0_learn_30 : decode cX0_learn 30 = .ok (.imul, 1) := by decide +kernel
theorem dX0_learn_31 : decode cX0_learn 31 = .ok (.iload 4, 2) := by decide +kernel
theorem dX0_learn_33 : decode cX0_learn 33 = .ok (.iadd, 1) := by decide +kernel
theorem dX0_learn_34 : decode cX0_learn 34 = .ok (.iaload, 1) := by decide +kernel
theorem dX0_learn_35 : decode cX0_learn 35 = .ok (.ior, 1) := by decide +kernel
theorem dX0_learn_36 : decode cX0_learn 36 = .ok (.iastore, 1) := by decide +kernel
theorem dX0_learn_37 : decode cX0_learn 37 = .ok (.iinc 4 1, 3) := by decide +kernel
theorem dX0_learn_40 : decode cX0_learn 40 = .ok (.goto (-37), 3) := by decide +kernel
theorem dX0_learn_43 : decode cX0_learn 43 = .ok (.aload_n 0, 1) := by decide +kernel
theorem dX0_learn_44 : decode cX0_learn 44 = .ok (.getfield 42, 3) := by decide +kernel
theorem dX0_learn_47 : decode cX0_learn 47 = .ok (.iload_n 1, 1) := by decide +kernel
theorem dX0_learn_48 : decode cX0_learn 48 = .ok (.iconst 4, 1) := by decide +kernel
theorem dX0_learn_49 : decode cX0_learn 49 = .ok (.imul, 1) := by decide +kernel
theorem dX0_learn_50 : decode cX0_learn 50 = .ok (.iload_n 1, 1) := by decide +kernel
theorem dX0_learn_51 : decode cX0_learn 51 = .ok (.iadd, 1) := by decide +kernel
theorem dX0_learn_52 : decode cX0_learn 52 = .ok (.dup2, 1) := by decide +kernel
theorem dX0_learn_53 : decode cX0_learn 53 = .ok (.iaload, 1) := by decide +kernel
theorem dX0_learn_54 : decode cX0_learn 54 = .ok (.iconst 1, 1) := by decide +kernel
theorem dX0_learn_55 : decode cX0_learn 55 = .ok (.iload_n 2, 1) := by decide +kernel
theorem dX0_learn_56 : decode cX0_learn 56 = .ok (.ishl, 1) := by decide +kernel
theorem dX0_learn_57 : decode cX0_learn 57 = .ok (.aload_n 0, 1) := by decide +kernel
theorem dX0_learn_58 : decode cX0_learn 58 = .ok (.getfield 36, 3) := by decide +kernel
theorem dX0_learn_61 : decode cX0_learn 61 = .ok (.iload_n 3, 1) := by decide +kernel
theorem dX0_learn_62 : decode cX0_learn 62 = .ok (.iaload, 1) := by decide +kernel
theorem dX0_learn_63 : decode cX0_learn 63 = .ok (.ior, 1) := by decide +kernel
theorem dX0_learn_64 : decode cX0_learn 64 = .ok (.ior, 1) := by decide +kernel
theorem dX0_learn_65 : decode cX0_learn 65 = .ok (.iastore, 1) := by decide +kernel
theorem dX0_learn_66 : decode cX0_learn 66 = .ok (.return_, 1) := by decide +kernel
theorem dX0_answer_0 : decode cX0_answer 0 = .ok (.aload_n 0, 1) := by decide +kernel
theorem dX0_answer_1 : decode cX0_answer 1 = .ok (.getfield 21, 3) := by decide +kernel
theorem dX0_answer_4 : decode cX0_answer 4 = .ok (.iload_n 2, 1) := by decide +kernel
theorem dX0_answer_5 : decode cX0_answer 5 = .ok (.iaload, 1) := by decide +kernel
theorem dX0_answer_6 : decode cX0_answer 6 = .ok (.istore_n 3, 1) := by decide +kernel
theorem dX0_answer_7 : decode cX0_answer 7 = .ok (.aload_n 0, 1) := by decide +kernel
theorem dX0_answer_8 : decode cX0_answer 8 = .ok (.getfield 49, 3) := by decide +kernel
theorem dX0_answer_11 : decode cX0_answer 11 = .ok (.ifCond .le 12, 3) := by decide +kernel
theorem dX0_answer_14 : decode cX0_answer 14 = .ok (.iload_n 3, 1) := by decide +kernel
theorem dX0_answer_15 : decode cX0_answer 15 = .ok (.aload_n 0, 1) := by decide +kernel
theorem dX0_answer_16 : decode cX0_answer 16 = .ok (.getfield 49, 3) := by decide +kernel
theorem dX0_answer_19 : decode cX0_answer 19 = .ok (.irem, 1) := by decide +kernel
theorem dX0_answer_20 : decode cX0_answer 20 = .ok (.goto 4, 3) := by decide +kernel
theorem dX0_answer_23 : decode cX0_answer 23 = .ok (.iload_n 1, 1) := by decide +kernel
theorem dX0_answer_24 : decode cX0_answer 24 = .ok (.istore 4, 2) := by decide +kernel
theorem dX0_answer_26 : decode cX0_answer 26 = .ok (.iload_n 3, 1) := by decide +kernel
theorem dX0_answer_27 : decode cX0_answer 27 = .ok (.iconst 3, 1) := by decide +kernel
theorem dX0_answer_28 : decode cX0_answer 28 = .ok (.irem, 1) := by decide +kernel
theorem dX0_answer_29 : decode cX0_answer 29 = .ok (.ifCond .eq 38, 3) := by decide +kernel
theorem dX0_answer_32 : decode cX0_answer 32 = .ok (.iload 4, 2) := by decide +kernel
theorem dX0_answer_34 : decode cX0_answer 34 = .ok (.iload_n 1, 1) := by decide +kernel
theorem dX0_answer_35 : decode cX0_answer 35 = .ok (.if_icmp .eq 32, 3) := by decide +kernel
theorem dX0_answer_38 : decode cX0_answer 38 = .ok (.aload_n 0, 1) := by decide +kernel
theorem dX0_answer_39 : decode cX0_answer 39 = .ok (.iload_n 1, 1) := by decide +kernel
theorem dX0_answer_40 : decode cX0_answer 40 = .ok (.iload 4, 2) := by decide +kernel
theorem dX0_answer_42 : decode cX0_answer 42 = .ok (.invokevirtual 91, 3) := by decide +kernel
theorem dX0_answer_45 : decode cX0_answer 45 = .ok (.bipush 8, 2) := by decide +kernel
theorem dX0_answer_47 : decode cX0_answer 47 = .ok (.if_icmp .ge 20, 3) := by decide +kernel
theorem dX0_answer_50 : decode cX0_answer 50 = .ok (.aload_n 0, 1) := by decide +kernel
theorem dX0_answer_51 : decode cX0_answer 51 = .ok (.iload_n 1, 1) := by decide +kernel
theorem dX0_answer_52 : decode cX0_answer 52 = .ok (.iload 4, 2) := by decide +kernel
theorem dX0_answer_54 : decode cX0_answer 54 = .ok (.iload_n 3, 1) := by decide +kernel
theorem dX0_answer_55 : decode cX0_answer 55 = .ok (.bipush 100, 2) := by decide +kernel
theorem dX0_answer_57 : decode cX0_answer 57 = .ok (.irem, 1) := by decide +kernel
theorem dX0_answer_58 : decode cX0_answer 58 = .ok (.iload_n 2, 1) := by decide +kernel
theorem dX0_answer_59 : decode cX0_answer 59 = .ok (.aload_n 0, 1) := by decide +kernel
theorem dX0_answer_60 : decode cX0_answer 60 = .ok (.iload_n 1, 1) := by decide +kernel
theorem dX0_answer_61 : decode cX0_answer 61 = .ok (.invokevirtual 135, 3) := by decide +kernel
theorem dX0_answer_64 : decode cX0_answer 64 = .ok (.invokevirtual 138, 3) := by decide +kernel
theorem dX0_answer_67 : decode cX0_answer 67 = .ok (.return_, 1) := by decide +kernel
theorem dX0_crash_0 : decode cX0_crash 0 = .ok (.aload_n 0, 1) := by decide +kernel
theorem dX0_crash_1 : decode cX0_crash 1 = .ok (.dup, 1) := by decide +kernel
theorem dX0_crash_2 : decode cX0_crash 2 = .ok (.getfield 56, 3) := by decide +kernel
theorem dX0_crash_5 : decode cX0_crash 5 = .ok (.iconst 1, 1) := by decide +kernel
theorem dX0_crash_6 : decode cX0_crash 6 = .ok (.iload_n 1, 1) := by decide +kernel
theorem dX0_crash_7 : decode cX0_crash 7 = .ok (.ishl, 1) := by decide +kernel
theorem dX0_crash_8 : decode cX0_crash 8 = .ok (.ior, 1) := by decide +kernel
theorem dX0_crash_9 : decode cX0_crash 9 = .ok (.putfield 56, 3) := by decide +kernel
theorem dX0_crash_12 : decode cX0_crash 12 = .ok (.iconst 0, 1) := by decide +kernel
theorem dX0_crash_13 : decode cX0_crash 13 = .ok (.istore_n 2, 1) := by decide +kernel
theorem dX0_crash_14 : decode cX0_crash 14 = .ok (.iload_n 2, 1) := by decide +kernel
theorem dX0_crash_15 : decode cX0_crash 15 = .ok (.iconst 4, 1) := by decide +kernel
theorem dX0_crash_16 : decode cX0_crash 16 = .ok (.if_icmp .ge 20, 3) := by decide +kernel
theorem dX0_crash_19 : decode cX0_crash 19 = .ok (.aload_n 0, 1) := by decide +kernel
theorem dX0_crash_20 : decode cX0_crash 20 = .ok (.getfield 42, 3) := by decide +kernel
theorem dX0_crash_23 : decode cX0_crash 23 = .ok (.iload_n 1, 1) := by decide +kernel
theorem dX0_crash_24 : decode cX0_crash 24 = .ok (.iconst 4, 1) := by decide +kernel
theorem dX0_crash_25 : decode cX0_crash 25 = .ok (.imul, 1) := by decide +kernel
theorem dX0_crash_26 : decode cX0_crash 26 = .ok (.iload_n 2, 1) := by decide +kernel
theorem dX0_crash_27 : decode cX0_crash 27 = .ok (.iadd, 1) := by decide +kernel
theorem dX0_crash_28 : decode cX0_crash 28 = .ok (.iconst 0, 1) := by decide +kernel
theorem dX0_crash_29 : decode cX0_crash 29 = .ok (.iastore, 1) := by decide +kernel
theorem dX0_crash_30 : decode cX0_crash 30 = .ok (.iinc 2 1, 3) := by decide +kernel
theorem dX0_crash_33 : decode cX0_crash 33 = .ok (.goto (-19), 3) := by decide +kernel
theorem dX0_crash_36 : decode cX0_crash 36 = .ok (.return_, 1) := by decide +kernel
theorem dX0_keptIfDown_0 : decode cX0_keptIfDown 0 = .ok (.iconst 0, 1) := by decide +kernel
theorem dX0_keptIfDown_1 : decode cX0_keptIfDown 1 = .ok (.istore_n 2, 1) := by decide +kernel
theorem dX0_keptIfDown_2 : decode cX0_keptIfDown 2 = .ok (.iconst 0, 1) := by decide +kernel
theorem dX0_keptIfDown_3 : decode cX0_keptIfDown 3 = .ok (.istore_n 3, 1) := by decide +kernel
theorem dX0_keptIfDown_4 : decode cX0_keptIfDown 4 = .ok (.iload_n 3, 1) := by decide +kernel
theorem dX0_keptIfDown_5 : decode cX0_keptIfDown 5 = .ok (.aload_n 0, 1) := by decide +kernel
theorem dX0_keptIfDown_6 : decode cX0_keptIfDown 6 = .ok (.getfield 49, 3) := by decide +kernel
theorem dX0_keptIfDown_9 : decode cX0_keptIfDown 9 = .ok (.if_icmp .ge 30, 3) := by decide +kernel
theorem dX0_keptIfDown_12 : decode cX0_keptIfDown 12 = .ok (.iload_n 1, 1) := by decide +kernel
theorem dX0_keptIfDown_13 : decode cX0_keptIfDown 13 = .ok (.iload_n 3, 1) := by decide +kernel
theorem dX0_keptIfDown_14 : decode cX0_keptIfDown 14 = .ok (.ishr, 1) := by decide +kernel
theorem dX0_keptIfDown_15 : decode cX0_keptIfDown 15 = .ok (.iconst 1, 1) := by decide +kernel
theorem dX0_keptIfDown_16 : decode cX0_keptIfDown 16 = .ok (.iand, 1) := by decide +kernel
theorem dX0_keptIfDown_17 : decode cX0_keptIfDown 17 = .ok (.ifCond .ne 16, 3) := by decide +kernel
theorem dX0_keptIfDown_20 : decode cX0_keptIfDown 20 = .ok (.iload_n 2, 1) := by decide +kernel
theorem dX0_keptIfDown_21 : decode cX0_keptIfDown 21 = .ok (.iload_n 3, 1) := by decide +kernel
theorem dX0_keptIfDown_22 : decode cX0_keptIfDown 22 = .ok (.invokestatic 71, 3) := by decide +kernel
theorem dX0_keptIfDown_25 : decode cX0_keptIfDown 25 = .ok (.aload_n 0, 1) := by decide +kernel
theorem dX0_keptIfDown_26 : decode cX0_keptIfDown 26 = .ok (.iload_n 3, 1) := by decide +kernel
theorem dX0_keptIfDown_27 : decode cX0_keptIfDown 27 = .ok (.invokevirtual 104, 3) := by decide +kernel
theorem dX0_keptIfDown_30 : decode cX0_keptIfDown 30 = .ok (.ior, 1) := by decide +kernel
theorem dX0_keptIfDown_31 : decode cX0_keptIfDown 31 = .ok (.ior, 1) := by decide +kernel
theorem dX0_keptIfDown_32 : decode cX0_keptIfDown 32 = .ok (.istore_n 2, 1) := by decide +kernel
theorem dX0_keptIfDown_33 : decode cX0_keptIfDown 33 = .ok (.iinc 3 1, 3) := by decide +kernel
theorem dX0_keptIfDown_36 : decode cX0_keptIfDown 36 = .ok (.goto (-32), 3) := by decide +kernel
theorem dX0_keptIfDown_39 : decode cX0_keptIfDown 39 = .ok (.iconst 0, 1) := by decide +kernel
theorem dX0_keptIfDown_40 : decode cX0_keptIfDown 40 = .ok (.istore_n 3, 1) := by decide +kernel
theorem dX0_keptIfDown_41 : decode cX0_keptIfDown 41 = .ok (.iconst 0, 1) := by decide +kernel
theorem dX0_keptIfDown_42 : decode cX0_keptIfDown 42 = .ok (.istore 4, 2) := by decide +kernel
theorem dX0_keptIfDown_44 : decode cX0_keptIfDown 44 = .ok (.iload 4, 2) := by decide +kernel
theorem dX0_keptIfDown_46 : decode cX0_keptIfDown 46 = .ok (.aload_n 0, 1) := by decide +kernel
theorem dX0_keptIfDown_47 : decode cX0_keptIfDown 47 = .ok (.getfield 49, 3) := by decide +kernel
theorem dX0_keptIfDown_50 : decode cX0_keptIfDown 50 = .ok (.if_icmp .ge 60, 3) := by decide +kernel
theorem dX0_keptIfDown_53 : decode cX0_keptIfDown 53 = .ok (.iconst 0, 1) := by decide +kernel
theorem dX0_keptIfDown_54 : decode cX0_keptIfDown 54 = .ok (.istore 5, 2) := by decide +kernel
theorem dX0_keptIfDown_56 : decode cX0_keptIfDown 56 = .ok (.iload 5, 2) := by decide +kernel
theorem dX0_keptIfDown_58 : decode cX0_keptIfDown 58 = .ok (.aload_n 0, 1) := by decide +kernel
theorem dX0_keptIfDown_59 : decode cX0_keptIfDown 59 = .ok (.getfield 9, 3) := by decide +kernel
theorem dX0_keptIfDown_62 : decode cX0_keptIfDown 62 = .ok (.iload 4, 2) := by decide +kernel
theorem dX0_keptIfDown_64 : decode cX0_keptIfDown 64 = .ok (.iaload, 1) := by decide +kernel
theorem dX0_keptIfDown_65 : decode cX0_keptIfDown 65 = .ok (.if_icmp .ge 39, 3) := by decide +kernel
theorem dX0_keptIfDown_68 : decode cX0_keptIfDown 68 = .ok (.iload 4, 2) := by decide +kernel
theorem dX0_keptIfDown_70 : decode cX0_keptIfDown 70 = .ok (.iload 5, 2) := by decide +kernel
theorem dX0_keptIfDown_72 : decode cX0_keptIfDown 72 = .ok (.invokestatic 88, 3) := by decide +kernel
theorem dX0_keptIfDown_75 : decode cX0_keptIfDown 75 = .ok (.istore 6, 2) := by decide +kernel
theorem dX0_keptIfDown_77 : decode cX0_keptIfDown 77 = .ok (.aload_n 0, 1) := by decide +kernel
theorem dX0_keptIfDown_78 : decode cX0_keptIfDown 78 = .ok (.getfield 24, 3) := by decide +kernel
theorem dX0_keptIfDown_81 : decode cX0_keptIfDown 81 = .ok (.iload 6, 2) := by decide +kernel
theorem dX0_keptIfDown_83 : decode cX0_keptIfDown 83 = .ok (.iaload, 1) := by decide +kernel
theorem dX0_keptIfDown_84 : decode cX0_keptIfDown 84 = .ok (.iload_n 2, 1) := by decide +kernel
theorem dX0_keptIfDown_85 : decode cX0_keptIfDown 85 = .ok (.iconst (-1), 1) := by decide +kernel
theorem dX0_keptIfDown_86 : decode cX0_keptIfDown 86 = .ok (.ixor, 1) := by decide +kernel
theorem dX0_keptIfDown_87 : decode cX0_keptIfDown 87 = .ok (.iand, 1) := by decide +kernel
theorem dX0_keptIfDown_88 : decode cX0_keptIfDown 88 = .ok (.ifCond .ne 10, 3) := by decide +kernel
theorem dX0_keptIfDown_91 : decode cX0_keptIfDown 91 = .ok (.iload_n 3, 1) := by decide +kernel
theorem dX0_keptIfDown_92 : decode cX0_keptIfDown 92 = .ok (.iconst 1, 1) := by decide +kernel
theorem dX0_keptIfDown_93 : decode cX0_keptIfDown 93 = .ok (.iload 6, 2) := by decide +kernel
theorem dX0_keptIfDown_95 : decode cX0_keptIfDown 95 = .ok (.ishl, 1) := by decide +kernel
theorem dX0_keptIfDown_96 : decode cX0_keptIfDown 96 = .ok (.ior, 1) := by decide +kernel
theorem dX0_keptIfDown_97 : decode cX0_keptIfDown 97 = .ok (.istore_n 3, 1) := by decide +kernel
theorem dX0_keptIfDown_98 : decode cX0_keptIfDown 98 = .ok (.iinc 5 1, 3) := by decide +kernel
theorem dX0_keptIfDown_101 : decode cX0_keptIfDown 101 = .ok (.goto (-45), 3) := by decide +kernel
theorem dX0_keptIfDown_104 : decode cX0_keptIfDown 104 = .ok (.iinc 4 1, 3) := by decide +kernel
theorem dX0_keptIfDown_107 : decode cX0_keptIfDown 107 = .ok (.goto (-63), 3) := by decide +kernel
theorem dX0_keptIfDown_110 : decode cX0_keptIfDown 110 = .ok (.iload_n 3, 1) := by decide +kernel
theorem dX0_keptIfDown_111 : decode cX0_keptIfDown 111 = .ok (.ireturn, 1) := by decide +kernel
theorem dX0_lostBut_0 : decode cX0_lostBut 0 = .ok (.aload_n 0, 1) := by decide +kernel
theorem dX0_lostBut_1 : decode cX0_lostBut 1 = .ok (.invokevirtual 142, 3) := by decide +kernel
theorem dX0_lostBut_4 : decode cX0_lostBut 4 = .ok (.iload_n 1, 1) := by decide +kernel
theorem dX0_lostBut_5 : decode cX0_lostBut 5 = .ok (.invokestatic 75, 3) := by decide +kernel
theorem dX0_lostBut_8 : decode cX0_lostBut 8 = .ok (.isub, 1) := by decide +kernel
theorem dX0_lostBut_9 : decode cX0_lostBut 9 = .ok (.ireturn, 1) := by decide +kernel
theorem dX0_orphansBut_0 : decode cX0_orphansBut 0 = .ok (.iconst 0, 1) := by decide +kernel
theorem dX0_orphansBut_1 : decode cX0_orphansBut 1 = .ok (.istore_n 3, 1) := by decide +kernel
theorem dX0_orphansBut_2 : decode cX0_orphansBut 2 = .ok (.iconst 0, 1) := by decide +kernel
theorem dX0_orphansBut_3 : decode cX0_orphansBut 3 = .ok (.istore 4, 2) := by decide +kernel
theorem dX0_orphansBut_5 : decode cX0_orphansBut 5 = .ok (.iload 4, 2) := by decide +kernel
theorem dX0_orphansBut_7 : decode cX0_orphansBut 7 = .ok (.aload_n 0, 1) := by decide +kernel
theorem dX0_orphansBut_8 : decode cX0_orphansBut 8 = .ok (.getfield 49, 3) := by decide +kernel
theorem dX0_orphansBut_11 : decode cX0_orphansBut 11 = .ok (.if_icmp .ge 37, 3) := by decide +kernel
theorem dX0_orphansBut_14 : decode cX0_orphansBut 14 = .ok (.iload_n 2, 1) := by decide +kernel
theorem dX0_orphansBut_15 : decode cX0_orphansBut 15 = .ok (.iload 4, 2) := by decide +kernel
theorem dX0_orphansBut_17 : decode cX0_orphansBut 17 = .ok (.ishr, 1) := by decide +kernel
theorem dX0_orphansBut_18 : decode cX0_orphansBut 18 = .ok (.iconst 1, 1) := by decide +kernel
theorem dX0_orphansBut_19 : decode cX0_orphansBut 19 = .ok (.iand, 1) := by decide +kernel
theorem dX0_orphansBut_20 : decode cX0_orphansBut 20 = .ok (.ifCond .ne 22, 3) := by decide +kernel
theorem dX0_orphansBut_23 : decode cX0_orphansBut 23 = .ok (.iload_n 1, 1) := by decide +kernel
theorem dX0_orphansBut_24 : decode cX0_orphansBut 24 = .ok (.iload 4, 2) := by decide +kernel
theorem dX0_orphansBut_26 : decode cX0_orphansBut 26 = .ok (.invokestatic 146, 3) := by decide +kernel
theorem dX0_orphansBut_29 : decode cX0_orphansBut 29 = .ok (.aload_n 0, 1) := by decide +kernel
theorem dX0_orphansBut_30 : decode cX0_orphansBut 30 = .ok (.getfield 9, 3) := by decide +kernel
theorem dX0_orphansBut_33 : decode cX0_orphansBut 33 = .ok (.iload 4, 2) := by decide +kernel
theorem dX0_orphansBut_35 : decode cX0_orphansBut 35 = .ok (.iaload, 1) := by decide +kernel
theorem dX0_orphansBut_36 : decode cX0_orphansBut 36 = .ok (.if_icmp .ge 6, 3) := by decide +kernel
theorem dX0_orphansBut_39 : decode cX0_orphansBut 39 = .ok (.iinc 3 1, 3) := by decide +kernel
theorem dX0_orphansBut_42 : decode cX0_orphansBut 42 = .ok (.iinc 4 1, 3) := by decide +kernel
theorem dX0_orphansBut_45 : decode cX0_orphansBut 45 = .ok (.goto (-40), 3) := by decide +kernel
theorem dX0_orphansBut_48 : decode cX0_orphansBut 48 = .ok (.iload_n 3, 1) := by decide +kernel
theorem dX0_orphansBut_49 : decode cX0_orphansBut 49 = .ok (.ireturn, 1) := by decide +kernel
theorem dX0_raiseAll_0 : decode cX0_raiseAll 0 = .ok (.aload_n 0, 1) := by decide +kernel
theorem dX0_raiseAll_1 : decode cX0_raiseAll 1 = .ok (.aload_n 0, 1) := by decide +kernel
theorem dX0_raiseAll_2 : decode cX0_raiseAll 2 = .ok (.getfield 56, 3) := by decide +kernel
theorem dX0_raiseAll_5 : decode cX0_raiseAll 5 = .ok (.invokevirtual 149, 3) := by decide +kernel
theorem dX0_raiseAll_8 : decode cX0_raiseAll 8 = .ok (.istore_n 1, 1) := by decide +kernel
theorem dX0_raiseAll_9 : decode cX0_raiseAll 9 = .ok (.aload_n 0, 1) := by decide +kernel
theorem dX0_raiseAll_10 : decode cX0_raiseAll 10 = .ok (.iload_n 1, 1) := by decide +kernel
theorem dX0_raiseAll_11 : decode cX0_raiseAll 11 = .ok (.invokevirtual 152, 3) := by decide +kernel
theorem dX0_raiseAll_14 : decode cX0_raiseAll 14 = .ok (.istore_n 2, 1) := by decide +kernel
theorem dX0_raiseAll_15 : decode cX0_raiseAll 15 = .ok (.iconst 0, 1) := by decide +kernel
theorem dX0_raiseAll_16 : decode cX0_raiseAll 16 = .ok (.istore_n 3, 1) := by decide +kernel
theorem dX0_raiseAll_17 : decode cX0_raiseAll 17 = .ok (.iload_n 3, 1) := by decide +kernel
theorem dX0_raiseAll_18 : decode cX0_raiseAll 18 = .ok (.aload_n 0, 1) := by decide +kernel
theorem dX0_raiseAll_19 : decode cX0_raiseAll 19 = .ok (.getfield 49, 3) := by decide +kernel
theorem dX0_raiseAll_22 : decode cX0_raiseAll 22 = .ok (.if_icmp .ge 46, 3) := by decide +kernel
theorem dX0_raiseAll_25 : decode cX0_raiseAll 25 = .ok (.aload_n 0, 1) := by decide +kernel
theorem dX0_raiseAll_26 : decode cX0_raiseAll 26 = .ok (.getfield 9, 3) := by decide +kernel
theorem dX0_raiseAll_29 : decode cX0_raiseAll 29 = .ok (.iload_n 3, 1) := by decide +kernel
theorem dX0_raiseAll_30 : decode cX0_raiseAll 30 = .ok (.iload_n 1, 1) := by decide +kernel
theorem dX0_raiseAll_31 : decode cX0_raiseAll 31 = .ok (.iload_n 3, 1) := by decide +kernel
theorem dX0_raiseAll_32 : decode cX0_raiseAll 32 = .ok (.invokestatic 146, 3) := by decide +kernel
theorem dX0_raiseAll_35 : decode cX0_raiseAll 35 = .ok (.iastore, 1) := by decide +kernel
theorem dX0_raiseAll_36 : decode cX0_raiseAll 36 = .ok (.iconst 0, 1) := by decide +kernel
theorem dX0_raiseAll_37 : decode cX0_raiseAll 37 = .ok (.istore 4, 2) := by decide +kernel
theorem dX0_raiseAll_39 : decode cX0_raiseAll 39 = .ok (.iload 4, 2) := by decide +kernel
theorem dX0_raiseAll_41 : decode cX0_raiseAll 41 = .ok (.aload_n 0, 1) := by decide +kernel
theorem dX0_raiseAll_42 : decode cX0_raiseAll 42 = .ok (.getfield 49, 3) := by decide +kernel
theorem dX0_raiseAll_45 : decode cX0_raiseAll 45 = .ok (.if_icmp .ge 17, 3) := by decide +kernel
theorem dX0_raiseAll_48 : decode cX0_raiseAll 48 = .ok (.aload_n 0, 1) := by decide +kernel
theorem dX0_raiseAll_49 : decode cX0_raiseAll 49 = .ok (.iload_n 3, 1) := by decide +kernel
theorem dX0_raiseAll_50 : decode cX0_raiseAll 50 = .ok (.iload 4, 2) := by decide +kernel
theorem dX0_raiseAll_52 : decode cX0_raiseAll 52 = .ok (.iload_n 1, 1) := by decide +kernel
theorem dX0_raiseAll_53 : decode cX0_raiseAll 53 = .ok (.invokevirtual 155, 3) := by decide +kernel
theorem dX0_raiseAll_56 : decode cX0_raiseAll 56 = .ok (.iinc 4 1, 3) := by decide +kernel
theorem dX0_raiseAll_59 : decode cX0_raiseAll 59 = .ok (.goto (-20), 3) := by decide +kernel
theorem dX0_raiseAll_62 : decode cX0_raiseAll 62 = .ok (.iinc 3 1, 3) := by decide +kernel
theorem dX0_raiseAll_65 : decode cX0_raiseAll 65 = .ok (.goto (-48), 3) := by decide +kernel
theorem dX0_raiseAll_68 : decode cX0_raiseAll 68 = .ok (.iconst 0, 1) := by decide +kernel
theorem dX0_raiseAll_69 : decode cX0_raiseAll 69 = .ok (.istore_n 3, 1) := by decide +kernel
theorem dX0_raiseAll_70 : decode cX0_raiseAll 70 = .ok (.iload_n 3, 1) := by decide +kernel
theorem dX0_raiseAll_71 : decode cX0_raiseAll 71 = .ok (.bipush 16, 2) := by decide +kernel
theorem dX0_raiseAll_73 : decode cX0_raiseAll 73 = .ok (.if_icmp .ge 19, 3) := by decide +kernel
theorem dX0_raiseAll_76 : decode cX0_raiseAll 76 = .ok (.aload_n 0, 1) := by decide +kernel
theorem dX0_raiseAll_77 : decode cX0_raiseAll 77 = .ok (.getfield 42, 3) := by decide +kernel
theorem dX0_raiseAll_80 : decode cX0_raiseAll 80 = .ok (.iload_n 3, 1) := by decide +kernel
theorem dX0_raiseAll_81 : decode cX0_raiseAll 81 = .ok (.dup2, 1) := by decide +kernel
theorem dX0_raiseAll_82 : decode cX0_raiseAll 82 = .ok (.iaload, 1) := by decide +kernel
theorem dX0_raiseAll_83 : decode cX0_raiseAll 83 = .ok (.iload_n 1, 1) := by decide +kernel
theorem dX0_raiseAll_84 : decode cX0_raiseAll 84 = .ok (.iand, 1) := by decide +kernel
theorem dX0_raiseAll_85 : decode cX0_raiseAll 85 = .ok (.iastore, 1) := by decide +kernel
theorem dX0_raiseAll_86 : decode cX0_raiseAll 86 = .ok (.iinc 3 1, 3) := by decide +kernel
theorem dX0_raiseAll_89 : decode cX0_raiseAll 89 = .ok (.goto (-19), 3) := by decide +kernel
theorem dX0_raiseAll_92 : decode cX0_raiseAll 92 = .ok (.aload_n 0, 1) := by decide +kernel
theorem dX0_raiseAll_93 : decode cX0_raiseAll 93 = .ok (.invokevirtual 158, 3) := by decide +kernel
theorem dX0_raiseAll_96 : decode cX0_raiseAll 96 = .ok (.aload_n 0, 1) := by decide +kernel
theorem dX0_raiseAll_97 : decode cX0_raiseAll 97 = .ok (.iconst 0, 1) := by decide +kernel
theorem dX0_raiseAll_98 : decode cX0_raiseAll 98 = .ok (.putfield 56, 3) := by decide +kernel
theorem dX0_raiseAll_101 : decode cX0_raiseAll 101 = .ok (.iload_n 2, 1) := by decide +kernel
theorem dX0_raiseAll_102 : decode cX0_raiseAll 102 = .ok (.ireturn, 1) := by decide +kernel
theorem dX0_keepLettersOn_0 : decode cX0_keepLettersOn 0 = .ok (.iconst 0, 1) := by decide +kernel
theorem dX0_keepLettersOn_1 : decode cX0_keepLettersOn 1 = .ok (.istore 4, 2) := by decide +kernel
theorem dX0_keepLettersOn_3 : decode cX0_keepLettersOn 3 = .ok (.aload_n 0, 1) := by decide +kernel
theorem dX0_keepLettersOn_4 : decode cX0_keepLettersOn 4 = .ok (.iload_n 1, 1) := by decide +kernel
theorem dX0_keepLettersOn_5 : decode cX0_keepLettersOn 5 = .ok (.iload_n 2, 1) := by decide +kernel
theorem dX0_keepLettersOn_6 : decode cX0_keepLettersOn 6 = .ok (.invokevirtual 91, 3) := by decide +kernel
theorem dX0_keepLettersOn_9 : decode cX0_keepLettersOn 9 = .ok (.istore 5, 2) := by decide +kernel
theorem dX0_keepLettersOn_11 : decode cX0_keepLettersOn 11 = .ok (.iconst 0, 1) := by decide +kernel
theorem dX0_keepLettersOn_12 : decode cX0_keepLettersOn 12 = .ok (.istore 6, 2) := by decide +kernel
theorem dX0_keepLettersOn_14 : decode cX0_keepLettersOn 14 = .ok (.iload 6, 2) := by decide +kernel
theorem dX0_keepLettersOn_16 : decode cX0_keepLettersOn 16 = .ok (.iload 5, 2) := by decide +kernel
theorem dX0_keepLettersOn_18 : decode cX0_keepLettersOn 18 = .ok (.if_icmp .ge 77, 3) := by decide +kernel
theorem dX0_keepLettersOn_21 : decode cX0_keepLettersOn 21 = .ok (.iload_n 1, 1) := by decide +kernel
theorem dX0_keepLettersOn_22 : decode cX0_keepLettersOn 22 = .ok (.iload_n 2, 1) := by decide +kernel
theorem dX0_keepLettersOn_23 : decode cX0_keepLettersOn 23 = .ok (.iload 6, 2) := by decide +kernel
theorem dX0_keepLettersOn_25 : decode cX0_keepLettersOn 25 = .ok (.invokestatic 100, 3) := by decide +kernel
theorem dX0_keepLettersOn_28 : decode cX0_keepLettersOn 28 = .ok (.istore 7, 2) := by decide +kernel
theorem dX0_keepLettersOn_30 : decode cX0_keepLettersOn 30 = .ok (.iload_n 3, 1) := by decide +kernel
theorem dX0_keepLettersOn_31 : decode cX0_keepLettersOn 31 = .ok (.aload_n 0, 1) := by decide +kernel
theorem dX0_keepLettersOn_32 : decode cX0_keepLettersOn 32 = .ok (.getfield 33, 3) := by decide +kernel
theorem dX0_keepLettersOn_35 : decode cX0_keepLettersOn 35 = .ok (.iload 7, 2) := by decide +kernel
theorem dX0_keepLettersOn_37 : decode cX0_keepLettersOn 37 = .ok (.iaload, 1) := by decide +kernel
theorem dX0_keepLettersOn_38 : decode cX0_keepLettersOn 38 = .ok (.iushr, 1) := by decide +kernel
theorem dX0_keepLettersOn_39 : decode cX0_keepLettersOn 39 = .ok (.iconst 1, 1) := by decide +kernel
theorem dX0_keepLettersOn_40 : decode cX0_keepLettersOn 40 = .ok (.iand, 1) := by decide +kernel
theorem dX0_keepLettersOn_41 : decode cX0_keepLettersOn 41 = .ok (.ifCond .eq 6, 3) := by decide +kernel
theorem dX0_keepLettersOn_44 : decode cX0_keepLettersOn 44 = .ok (.iinc 4 1, 3) := by decide +kernel
theorem dX0_keepLettersOn_47 : decode cX0_keepLettersOn 47 = .ok (.aload_n 0, 1) := by decide +kernel
theorem dX0_keepLettersOn_48 : decode cX0_keepLettersOn 48 = .ok (.getfield 36, 3) := by decide +kernel
theorem dX0_keepLettersOn_51 : decode cX0_keepLettersOn 51 = .ok (.iload 7, 2) := by decide +kernel
theorem dX0_keepLettersOn_53 : decode cX0_keepLettersOn 53 = .ok (.dup2, 1) := by decide +kernel
theorem dX0_keepLettersOn_54 : decode cX0_keepLettersOn 54 = .ok (.iaload, 1) := by decide +kernel
theorem dX0_keepLettersOn_55 : decode cX0_keepLettersOn 55 = .ok (.iload_n 3, 1) := by decide +kernel
theorem dX0_keepLettersOn_56 : decode cX0_keepLettersOn 56 = .ok (.iand, 1) := by decide +kernel
theorem dX0_keepLettersOn_57 : decode cX0_keepLettersOn 57 = .ok (.iastore, 1) := by decide +kernel
theorem dX0_keepLettersOn_58 : decode cX0_keepLettersOn 58 = .ok (.iconst 0, 1) := by decide +kernel
theorem dX0_keepLettersOn_59 : decode cX0_keepLettersOn 59 = .ok (.istore 8, 2) := by decide +kernel
theorem dX0_keepLettersOn_61 : decode cX0_keepLettersOn 61 = .ok (.iload 8, 2) := by decide +kernel
theorem dX0_keepLettersOn_63 : decode cX0_keepLettersOn 63 = .ok (.iconst 4, 1) := by decide +kernel
theorem dX0_keepLettersOn_64 : decode cX0_keepLettersOn 64 = .ok (.if_icmp .ge 25, 3) := by decide +kernel
theorem dX0_keepLettersOn_67 : decode cX0_keepLettersOn 67 = .ok (.aload_n 0, 1) := by decide +kernel
theorem dX0_keepLettersOn_68 : decode cX0_keepLettersOn 68 = .ok (.getfield 39, 3) := by decide +kernel
theorem dX0_keepLettersOn_71 : decode cX0_keepLettersOn 71 = .ok (.iload 7, 2) := by decide +kernel
theorem dX0_keepLettersOn_73 : decode cX0_keepLettersOn 73 = .ok (.iconst 4, 1) := by decide +kernel
theorem dX0_keepLettersOn_74 : decode cX0_keepLettersOn 74 = .ok (.imul, 1) := by decide +kernel
theorem dX0_keepLettersOn_75 : decode cX0_keepLettersOn 75 = .ok (.iload 8, 2) := by decide +kernel
theorem dX0_keepLettersOn_77 : decode cX0_keepLettersOn 77 = .ok (.iadd, 1) := by decide +kernel
theorem dX0_keepLettersOn_78 : decode cX0_keepLettersOn 78 = .ok (.dup2, 1) := by decide +kernel
theorem dX0_keepLettersOn_79 : decode cX0_keepLettersOn 79 = .ok (.iaload, 1) := by decide +kernel
theorem dX0_keepLettersOn_80 : decode cX0_keepLettersOn 80 = .ok (.iload_n 3, 1) := by decide +kernel
theorem dX0_keepLettersOn_81 : decode cX0_keepLettersOn 81 = .ok (.iand, 1) := by decide +kernel
theorem dX0_keepLettersOn_82 : decode cX0_keepLettersOn 82 = .ok (.iastore, 1) := by decide +kernel
theorem dX0_keepLettersOn_83 : decode cX0_keepLettersOn 83 = .ok (.iinc 8 1, 3) := by decide +kernel
theorem dX0_keepLettersOn_86 : decode cX0_keepLettersOn 86 = .ok (.goto (-25), 3) := by decide +kernel
theorem dX0_keepLettersOn_89 : decode cX0_keepLettersOn 89 = .ok (.iinc 6 1, 3) := by decide +kernel
theorem dX0_keepLettersOn_92 : decode cX0_keepLettersOn 92 = .ok (.goto (-78), 3) := by decide +kernel
theorem dX0_keepLettersOn_95 : decode cX0_keepLettersOn 95 = .ok (.aload_n 0, 1) := by decide +kernel
theorem dX0_keepLettersOn_96 : decode cX0_keepLettersOn 96 = .ok (.getfield 27, 3) := by decide +kernel
theorem dX0_keepLettersOn_99 : decode cX0_keepLettersOn 99 = .ok (.iload_n 1, 1) := by decide +kernel
theorem dX0_keepLettersOn_100 : decode cX0_keepLettersOn 100 = .ok (.iload_n 2, 1) := by decide +kernel
theorem dX0_keepLettersOn_101 : decode cX0_keepLettersOn 101 = .ok (.invokestatic 80, 3) := by decide +kernel
theorem dX0_keepLettersOn_104 : decode cX0_keepLettersOn 104 = .ok (.iload 4, 2) := by decide +kernel
theorem dX0_keepLettersOn_106 : decode cX0_keepLettersOn 106 = .ok (.iastore, 1) := by decide +kernel
theorem dX0_keepLettersOn_107 : decode cX0_keepLettersOn 107 = .ok (.return_, 1) := by decide +kernel
theorem dX0_learnAll_0 : decode cX0_learnAll 0 = .ok (.iconst 0, 1) := by decide +kernel
theorem dX0_learnAll_1 : decode cX0_learnAll 1 = .ok (.istore_n 3, 1) := by decide +kernel
theorem dX0_learnAll_2 : decode cX0_learnAll 2 = .ok (.iload_n 3, 1) := by decide +kernel
theorem dX0_learnAll_3 : decode cX0_learnAll 3 = .ok (.aload_n 0, 1) := by decide +kernel
theorem dX0_learnAll_4 : decode cX0_learnAll 4 = .ok (.getfield 49, 3) := by decide +kernel
theorem dX0_learnAll_7 : decode cX0_learnAll 7 = .ok (.if_icmp .ge 36, 3) := by decide +kernel
theorem dX0_learnAll_10 : decode cX0_learnAll 10 = .ok (.aload_n 0, 1) := by decide +kernel
theorem dX0_learnAll_11 : decode cX0_learnAll 11 = .ok (.getfield 42, 3) := by decide +kernel
theorem dX0_learnAll_14 : decode cX0_learnAll 14 = .ok (.iload_n 1, 1) := by decide +kernel
theorem dX0_learnAll_15 : decode cX0_learnAll 15 = .ok (.iconst 4, 1) := by decide +kernel
theorem dX0_learnAll_16 : decode cX0_learnAll 16 = .ok (.imul, 1) := by decide +kernel
theorem dX0_learnAll_17 : decode cX0_learnAll 17 = .ok (.iload_n 3, 1) := by decide +kernel
theorem dX0_learnAll_18 : decode cX0_learnAll 18 = .ok (.iadd, 1) := by decide +kernel
theorem dX0_learnAll_19 : decode cX0_learnAll 19 = .ok (.aload_n 0, 1) := by decide +kernel
theorem dX0_learnAll_20 : decode cX0_learnAll 20 = .ok (.iload_n 3, 1) := by decide +kernel
theorem dX0_learnAll_21 : decode cX0_learnAll 21 = .ok (.invokevirtual 161, 3) := by decide +kernel
theorem dX0_learnAll_24 : decode cX0_learnAll 24 = .ok (.ifCond .eq 7, 3) := by decide +kernel
theorem dX0_learnAll_27 : decode cX0_learnAll 27 = .ok (.iload_n 2, 1) := by decide +kernel
theorem dX0_learnAll_28 : decode cX0_learnAll 28 = .ok (.goto 8, 3) := by decide +kernel
theorem dX0_learnAll_31 : decode cX0_learnAll 31 = .ok (.aload_n 0, 1) := by decide +kernel
theorem dX0_learnAll_32 : decode cX0_learnAll 32 = .ok (.iload_n 3, 1) := by decide +kernel
theorem dX0_learnAll_33 : decode cX0_learnAll 33 = .ok (.invokevirtual 104, 3) := by decide +kernel
theorem dX0_learnAll_36 : decode cX0_learnAll 36 = .ok (.iastore, 1) := by decide +kernel
theorem dX0_learnAll_37 : decode cX0_learnAll 37 = .ok (.iinc 3 1, 3) := by decide +kernel
theorem dX0_learnAll_40 : decode cX0_learnAll 40 = .ok (.goto (-38), 3) := by decide +kernel
theorem dX0_learnAll_43 : decode cX0_learnAll 43 = .ok (.return_, 1) := by decide +kernel
theorem dX0_tellTheRaised_0 : decode cX0_tellTheRaised 0 = .ok (.iconst 0, 1) := by decide +kernel
theorem dX0_tellTheRaised_1 : decode cX0_tellTheRaised 1 = .ok (.istore_n 1, 1) := by decide +kernel
theorem dX0_tellTheRaised_2 : decode cX0_tellTheRaised 2 = .ok (.iconst 0, 1) := by decide +kernel
theorem dX0_tellTheRaised_3 : decode cX0_tellTheRaised 3 = .ok (.istore_n 2, 1) := by decide +kernel
theorem dX0_tellTheRaised_4 : decode cX0_tellTheRaised 4 = .ok (.iload_n 2, 1) := by decide +kernel
theorem dX0_tellTheRaised_5 : decode cX0_tellTheRaised 5 = .ok (.aload_n 0, 1) := by decide +kernel
theorem dX0_tellTheRaised_6 : decode cX0_tellTheRaised 6 = .ok (.getfield 49, 3) := by decide +kernel
theorem dX0_tellTheRaised_9 : decode cX0_tellTheRaised 9 = .ok (.if_icmp .ge 17, 3) := by decide +kernel
theorem dX0_tellTheRaised_12 : decode cX0_tellTheRaised 12 = .ok (.iload_n 1, 1) := by decide +kernel
theorem dX0_tellTheRaised_13 : decode cX0_tellTheRaised 13 = .ok (.aload_n 0, 1) := by decide +kernel
theorem dX0_tellTheRaised_14 : decode cX0_tellTheRaised 14 = .ok (.iload_n 2, 1) := by decide +kernel
theorem dX0_tellTheRaised_15 : decode cX0_tellTheRaised 15 = .ok (.invokevirtual 104, 3) := by decide +kernel
theorem dX0_tellTheRaised_18 : decode cX0_tellTheRaised 18 = .ok (.ior, 1) := by decide +kernel
theorem dX0_tellTheRaised_19 : decode cX0_tellTheRaised 19 = .ok (.istore_n 1, 1) := by decide +kernel
theorem dX0_tellTheRaised_20 : decode cX0_tellTheRaised 20 = .ok (.iinc 2 1, 3) := by decide +kernel
theorem dX0_tellTheRaised_23 : decode cX0_tellTheRaised 23 = .ok (.goto (-19), 3) := by decide +kernel
theorem dX0_tellTheRaised_26 : decode cX0_tellTheRaised 26 = .ok (.iconst 0, 1) := by decide +kernel
theorem dX0_tellTheRaised_27 : decode cX0_tellTheRaised 27 = .ok (.istore_n 2, 1) := by decide +kernel
theorem dX0_tellTheRaised_28 : decode cX0_tellTheRaised 28 = .ok (.iload_n 2, 1) := by decide +kernel
theorem dX0_tellTheRaised_29 : decode cX0_tellTheRaised 29 = .ok (.aload_n 0, 1) := by decide +kernel
theorem dX0_tellTheRaised_30 : decode cX0_tellTheRaised 30 = .ok (.getfield 49, 3) := by decide +kernel
theorem dX0_tellTheRaised_33 : decode cX0_tellTheRaised 33 = .ok (.if_icmp .ge 23, 3) := by decide +kernel
theorem dX0_tellTheRaised_36 : decode cX0_tellTheRaised 36 = .ok (.aload_n 0, 1) := by decide +kernel
theorem dX0_tellTheRaised_37 : decode cX0_tellTheRaised 37 = .ok (.iload_n 2, 1) := by decide +kernel
theorem dX0_tellTheRaised_38 : decode cX0_tellTheRaised 38 = .ok (.invokevirtual 161, 3) := by decide +kernel
theorem dX0_tellTheRaised_41 : decode cX0_tellTheRaised 41 = .ok (.ifCond .eq 9, 3) := by decide +kernel
theorem dX0_tellTheRaised_44 : decode cX0_tellTheRaised 44 = .ok (.aload_n 0, 1) := by decide +kernel
theorem dX0_tellTheRaised_45 : decode cX0_tellTheRaised 45 = .ok (.iload_n 2, 1) := by decide +kernel
theorem dX0_tellTheRaised_46 : decode cX0_tellTheRaised 46 = .ok (.iload_n 1, 1) := by decide +kernel
theorem dX0_tellTheRaised_47 : decode cX0_tellTheRaised 47 = .ok (.invokevirtual 164, 3) := by decide +kernel
theorem dX0_tellTheRaised_50 : decode cX0_tellTheRaised 50 = .ok (.iinc 2 1, 3) := by decide +kernel
theorem dX0_tellTheRaised_53 : decode cX0_tellTheRaised 53 = .ok (.goto (-25), 3) := by decide +kernel
theorem dX0_tellTheRaised_56 : decode cX0_tellTheRaised 56 = .ok (.return_, 1) := by decide +kernel
