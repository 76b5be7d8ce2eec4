theorem dX2_append_49 : decode cX2_append 49 = .ok (.return_, 1) := by decide +kernel
theorem dX2_faultAt_0 : decode cX2_faultAt 0 = .ok (.iconst 0, 1) := by decide +kernel
theorem dX2_faultAt_1 : decode cX2_faultAt 1 = .ok (.istore_n 2, 1) := by decide +kernel
theorem dX2_faultAt_2 : decode cX2_faultAt 2 = .ok (.iload_n 2, 1) := by decide +kernel
theorem dX2_faultAt_3 : decode cX2_faultAt 3 = .ok (.aload_n 0, 1) := by decide +kernel
theorem dX2_faultAt_4 : decode cX2_faultAt 4 = .ok (.getfield 19, 3) := by decide +kernel
theorem dX2_faultAt_7 : decode cX2_faultAt 7 = .ok (.if_icmp .ge 20, 3) := by decide +kernel
theorem dX2_faultAt_10 : decode cX2_faultAt 10 = .ok (.aload_n 0, 1) := by decide +kernel
theorem dX2_faultAt_11 : decode cX2_faultAt 11 = .ok (.iload_n 2, 1) := by decide +kernel
theorem dX2_faultAt_12 : decode cX2_faultAt 12 = .ok (.iload_n 1, 1) := by decide +kernel
theorem dX2_faultAt_13 : decode cX2_faultAt 13 = .ok (.invokevirtual 23, 3) := by decide +kernel
theorem dX2_faultAt_16 : decode cX2_faultAt 16 = .ok (.ifCond .ne 5, 3) := by decide +kernel
theorem dX2_faultAt_19 : decode cX2_faultAt 19 = .ok (.iload_n 2, 1) := by decide +kernel
theorem dX2_faultAt_20 : decode cX2_faultAt 20 = .ok (.ireturn, 1) := by decide +kernel
theorem dX2_faultAt_21 : decode cX2_faultAt 21 = .ok (.iinc 2 1, 3) := by decide +kernel
theorem dX2_faultAt_24 : decode cX2_faultAt 24 = .ok (.goto (-22), 3) := by decide +kernel
theorem dX2_faultAt_27 : decode cX2_faultAt 27 = .ok (.aload_n 0, 1) := by decide +kernel
theorem dX2_faultAt_28 : decode cX2_faultAt 28 = .ok (.getfield 19, 3) := by decide +kernel
theorem dX2_faultAt_31 : decode cX2_faultAt 31 = .ok (.ireturn, 1) := by decide +kernel
theorem dX2_isHouse_0 : decode cX2_isHouse 0 = .ok (.aload_n 0, 1) := by decide +kernel
theorem dX2_isHouse_1 : decode cX2_isHouse 1 = .ok (.getfield 19, 3) := by decide +kernel
theorem dX2_isHouse_4 : decode cX2_isHouse 4 = .ok (.bipush 6, 2) := by decide +kernel
theorem dX2_isHouse_6 : decode cX2_isHouse 6 = .ok (.if_icmp .ne 19, 3) := by decide +kernel
theorem dX2_isHouse_9 : decode cX2_isHouse 9 = .ok (.aload_n 0, 1) := by decide +kernel
theorem dX2_isHouse_10 : decode cX2_isHouse 10 = .ok (.iload_n 1, 1) := by decide +kernel
theorem dX2_isHouse_11 : decode cX2_isHouse 11 = .ok (.invokevirtual 27, 3) := by decide +kernel
theorem dX2_isHouse_14 : decode cX2_isHouse 14 = .ok (.aload_n 0, 1) := by decide +kernel
theorem dX2_isHouse_15 : decode cX2_isHouse 15 = .ok (.getfield 19, 3) := by decide +kernel
theorem dX2_isHouse_18 : decode cX2_isHouse 18 = .ok (.if_icmp .ne 7, 3) := by decide +kernel
theorem dX2_isHouse_21 : decode cX2_isHouse 21 = .ok (.iconst 1, 1) := by decide +kernel
theorem dX2_isHouse_22 : decode cX2_isHouse 22 = .ok (.goto 4, 3) := by decide +kernel
theorem dX2_isHouse_25 : decode cX2_isHouse 25 = .ok (.iconst 0, 1) := by decide +kernel
theorem dX2_isHouse_26 : decode cX2_isHouse 26 = .ok (.ireturn, 1) := by decide +kernel
theorem dX2_fits_0 : decode cX2_fits 0 = .ok (.aload_n 0, 1) := by decide +kernel
theorem dX2_fits_1 : decode cX2_fits 1 = .ok (.getfield 9, 3) := by decide +kernel
theorem dX2_fits_4 : decode cX2_fits 4 = .ok (.iload_n 1, 1) := by decide +kernel
theorem dX2_fits_5 : decode cX2_fits 5 = .ok (.iaload, 1) := by decide +kernel
theorem dX2_fits_6 : decode cX2_fits 6 = .ok (.istore_n 3, 1) := by decide +kernel
theorem dX2_fits_7 : decode cX2_fits 7 = .ok (.iload_n 1, 1) := by decide +kernel
theorem dX2_fits_8 : decode cX2_fits 8 = .ok (.tableswitch 114 0 5 #[40, 53, 76, 84, 98, 106], 40) := by decide +kernel
theorem dX2_fits_48 : decode cX2_fits 48 = .ok (.iload_n 3, 1) := by decide +kernel
theorem dX2_fits_49 : decode cX2_fits 49 = .ok (.invokestatic 31, 3) := by decide +kernel
theorem dX2_fits_52 : decode cX2_fits 52 = .ok (.ifCond .lt 7, 3) := by decide +kernel
theorem dX2_fits_55 : decode cX2_fits 55 = .ok (.iconst 1, 1) := by decide +kernel
theorem dX2_fits_56 : decode cX2_fits 56 = .ok (.goto 4, 3) := by decide +kernel
theorem dX2_fits_59 : decode cX2_fits 59 = .ok (.iconst 0, 1) := by decide +kernel
theorem dX2_fits_60 : decode cX2_fits 60 = .ok (.ireturn, 1) := by decide +kernel
theorem dX2_fits_61 : decode cX2_fits 61 = .ok (.iload_n 3, 1) := by decide +kernel
theorem dX2_fits_62 : decode cX2_fits 62 = .ok (.bipush 45, 2) := by decide +kernel
theorem dX2_fits_64 : decode cX2_fits 64 = .ok (.if_icmp .eq 14, 3) := by decide +kernel
theorem dX2_fits_67 : decode cX2_fits 67 = .ok (.iload_n 3, 1) := by decide +kernel
theorem dX2_fits_68 : decode cX2_fits 68 = .ok (.iconst 0, 1) := by decide +kernel
theorem dX2_fits_69 : decode cX2_fits 69 = .ok (.iload_n 2, 1) := by decide +kernel
theorem dX2_fits_70 : decode cX2_fits 70 = .ok (.iconst 1, 1) := by decide +kernel
theorem dX2_fits_71 : decode cX2_fits 71 = .ok (.isub, 1) := by decide +kernel
theorem dX2_fits_72 : decode cX2_fits 72 = .ok (.invokestatic 34, 3) := by decide +kernel
theorem dX2_fits_75 : decode cX2_fits 75 = .ok (.ifCond .eq 7, 3) := by decide +kernel
theorem dX2_fits_78 : decode cX2_fits 78 = .ok (.iconst 1, 1) := by decide +kernel
theorem dX2_fits_79 : decode cX2_fits 79 = .ok (.goto 4, 3) := by decide +kernel
theorem dX2_fits_82 : decode cX2_fits 82 = .ok (.iconst 0, 1) := by decide +kernel
theorem dX2_fits_83 : decode cX2_fits 83 = .ok (.ireturn, 1) := by decide +kernel
theorem dX2_fits_84 : decode cX2_fits 84 = .ok (.iload_n 3, 1) := by decide +kernel
theorem dX2_fits_85 : decode cX2_fits 85 = .ok (.iconst 0, 1) := by decide +kernel
theorem dX2_fits_86 : decode cX2_fits 86 = .ok (.bipush 8, 2) := by decide +kernel
theorem dX2_fits_88 : decode cX2_fits 88 = .ok (.invokestatic 34, 3) := by decide +kernel
theorem dX2_fits_91 : decode cX2_fits 91 = .ok (.ireturn, 1) := by decide +kernel
theorem dX2_fits_92 : decode cX2_fits 92 = .ok (.iload_n 3, 1) := by decide +kernel
theorem dX2_fits_93 : decode cX2_fits 93 = .ok (.aload_n 0, 1) := by decide +kernel
theorem dX2_fits_94 : decode cX2_fits 94 = .ok (.iconst 2, 1) := by decide +kernel
theorem dX2_fits_95 : decode cX2_fits 95 = .ok (.invokevirtual 38, 3) := by decide +kernel
theorem dX2_fits_98 : decode cX2_fits 98 = .ok (.iconst 1, 1) := by decide +kernel
theorem dX2_fits_99 : decode cX2_fits 99 = .ok (.iadd, 1) := by decide +kernel
theorem dX2_fits_100 : decode cX2_fits 100 = .ok (.bipush 9, 2) := by decide +kernel
theorem dX2_fits_102 : decode cX2_fits 102 = .ok (.invokestatic 34, 3) := by decide +kernel
theorem dX2_fits_105 : decode cX2_fits 105 = .ok (.ireturn, 1) := by decide +kernel
theorem dX2_fits_106 : decode cX2_fits 106 = .ok (.iload_n 3, 1) := by decide +kernel
theorem dX2_fits_107 : decode cX2_fits 107 = .ok (.iconst 1, 1) := by decide +kernel
theorem dX2_fits_108 : decode cX2_fits 108 = .ok (.bipush 9, 2) := by decide +kernel
theorem dX2_fits_110 : decode cX2_fits 110 = .ok (.invokestatic 34, 3) := by decide +kernel
theorem dX2_fits_113 : decode cX2_fits 113 = .ok (.ireturn, 1) := by decide +kernel
theorem dX2_fits_114 : decode cX2_fits 114 = .ok (.iload_n 3, 1) := by decide +kernel
theorem dX2_fits_115 : decode cX2_fits 115 = .ok (.iconst 0, 1) := by decide +kernel
theorem dX2_fits_116 : decode cX2_fits 116 = .ok (.bipush 9, 2) := by decide +kernel
theorem dX2_fits_118 : decode cX2_fits 118 = .ok (.invokestatic 34, 3) := by decide +kernel
theorem dX2_fits_121 : decode cX2_fits 121 = .ok (.ireturn, 1) := by decide +kernel
theorem dX2_fits_122 : decode cX2_fits 122 = .ok (.iconst 0, 1) := by decide +kernel
theorem dX2_fits_123 : decode cX2_fits 123 = .ok (.ireturn, 1) := by decide +kernel
theorem dX2_kindOf_0 : decode cX2_kindOf 0 = .ok (.ldc 41, 2) := by decide +kernel
theorem dX2_kindOf_2 : decode cX2_kindOf 2 = .ok (.iload_n 0, 1) := by decide +kernel
theorem dX2_kindOf_3 : decode cX2_kindOf 3 = .ok (.i2c, 1) := by decide +kernel
theorem dX2_kindOf_4 : decode cX2_kindOf 4 = .ok (.invokevirtual 43, 3) := by decide +kernel
theorem dX2_kindOf_7 : decode cX2_kindOf 7 = .ok (.ireturn, 1) := by decide +kernel
theorem dX2_isDigit_0 : decode cX2_isDigit 0 = .ok (.iload_n 0, 1) := by decide +kernel
theorem dX2_isDigit_1 : decode cX2_isDigit 1 = .ok (.bipush 48, 2) := by decide +kernel
theorem dX2_isDigit_3 : decode cX2_isDigit 3 = .ok (.iload_n 1, 1) := by decide +kernel
theorem dX2_isDigit_4 : decode cX2_isDigit 4 = .ok (.iadd, 1) := by decide +kernel
theorem dX2_isDigit_5 : decode cX2_isDigit 5 = .ok (.if_icmp .lt 15, 3) := by decide +kernel
theorem dX2_isDigit_8 : decode cX2_isDigit 8 = .ok (.iload_n 0, 1) := by decide +kernel
theorem dX2_isDigit_9 : decode cX2_isDigit 9 = .ok (.bipush 48, 2) := by decide +kernel
theorem dX2_isDigit_11 : decode cX2_isDigit 11 = .ok (.iload_n 2, 1) := by decide +kernel
theorem dX2_isDigit_12 : decode cX2_isDigit 12 = .ok (.iadd, 1) := by decide +kernel
theorem dX2_isDigit_13 : decode cX2_isDigit 13 = .ok (.if_icmp .gt 7, 3) := by decide +kernel
theorem dX2_isDigit_16 : decode cX2_isDigit 16 = .ok (.iconst 1, 1) := by decide +kernel
theorem dX2_isDigit_17 : decode cX2_isDigit 17 = .ok (.goto 4, 3) := by decide +kernel
theorem dX2_isDigit_20 : decode cX2_isDigit 20 = .ok (.iconst 0, 1) := by decide +kernel
theorem dX2_isDigit_21 : decode cX2_isDigit 21 = .ok (.ireturn, 1) := by decide +kernel
theorem dX2_digitAt_0 : decode cX2_digitAt 0 = .ok (.aload_n 0, 1) := by decide +kernel
theorem dX2_digitAt_1 : decode cX2_digitAt 1 = .ok (.getfield 9, 3) := by decide +kernel
theorem dX2_digitAt_4 : decode cX2_digitAt 4 = .ok (.iload_n 1, 1) := by decide +kernel
theorem dX2_digitAt_5 : decode cX2_digitAt 5 = .ok (.iaload, 1) := by decide +kernel
theorem dX2_digitAt_6 : decode cX2_digitAt 6 = .ok (.bipush 48, 2) := by decide +kernel
theorem dX2_digitAt_8 : decode cX2_digitAt 8 = .ok (.isub, 1) := by decide +kernel
theorem dX2_digitAt_9 : decode cX2_digitAt 9 = .ok (.ireturn, 1) := by decide +kernel
theorem dX3_init_0 : decode cX3_init 0 = .ok (.aload_n 0, 1) := by decide +kernel
theorem dX3_init_1 : decode cX3_init 1 = .ok (.invokespecial 3, 3) := by decide +kernel
theorem dX3_init_4 : decode cX3_init 4 = .ok (.aload_n 0, 1) := by decide +kernel
theorem dX3_init_5 : decode cX3_init 5 = .ok (.bipush 8, 2) := by decide +kernel
theorem dX3_init_7 : decode cX3_init 7 = .ok (.newarray .int, 2) := by decide +kernel
theorem dX3_init_9 : decode cX3_init 9 = .ok (.putfield 9, 3) := by decide +kernel
theorem dX3_init_12 : decode cX3_init 12 = .ok (.aload_n 0, 1) := by decide +kernel
theorem dX3_init_13 : decode cX3_init 13 = .ok (.bipush 8, 2) := by decide +kernel
theorem dX3_init_15 : decode cX3_init 15 = .ok (.newarray .int, 2) := by decide +kernel
theorem dX3_init_17 : decode cX3_init 17 = .ok (.putfield 15, 3) := by decide +kernel
theorem dX3_init_20 : decode cX3_init 20 = .ok (.return_, 1) := by decide +kernel
theorem dX3_add_0 : decode cX3_add 0 = .ok (.aload_n 0, 1) := by decide +kernel
theorem dX3_add_1 : decode cX3_add 1 = .ok (.getfield 18, 3) := by decide +kernel
theorem dX3_add_4 : decode cX3_add 4 = .ok (.bipush 8, 2) := by decide +kernel
theorem dX3_add_6 : decode cX3_add 6 = .ok (.if_icmp .ge 33, 3) := by decide +kernel
theorem dX3_add_9 : decode cX3_add 9 = .ok (.aload_n 0, 1) := by decide +kernel
theorem dX3_add_10 : decode cX3_add 10 = .ok (.getfield 9, 3) := by decide +kernel
theorem dX3_add_13 : decode cX3_add 13 = .ok (.aload_n 0, 1) := by decide +kernel
theorem dX3_add_14 : decode cX3_add 14 = .ok (.getfield 18, 3) := by decide +kernel
theorem dX3_add_17 : decode cX3_add 17 = .ok (.iload_n 1, 1) := by decide +kernel
theorem dX3_add_18 : decode cX3_add 18 = .ok (.iastore, 1) := by decide +kernel
theorem dX3_add_19 : decode cX3_add 19 = .ok (.aload_n 0, 1) := by decide +kernel
theorem dX3_add_20 : decode cX3_add 20 = .ok (.getfield 15, 3) := by decide +kernel
theorem dX3_add_23 : decode cX3_add 23 = .ok (.aload_n 0, 1) := by decide +kernel
theorem dX3_add_24 : decode cX3_add 24 = .ok (.getfield 18, 3) := by decide +kernel
theorem dX3_add_27 : decode cX3_add 27 = .ok (.iload_n 2, 1) := by decide +kernel
theorem dX3_add_28 : decode cX3_add 28 = .ok (.iastore, 1) := by decide +kernel
theorem dX3_add_29 : decode cX3_add 29 = .ok (.aload_n 0, 1) := by decide +kernel
theorem dX3_add_30 : decode cX3_add 30 = .ok (.dup, 1) := by decide +kernel
theorem dX3_add_31 : decode cX3_add 31 = .ok (.getfield 18, 3) := by decide +kernel
theorem dX3_add_34 : decode cX3_add 34 = .ok (.iconst 1, 1) := by decide +kernel
theorem dX3_add_35 : decode cX3_add 35 = .ok (.iadd, 1) := by decide +kernel
theorem dX3_add_36 : decode cX3_add 36 = .ok (.putfield 18, 3) := by decide +kernel
theorem dX3_add_39 : decode cX3_add 39 = .ok (.return_, 1) := by decide +kernel
theorem dX3_copyFrom_0 : decode cX3_copyFrom 0 = .ok (.aload_n 0, 1) := by decide +kernel
theorem dX3_copyFrom_1 : decode cX3_copyFrom 1 = .ok (.aload_n 1, 1) := by decide +kernel
theorem dX3_copyFrom_2 : decode cX3_copyFrom 2 = .ok (.getfield 18, 3) := by decide +kernel
theorem dX3_copyFrom_5 : decode cX3_copyFrom 5 = .ok (.putfield 18, 3) := by decide +kernel
theorem dX3_copyFrom_8 : decode cX3_copyFrom 8 = .ok (.aload_n 1, 1) := by decide +kernel
theorem dX3_copyFrom_9 : decode cX3_copyFrom 9 = .ok (.getfield 9, 3) := by decide +kernel
theorem dX3_copyFrom_12 : decode cX3_copyFrom 12 = .ok (.iconst 0, 1) := by decide +kernel
theorem dX3_copyFrom_13 : decode cX3_copyFrom 13 = .ok (.aload_n 0, 1) := by decide +kernel
theorem dX3_copyFrom_14 : decode cX3_copyFrom 14 = .ok (.getfield 9, 3) := by decide +kernel
theorem dX3_copyFrom_17 : decode cX3_copyFrom 17 = .ok (.iconst 0, 1) := by decide +kernel
theorem dX3_copyFrom_18 : decode cX3_copyFrom 18 = .ok (.bipush 8, 2) := by decide +kernel
theorem dX3_copyFrom_20 : decode cX3_copyFrom 20 = .ok (.invokestatic 22, 3) := by decide +kernel
theorem dX3_copyFrom_23 : decode cX3_copyFrom 23 = .ok (.aload_n 1, 1) := by decide +kernel
theorem dX3_copyFrom_24 : decode cX3_copyFrom 24 = .ok (.getfield 15, 3) := by decide +kernel
theorem dX3_copyFrom_27 : decode cX3_copyFrom 27 = .ok (.iconst 0, 1) := by decide +kernel
theorem dX3_copyFrom_28 : decode cX3_copyFrom 28 = .ok (.aload_n 0, 1) := by decide +kernel
theorem dX3_copyFrom_29 : decode cX3_copyFrom 29 = .ok (.getfield 15, 3) := by decide +kernel
theorem dX3_copyFrom_32 : decode cX3_copyFrom 32 = .ok (.iconst 0, 1) := by decide +kernel
theorem dX3_copyFrom_33 : decode cX3_copyFrom 33 = .ok (.bipush 8, 2) := by decide +kernel
theorem dX3_copyFrom_35 : decode cX3_copyFrom 35 = .ok (.invokestatic 22, 3) := by decide +kernel
theorem dX3_copyFrom_38 : decode cX3_copyFrom 38 = .ok (.return_, 1) := by decide +kernel
theorem dX3_leastLeakOf_0 : decode cX3_leastLeakOf 0 = .ok (.iconst 1, 1) := by decide +kernel
theorem dX3_leastLeakOf_1 : decode cX3_leastLeakOf 1 = .ok (.istore_n 2, 1) := by decide +kernel
theorem dX3_leastLeakOf_2 : decode cX3_leastLeakOf 2 = .ok (.iload_n 2, 1) := by decide +kernel
theorem dX3_leastLeakOf_3 : decode cX3_leastLeakOf 3 = .ok (.bipush 9, 2) := by decide +kernel
theorem dX3_leastLeakOf_5 : decode cX3_leastLeakOf 5 = .ok (.if_icmp .gt 20, 3) := by decide +kernel
theorem dX3_leastLeakOf_8 : decode cX3_leastLeakOf 8 = .ok (.aload_n 0, 1) := by decide +kernel
theorem dX3_leastLeakOf_9 : decode cX3_leastLeakOf 9 = .ok (.iload_n 1, 1) := by decide +kernel
theorem dX3_leastLeakOf_10 : decode cX3_leastLeakOf 10 = .ok (.iload_n 2, 1) := by decide +kernel
theorem dX3_leastLeakOf_11 : decode cX3_leastLeakOf 11 = .ok (.invokevirtual 28, 3) := by decide +kernel
theorem dX3_leastLeakOf_14 : decode cX3_leastLeakOf 14 = .ok (.ifCond .eq 5, 3) := by decide +kernel
theorem dX3_leastLeakOf_17 : decode cX3_leastLeakOf 17 = .ok (.iload_n 2, 1) := by decide +kernel
theorem dX3_leastLeakOf_18 : decode cX3_leastLeakOf 18 = .ok (.ireturn, 1) := by decide +kernel
theorem dX3_leastLeakOf_19 : decode cX3_leastLeakOf 19 = .ok (.iinc 2 1, 3) := by decide +kernel
theorem dX3_leastLeakOf_22 : decode cX3_leastLeakOf 22 = .ok (.goto (-20), 3) := by decide +kernel
theorem dX3_leastLeakOf_25 : decode cX3_leastLeakOf 25 = .ok (.iconst (-1), 1) := by decide +kernel
theorem dX3_leastLeakOf_26 : decode cX3_leastLeakOf 26 = .ok (.ireturn, 1) := by decide +kernel
theorem dX3_givesAll_0 : decode cX3_givesAll 0 = .ok (.iconst 0, 1) := by decide +kernel
theorem dX3_givesAll_1 : decode cX3_givesAll 1 = .ok (.istore_n 3, 1) := by decide +kernel
theorem dX3_givesAll_2 : decode cX3_givesAll 2 = .ok (.iload_n 3, 1) := by decide +kernel
theorem dX3_givesAll_3 : decode cX3_givesAll 3 = .ok (.aload_n 0, 1) := by decide +kernel
theorem dX3_givesAll_4 : decode cX3_givesAll 4 = .ok (.getfield 18, 3) := by decide +kernel
theorem dX3_givesAll_7 : decode cX3_givesAll 7 = .ok (.if_icmp .ge 42, 3) := by decide +kernel
theorem dX3_givesAll_10 : decode cX3_givesAll 10 = .ok (.aload_n 0, 1) := by decide +kernel
theorem dX3_givesAll_11 : decode cX3_givesAll 11 = .ok (.getfield 9, 3) := by decide +kernel
theorem dX3_givesAll_14 : decode cX3_givesAll 14 = .ok (.iload_n 3, 1) := by decide +kernel
theorem dX3_givesAll_15 : decode cX3_givesAll 15 = .ok (.iaload, 1) := by decide +kernel
theorem dX3_givesAll_16 : decode cX3_givesAll 16 = .ok (.iload_n 1, 1) := by decide +kernel
theorem dX3_givesAll_17 : decode cX3_givesAll 17 = .ok (.invokestatic 32, 3) := by decide +kernel
theorem dX3_givesAll_20 : decode cX3_givesAll 20 = .ok (.ifCond .eq 7, 3) := by decide +kernel
theorem dX3_givesAll_23 : decode cX3_givesAll 23 = .ok (.iload_n 2, 1) := by decide +kernel
theorem dX3_givesAll_24 : decode cX3_givesAll 24 = .ok (.goto 4, 3) := by decide +kernel
theorem dX3_givesAll_27 : decode cX3_givesAll 27 = .ok (.iconst 0, 1) := by decide +kernel
theorem dX3_givesAll_28 : decode cX3_givesAll 28 = .ok (.istore 4, 2) := by decide +kernel
theorem dX3_givesAll_30 : decode cX3_givesAll 30 = .ok (.iload 4, 2) := by decide +kernel
theorem dX3_givesAll_32 : decode cX3_givesAll 32 = .ok (.aload_n 0, 1) := by decide +kernel
theorem dX3_givesAll_33 : decode cX3_givesAll 33 = .ok (.getfield 15, 3) := by decide +kernel
theorem dX3_givesAll_36 : decode cX3_givesAll 36 = .ok (.iload_n 3, 1) := by decide +kernel
theorem dX3_givesAll_37 : decode cX3_givesAll 37 = .ok (.iaload, 1) := by decide +kernel
theorem dX3_givesAll_38 : decode cX3_givesAll 38 = .ok (.if_icmp .eq 5, 3) := by decide +kernel
theorem dX3_givesAll_41 : decode cX3_givesAll 41 = .ok (.iconst 0, 1) := by decide +kernel
theorem dX3_givesAll_42 : decode cX3_givesAll 42 = .ok (.ireturn, 1) := by decide +kernel
theorem dX3_givesAll_43 : decode cX3_givesAll 43 = .ok (.iinc 3 1, 3) := by decide +kernel
theorem dX3_givesAll_46 : decode cX3_givesAll 46 = .ok (.goto (-44), 3) := by decide +kernel
theorem dX3_givesAll_49 : decode cX3_givesAll 49 = .ok (.iconst 1, 1) := by decide +kernel
theorem dX3_givesAll_50 : decode cX3_givesAll 50 = .ok (.ireturn, 1) := by decide +kernel
theorem dX4_init_0 : decode cX4_init 0 = .ok (.aload_n 0, 1) := by decide +kernel
theorem dX4_init_1 : decode cX4_init 1 = .ok (.invokespecial 1, 3) := by decide +kernel
theorem dX4_init_4 : decode cX4_init 4 = .ok (.aload_n 0, 1) := by decide +kernel
theorem dX4_init_5 : decode cX4_init 5 = .ok (.new 7, 3) := by decide +kernel
theorem dX4_init_8 : decode cX4_init 8 = .ok (.dup, 1) := by decide +kernel
theorem dX4_init_9 : decode cX4_init 9 = .ok (.invokespecial 9, 3) := by decide +kernel
theorem dX4_init_12 : decode cX4_init 12 = .ok (.putfield 10, 3) := by decide +kernel
theorem dX4_init_15 : decode cX4_init 15 = .ok (.aload_n 0, 1) := by decide +kernel
theorem dX4_init_16 : decode cX4_init 16 = .ok (.new 16, 3) := by decide +kernel
theorem dX4_init_19 : decode cX4_init 19 = .ok (.dup, 1) := by decide +kernel
theorem dX4_init_20 : decode cX4_init 20 = .ok (.invokespecial 18, 3) := by decide +kernel
theorem dX4_init_23 : decode cX4_init 23 = .ok (.putfield 19, 3) := by decide +kernel
theorem dX4_init_26 : decode cX4_init 26 = .ok (.aload_n 0, 1) := by decide +kernel
theorem dX4_init_27 : decode cX4_init 27 = .ok (.new 23, 3) := by decide +kernel
theorem dX4_init_30 : decode cX4_init 30 = .ok (.dup, 1) := by decide +kernel
theorem dX4_init_31 : decode cX4_init 31 = .ok (.invokespecial 25, 3) := by decide +kernel
theorem dX4_init_34 : decode cX4_init 34 = .ok (.putfield 26, 3) := by decide +kernel
theorem dX4_init_37 : decode cX4_init 37 = .ok (.aload_n 0, 1) := by decide +kernel
theorem dX4_init_38 : decode cX4_init 38 = .ok (.new 30, 3) := by decide +kernel
theorem dX4_init_41 : decode cX4_init 41 = .ok (.dup, 1) := by decide +kernel
theorem dX4_init_42 : decode cX4_init 42 = .ok (.invokespecial 32, 3) := by decide +kernel
theorem dX4_init_45 : decode cX4_init 45 = .ok (.putfield 33, 3) := by decide +kernel
theorem dX4_init_48 : decode cX4_init 48 = .ok (.aload_n 0, 1) := by decide +kernel
theorem dX4_init_49 : decode cX4_init 49 = .ok (.new 23, 3) := by decide +kernel
theorem dX4_init_52 : decode cX4_init 52 = .ok (.dup, 1) := by decide +kernel
theorem dX4_init_53 : decode cX4_init 53 = .ok (.invokespecial 25, 3) := by decide +kernel
theorem dX4_init_56 : decode cX4_init 56 = .ok (.putfield 37, 3) := by decide +kernel
theorem dX4_init_59 : decode cX4_init 59 = .ok (.aload_n 0, 1) := by decide +kernel
theorem dX4_init_60 : decode cX4_init 60 = .ok (.new 23, 3) := by decide +kernel
theorem dX4_init_63 : decode cX4_init 63 = .ok (.dup, 1) := by decide +kernel
theorem dX4_init_64 : decode cX4_init 64 = .ok (.invokespecial 25, 3) := by decide +kernel
theorem dX4_init_67 : decode cX4_init 67 = .ok (.putfield 40, 3) := by decide +kernel
theorem dX4_init_70 : decode cX4_init 70 = .ok (.aload_n 0, 1) := by decide +kernel
theorem dX4_init_71 : decode cX4_init 71 = .ok (.new 30, 3) := by decide +kernel
theorem dX4_init_74 : decode cX4_init 74 = .ok (.dup, 1) := by decide +kernel
theorem dX4_init_75 : decode cX4_init 75 = .ok (.invokespecial 32, 3) := by decide +kernel
theorem dX4_init_78 : decode cX4_init 78 = .ok (.putfield 43, 3) := by decide +kernel
theorem dX4_init_81 : decode cX4_init 81 = .ok (.return_, 1) := by decide +kernel
theorem dX4_letters_0 : decode cX4_letters 0 = .ok (.lload_n 1, 1) := by decide +kernel
theorem dX4_letters_1 : decode cX4_letters 1 = .ok (.invokestatic 46, 3) := by decide +kernel
theorem dX4_letters_4 : decode cX4_letters 4 = .ok (.istore_n 3, 1) := by decide +kernel
theorem dX4_letters_5 : decode cX4_letters 5 = .ok (.iload_n 3, 1) := by decide +kernel
theorem dX4_letters_6 : decode cX4_letters 6 = .ok (.ifCond .ge 6, 3) := by decide +kernel
theorem dX4_letters_9 : decode cX4_letters 9 = .ok (.bipush (-102), 2) := by decide +kernel
theorem dX4_letters_11 : decode cX4_letters 11 = .ok (.ireturn, 1) := by decide +kernel
theorem dX4_letters_12 : decode cX4_letters 12 = .ok (.aload_n 0, 1) := by decide +kernel
theorem dX4_letters_13 : decode cX4_letters 13 = .ok (.getfield 10, 3) := by decide +kernel
theorem dX4_letters_16 : decode cX4_letters 16 = .ok (.getfield 50, 3) := by decide +kernel
theorem dX4_letters_19 : decode cX4_letters 19 = .ok (.iload_n 3, 1) := by decide +kernel
theorem dX4_letters_20 : decode cX4_letters 20 = .ok (.iadd, 1) := by decide +kernel
theorem dX4_letters_21 : decode cX4_letters 21 = .ok (.bipush 12, 2) := by decide +kernel
theorem dX4_letters_23 : decode cX4_letters 23 = .ok (.if_icmp .le 6, 3) := by decide +kernel
theorem dX4_letters_26 : decode cX4_letters 26 = .ok (.bipush (-104), 2) := by decide +kernel
theorem dX4_letters_28 : decode cX4_letters 28 = .ok (.ireturn, 1) := by decide +kernel
theorem dX4_letters_29 : decode cX4_letters 29 = .ok (.aload_n 0, 1) := by decide +kernel
theorem dX4_letters_30 : decode cX4_letters 30 = .ok (.getfield 10, 3) := by decide +kernel
theorem dX4_letters_33 : decode cX4_letters 33 = .ok (.lload_n 1, 1) := by decide +kernel
theorem dX4_letters_34 : decode cX4_letters 34 = .ok (.iload_n 3, 1) := by decide +kernel
theorem dX4_letters_35 : decode cX4_letters 35 = .ok (.invokevirtual 54, 3) := by decide +kernel
theorem dX4_letters_38 : decode cX4_letters 38 = .ok (.aload_n 0, 1) := by decide +kernel
theorem dX4_letters_39 : decode cX4_letters 39 = .ok (.getfield 10, 3) := by decide +kernel
theorem dX4_letters_42 : decode cX4_letters 42 = .ok (.getfield 50, 3) := by decide +kernel
theorem dX4_letters_45 : decode cX4_letters 45 = .ok (.ireturn, 1) := by decide +kernel
theorem dX4_blank_0 : decode cX4_blank 0 = .ok (.aload_n 0, 1) := by decide +kernel
theorem dX4_blank_1 : decode cX4_blank 1 = .ok (.getfield 10, 3) := by decide +kernel
theorem dX4_blank_4 : decode cX4_blank 4 = .ok (.getfield 50, 3) := by decide +kernel
theorem dX4_blank_7 : decode cX4_blank 7 = .ok (.istore_n 1, 1) := by decide +kernel
theorem dX4_blank_8 : decode cX4_blank 8 = .ok (.aload_n 0, 1) := by decide +kernel
theorem dX4_blank_9 : decode cX4_blank 9 = .ok (.getfield 10, 3) := by decide +kernel
theorem dX4_blank_12 : decode cX4_blank 12 = .ok (.iconst 0, 1) := by decide +kernel
theorem dX4_blank_13 : decode cX4_blank 13 = .ok (.putfield 50, 3) := by decide +kernel
theorem dX4_blank_16 : decode cX4_blank 16 = .ok (.iload_n 1, 1) := by decide +kernel
theorem dX4_blank_17 : decode cX4_blank 17 = .ok (.ireturn, 1) := by decide +kernel
theorem dX4_fault_0 : decode cX4_fault 0 = .ok (.aload_n 0, 1) := by decide +kernel
theorem dX4_fault_1 : decode cX4_fault 1 = .ok (.getfield 10, 3) := by decide +kernel
theorem dX4_fault_4 : decode cX4_fault 4 = .ok (.aload_n 0, 1) := by decide +kernel
theorem dX4_fault_5 : decode cX4_fault 5 = .ok (.getfield 19, 3) := by decide +kernel
theorem dX4_fault_8 : decode cX4_fault 8 = .ok (.getfield 58, 3) := by decide +kernel
theorem dX4_fault_11 : decode cX4_fault 11 = .ok (.invokevirtual 61, 3) := by decide +kernel
theorem dX4_fault_14 : decode cX4_fault 14 = .ok (.ireturn, 1) := by decide +kernel
theorem dX4_house_0 : decode cX4_house 0 = .ok (.aload_n 0, 1) := by decide +kernel
theorem dX4_house_1 : decode cX4_house 1 = .ok (.getfield 10, 3) := by decide +kernel
theorem dX4_house_4 : decode cX4_house 4 = .ok (.aload_n 0, 1) := by decide +kernel
theorem dX4_house_5 : decode cX4_house 5 = .ok (.getfield 19, 3) := by decide +kernel
theorem dX4_house_8 : decode cX4_house 8 = .ok (.getfield 58, 3) := by decide +kernel
theorem dX4_house_11 : decode cX4_house 11 = .ok (.invokevirtual 65, 3) := by decide +kernel
theorem dX4_house_14 : decode cX4_house 14 = .ok (.ifCond .eq 13, 3) := by decide +kernel
theorem dX4_house_17 : decode cX4_house 17 = .ok (.aload_n 0, 1) := by decide +kernel
theorem dX4_house_18 : decode cX4_house 18 = .ok (.getfield 26, 3) := by decide +kernel
theorem dX4_house_21 : decode cX4_house 21 = .ok (.invokevirtual 69, 3) := by decide +kernel
theorem dX4_house_24 : decode cX4_house 24 = .ok (.ifCond .eq 6, 3) := by decide +kernel
theorem dX4_house_27 : decode cX4_house 27 = .ok (.bipush (-103), 2) := by decide +kernel
theorem dX4_house_29 : decode cX4_house 29 = .ok (.ireturn, 1) := by decide +kernel
theorem dX4_house_30 : decode cX4_house 30 = .ok (.aload_n 0, 1) := by decide +kernel
theorem dX4_house_31 : decode cX4_house 31 = .ok (.getfield 19, 3) := by decide +kernel
theorem dX4_house_34 : decode cX4_house 34 = .ok (.getfield 58, 3) := by decide +kernel
theorem dX4_house_37 : decode cX4_house 37 = .ok (.bipush 8, 2) := by decide +kernel
theorem dX4_house_39 : decode cX4_house 39 = .ok (.if_icmp .lt 6, 3) := by decide +kernel
theorem dX4_house_42 : decode cX4_house 42 = .ok (.bipush (-104), 2) := by decide +kernel
theorem dX4_house_44 : decode cX4_house 44 = .ok (.ireturn, 1) := by decide +kernel
theorem dX4_house_45 : decode cX4_house 45 = .ok (.aload_n 0, 1) := by decide +kernel
theorem dX4_house_46 : decode cX4_house 46 = .ok (.getfield 19, 3) := by decide +kernel
theorem dX4_house_49 : decode cX4_house 49 = .ok (.getfield 58, 3) := by decide +kernel
theorem dX4_house_52 : decode cX4_house 52 = .ok (.istore_n 1, 1) := by decide +kernel
theorem dX4_house_53 : decode cX4_house 53 = .ok (.aload_n 0, 1) := by decide +kernel
theorem dX4_house_54 : decode cX4_house 54 = .ok (.getfield 19, 3) := by decide +kernel
theorem dX4_house_57 : decode cX4_house 57 = .ok (.aload_n 0, 1) := by decide +kernel
theorem dX4_house_58 : decode cX4_house 58 = .ok (.getfield 10, 3) := by decide +kernel
theorem dX4_house_61 : decode cX4_house 61 = .ok (.invokevirtual 73, 3) := by decide +kernel
theorem dX4_house_64 : decode cX4_house 64 = .ok (.aload_n 0, 1) := by decide +kernel
theorem dX4_house_65 : decode cX4_house 65 = .ok (.getfield 10, 3) := by decide +kernel
theorem dX4_house_68 : decode cX4_house 68 = .ok (.iconst 0, 1) := by decide +kernel
theorem dX4_house_69 : decode cX4_house 69 = .ok (.putfield 50, 3) := by decide +kernel
theorem dX4_house_72 : decode cX4_house 72 = .ok (.iload_n 1, 1) := by decide +kernel
theorem dX4_house_73 : decode cX4_house 73 = .ok (.ireturn, 1) := by decide +kernel
theorem dX4_about_0 : decode cX4_about 0 = .ok (.aload_n 0, 1) := by decide +kernel
theorem dX4_about_1 : decode cX4_about 1 = .ok (.getfield 19, 3) := by decide +kernel
theorem dX4_about_4 : decode cX4_about 4 = .ok (.iload_n 1, 1) := by decide +kernel
theorem dX4_about_5 : decode cX4_about 5 = .ok (.invokevirtual 77, 3) := by decide +kernel
theorem dX4_about_8 : decode cX4_about 8 = .ok (.ifCond .ne 6, 3) := by decide +kernel
theorem dX4_about_11 : decode cX4_about 11 = .ok (.bipush (-101), 2) := by decide +kernel
theorem dX4_about_13 : decode cX4_about 13 = .ok (.ireturn, 1) := by decide +kernel
theorem dX4_about_14 : decode cX4_about 14 = .ok (.iload_n 2, 1) := by decide +kernel
theorem dX4_about_15 : decode cX4_about 15 = .ok (.tableswitch 144 0 8 #[49, 59, 69, 79, 89, 99, 109, 119, 129], 49) := by decide +kernel
theorem dX4_about_64 : decode cX4_about 64 = .ok (.aload_n 0, 1) := by decide +kernel
theorem dX4_about_65 : decode cX4_about 65 = .ok (.getfield 19, 3) := by decide +kernel
theorem dX4_about_68 : decode cX4_about 68 = .ok (.getfield 80, 3) := by decide +kernel
theorem dX4_about_71 : decode cX4_about 71 = .ok (.iload_n 1, 1) := by decide +kernel
theorem dX4_about_72 : decode cX4_about 72 = .ok (.iaload, 1) := by decide +kernel
theorem dX4_about_73 : decode cX4_about 73 = .ok (.ireturn, 1) := by decide +kernel
theorem dX4_about_74 : decode cX4_about 74 = .ok (.aload_n 0, 1) := by decide +kernel
theorem dX4_about_75 : decode cX4_about 75 = .ok (.getfield 19, 3) := by decide +kernel
theorem dX4_about_78 : decode cX4_about 78 = .ok (.getfield 84, 3) := by decide +kernel
theorem dX4_about_81 : decode cX4_about 81 = .ok (.iload_n 1, 1) := by decide +kernel
theorem dX4_about_82 : decode cX4_about 82 = .ok (.iaload, 1) := by decide +kernel
theorem dX4_about_83 : decode cX4_about 83 = .ok (.ireturn, 1) := by decide +kernel
theorem dX4_about_84 : decode cX4_about 84 = .ok (.aload_n 0, 1) := by decide +kernel
theorem dX4_about_85 : decode cX4_about 85 = .ok (.getfield 19, 3) := by decide +kernel
theorem dX4_about_88 : decode cX4_about 88 = .ok (.getfield 87, 3) := by decide +kernel
theorem dX4_about_91 : decode cX4_about 91 = .ok (.iload_n 1, 1) := by decide +kernel
theorem dX4_about_92 : decode cX4_about 92 = .ok (.iaload, 1) := by decide +kernel
theorem dX4_about_93 : decode cX4_about 93 = .ok (.ireturn, 1) := by decide +kernel
theorem dX4_about_94 : decode cX4_about 94 = .ok (.aload_n 0, 1) := by decide +kernel
theorem dX4_about_95 : decode cX4_about 95 = .ok (.getfield 19, 3) := by decide +kernel
theorem dX4_about_98 : decode cX4_about 98 = .ok (.getfield 90, 3) := by decide +kernel
theorem dX4_about_101 : decode cX4_about 101 = .ok (.iload_n 1, 1) := by decide +kernel
theorem dX4_about_102 : decode cX4_about 102 = .ok (.iaload, 1) := by decide +kernel
theorem dX4_about_103 : decode cX4_about 103 = .ok (.ireturn, 1) := by decide +kernel
theorem dX4_about_104 : decode cX4_about 104 = .ok (.aload_n 0, 1) := by decide +kernel
theorem dX4_about_105 : decode cX4_about 105 = .ok (.getfield 19, 3) := by decide +kernel
theorem dX4_about_108 : decode cX4_about 108 = .ok (.getfield 93, 3) := by decide +kernel
theorem dX4_about_111 : decode cX4_about 111 = .ok (.iload_n 1, 1) := by decide +kernel
theorem dX4_about_112 : decode cX4_about 112 = .ok (.iaload, 1) := by decide +kernel
theorem dX4_about_113 : decode cX4_about 113 = .ok (.ireturn, 1) := by decide +kernel
theorem dX4_about_114 : decode cX4_about 114 = .ok (.aload_n 0, 1) := by decide +kernel
theorem dX4_about_115 : decode cX4_about 115 = .ok (.getfield 19, 3) := by decide +kernel
theorem dX4_about_118 : decode cX4_about 118 = .ok (.getfield 96, 3) := by decide +kernel
theorem dX4_about_121 : decode cX4_about 121 = .ok (.iload_n 1, 1) := by decide +kernel
theorem dX4_about_122 : decode cX4_about 122 = .ok (.iaload, 1) := by decide +kernel
theorem dX4_about_123 : decode cX4_about 123 = .ok (.ireturn, 1) := by decide +kernel
theorem dX4_about_124 : decode cX4_about 124 = .ok (.aload_n 0, 1) := by decide +kernel
theorem dX4_about_125 : decode cX4_about 125 = .ok (.getfield 26, 3) := by decide +kernel
theorem dX4_about_128 : decode cX4_about 128 = .ok (.getfield 99, 3) := by decide +kernel
theorem dX4_about_131 : decode cX4_about 131 = .ok (.iload_n 1, 1) := by decide +kernel
theorem dX4_about_132 : decode cX4_about 132 = .ok (.iaload, 1) := by decide +kernel
theorem dX4_about_133 : decode cX4_about 133 = .ok (.ireturn, 1) := by decide +kernel
theorem dX4_about_134 : decode cX4_about 134 = .ok (.aload_n 0, 1) := by decide +kernel
theorem dX4_about_135 : decode cX4_about 135 = .ok (.getfield 26, 3) := by decide +kernel
theorem dX4_about_138 : decode cX4_about 138 = .ok (.getfield 102, 3) := by decide +kernel
theorem dX4_about_141 : decode cX4_about 141 = .ok (.iload_n 1, 1) := by decide +kernel
theorem dX4_about_142 : decode cX4_about 142 = .ok (.iaload, 1) := by decide +kernel
theorem dX4_about_143 : decode cX4_about 143 = .ok (.ireturn, 1) := by decide +kernel
theorem dX4_about_144 : decode cX4_about 144 = .ok (.aload_n 0, 1) := by decide +kernel
theorem dX4_about_145 : decode cX4_about 145 = .ok (.getfield 26, 3) := by decide +kernel
theorem dX4_about_148 : decode cX4_about 148 = .ok (.getfield 105, 3) := by decide +kernel
theorem dX4_about_151 : decode cX4_about 151 = .ok (.iload_n 1, 1) := by decide +kernel
theorem dX4_about_152 : decode cX4_about 152 = .ok (.invokestatic 108, 3) := by decide +kernel
theorem dX4_about_155 : decode cX4_about 155 = .ok (.invokestatic 112, 3) := by decide +kernel
theorem dX4_about_158 : decode cX4_about 158 = .ok (.ireturn, 1) := by decide +kernel
theorem dX4_about_159 : decode cX4_about 159 = .ok (.bipush (-102), 2) := by decide +kernel
theorem dX4_about_161 : decode cX4_about 161 = .ok (.ireturn, 1) := by decide +kernel
theorem dX4_as_0 : decode cX4_as 0 = .ok (.aload_n 0, 1) := by decide +kernel
theorem dX4_as_1 : decode cX4_as 1 = .ok (.getfield 19, 3) := by decide +kernel
theorem dX4_as_4 : decode cX4_as 4 = .ok (.iload_n 1, 1) := by decide +kernel
theorem dX4_as_5 : decode cX4_as 5 = .ok (.invokevirtual 77, 3) := by decide +kernel
theorem dX4_as_8 : decode cX4_as 8 = .ok (.ifCond .ne 6, 3) := by decide +kernel
theorem dX4_as_11 : decode cX4_as 11 = .ok (.bipush (-101), 2) := by decide +kernel
theorem dX4_as_13 : decode cX4_as 13 = .ok (.ireturn, 1) := by decide +kernel
theorem dX4_as_14 : decode cX4_as 14 = .ok (.iload_n 2, 1) := by decide +kernel
theorem dX4_as_15 : decode cX4_as 15 = .ok (.ifCond .lt 12, 3) := by decide +kernel
theorem dX4_as_18 : decode cX4_as 18 = .ok (.iload_n 2, 1) := by decide +kernel
theorem dX4_as_19 : decode cX4_as 19 = .ok (.ldc 116, 2) := by decide +kernel
theorem dX4_as_21 : decode cX4_as 21 = .ok (.invokevirtual 118, 3) := by decide +kernel
theorem dX4_as_24 : decode cX4_as 24 = .ok (.if_icmp .lt 6, 3) := by decide +kernel
theorem dX4_as_27 : decode cX4_as 27 = .ok (.bipush (-102), 2) := by decide +kernel
theorem dX4_as_29 : decode cX4_as 29 = .ok (.ireturn, 1) := by decide +kernel
theorem dX4_as_30 : decode cX4_as 30 = .ok (.aload_n 0, 1) := by decide +kernel
theorem dX4_as_31 : decode cX4_as 31 = .ok (.getfield 19, 3) := by decide +kernel
theorem dX4_as_34 : decode cX4_as 34 = .ok (.iload_n 1, 1) := by decide +kernel
theorem dX4_as_35 : decode cX4_as 35 = .ok (.iload_n 2, 1) := by decide +kernel
theorem dX4_as_36 : decode cX4_as 36 = .ok (.invokevirtual 124, 3) := by decide +kernel
theorem dX4_as_39 : decode cX4_as 39 = .ok (.ifCond .eq 7, 3) := by decide +kernel
theorem dX4_as_42 : decode cX4_as 42 = .ok (.iload_n 1, 1) := by decide +kernel
theorem dX4_as_43 : decode cX4_as 43 = .ok (.goto 4, 3) := by decide +kernel
theorem dX4_as_46 : decode cX4_as 46 = .ok (.iconst (-1), 1) := by decide +kernel
theorem dX4_as_47 : decode cX4_as 47 = .ok (.ireturn, 1) := by decide +kernel
theorem dX4_length_0 : decode cX4_length 0 = .ok (.iload_n 1, 1) := by decide +kernel
theorem dX4_length_1 : decode cX4_length 1 = .ok (.iconst 1, 1) := by decide +kernel
theorem dX4_length_2 : decode cX4_length 2 = .ok (.if_icmp .lt 9, 3) := by decide +kernel
theorem dX4_length_5 : decode cX4_length 5 = .ok (.iload_n 1, 1) := by decide +kernel
theorem dX4_length_6 : decode cX4_length 6 = .ok (.bipush 99, 2) := by decide +kernel
theorem dX4_length_8 : decode cX4_length 8 = .ok (.if_icmp .le 6, 3) := by decide +kernel
theorem dX4_length_11 : decode cX4_length 11 = .ok (.bipush (-102), 2) := by decide +kernel
theorem dX4_length_13 : decode cX4_length 13 = .ok (.ireturn, 1) := by decide +kernel
theorem dX4_length_14 : decode cX4_length 14 = .ok (.aload_n 0, 1) := by decide +kernel
theorem dX4_length_15 : decode cX4_length 15 = .ok (.getfield 26, 3) := by decide +kernel
theorem dX4_length_18 : decode cX4_length 18 = .ok (.invokevirtual 69, 3) := by decide +kernel
theorem dX4_length_21 : decode cX4_length 21 = .ok (.ifCond .eq 6, 3) := by decide +kernel
theorem dX4_length_24 : decode cX4_length 24 = .ok (.bipush (-103), 2) := by decide +kernel
theorem dX4_length_26 : decode cX4_length 26 = .ok (.ireturn, 1) := by decide +kernel
theorem dX4_length_27 : decode cX4_length 27 = .ok (.aload_n 0, 1) := by decide +kernel
theorem dX4_length_28 : decode cX4_length 28 = .ok (.getfield 26, 3) := by decide +kernel
theorem dX4_length_31 : decode cX4_length 31 = .ok (.getfield 127, 3) := by decide +kernel
theorem dX4_length_34 : decode cX4_length 34 = .ok (.istore_n 2, 1) := by decide +kernel
theorem dX4_length_35 : decode cX4_length 35 = .ok (.aload_n 0, 1) := by decide +kernel
theorem dX4_length_36 : decode cX4_length 36 = .ok (.getfield 26, 3) := by decide +kernel
theorem dX4_length_39 : decode cX4_length 39 = .ok (.iload_n 1, 1) := by decide +kernel
theorem dX4_length_40 : decode cX4_length 40 = .ok (.putfield 127, 3) := by decide +kernel
theorem dX4_length_43 : decode cX4_length 43 = .ok (.aload_n 0, 1) := by decide +kernel
theorem dX4_length_44 : decode cX4_length 44 = .ok (.getfield 26, 3) := by decide +kernel
theorem dX4_length_47 : decode cX4_length 47 = .ok (.iload_n 1, 1) := by decide +kernel
theorem dX4_length_48 : decode cX4_length 48 = .ok (.putfield 129, 3) := by decide +kernel
theorem dX4_length_51 : decode cX4_length 51 = .ok (.iload_n 2, 1) := by decide +kernel
theorem dX4_length_52 : decode cX4_length 52 = .ok (.ireturn, 1) := by decide +kernel
theorem dX4_brake_0 : decode cX4_brake 0 = .ok (.aload_n 0, 1) := by decide +kernel
theorem dX4_brake_1 : decode cX4_brake 1 = .ok (.getfield 19, 3) := by decide +kernel
theorem dX4_brake_4 : decode cX4_brake 4 = .ok (.iload_n 1, 1) := by decide +kernel
theorem dX4_brake_5 : decode cX4_brake 5 = .ok (.invokevirtual 77, 3) := by decide +kernel
theorem dX4_brake_8 : decode cX4_brake 8 = .ok (.ifCond .ne 6, 3) := by decide +kernel
theorem dX4_brake_11 : decode cX4_brake 11 = .ok (.bipush (-101), 2) := by decide +kernel
theorem dX4_brake_13 : decode cX4_brake 13 = .ok (.ireturn, 1) := by decide +kernel
theorem dX4_brake_14 : decode cX4_brake 14 = .ok (.aload_n 0, 1) := by decide +kernel
theorem dX4_brake_15 : decode cX4_brake 15 = .ok (.getfield 26, 3) := by decide +kernel
theorem dX4_brake_18 : decode cX4_brake 18 = .ok (.getfield 105, 3) := by decide +kernel
theorem dX4_brake_21 : decode cX4_brake 21 = .ok (.iload_n 1, 1) := by decide +kernel
theorem dX4_brake_22 : decode cX4_brake 22 = .ok (.invokestatic 108, 3) := by decide +kernel
theorem dX4_brake_25 : decode cX4_brake 25 = .ok (.invokestatic 112, 3) := by decide +kernel
theorem dX4_brake_28 : decode cX4_brake 28 = .ok (.istore_n 3, 1) := by decide +kernel
theorem dX4_brake_29 : decode cX4_brake 29 = .ok (.aload_n 0, 1) := by decide +kernel
theorem dX4_brake_30 : decode cX4_brake 30 = .ok (.getfield 26, 3) := by decide +kernel
theorem dX4_brake_33 : decode cX4_brake 33 = .ok (.iload_n 2, 1) := by decide +kernel
theorem dX4_brake_34 : decode cX4_brake 34 = .ok (.ifCond .eq 18, 3) := by decide +kernel
theorem dX4_brake_37 : decode cX4_brake 37 = .ok (.aload_n 0, 1) := by decide +kernel
theorem dX4_brake_38 : decode cX4_brake 38 = .ok (.getfield 26, 3) := by decide +kernel
theorem dX4_brake_41 : decode cX4_brake 41 = .ok (.getfield 105, 3) := by decide +kernel
theorem dX4_brake_44 : decode cX4_brake 44 = .ok (.iload_n 1, 1) := by decide +kernel
theorem dX4_brake_45 : decode cX4_brake 45 = .ok (.invokestatic 132, 3) := by decide +kernel
theorem dX4_brake_48 : decode cX4_brake 48 = .ok (.ior, 1) := by decide +kernel
theorem dX4_brake_49 : decode cX4_brake 49 = .ok (.goto 17, 3) := by decide +kernel
theorem dX4_brake_52 : decode cX4_brake 52 = .ok (.aload_n 0, 1) := by decide +kernel
theorem dX4_brake_53 : decode cX4_brake 53 = .ok (.getfield 26, 3) := by decide +kernel
theorem dX4_brake_56 : decode cX4_brake 56 = .ok (.getfield 105, 3) := by decide +kernel
theorem dX4_brake_59 : decode cX4_brake 59 = .ok (.iload_n 1, 1) := by decide +kernel
theorem dX4_brake_60 : decode cX4_brake 60 = .ok (.invokestatic 132, 3) := by decide +kernel
theorem dX4_brake_63 : decode cX4_brake 63 = .ok (.iconst (-1), 1) := by decide +kernel
theorem dX4_brake_64 : decode cX4_brake 64 = .ok (.ixor, 1) := by decide +kernel
theorem dX4_brake_65 : decode cX4_brake 65 = .ok (.iand, 1) := by decide +kernel
theorem dX4_brake_66 : decode cX4_brake 66 = .ok (.putfield 105, 3) := by decide +kernel
theorem dX4_brake_69 : decode cX4_brake 69 = .ok (.iload_n 3, 1) := by decide +kernel
theorem dX4_brake_70 : decode cX4_brake 70 = .ok (.ireturn, 1) := by decide +kernel
theorem dX4_rain_0 : decode cX4_rain 0 = .ok (.aload_n 0, 1) := by decide +kernel
theorem dX4_rain_1 : decode cX4_rain 1 = .ok (.getfield 26, 3) := by decide +kernel
theorem dX4_rain_4 : decode cX4_rain 4 = .ok (.getfield 135, 3) := by decide +kernel
theorem dX4_rain_7 : decode cX4_rain 7 = .ok (.invokestatic 112, 3) := by decide +kernel
theorem dX4_rain_10 : decode cX4_rain 10 = .ok (.istore_n 2, 1) := by decide +kernel
theorem dX4_rain_11 : decode cX4_rain 11 = .ok (.aload_n 0, 1) := by decide +kernel
theorem dX4_rain_12 : decode cX4_rain 12 = .ok (.getfield 26, 3) := by decide +kernel
theorem dX4_rain_15 : decode cX4_rain 15 = .ok (.iload_n 1, 1) := by decide +kernel
theorem dX4_rain_16 : decode cX4_rain 16 = .ok (.putfield 135, 3) := by decide +kernel
theorem dX4_rain_19 : decode cX4_rain 19 = .ok (.iload_n 2, 1) := by decide +kernel
theorem dX4_rain_20 : decode cX4_rain 20 = .ok (.ireturn, 1) := by decide +kernel
theorem dX4_wants_0 : decode cX4_wants 0 = .ok (.aload_n 0, 1) := by decide +kernel
theorem dX4_wants_1 : decode cX4_wants 1 = .ok (.getfield 19, 3) := by decide +kernel
theorem dX4_wants_4 : decode cX4_wants 4 = .ok (.iload_n 1, 1) := by decide +kernel
theorem dX4_wants_5 : decode cX4_wants 5 = .ok (.invokevirtual 77, 3) := by decide +kernel
theorem dX4_wants_8 : decode cX4_wants 8 = .ok (.ifCond .eq 18, 3) := by decide +kernel
theorem dX4_wants_11 : decode cX4_wants 11 = .ok (.aload_n 0, 1) := by decide +kernel
theorem dX4_wants_12 : decode cX4_wants 12 = .ok (.getfield 26, 3) := by decide +kernel
theorem dX4_wants_15 : decode cX4_wants 15 = .ok (.aload_n 0, 1) := by decide +kernel
theorem dX4_wants_16 : decode cX4_wants 16 = .ok (.getfield 19, 3) := by decide +kernel
theorem dX4_wants_19 : decode cX4_wants 19 = .ok (.iload_n 1, 1) := by decide +kernel
theorem dX4_wants_20 : decode cX4_wants 20 = .ok (.invokevirtual 139, 3) := by decide +kernel
theorem dX4_wants_23 : decode cX4_wants 23 = .ok (.goto 5, 3) := by decide +kernel
theorem dX4_wants_26 : decode cX4_wants 26 = .ok (.bipush (-101), 2) := by decide +kernel
theorem dX4_wants_28 : decode cX4_wants 28 = .ok (.ireturn, 1) := by decide +kernel
theorem dX4_goes_0 : decode cX4_goes 0 = .ok (.aload_n 0, 1) := by decide +kernel
theorem dX4_goes_1 : decode cX4_goes 1 = .ok (.getfield 19, 3) := by decide +kernel
theorem dX4_goes_4 : decode cX4_goes 4 = .ok (.iload_n 1, 1) := by decide +kernel
theorem dX4_goes_5 : decode cX4_goes 5 = .ok (.invokevirtual 143, 3) := by decide +kernel
theorem dX4_goes_8 : decode cX4_goes 8 = .ok (.ifCond .ne 6, 3) := by decide +kernel
theorem dX4_goes_11 : decode cX4_goes 11 = .ok (.bipush (-102), 2) := by decide +kernel
theorem dX4_goes_13 : decode cX4_goes 13 = .ok (.ireturn, 1) := by decide +kernel
theorem dX4_goes_14 : decode cX4_goes 14 = .ok (.aload_n 0, 1) := by decide +kernel
theorem dX4_goes_15 : decode cX4_goes 15 = .ok (.getfield 26, 3) := by decide +kernel
theorem dX4_goes_18 : decode cX4_goes 18 = .ok (.aload_n 0, 1) := by decide +kernel
theorem dX4_goes_19 : decode cX4_goes 19 = .ok (.getfield 19, 3) := by decide +kernel
theorem dX4_goes_22 : decode cX4_goes 22 = .ok (.invokevirtual 146, 3) := by decide +kernel
theorem dX4_goes_25 : decode cX4_goes 25 = .ok (.aload_n 0, 1) := by decide +kernel
theorem dX4_goes_26 : decode cX4_goes 26 = .ok (.getfield 26, 3) := by decide +kernel
theorem dX4_goes_29 : decode cX4_goes 29 = .ok (.aload_n 0, 1) := by decide +kernel
theorem dX4_goes_30 : decode cX4_goes 30 = .ok (.getfield 19, 3) := by decide +kernel
theorem dX4_goes_33 : decode cX4_goes 33 = .ok (.iload_n 1, 1) := by decide +kernel
theorem dX4_goes_34 : decode cX4_goes 34 = .ok (.invokevirtual 150, 3) := by decide +kernel
theorem dX4_goes_37 : decode cX4_goes 37 = .ok (.ireturn, 1) := by decide +kernel
theorem dX4_hour_0 : decode cX4_hour 0 = .ok (.aload_n 0, 1) := by decide +kernel
theorem dX4_hour_1 : decode cX4_hour 1 = .ok (.getfield 26, 3) := by decide +kernel
theorem dX4_hour_4 : decode cX4_hour 4 = .ok (.invokevirtual 153, 3) := by decide +kernel
theorem dX4_hour_7 : decode cX4_hour 7 = .ok (.ifCond .eq 17, 3) := by decide +kernel
theorem dX4_hour_10 : decode cX4_hour 10 = .ok (.aload_n 0, 1) := by decide +kernel
theorem dX4_hour_11 : decode cX4_hour 11 = .ok (.getfield 26, 3) := by decide +kernel
theorem dX4_hour_14 : decode cX4_hour 14 = .ok (.aload_n 0, 1) := by decide +kernel
theorem dX4_hour_15 : decode cX4_hour 15 = .ok (.getfield 19, 3) := by decide +kernel
theorem dX4_hour_18 : decode cX4_hour 18 = .ok (.invokevirtual 156, 3) := by decide +kernel
theorem dX4_hour_21 : decode cX4_hour 21 = .ok (.goto 5, 3) := by decide +kernel
theorem dX4_hour_24 : decode cX4_hour 24 = .ok (.bipush (-103), 2) := by decide +kernel
theorem dX4_hour_26 : decode cX4_hour 26 = .ok (.ireturn, 1) := by decide +kernel
theorem dX4_worked_0 : decode cX4_worked 0 = .ok (.aload_n 0, 1) := by decide +kernel
theorem dX4_worked_1 : decode cX4_worked 1 = .ok (.getfield 26, 3) := by decide +kernel
theorem dX4_worked_4 : decode cX4_worked 4 = .ok (.getfield 160, 3) := by decide +kernel
theorem dX4_worked_7 : decode cX4_worked 7 = .ok (.ireturn, 1) := by decide +kernel
theorem dX4_part_0 : decode cX4_part 0 = .ok (.aload_n 0, 1) := by decide +kernel
theorem dX4_part_1 : decode cX4_part 1 = .ok (.getfield 19, 3) := by decide +kernel
theorem dX4_part_4 : decode cX4_part 4 = .ok (.iload_n 1, 1) := by decide +kernel
theorem dX4_part_5 : decode cX4_part 5 = .ok (.invokevirtual 77, 3) := by decide +kernel
theorem dX4_part_8 : decode cX4_part 8 = .ok (.ifCond .ne 6, 3) := by decide +kernel
theorem dX4_part_11 : decode cX4_part 11 = .ok (.bipush (-101), 2) := by decide +kernel
theorem dX4_part_13 : decode cX4_part 13 = .ok (.ireturn, 1) := by decide +kernel
theorem dX4_part_14 : decode cX4_part 14 = .ok (.aload_n 0, 1) := by decide +kernel
theorem dX4_part_15 : decode cX4_part 15 = .ok (.getfield 26, 3) := by decide +kernel
theorem dX4_part_18 : decode cX4_part 18 = .ok (.aload_n 0, 1) := by decide +kernel
theorem dX4_part_19 : decode cX4_part 19 = .ok (.getfield 19, 3) := by decide +kernel
theorem dX4_part_22 : decode cX4_part 22 = .ok (.getfield 58, 3) := by decide +kernel
theorem dX4_part_25 : decode cX4_part 25 = .ok (.invokevirtual 163, 3) := by decide +kernel
theorem dX4_part_28 : decode cX4_part 28 = .ok (.aload_n 0, 1) := by decide +kernel
theorem dX4_part_29 : decode cX4_part 29 = .ok (.getfield 26, 3) := by decide +kernel
theorem dX4_part_32 : decode cX4_part 32 = .ok (.getfield 167, 3) := by decide +kernel
theorem dX4_part_35 : decode cX4_part 35 = .ok (.iload_n 1, 1) := by decide +kernel
theorem dX4_part_36 : decode cX4_part 36 = .ok (.iaload, 1) := by decide +kernel
theorem dX4_part_37 : decode cX4_part 37 = .ok (.ireturn, 1) := by decide +kernel
theorem dX4_night_0 : decode cX4_night 0 = .ok (.aload_n 0, 1) := by decide +kernel
theorem dX4_night_1 : decode cX4_night 1 = .ok (.getfield 26, 3) := by decide +kernel
theorem dX4_night_4 : decode cX4_night 4 = .ok (.aload_n 0, 1) := by decide +kernel
theorem dX4_night_5 : decode cX4_night 5 = .ok (.getfield 19, 3) := by decide +kernel
theorem dX4_night_8 : decode cX4_night 8 = .ok (.getfield 58, 3) := by decide +kernel
theorem dX4_night_11 : decode cX4_night 11 = .ok (.invokevirtual 170, 3) := by decide +kernel
theorem dX4_night_14 : decode cX4_night 14 = .ok (.ireturn, 1) := by decide +kernel
theorem dX4_plan_0 : decode cX4_plan 0 = .ok (.iload_n 1, 1) := by decide +kernel
theorem dX4_plan_1 : decode cX4_plan 1 = .ok (.ifCond .lt 8, 3) := by decide +kernel
theorem dX4_plan_4 : decode cX4_plan 4 = .ok (.iload_n 1, 1) := by decide +kernel
theorem dX4_plan_5 : decode cX4_plan 5 = .ok (.iconst 1, 1) := by decide +kernel
theorem dX4_plan_6 : decode cX4_plan 6 = .ok (.if_icmp .le 6, 3) := by decide +kernel
theorem dX4_plan_9 : decode cX4_plan 9 = .ok (.bipush (-102), 2) := by decide +kernel
theorem dX4_plan_11 : decode cX4_plan 11 = .ok (.ireturn, 1) := by decide +kernel
theorem dX4_plan_12 : decode cX4_plan 12 = .ok (.aload_n 0, 1) := by decide +kernel
theorem dX4_plan_13 : decode cX4_plan 13 = .ok (.invokevirtual 173, 3) := by decide +kernel
theorem dX4_plan_16 : decode cX4_plan 16 = .ok (.istore_n 2, 1) := by decide +kernel
theorem dX4_plan_17 : decode cX4_plan 17 = .ok (.iload_n 1, 1) := by decide +kernel
theorem dX4_plan_18 : decode cX4_plan 18 = .ok (.ifCond .ne 18, 3) := by decide +kernel
theorem dX4_plan_21 : decode cX4_plan 21 = .ok (.aload_n 0, 1) := by decide +kernel
theorem dX4_plan_22 : decode cX4_plan 22 = .ok (.aload_n 0, 1) := by decide +kernel
theorem dX4_plan_23 : decode cX4_plan 23 = .ok (.getfield 26, 3) := by decide +kernel
theorem dX4_plan_26 : decode cX4_plan 26 = .ok (.getfield 129, 3) := by decide +kernel
theorem dX4_plan_29 : decode cX4_plan 29 = .ok (.iload_n 2, 1) := by decide +kernel
theorem dX4_plan_30 : decode cX4_plan 30 = .ok (.invokevirtual 176, 3) := by decide +kernel
theorem dX4_plan_33 : decode cX4_plan 33 = .ok (.goto 4, 3) := by decide +kernel
theorem dX4_plan_36 : decode cX4_plan 36 = .ok (.iload_n 2, 1) := by decide +kernel
theorem dX4_plan_37 : decode cX4_plan 37 = .ok (.ireturn, 1) := by decide +kernel
theorem dX4_more_0 : decode cX4_more 0 = .ok (.iload_n 1, 1) := by decide +kernel
theorem dX4_more_1 : decode cX4_more 1 = .ok (.ifCond .lt 9, 3) := by decide +kernel
theorem dX4_more_4 : decode cX4_more 4 = .ok (.iload_n 1, 1) := by decide +kernel
theorem dX4_more_5 : decode cX4_more 5 = .ok (.bipush 99, 2) := by decide +kernel
theorem dX4_more_7 : decode cX4_more 7 = .ok (.if_icmp .le 6, 3) := by decide +kernel
theorem dX4_more_10 : decode cX4_more 10 = .ok (.bipush (-102), 2) := by decide +kernel
theorem dX4_more_12 : decode cX4_more 12 = .ok (.ireturn, 1) := by decide +kernel
theorem dX4_more_13 : decode cX4_more 13 = .ok (.aload_n 0, 1) := by decide +kernel
theorem dX4_more_14 : decode cX4_more 14 = .ok (.aload_n 0, 1) := by decide +kernel
theorem dX4_more_15 : decode cX4_more 15 = .ok (.getfield 26, 3) := by decide +kernel
theorem dX4_more_18 : decode cX4_more 18 = .ok (.getfield 129, 3) := by decide +kernel
theorem dX4_more_21 : decode cX4_more 21 = .ok (.iload_n 1, 1) := by decide +kernel
theorem dX4_more_22 : decode cX4_more 22 = .ok (.iadd, 1) := by decide +kernel
theorem dX4_more_23 : decode cX4_more 23 = .ok (.aload_n 0, 1) := by decide +kernel
theorem dX4_more_24 : decode cX4_more 24 = .ok (.getfield 26, 3) := by decide +kernel
theorem dX4_more_27 : decode cX4_more 27 = .ok (.getfield 105, 3) := by decide +kernel
theorem dX4_more_30 : decode cX4_more 30 = .ok (.invokevirtual 176, 3) := by decide +kernel
theorem dX4_more_33 : decode cX4_more 33 = .ok (.aload_n 0, 1) := by decide +kernel
theorem dX4_more_34 : decode cX4_more 34 = .ok (.aload_n 0, 1) := by decide +kernel
theorem dX4_more_35 : decode cX4_more 35 = .ok (.getfield 26, 3) := by decide +kernel
theorem dX4_more_38 : decode cX4_more 38 = .ok (.getfield 129, 3) := by decide +kernel
theorem dX4_more_41 : decode cX4_more 41 = .ok (.aload_n 0, 1) := by decide +kernel
theorem dX4_more_42 : decode cX4_more 42 = .ok (.getfield 26, 3) := by decide +kernel
theorem dX4_more_45 : decode cX4_more 45 = .ok (.getfield 105, 3) := by decide +kernel
theorem dX4_more_48 : decode cX4_more 48 = .ok (.invokevirtual 176, 3) := by decide +kernel
theorem dX4_more_51 : decode cX4_more 51 = .ok (.isub, 1) := by decide +kernel
theorem dX4_more_52 : decode cX4_more 52 = .ok (.ireturn, 1) := by decide +kernel
theorem dX4_missing_0 : decode cX4_missing 0 = .ok (.iload_n 1, 1) := by decide +kernel
theorem dX4_missing_1 : decode cX4_missing 1 = .ok (.iconst 1, 1) := by decide +kernel
theorem dX4_missing_2 : decode cX4_missing 2 = .ok (.if_icmp .lt 18, 3) := by decide +kernel
theorem dX4_missing_5 : decode cX4_missing 5 = .ok (.iload_n 1, 1) := by decide +kernel
theorem dX4_missing_6 : decode cX4_missing 6 = .ok (.bipush 72, 2) := by decide +kernel
theorem dX4_missing_8 : decode cX4_missing 8 = .ok (.if_icmp .gt 12, 3) := by decide +kernel
theorem dX4_missing_11 : decode cX4_missing 11 = .ok (.iload_n 2, 1) := by decide +kernel
theorem dX4_missing_12 : decode cX4_missing 12 = .ok (.ifCond .lt 8, 3) := by decide +kernel
theorem dX4_missing_15 : decode cX4_missing 15 = .ok (.iload_n 2, 1) := by decide +kernel
theorem dX4_missing_16 : decode cX4_missing 16 = .ok (.iconst 2, 1) := by decide +kernel
theorem dX4_missing_17 : decode cX4_missing 17 = .ok (.if_icmp .le 6, 3) := by decide +kernel
theorem dX4_missing_20 : decode cX4_missing 20 = .ok (.bipush (-102), 2) := by decide +kernel
theorem dX4_missing_22 : decode cX4_missing 22 = .ok (.ireturn, 1) := by decide +kernel
theorem dX4_missing_23 : decode cX4_missing 23 = .ok (.aload_n 0, 1) := by decide +kernel
theorem dX4_missing_24 : decode cX4_missing 24 = .ok (.getfield 19, 3) := by decide +kernel
theorem dX4_missing_27 : decode cX4_missing 27 = .ok (.aload_n 0, 1) := by decide +kernel
theorem dX4_missing_28 : decode cX4_missing 28 = .ok (.getfield 26, 3) := by decide +kernel
theorem dX4_missing_31 : decode cX4_missing 31 = .ok (.getfield 180, 3) := by decide +kernel
theorem dX4_missing_34 : decode cX4_missing 34 = .ok (.invokevirtual 183, 3) := by decide +kernel
theorem dX4_missing_37 : decode cX4_missing 37 = .ok (.istore_n 3, 1) := by decide +kernel
theorem dX4_missing_38 : decode cX4_missing 38 = .ok (.iconst 0, 1) := by decide +kernel
theorem dX4_missing_39 : decode cX4_missing 39 = .ok (.istore 4, 2) := by decide +kernel
theorem dX4_missing_41 : decode cX4_missing 41 = .ok (.iload_n 3, 1) := by decide +kernel
theorem dX4_missing_42 : decode cX4_missing 42 = .ok (.istore 5, 2) := by decide +kernel
theorem dX4_missing_44 : decode cX4_missing 44 = .ok (.iconst 0, 1) := by decide +kernel
theorem dX4_missing_45 : decode cX4_missing 45 = .ok (.istore 6, 2) := by decide +kernel
theorem dX4_missing_47 : decode cX4_missing 47 = .ok (.iconst 1, 1) := by decide +kernel
theorem dX4_missing_48 : decode cX4_missing 48 = .ok (.istore 7, 2) := by decide +kernel
theorem dX4_missing_50 : decode cX4_missing 50 = .ok (.iload 7, 2) := by decide +kernel
theorem dX4_missing_52 : decode cX4_missing 52 = .ok (.iload_n 3, 1) := by decide +kernel
theorem dX4_missing_53 : decode cX4_missing 53 = .ok (.if_icmp .gt 48, 3) := by decide +kernel
theorem dX4_missing_56 : decode cX4_missing 56 = .ok (.iload 7, 2) := by decide +kernel
theorem dX4_missing_58 : decode cX4_missing 58 = .ok (.iload_n 3, 1) := by decide +kernel
theorem dX4_missing_59 : decode cX4_missing 59 = .ok (.iconst (-1), 1) := by decide +kernel
theorem dX4_missing_60 : decode cX4_missing 60 = .ok (.ixor, 1) := by decide +kernel
theorem dX4_missing_61 : decode cX4_missing 61 = .ok (.iand, 1) := by decide +kernel
theorem dX4_missing_62 : decode cX4_missing 62 = .ok (.ifCond .ne 33, 3) := by decide +kernel
theorem dX4_missing_65 : decode cX4_missing 65 = .ok (.aload_n 0, 1) := by decide +kernel
theorem dX4_missing_66 : decode cX4_missing 66 = .ok (.getfield 19, 3) := by decide +kernel
theorem dX4_missing_69 : decode cX4_missing 69 = .ok (.iload 7, 2) := by decide +kernel
theorem dX4_missing_71 : decode cX4_missing 71 = .ok (.invokevirtual 186, 3) := by decide +kernel
theorem dX4_missing_74 : decode cX4_missing 74 = .ok (.iload_n 1, 1) := by decide +kernel
theorem dX4_missing_75 : decode cX4_missing 75 = .ok (.if_icmp .ne 20, 3) := by decide +kernel
theorem dX4_missing_78 : decode cX4_missing 78 = .ok (.iinc 4 1, 3) := by decide +kernel
theorem dX4_missing_81 : decode cX4_missing 81 = .ok (.iload 5, 2) := by decide +kernel
theorem dX4_missing_83 : decode cX4_missing 83 = .ok (.iload 7, 2) := by decide +kernel
theorem dX4_missing_85 : decode cX4_missing 85 = .ok (.iand, 1) := by decide +kernel
theorem dX4_missing_86 : decode cX4_missing 86 = .ok (.istore 5, 2) := by decide +kernel
theorem dX4_missing_88 : decode cX4_missing 88 = .ok (.iload 6, 2) := by decide +kernel
theorem dX4_missing_90 : decode cX4_missing 90 = .ok (.iload 7, 2) := by decide +kernel
theorem dX4_missing_92 : decode cX4_missing 92 = .ok (.ior, 1) := by decide +kernel
theorem dX4_missing_93 : decode cX4_missing 93 = .ok (.istore 6, 2) := by decide +kernel
theorem dX4_missing_95 : decode cX4_missing 95 = .ok (.iinc 7 1, 3) := by decide +kernel
theorem dX4_missing_98 : decode cX4_missing 98 = .ok (.goto (-48), 3) := by decide +kernel
theorem dX4_missing_101 : decode cX4_missing 101 = .ok (.iload 4, 2) := by decide +kernel
theorem dX4_missing_103 : decode cX4_missing 103 = .ok (.ifCond .eq 7, 3) := by decide +kernel
theorem dX4_missing_106 : decode cX4_missing 106 = .ok (.iload_n 2, 1) := by decide +kernel
theorem dX4_missing_107 : decode cX4_missing 107 = .ok (.ifCond .ne 6, 3) := by decide +kernel
theorem dX4_missing_110 : decode cX4_missing 110 = .ok (.iload 4, 2) := by decide +kernel
theorem dX4_missing_112 : decode cX4_missing 112 = .ok (.ireturn, 1) := by decide +kernel
theorem dX4_missing_113 : decode cX4_missing 113 = .ok (.iload_n 2, 1) := by decide +kernel
theorem dX4_missing_114 : decode cX4_missing 114 = .ok (.iconst 1, 1) := by decide +kernel
theorem dX4_missing_115 : decode cX4_missing 115 = .ok (.if_icmp .ne 8, 3) := by decide +kernel
theorem dX4_missing_118 : decode cX4_missing 118 = .ok (.iload 5, 2) := by decide +kernel
theorem dX4_missing_120 : decode cX4_missing 120 = .ok (.goto 5, 3) := by decide +kernel
theorem dX4_missing_123 : decode cX4_missing 123 = .ok (.iload 6, 2) := by decide +kernel
theorem dX4_missing_125 : decode cX4_missing 125 = .ok (.ireturn, 1) := by decide +kernel
theorem dX4_rest_0 : decode cX4_rest 0 = .ok (.iload_n 1, 1) := by decide +kernel
theorem dX4_rest_1 : decode cX4_rest 1 = .ok (.ifCond .lt 12, 3) := by decide +kernel
theorem dX4_rest_4 : decode cX4_rest 4 = .ok (.iload_n 2, 1) := by decide +kernel
theorem dX4_rest_5 : decode cX4_rest 5 = .ok (.ifCond .lt 8, 3) := by decide +kernel
theorem dX4_rest_8 : decode cX4_rest 8 = .ok (.iload_n 2, 1) := by decide +kernel
theorem dX4_rest_9 : decode cX4_rest 9 = .ok (.iconst 3, 1) := by decide +kernel
theorem dX4_rest_10 : decode cX4_rest 10 = .ok (.if_icmp .le 6, 3) := by decide +kernel
theorem dX4_rest_13 : decode cX4_rest 13 = .ok (.bipush (-102), 2) := by decide +kernel
theorem dX4_rest_15 : decode cX4_rest 15 = .ok (.ireturn, 1) := by decide +kernel
theorem dX4_rest_16 : decode cX4_rest 16 = .ok (.aload_n 0, 1) := by decide +kernel
theorem dX4_rest_17 : decode cX4_rest 17 = .ok (.getfield 37, 3) := by decide +kernel
theorem dX4_rest_20 : decode cX4_rest 20 = .ok (.aload_n 0, 1) := by decide +kernel
theorem dX4_rest_21 : decode cX4_rest 21 = .ok (.getfield 26, 3) := by decide +kernel
theorem dX4_rest_24 : decode cX4_rest 24 = .ok (.invokevirtual 189, 3) := by decide +kernel
theorem dX4_rest_27 : decode cX4_rest 27 = .ok (.iload_n 1, 1) := by decide +kernel
theorem dX4_rest_28 : decode cX4_rest 28 = .ok (.istore_n 3, 1) := by decide +kernel
theorem dX4_rest_29 : decode cX4_rest 29 = .ok (.iconst (-1), 1) := by decide +kernel
theorem dX4_rest_30 : decode cX4_rest 30 = .ok (.istore 4, 2) := by decide +kernel
theorem dX4_rest_32 : decode cX4_rest 32 = .ok (.aload_n 0, 1) := by decide +kernel
theorem dX4_rest_33 : decode cX4_rest 33 = .ok (.getfield 26, 3) := by decide +kernel
theorem dX4_rest_36 : decode cX4_rest 36 = .ok (.getfield 180, 3) := by decide +kernel
theorem dX4_rest_39 : decode cX4_rest 39 = .ok (.istore 5, 2) := by decide +kernel
theorem dX4_rest_41 : decode cX4_rest 41 = .ok (.iload 5, 2) := by decide +kernel
theorem dX4_rest_43 : decode cX4_rest 43 = .ok (.bipush 9, 2) := by decide +kernel
theorem dX4_rest_45 : decode cX4_rest 45 = .ok (.if_icmp .ge 71, 3) := by decide +kernel
theorem dX4_rest_48 : decode cX4_rest 48 = .ok (.aload_n 0, 1) := by decide +kernel
theorem dX4_rest_49 : decode cX4_rest 49 = .ok (.getfield 37, 3) := by decide +kernel
theorem dX4_rest_52 : decode cX4_rest 52 = .ok (.getfield 193, 3) := by decide +kernel
theorem dX4_rest_55 : decode cX4_rest 55 = .ok (.ifCond .ne 61, 3) := by decide +kernel
theorem dX4_rest_58 : decode cX4_rest 58 = .ok (.iload_n 3, 1) := by decide +kernel
theorem dX4_rest_59 : decode cX4_rest 59 = .ok (.invokestatic 196, 3) := by decide +kernel
theorem dX4_rest_62 : decode cX4_rest 62 = .ok (.istore_n 3, 1) := by decide +kernel
theorem dX4_rest_63 : decode cX4_rest 63 = .ok (.aload_n 0, 1) := by decide +kernel
theorem dX4_rest_64 : decode cX4_rest 64 = .ok (.getfield 37, 3) := by decide +kernel
theorem dX4_rest_67 : decode cX4_rest 67 = .ok (.iload_n 3, 1) := by decide +kernel
theorem dX4_rest_68 : decode cX4_rest 68 = .ok (.ldc 199, 2) := by decide +kernel
theorem dX4_rest_70 : decode cX4_rest 70 = .ok (.idiv, 1) := by decide +kernel
theorem dX4_rest_71 : decode cX4_rest 71 = .ok (.iconst 3, 1) := by decide +kernel
theorem dX4_rest_72 : decode cX4_rest 72 = .ok (.irem, 1) := by decide +kernel
theorem dX4_rest_73 : decode cX4_rest 73 = .ok (.ifCond .ne 7, 3) := by decide +kernel
theorem dX4_rest_76 : decode cX4_rest 76 = .ok (.iconst 1, 1) := by decide +kernel
theorem dX4_rest_77 : decode cX4_rest 77 = .ok (.goto 4, 3) := by decide +kernel
theorem dX4_rest_80 : decode cX4_rest 80 = .ok (.iconst 0, 1) := by decide +kernel
theorem dX4_rest_81 : decode cX4_rest 81 = .ok (.putfield 135, 3) := by decide +kernel
theorem dX4_rest_84 : decode cX4_rest 84 = .ok (.aload_n 0, 1) := by decide +kernel
theorem dX4_rest_85 : decode cX4_rest 85 = .ok (.getfield 37, 3) := by decide +kernel
theorem dX4_rest_88 : decode cX4_rest 88 = .ok (.aload_n 0, 1) := by decide +kernel
theorem dX4_rest_89 : decode cX4_rest 89 = .ok (.getfield 19, 3) := by decide +kernel
theorem dX4_rest_92 : decode cX4_rest 92 = .ok (.invokevirtual 156, 3) := by decide +kernel
theorem dX4_rest_95 : decode cX4_rest 95 = .ok (.pop, 1) := by decide +kernel
theorem dX4_rest_96 : decode cX4_rest 96 = .ok (.aload_n 0, 1) := by decide +kernel
theorem dX4_rest_97 : decode cX4_rest 97 = .ok (.getfield 37, 3) := by decide +kernel
theorem dX4_rest_100 : decode cX4_rest 100 = .ok (.getfield 193, 3) := by decide +kernel
theorem dX4_rest_103 : decode cX4_rest 103 = .ok (.ifCond .eq 7, 3) := by decide +kernel
theorem dX4_rest_106 : decode cX4_rest 106 = .ok (.iload 5, 2) := by decide +kernel
theorem dX4_rest_108 : decode cX4_rest 108 = .ok (.istore 4, 2) := by decide +kernel
theorem dX4_rest_110 : decode cX4_rest 110 = .ok (.iinc 5 1, 3) := by decide +kernel
theorem dX4_rest_113 : decode cX4_rest 113 = .ok (.goto (-72), 3) := by decide +kernel
theorem dX4_rest_116 : decode cX4_rest 116 = .ok (.iload_n 2, 1) := by decide +kernel
theorem dX4_rest_117 : decode cX4_rest 117 = .ok (.tableswitch 54 0 2 #[27, 43, 51], 27) := by decide +kernel
theorem dX4_rest_144 : decode cX4_rest 144 = .ok (.aload_n 0, 1) := by decide +kernel
theorem dX4_rest_145 : decode cX4_rest 145 = .ok (.getfield 37, 3) := by decide +kernel
theorem dX4_rest_148 : decode cX4_rest 148 = .ok (.getfield 200, 3) := by decide +kernel
theorem dX4_rest_151 : decode cX4_rest 151 = .ok (.aload_n 0, 1) := by decide +kernel
theorem dX4_rest_152 : decode cX4_rest 152 = .ok (.getfield 26, 3) := by decide +kernel
theorem dX4_rest_155 : decode cX4_rest 155 = .ok (.getfield 200, 3) := by decide +kernel
theorem dX4_rest_158 : decode cX4_rest 158 = .ok (.isub, 1) := by decide +kernel
theorem dX4_rest_159 : decode cX4_rest 159 = .ok (.ireturn, 1) := by decide +kernel
theorem dX4_rest_160 : decode cX4_rest 160 = .ok (.aload_n 0, 1) := by decide +kernel
theorem dX4_rest_161 : decode cX4_rest 161 = .ok (.getfield 37, 3) := by decide +kernel
theorem dX4_rest_164 : decode cX4_rest 164 = .ok (.getfield 129, 3) := by decide +kernel
theorem dX4_rest_167 : decode cX4_rest 167 = .ok (.ireturn, 1) := by decide +kernel
theorem dX4_rest_168 : decode cX4_rest 168 = .ok (.iload 4, 2) := by decide +kernel
theorem dX4_rest_170 : decode cX4_rest 170 = .ok (.ireturn, 1) := by decide +kernel
theorem dX4_rest_171 : decode cX4_rest 171 = .ok (.iload_n 3, 1) := by decide +kernel
theorem dX4_rest_172 : decode cX4_rest 172 = .ok (.ireturn, 1) := by decide +kernel
theorem dX4_read_0 : decode cX4_read 0 = .ok (.iload_n 1, 1) := by decide +kernel
theorem dX4_read_1 : decode cX4_read 1 = .ok (.ifCond .eq 26, 3) := by decide +kernel
theorem dX4_read_4 : decode cX4_read 4 = .ok (.aload_n 0, 1) := by decide +kernel
theorem dX4_read_5 : decode cX4_read 5 = .ok (.getfield 19, 3) := by decide +kernel
theorem dX4_read_8 : decode cX4_read 8 = .ok (.iload_n 1, 1) := by decide +kernel
theorem dX4_read_9 : decode cX4_read 9 = .ok (.invokevirtual 143, 3) := by decide +kernel
theorem dX4_read_12 : decode cX4_read 12 = .ok (.ifCond .eq 15, 3) := by decide +kernel
theorem dX4_read_15 : decode cX4_read 15 = .ok (.iload_n 2, 1) := by decide +kernel
theorem dX4_read_16 : decode cX4_read 16 = .ok (.iconst 1, 1) := by decide +kernel
theorem dX4_read_17 : decode cX4_read 17 = .ok (.if_icmp .lt 10, 3) := by decide +kernel
theorem dX4_read_20 : decode cX4_read 20 = .ok (.iload_n 2, 1) := by decide +kernel
theorem dX4_read_21 : decode cX4_read 21 = .ok (.sipush 199, 3) := by decide +kernel
theorem dX4_read_24 : decode cX4_read 24 = .ok (.if_icmp .le 6, 3) := by decide +kernel
theorem dX4_read_27 : decode cX4_read 27 = .ok (.bipush (-102), 2) := by decide +kernel
theorem dX4_read_29 : decode cX4_read 29 = .ok (.ireturn, 1) := by decide +kernel
theorem dX4_read_30 : decode cX4_read 30 = .ok (.aload_n 0, 1) := by decide +kernel
theorem dX4_read_31 : decode cX4_read 31 = .ok (.getfield 33, 3) := by decide +kernel
theorem dX4_read_34 : decode cX4_read 34 = .ok (.getfield 203, 3) := by decide +kernel
theorem dX4_read_37 : decode cX4_read 37 = .ok (.bipush 8, 2) := by decide +kernel
theorem dX4_read_39 : decode cX4_read 39 = .ok (.if_icmp .lt 6, 3) := by decide +kernel
theorem dX4_read_42 : decode cX4_read 42 = .ok (.bipush (-104), 2) := by decide +kernel
theorem dX4_read_44 : decode cX4_read 44 = .ok (.ireturn, 1) := by decide +kernel
theorem dX4_read_45 : decode cX4_read 45 = .ok (.aload_n 0, 1) := by decide +kernel
theorem dX4_read_46 : decode cX4_read 46 = .ok (.getfield 19, 3) := by decide +kernel
theorem dX4_read_49 : decode cX4_read 49 = .ok (.iload_n 1, 1) := by decide +kernel
theorem dX4_read_50 : decode cX4_read 50 = .ok (.invokevirtual 204, 3) := by decide +kernel
theorem dX4_read_53 : decode cX4_read 53 = .ok (.istore_n 3, 1) := by decide +kernel
theorem dX4_read_54 : decode cX4_read 54 = .ok (.aload_n 0, 1) := by decide +kernel
theorem dX4_read_55 : decode cX4_read 55 = .ok (.getfield 33, 3) := by decide +kernel
theorem dX4_read_58 : decode cX4_read 58 = .ok (.iload_n 3, 1) := by decide +kernel
theorem dX4_read_59 : decode cX4_read 59 = .ok (.iload_n 2, 1) := by decide +kernel
theorem dX4_read_60 : decode cX4_read 60 = .ok (.aload_n 0, 1) := by decide +kernel
theorem dX4_read_61 : decode cX4_read 61 = .ok (.getfield 19, 3) := by decide +kernel
theorem dX4_read_64 : decode cX4_read 64 = .ok (.iload_n 1, 1) := by decide +kernel
theorem dX4_read_65 : decode cX4_read 65 = .ok (.invokevirtual 186, 3) := by decide +kernel
theorem dX4_read_68 : decode cX4_read 68 = .ok (.isub, 1) := by decide +kernel
theorem dX4_read_69 : decode cX4_read 69 = .ok (.aload_n 0, 1) := by decide +kernel
theorem dX4_read_70 : decode cX4_read 70 = .ok (.getfield 19, 3) := by decide +kernel
theorem dX4_read_73 : decode cX4_read 73 = .ok (.iload_n 3, 1) := by decide +kernel
theorem dX4_read_74 : decode cX4_read 74 = .ok (.invokevirtual 207, 3) := by decide +kernel
theorem dX4_read_77 : decode cX4_read 77 = .ok (.isub, 1) := by decide +kernel
theorem dX4_read_78 : decode cX4_read 78 = .ok (.invokevirtual 210, 3) := by decide +kernel
theorem dX4_read_81 : decode cX4_read 81 = .ok (.aload_n 0, 1) := by decide +kernel
theorem dX4_read_82 : decode cX4_read 82 = .ok (.getfield 33, 3) := by decide +kernel
theorem dX4_read_85 : decode cX4_read 85 = .ok (.getfield 203, 3) := by decide +kernel
theorem dX4_read_88 : decode cX4_read 88 = .ok (.ireturn, 1) := by decide +kernel
theorem dX4_wipe_0 : decode cX4_wipe 0 = .ok (.aload_n 0, 1) := by decide +kernel
theorem dX4_wipe_1 : decode cX4_wipe 1 = .ok (.getfield 33, 3) := by decide +kernel
theorem dX4_wipe_4 : decode cX4_wipe 4 = .ok (.getfield 203, 3) := by decide +kernel
theorem dX4_wipe_7 : decode cX4_wipe 7 = .ok (.istore_n 1, 1) := by decide +kernel
theorem dX4_wipe_8 : decode cX4_wipe 8 = .ok (.aload_n 0, 1) := by decide +kernel
theorem dX4_wipe_9 : decode cX4_wipe 9 = .ok (.getfield 33, 3) := by decide +kernel
theorem dX4_wipe_12 : decode cX4_wipe 12 = .ok (.iconst 0, 1) := by decide +kernel
theorem dX4_wipe_13 : decode cX4_wipe 13 = .ok (.putfield 203, 3) := by decide +kernel
theorem dX4_wipe_16 : decode cX4_wipe 16 = .ok (.iload_n 1, 1) := by decide +kernel
theorem dX4_wipe_17 : decode cX4_wipe 17 = .ok (.ireturn, 1) := by decide +kernel
theorem dX4_leaks_0 : decode cX4_leaks 0 = .ok (.iconst 0, 1) := by decide +kernel
theorem dX4_leaks_1 : decode cX4_leaks 1 = .ok (.istore_n 1, 1) := by decide +kernel
theorem dX4_leaks_2 : decode cX4_leaks 2 = .ok (.iconst 0, 1) := by decide +kernel
theorem dX4_leaks_3 : decode cX4_leaks 3 = .ok (.istore_n 2, 1) := by decide +kernel
theorem dX4_leaks_4 : decode cX4_leaks 4 = .ok (.iload_n 2, 1) := by decide +kernel
theorem dX4_leaks_5 : decode cX4_leaks 5 = .ok (.aload_n 0, 1) := by decide +kernel
theorem dX4_leaks_6 : decode cX4_leaks 6 = .ok (.getfield 19, 3) := by decide +kernel
theorem dX4_leaks_9 : decode cX4_leaks 9 = .ok (.getfield 58, 3) := by decide +kernel
theorem dX4_leaks_12 : decode cX4_leaks 12 = .ok (.if_icmp .ge 28, 3) := by decide +kernel
theorem dX4_leaks_15 : decode cX4_leaks 15 = .ok (.aload_n 0, 1) := by decide +kernel
theorem dX4_leaks_16 : decode cX4_leaks 16 = .ok (.getfield 33, 3) := by decide +kernel
theorem dX4_leaks_19 : decode cX4_leaks 19 = .ok (.iload_n 2, 1) := by decide +kernel
theorem dX4_leaks_20 : decode cX4_leaks 20 = .ok (.invokevirtual 213, 3) := by decide +kernel
theorem dX4_leaks_23 : decode cX4_leaks 23 = .ok (.iconst (-1), 1) := by decide +kernel
theorem dX4_leaks_24 : decode cX4_leaks 24 = .ok (.if_icmp .eq 10, 3) := by decide +kernel
theorem dX4_leaks_27 : decode cX4_leaks 27 = .ok (.iload_n 1, 1) := by decide +kernel
theorem dX4_leaks_28 : decode cX4_leaks 28 = .ok (.iload_n 2, 1) := by decide +kernel
theorem dX4_leaks_29 : decode cX4_leaks 29 = .ok (.invokestatic 132, 3) := by decide +kernel
theorem dX4_leaks_32 : decode cX4_leaks 32 = .ok (.ior, 1) := by decide +kernel
theorem dX4_leaks_33 : decode cX4_leaks 33 = .ok (.istore_n 1, 1) := by decide +kernel
theorem dX4_leaks_34 : decode cX4_leaks 34 = .ok (.iinc 2 1, 3) := by decide +kernel
theorem dX4_leaks_37 : decode cX4_leaks 37 = .ok (.goto (-33), 3) := by decide +kernel
theorem dX4_leaks_40 : decode cX4_leaks 40 = .ok (.iload_n 1, 1) := by decide +kernel
theorem dX4_leaks_41 : decode cX4_leaks 41 = .ok (.ireturn, 1) := by decide +kernel
theorem dX4_leak_0 : decode cX4_leak 0 = .ok (.aload_n 0, 1) := by decide +kernel
theorem dX4_leak_1 : decode cX4_leak 1 = .ok (.getfield 19, 3) := by decide +kernel
theorem dX4_leak_4 : decode cX4_leak 4 = .ok (.iload_n 1, 1) := by decide +kernel
theorem dX4_leak_5 : decode cX4_leak 5 = .ok (.invokevirtual 77, 3) := by decide +kernel
theorem dX4_leak_8 : decode cX4_leak 8 = .ok (.ifCond .eq 14, 3) := by decide +kernel
theorem dX4_leak_11 : decode cX4_leak 11 = .ok (.aload_n 0, 1) := by decide +kernel
theorem dX4_leak_12 : decode cX4_leak 12 = .ok (.getfield 33, 3) := by decide +kernel
theorem dX4_leak_15 : decode cX4_leak 15 = .ok (.iload_n 1, 1) := by decide +kernel
theorem dX4_leak_16 : decode cX4_leak 16 = .ok (.invokevirtual 213, 3) := by decide +kernel
theorem dX4_leak_19 : decode cX4_leak 19 = .ok (.goto 5, 3) := by decide +kernel
theorem dX4_leak_22 : decode cX4_leak 22 = .ok (.bipush (-101), 2) := by decide +kernel
theorem dX4_leak_24 : decode cX4_leak 24 = .ok (.ireturn, 1) := by decide +kernel
theorem dX4_look_0 : decode cX4_look 0 = .ok (.aload_n 0, 1) := by decide +kernel
theorem dX4_look_1 : decode cX4_look 1 = .ok (.invokevirtual 216, 3) := by decide +kernel
theorem dX4_look_4 : decode cX4_look 4 = .ok (.istore_n 1, 1) := by decide +kernel
theorem dX4_look_5 : decode cX4_look 5 = .ok (.iload_n 1, 1) := by decide +kernel
theorem dX4_look_6 : decode cX4_look 6 = .ok (.ifCond .ne 5, 3) := by decide +kernel
theorem dX4_look_9 : decode cX4_look 9 = .ok (.iconst (-1), 1) := by decide +kernel
theorem dX4_look_10 : decode cX4_look 10 = .ok (.ireturn, 1) := by decide +kernel
theorem dX4_look_11 : decode cX4_look 11 = .ok (.iconst (-1), 1) := by decide +kernel
theorem dX4_look_12 : decode cX4_look 12 = .ok (.istore_n 2, 1) := by decide +kernel
theorem dX4_look_13 : decode cX4_look 13 = .ok (.bipush 9, 2) := by decide +kernel
theorem dX4_look_15 : decode cX4_look 15 = .ok (.istore_n 3, 1) := by decide +kernel
theorem dX4_look_16 : decode cX4_look 16 = .ok (.iconst 1, 1) := by decide +kernel
theorem dX4_look_17 : decode cX4_look 17 = .ok (.istore 4, 2) := by decide +kernel
theorem dX4_look_19 : decode cX4_look 19 = .ok (.iload 4, 2) := by decide +kernel
theorem dX4_look_21 : decode cX4_look 21 = .ok (.aload_n 0, 1) := by decide +kernel
theorem dX4_look_22 : decode cX4_look 22 = .ok (.getfield 19, 3) := by decide +kernel
theorem dX4_look_25 : decode cX4_look 25 = .ok (.invokevirtual 219, 3) := by decide +kernel
theorem dX4_look_28 : decode cX4_look 28 = .ok (.if_icmp .gt 53, 3) := by decide +kernel
theorem dX4_look_31 : decode cX4_look 31 = .ok (.aload_n 0, 1) := by decide +kernel
theorem dX4_look_32 : decode cX4_look 32 = .ok (.getfield 19, 3) := by decide +kernel
theorem dX4_look_35 : decode cX4_look 35 = .ok (.iload 4, 2) := by decide +kernel
theorem dX4_look_37 : decode cX4_look 37 = .ok (.invokevirtual 204, 3) := by decide +kernel
theorem dX4_look_40 : decode cX4_look 40 = .ok (.istore 5, 2) := by decide +kernel
theorem dX4_look_42 : decode cX4_look 42 = .ok (.iload_n 1, 1) := by decide +kernel
theorem dX4_look_43 : decode cX4_look 43 = .ok (.iload 5, 2) := by decide +kernel
theorem dX4_look_45 : decode cX4_look 45 = .ok (.iand, 1) := by decide +kernel
theorem dX4_look_46 : decode cX4_look 46 = .ok (.invokestatic 222, 3) := by decide +kernel
theorem dX4_look_49 : decode cX4_look 49 = .ok (.iload_n 1, 1) := by decide +kernel
theorem dX4_look_50 : decode cX4_look 50 = .ok (.iload 5, 2) := by decide +kernel
theorem dX4_look_52 : decode cX4_look 52 = .ok (.iconst (-1), 1) := by decide +kernel
theorem dX4_look_53 : decode cX4_look 53 = .ok (.ixor, 1) := by decide +kernel
theorem dX4_look_54 : decode cX4_look 54 = .ok (.iand, 1) := by decide +kernel
theorem dX4_look_55 : decode cX4_look 55 = .ok (.invokestatic 222, 3) := by decide +kernel
theorem dX4_look_58 : decode cX4_look 58 = .ok (.invokestatic 227, 3) := by decide +kernel
theorem dX4_look_61 : decode cX4_look 61 = .ok (.istore 6, 2) := by decide +kernel
theorem dX4_look_63 : decode cX4_look 63 = .ok (.iload 6, 2) := by decide +kernel
theorem dX4_look_65 : decode cX4_look 65 = .ok (.iload_n 3, 1) := by decide +kernel
theorem dX4_look_66 : decode cX4_look 66 = .ok (.if_icmp .ge 9, 3) := by decide +kernel
theorem dX4_look_69 : decode cX4_look 69 = .ok (.iload 6, 2) := by decide +kernel
theorem dX4_look_71 : decode cX4_look 71 = .ok (.istore_n 3, 1) := by decide +kernel
theorem dX4_look_72 : decode cX4_look 72 = .ok (.iload 4, 2) := by decide +kernel
theorem dX4_look_74 : decode cX4_look 74 = .ok (.istore_n 2, 1) := by decide +kernel
theorem dX4_look_75 : decode cX4_look 75 = .ok (.iinc 4 1, 3) := by decide +kernel
theorem dX4_look_78 : decode cX4_look 78 = .ok (.goto (-59), 3) := by decide +kernel
theorem dX4_look_81 : decode cX4_look 81 = .ok (.iload_n 2, 1) := by decide +kernel
theorem dX4_look_82 : decode cX4_look 82 = .ok (.ireturn, 1) := by decide +kernel
theorem dX4_image_0 : decode cX4_image 0 = .ok (.aload_n 0, 1) := by decide +kernel
theorem dX4_image_1 : decode cX4_image 1 = .ok (.iconst 1, 1) := by decide +kernel
