theorem dX0_init_0 : decode cX0_init 0 = .ok (.aload_n 0, 1) := by decide +kernel
theorem dX0_init_1 : decode cX0_init 1 = .ok (.invokespecial 3, 3) := by decide +kernel
theorem dX0_init_4 : decode cX0_init 4 = .ok (.aload_n 0, 1) := by decide +kernel
theorem dX0_init_5 : decode cX0_init 5 = .ok (.bipush 60, 2) := by decide +kernel
theorem dX0_init_7 : decode cX0_init 7 = .ok (.putfield 9, 3) := by decide +kernel
theorem dX0_init_10 : decode cX0_init 10 = .ok (.aload_n 0, 1) := by decide +kernel
theorem dX0_init_11 : decode cX0_init 11 = .ok (.bipush 60, 2) := by decide +kernel
theorem dX0_init_13 : decode cX0_init 13 = .ok (.putfield 15, 3) := by decide +kernel
theorem dX0_init_16 : decode cX0_init 16 = .ok (.aload_n 0, 1) := by decide +kernel
theorem dX0_init_17 : decode cX0_init 17 = .ok (.bipush 8, 2) := by decide +kernel
theorem dX0_init_19 : decode cX0_init 19 = .ok (.newarray .int, 2) := by decide +kernel
theorem dX0_init_21 : decode cX0_init 21 = .ok (.putfield 18, 3) := by decide +kernel
theorem dX0_init_24 : decode cX0_init 24 = .ok (.aload_n 0, 1) := by decide +kernel
theorem dX0_init_25 : decode cX0_init 25 = .ok (.bipush 8, 2) := by decide +kernel
theorem dX0_init_27 : decode cX0_init 27 = .ok (.newarray .int, 2) := by decide +kernel
theorem dX0_init_29 : decode cX0_init 29 = .ok (.putfield 22, 3) := by decide +kernel
theorem dX0_init_32 : decode cX0_init 32 = .ok (.aload_n 0, 1) := by decide +kernel
theorem dX0_init_33 : decode cX0_init 33 = .ok (.bipush 8, 2) := by decide +kernel
theorem dX0_init_35 : decode cX0_init 35 = .ok (.newarray .int, 2) := by decide +kernel
theorem dX0_init_37 : decode cX0_init 37 = .ok (.putfield 25, 3) := by decide +kernel
theorem dX0_init_40 : decode cX0_init 40 = .ok (.aload_n 0, 1) := by decide +kernel
theorem dX0_init_41 : decode cX0_init 41 = .ok (.bipush 8, 2) := by decide +kernel
theorem dX0_init_43 : decode cX0_init 43 = .ok (.newarray .int, 2) := by decide +kernel
theorem dX0_init_45 : decode cX0_init 45 = .ok (.putfield 28, 3) := by decide +kernel
theorem dX0_init_48 : decode cX0_init 48 = .ok (.aload_n 0, 1) := by decide +kernel
theorem dX0_init_49 : decode cX0_init 49 = .ok (.bipush 8, 2) := by decide +kernel
theorem dX0_init_51 : decode cX0_init 51 = .ok (.newarray .int, 2) := by decide +kernel
theorem dX0_init_53 : decode cX0_init 53 = .ok (.putfield 31, 3) := by decide +kernel
theorem dX0_init_56 : decode cX0_init 56 = .ok (.return_, 1) := by decide +kernel
theorem dX0_copyFrom_0 : decode cX0_copyFrom 0 = .ok (.aload_n 0, 1) := by decide +kernel
theorem dX0_copyFrom_1 : decode cX0_copyFrom 1 = .ok (.aload_n 1, 1) := by decide +kernel
theorem dX0_copyFrom_2 : decode cX0_copyFrom 2 = .ok (.getfield 9, 3) := by decide +kernel
theorem dX0_copyFrom_5 : decode cX0_copyFrom 5 = .ok (.putfield 9, 3) := by decide +kernel
theorem dX0_copyFrom_8 : decode cX0_copyFrom 8 = .ok (.aload_n 0, 1) := by decide +kernel
theorem dX0_copyFrom_9 : decode cX0_copyFrom 9 = .ok (.aload_n 1, 1) := by decide +kernel
theorem dX0_copyFrom_10 : decode cX0_copyFrom 10 = .ok (.getfield 15, 3) := by decide +kernel
theorem dX0_copyFrom_13 : decode cX0_copyFrom 13 = .ok (.putfield 15, 3) := by decide +kernel
theorem dX0_copyFrom_16 : decode cX0_copyFrom 16 = .ok (.aload_n 0, 1) := by decide +kernel
theorem dX0_copyFrom_17 : decode cX0_copyFrom 17 = .ok (.aload_n 1, 1) := by decide +kernel
theorem dX0_copyFrom_18 : decode cX0_copyFrom 18 = .ok (.getfield 34, 3) := by decide +kernel
theorem dX0_copyFrom_21 : decode cX0_copyFrom 21 = .ok (.putfield 34, 3) := by decide +kernel
theorem dX0_copyFrom_24 : decode cX0_copyFrom 24 = .ok (.aload_n 0, 1) := by decide +kernel
theorem dX0_copyFrom_25 : decode cX0_copyFrom 25 = .ok (.aload_n 1, 1) := by decide +kernel
theorem dX0_copyFrom_26 : decode cX0_copyFrom 26 = .ok (.getfield 37, 3) := by decide +kernel
theorem dX0_copyFrom_29 : decode cX0_copyFrom 29 = .ok (.putfield 37, 3) := by decide +kernel
theorem dX0_copyFrom_32 : decode cX0_copyFrom 32 = .ok (.aload_n 0, 1) := by decide +kernel
theorem dX0_copyFrom_33 : decode cX0_copyFrom 33 = .ok (.aload_n 1, 1) := by decide +kernel
theorem dX0_copyFrom_34 : decode cX0_copyFrom 34 = .ok (.getfield 40, 3) := by decide +kernel
theorem dX0_copyFrom_37 : decode cX0_copyFrom 37 = .ok (.putfield 40, 3) := by decide +kernel
theorem dX0_copyFrom_40 : decode cX0_copyFrom 40 = .ok (.aload_n 0, 1) := by decide +kernel
theorem dX0_copyFrom_41 : decode cX0_copyFrom 41 = .ok (.aload_n 1, 1) := by decide +kernel
theorem dX0_copyFrom_42 : decode cX0_copyFrom 42 = .ok (.getfield 43, 3) := by decide +kernel
theorem dX0_copyFrom_45 : decode cX0_copyFrom 45 = .ok (.putfield 43, 3) := by decide +kernel
theorem dX0_copyFrom_48 : decode cX0_copyFrom 48 = .ok (.aload_n 0, 1) := by decide +kernel
theorem dX0_copyFrom_49 : decode cX0_copyFrom 49 = .ok (.aload_n 1, 1) := by decide +kernel
theorem dX0_copyFrom_50 : decode cX0_copyFrom 50 = .ok (.getfield 46, 3) := by decide +kernel
theorem dX0_copyFrom_53 : decode cX0_copyFrom 53 = .ok (.putfield 46, 3) := by decide +kernel
theorem dX0_copyFrom_56 : decode cX0_copyFrom 56 = .ok (.aload_n 0, 1) := by decide +kernel
theorem dX0_copyFrom_57 : decode cX0_copyFrom 57 = .ok (.aload_n 1, 1) := by decide +kernel
theorem dX0_copyFrom_58 : decode cX0_copyFrom 58 = .ok (.getfield 50, 3) := by decide +kernel
theorem dX0_copyFrom_61 : decode cX0_copyFrom 61 = .ok (.putfield 50, 3) := by decide +kernel
theorem dX0_copyFrom_64 : decode cX0_copyFrom 64 = .ok (.aload_n 0, 1) := by decide +kernel
theorem dX0_copyFrom_65 : decode cX0_copyFrom 65 = .ok (.aload_n 1, 1) := by decide +kernel
theorem dX0_copyFrom_66 : decode cX0_copyFrom 66 = .ok (.getfield 53, 3) := by decide +kernel
theorem dX0_copyFrom_69 : decode cX0_copyFrom 69 = .ok (.putfield 53, 3) := by decide +kernel
theorem dX0_copyFrom_72 : decode cX0_copyFrom 72 = .ok (.aload_n 1, 1) := by decide +kernel
theorem dX0_copyFrom_73 : decode cX0_copyFrom 73 = .ok (.getfield 18, 3) := by decide +kernel
theorem dX0_copyFrom_76 : decode cX0_copyFrom 76 = .ok (.iconst 0, 1) := by decide +kernel
theorem dX0_copyFrom_77 : decode cX0_copyFrom 77 = .ok (.aload_n 0, 1) := by decide +kernel
theorem dX0_copyFrom_78 : decode cX0_copyFrom 78 = .ok (.getfield 18, 3) := by decide +kernel
theorem dX0_copyFrom_81 : decode cX0_copyFrom 81 = .ok (.iconst 0, 1) := by decide +kernel
theorem dX0_copyFrom_82 : decode cX0_copyFrom 82 = .ok (.bipush 8, 2) := by decide +kernel
theorem dX0_copyFrom_84 : decode cX0_copyFrom 84 = .ok (.invokestatic 56, 3) := by decide +kernel
theorem dX0_copyFrom_87 : decode cX0_copyFrom 87 = .ok (.aload_n 1, 1) := by decide +kernel
theorem dX0_copyFrom_88 : decode cX0_copyFrom 88 = .ok (.getfield 22, 3) := by decide +kernel
theorem dX0_copyFrom_91 : decode cX0_copyFrom 91 = .ok (.iconst 0, 1) := by decide +kernel
theorem dX0_copyFrom_92 : decode cX0_copyFrom 92 = .ok (.aload_n 0, 1) := by decide +kernel
theorem dX0_copyFrom_93 : decode cX0_copyFrom 93 = .ok (.getfield 22, 3) := by decide +kernel
theorem dX0_copyFrom_96 : decode cX0_copyFrom 96 = .ok (.iconst 0, 1) := by decide +kernel
theorem dX0_copyFrom_97 : decode cX0_copyFrom 97 = .ok (.bipush 8, 2) := by decide +kernel
theorem dX0_copyFrom_99 : decode cX0_copyFrom 99 = .ok (.invokestatic 56, 3) := by decide +kernel
theorem dX0_copyFrom_102 : decode cX0_copyFrom 102 = .ok (.return_, 1) := by decide +kernel
theorem dX0_hasBegun_0 : decode cX0_hasBegun 0 = .ok (.aload_n 0, 1) := by decide +kernel
theorem dX0_hasBegun_1 : decode cX0_hasBegun 1 = .ok (.getfield 34, 3) := by decide +kernel
theorem dX0_hasBegun_4 : decode cX0_hasBegun 4 = .ok (.ifCond .le 7, 3) := by decide +kernel
theorem dX0_hasBegun_7 : decode cX0_hasBegun 7 = .ok (.iconst 1, 1) := by decide +kernel
theorem dX0_hasBegun_8 : decode cX0_hasBegun 8 = .ok (.goto 4, 3) := by decide +kernel
theorem dX0_hasBegun_11 : decode cX0_hasBegun 11 = .ok (.iconst 0, 1) := by decide +kernel
theorem dX0_hasBegun_12 : decode cX0_hasBegun 12 = .ok (.ireturn, 1) := by decide +kernel
theorem dX0_hourComes_0 : decode cX0_hourComes 0 = .ok (.aload_n 0, 1) := by decide +kernel
theorem dX0_hourComes_1 : decode cX0_hourComes 1 = .ok (.getfield 34, 3) := by decide +kernel
theorem dX0_hourComes_4 : decode cX0_hourComes 4 = .ok (.bipush 9, 2) := by decide +kernel
theorem dX0_hourComes_6 : decode cX0_hourComes 6 = .ok (.if_icmp .ge 14, 3) := by decide +kernel
theorem dX0_hourComes_9 : decode cX0_hourComes 9 = .ok (.aload_n 0, 1) := by decide +kernel
theorem dX0_hourComes_10 : decode cX0_hourComes 10 = .ok (.getfield 50, 3) := by decide +kernel
theorem dX0_hourComes_13 : decode cX0_hourComes 13 = .ok (.ifCond .ne 7, 3) := by decide +kernel
theorem dX0_hourComes_16 : decode cX0_hourComes 16 = .ok (.iconst 1, 1) := by decide +kernel
theorem dX0_hourComes_17 : decode cX0_hourComes 17 = .ok (.goto 4, 3) := by decide +kernel
theorem dX0_hourComes_20 : decode cX0_hourComes 20 = .ok (.iconst 0, 1) := by decide +kernel
theorem dX0_hourComes_21 : decode cX0_hourComes 21 = .ok (.ireturn, 1) := by decide +kernel
theorem dX0_wantOf_0 : decode cX0_wantOf 0 = .ok (.aload_n 1, 1) := by decide +kernel
theorem dX0_wantOf_1 : decode cX0_wantOf 1 = .ok (.iload_n 2, 1) := by decide +kernel
theorem dX0_wantOf_2 : decode cX0_wantOf 2 = .ok (.aload_n 0, 1) := by decide +kernel
theorem dX0_wantOf_3 : decode cX0_wantOf 3 = .ok (.getfield 34, 3) := by decide +kernel
theorem dX0_wantOf_6 : decode cX0_wantOf 6 = .ok (.invokevirtual 62, 3) := by decide +kernel
theorem dX0_wantOf_9 : decode cX0_wantOf 9 = .ok (.ifCond .eq 14, 3) := by decide +kernel
theorem dX0_wantOf_12 : decode cX0_wantOf 12 = .ok (.aload_n 0, 1) := by decide +kernel
theorem dX0_wantOf_13 : decode cX0_wantOf 13 = .ok (.getfield 43, 3) := by decide +kernel
theorem dX0_wantOf_16 : decode cX0_wantOf 16 = .ok (.iload_n 2, 1) := by decide +kernel
theorem dX0_wantOf_17 : decode cX0_wantOf 17 = .ok (.invokestatic 68, 3) := by decide +kernel
theorem dX0_wantOf_20 : decode cX0_wantOf 20 = .ok (.ifCond .eq 5, 3) := by decide +kernel
theorem dX0_wantOf_23 : decode cX0_wantOf 23 = .ok (.iconst 0, 1) := by decide +kernel
theorem dX0_wantOf_24 : decode cX0_wantOf 24 = .ok (.ireturn, 1) := by decide +kernel
theorem dX0_wantOf_25 : decode cX0_wantOf 25 = .ok (.aload_n 1, 1) := by decide +kernel
theorem dX0_wantOf_26 : decode cX0_wantOf 26 = .ok (.getfield 71, 3) := by decide +kernel
theorem dX0_wantOf_29 : decode cX0_wantOf 29 = .ok (.iload_n 2, 1) := by decide +kernel
theorem dX0_wantOf_30 : decode cX0_wantOf 30 = .ok (.iaload, 1) := by decide +kernel
theorem dX0_wantOf_31 : decode cX0_wantOf 31 = .ok (.istore_n 3, 1) := by decide +kernel
theorem dX0_wantOf_32 : decode cX0_wantOf 32 = .ok (.aload_n 1, 1) := by decide +kernel
theorem dX0_wantOf_33 : decode cX0_wantOf 33 = .ok (.iload_n 2, 1) := by decide +kernel
theorem dX0_wantOf_34 : decode cX0_wantOf 34 = .ok (.iconst 2, 1) := by decide +kernel
theorem dX0_wantOf_35 : decode cX0_wantOf 35 = .ok (.invokevirtual 74, 3) := by decide +kernel
theorem dX0_wantOf_38 : decode cX0_wantOf 38 = .ok (.ifCond .eq 20, 3) := by decide +kernel
theorem dX0_wantOf_41 : decode cX0_wantOf 41 = .ok (.aload_n 0, 1) := by decide +kernel
theorem dX0_wantOf_42 : decode cX0_wantOf 42 = .ok (.getfield 34, 3) := by decide +kernel
theorem dX0_wantOf_45 : decode cX0_wantOf 45 = .ok (.aload_n 1, 1) := by decide +kernel
theorem dX0_wantOf_46 : decode cX0_wantOf 46 = .ok (.getfield 77, 3) := by decide +kernel
theorem dX0_wantOf_49 : decode cX0_wantOf 49 = .ok (.iload_n 2, 1) := by decide +kernel
theorem dX0_wantOf_50 : decode cX0_wantOf 50 = .ok (.iaload, 1) := by decide +kernel
theorem dX0_wantOf_51 : decode cX0_wantOf 51 = .ok (.if_icmp .ne 7, 3) := by decide +kernel
theorem dX0_wantOf_54 : decode cX0_wantOf 54 = .ok (.iconst 2, 1) := by decide +kernel
theorem dX0_wantOf_55 : decode cX0_wantOf 55 = .ok (.iload_n 3, 1) := by decide +kernel
theorem dX0_wantOf_56 : decode cX0_wantOf 56 = .ok (.imul, 1) := by decide +kernel
theorem dX0_wantOf_57 : decode cX0_wantOf 57 = .ok (.ireturn, 1) := by decide +kernel
theorem dX0_wantOf_58 : decode cX0_wantOf 58 = .ok (.aload_n 1, 1) := by decide +kernel
theorem dX0_wantOf_59 : decode cX0_wantOf 59 = .ok (.iload_n 2, 1) := by decide +kernel
theorem dX0_wantOf_60 : decode cX0_wantOf 60 = .ok (.iconst 3, 1) := by decide +kernel
theorem dX0_wantOf_61 : decode cX0_wantOf 61 = .ok (.invokevirtual 74, 3) := by decide +kernel
theorem dX0_wantOf_64 : decode cX0_wantOf 64 = .ok (.ifCond .eq 18, 3) := by decide +kernel
theorem dX0_wantOf_67 : decode cX0_wantOf 67 = .ok (.aload_n 0, 1) := by decide +kernel
theorem dX0_wantOf_68 : decode cX0_wantOf 68 = .ok (.getfield 40, 3) := by decide +kernel
theorem dX0_wantOf_71 : decode cX0_wantOf 71 = .ok (.iload_n 2, 1) := by decide +kernel
theorem dX0_wantOf_72 : decode cX0_wantOf 72 = .ok (.invokestatic 68, 3) := by decide +kernel
theorem dX0_wantOf_75 : decode cX0_wantOf 75 = .ok (.ifCond .eq 7, 3) := by decide +kernel
theorem dX0_wantOf_78 : decode cX0_wantOf 78 = .ok (.iload_n 3, 1) := by decide +kernel
theorem dX0_wantOf_79 : decode cX0_wantOf 79 = .ok (.iconst 1, 1) := by decide +kernel
theorem dX0_wantOf_80 : decode cX0_wantOf 80 = .ok (.isub, 1) := by decide +kernel
theorem dX0_wantOf_81 : decode cX0_wantOf 81 = .ok (.ireturn, 1) := by decide +kernel
theorem dX0_wantOf_82 : decode cX0_wantOf 82 = .ok (.iload_n 3, 1) := by decide +kernel
theorem dX0_wantOf_83 : decode cX0_wantOf 83 = .ok (.ireturn, 1) := by decide +kernel
theorem dX0_tellWanted_0 : decode cX0_tellWanted 0 = .ok (.iconst 0, 1) := by decide +kernel
theorem dX0_tellWanted_1 : decode cX0_tellWanted 1 = .ok (.istore_n 2, 1) := by decide +kernel
theorem dX0_tellWanted_2 : decode cX0_tellWanted 2 = .ok (.iload_n 2, 1) := by decide +kernel
theorem dX0_tellWanted_3 : decode cX0_tellWanted 3 = .ok (.aload_n 1, 1) := by decide +kernel
theorem dX0_tellWanted_4 : decode cX0_tellWanted 4 = .ok (.getfield 80, 3) := by decide +kernel
theorem dX0_tellWanted_7 : decode cX0_tellWanted 7 = .ok (.if_icmp .ge 21, 3) := by decide +kernel
theorem dX0_tellWanted_10 : decode cX0_tellWanted 10 = .ok (.aload_n 0, 1) := by decide +kernel
theorem dX0_tellWanted_11 : decode cX0_tellWanted 11 = .ok (.getfield 25, 3) := by decide +kernel
theorem dX0_tellWanted_14 : decode cX0_tellWanted 14 = .ok (.iload_n 2, 1) := by decide +kernel
theorem dX0_tellWanted_15 : decode cX0_tellWanted 15 = .ok (.aload_n 0, 1) := by decide +kernel
theorem dX0_tellWanted_16 : decode cX0_tellWanted 16 = .ok (.aload_n 1, 1) := by decide +kernel
theorem dX0_tellWanted_17 : decode cX0_tellWanted 17 = .ok (.iload_n 2, 1) := by decide +kernel
theorem dX0_tellWanted_18 : decode cX0_tellWanted 18 = .ok (.invokevirtual 83, 3) := by decide +kernel
theorem dX0_tellWanted_21 : decode cX0_tellWanted 21 = .ok (.iastore, 1) := by decide +kernel
theorem dX0_tellWanted_22 : decode cX0_tellWanted 22 = .ok (.iinc 2 1, 3) := by decide +kernel
theorem dX0_tellWanted_25 : decode cX0_tellWanted 25 = .ok (.goto (-23), 3) := by decide +kernel
theorem dX0_tellWanted_28 : decode cX0_tellWanted 28 = .ok (.return_, 1) := by decide +kernel
theorem dX0_goesBy_0 : decode cX0_goesBy 0 = .ok (.iconst 0, 1) := by decide +kernel
theorem dX0_goesBy_1 : decode cX0_goesBy 1 = .ok (.istore_n 3, 1) := by decide +kernel
theorem dX0_goesBy_2 : decode cX0_goesBy 2 = .ok (.iconst 0, 1) := by decide +kernel
theorem dX0_goesBy_3 : decode cX0_goesBy 3 = .ok (.istore 4, 2) := by decide +kernel
theorem dX0_goesBy_5 : decode cX0_goesBy 5 = .ok (.iconst 0, 1) := by decide +kernel
theorem dX0_goesBy_6 : decode cX0_goesBy 6 = .ok (.istore 5, 2) := by decide +kernel
theorem dX0_goesBy_8 : decode cX0_goesBy 8 = .ok (.iload 5, 2) := by decide +kernel
theorem dX0_goesBy_10 : decode cX0_goesBy 10 = .ok (.aload_n 1, 1) := by decide +kernel
theorem dX0_goesBy_11 : decode cX0_goesBy 11 = .ok (.getfield 80, 3) := by decide +kernel
theorem dX0_goesBy_14 : decode cX0_goesBy 14 = .ok (.if_icmp .ge 50, 3) := by decide +kernel
theorem dX0_goesBy_17 : decode cX0_goesBy 17 = .ok (.iload_n 2, 1) := by decide +kernel
theorem dX0_goesBy_18 : decode cX0_goesBy 18 = .ok (.iload 5, 2) := by decide +kernel
theorem dX0_goesBy_20 : decode cX0_goesBy 20 = .ok (.invokestatic 68, 3) := by decide +kernel
theorem dX0_goesBy_23 : decode cX0_goesBy 23 = .ok (.ifCond .eq 35, 3) := by decide +kernel
theorem dX0_goesBy_26 : decode cX0_goesBy 26 = .ok (.aload_n 0, 1) := by decide +kernel
theorem dX0_goesBy_27 : decode cX0_goesBy 27 = .ok (.getfield 25, 3) := by decide +kernel
theorem dX0_goesBy_30 : decode cX0_goesBy 30 = .ok (.iload 5, 2) := by decide +kernel
theorem dX0_goesBy_32 : decode cX0_goesBy 32 = .ok (.iaload, 1) := by decide +kernel
theorem dX0_goesBy_33 : decode cX0_goesBy 33 = .ok (.ifCond .le 25, 3) := by decide +kernel
theorem dX0_goesBy_36 : decode cX0_goesBy 36 = .ok (.iload_n 3, 1) := by decide +kernel
theorem dX0_goesBy_37 : decode cX0_goesBy 37 = .ok (.aload_n 0, 1) := by decide +kernel
theorem dX0_goesBy_38 : decode cX0_goesBy 38 = .ok (.getfield 25, 3) := by decide +kernel
theorem dX0_goesBy_41 : decode cX0_goesBy 41 = .ok (.iload 5, 2) := by decide +kernel
theorem dX0_goesBy_43 : decode cX0_goesBy 43 = .ok (.iaload, 1) := by decide +kernel
theorem dX0_goesBy_44 : decode cX0_goesBy 44 = .ok (.iadd, 1) := by decide +kernel
theorem dX0_goesBy_45 : decode cX0_goesBy 45 = .ok (.istore_n 3, 1) := by decide +kernel
theorem dX0_goesBy_46 : decode cX0_goesBy 46 = .ok (.iload 4, 2) := by decide +kernel
theorem dX0_goesBy_48 : decode cX0_goesBy 48 = .ok (.aload_n 1, 1) := by decide +kernel
theorem dX0_goesBy_49 : decode cX0_goesBy 49 = .ok (.getfield 87, 3) := by decide +kernel
theorem dX0_goesBy_52 : decode cX0_goesBy 52 = .ok (.iload 5, 2) := by decide +kernel
theorem dX0_goesBy_54 : decode cX0_goesBy 54 = .ok (.iaload, 1) := by decide +kernel
theorem dX0_goesBy_55 : decode cX0_goesBy 55 = .ok (.ior, 1) := by decide +kernel
theorem dX0_goesBy_56 : decode cX0_goesBy 56 = .ok (.istore 4, 2) := by decide +kernel
theorem dX0_goesBy_58 : decode cX0_goesBy 58 = .ok (.iinc 5 1, 3) := by decide +kernel
theorem dX0_goesBy_61 : decode cX0_goesBy 61 = .ok (.goto (-53), 3) := by decide +kernel
theorem dX0_goesBy_64 : decode cX0_goesBy 64 = .ok (.iload_n 3, 1) := by decide +kernel
theorem dX0_goesBy_65 : decode cX0_goesBy 65 = .ok (.aload_n 1, 1) := by decide +kernel
theorem dX0_goesBy_66 : decode cX0_goesBy 66 = .ok (.iload 4, 2) := by decide +kernel
theorem dX0_goesBy_68 : decode cX0_goesBy 68 = .ok (.aload_n 0, 1) := by decide +kernel
theorem dX0_goesBy_69 : decode cX0_goesBy 69 = .ok (.getfield 46, 3) := by decide +kernel
theorem dX0_goesBy_72 : decode cX0_goesBy 72 = .ok (.invokevirtual 90, 3) := by decide +kernel
theorem dX0_goesBy_75 : decode cX0_goesBy 75 = .ok (.iadd, 1) := by decide +kernel
theorem dX0_goesBy_76 : decode cX0_goesBy 76 = .ok (.ireturn, 1) := by decide +kernel
theorem dX0_passHour_0 : decode cX0_passHour 0 = .ok (.aload_n 0, 1) := by decide +kernel
theorem dX0_passHour_1 : decode cX0_passHour 1 = .ok (.aload_n 1, 1) := by decide +kernel
theorem dX0_passHour_2 : decode cX0_passHour 2 = .ok (.invokevirtual 94, 3) := by decide +kernel
theorem dX0_passHour_5 : decode cX0_passHour 5 = .ok (.aload_n 1, 1) := by decide +kernel
theorem dX0_passHour_6 : decode cX0_passHour 6 = .ok (.invokevirtual 98, 3) := by decide +kernel
theorem dX0_passHour_9 : decode cX0_passHour 9 = .ok (.istore_n 2, 1) := by decide +kernel
theorem dX0_passHour_10 : decode cX0_passHour 10 = .ok (.aload_n 0, 1) := by decide +kernel
theorem dX0_passHour_11 : decode cX0_passHour 11 = .ok (.aload_n 1, 1) := by decide +kernel
theorem dX0_passHour_12 : decode cX0_passHour 12 = .ok (.iload_n 2, 1) := by decide +kernel
theorem dX0_passHour_13 : decode cX0_passHour 13 = .ok (.invokevirtual 102, 3) := by decide +kernel
theorem dX0_passHour_16 : decode cX0_passHour 16 = .ok (.istore_n 3, 1) := by decide +kernel
theorem dX0_passHour_17 : decode cX0_passHour 17 = .ok (.aload_n 1, 1) := by decide +kernel
theorem dX0_passHour_18 : decode cX0_passHour 18 = .ok (.getfield 80, 3) := by decide +kernel
theorem dX0_passHour_21 : decode cX0_passHour 21 = .ok (.iconst 1, 1) := by decide +kernel
theorem dX0_passHour_22 : decode cX0_passHour 22 = .ok (.isub, 1) := by decide +kernel
theorem dX0_passHour_23 : decode cX0_passHour 23 = .ok (.istore 4, 2) := by decide +kernel
theorem dX0_passHour_25 : decode cX0_passHour 25 = .ok (.iload 4, 2) := by decide +kernel
theorem dX0_passHour_27 : decode cX0_passHour 27 = .ok (.ifCond .lt 54, 3) := by decide +kernel
theorem dX0_passHour_30 : decode cX0_passHour 30 = .ok (.iload_n 3, 1) := by decide +kernel
theorem dX0_passHour_31 : decode cX0_passHour 31 = .ok (.aload_n 0, 1) := by decide +kernel
theorem dX0_passHour_32 : decode cX0_passHour 32 = .ok (.getfield 15, 3) := by decide +kernel
theorem dX0_passHour_35 : decode cX0_passHour 35 = .ok (.if_icmp .le 46, 3) := by decide +kernel
theorem dX0_passHour_38 : decode cX0_passHour 38 = .ok (.aload_n 0, 1) := by decide +kernel
theorem dX0_passHour_39 : decode cX0_passHour 39 = .ok (.getfield 25, 3) := by decide +kernel
theorem dX0_passHour_42 : decode cX0_passHour 42 = .ok (.iload 4, 2) := by decide +kernel
theorem dX0_passHour_44 : decode cX0_passHour 44 = .ok (.iaload, 1) := by decide +kernel
theorem dX0_passHour_45 : decode cX0_passHour 45 = .ok (.ifCond .le 30, 3) := by decide +kernel
theorem dX0_passHour_48 : decode cX0_passHour 48 = .ok (.aload_n 1, 1) := by decide +kernel
theorem dX0_passHour_49 : decode cX0_passHour 49 = .ok (.iload 4, 2) := by decide +kernel
theorem dX0_passHour_51 : decode cX0_passHour 51 = .ok (.iconst 1, 1) := by decide +kernel
theorem dX0_passHour_52 : decode cX0_passHour 52 = .ok (.invokevirtual 74, 3) := by decide +kernel
theorem dX0_passHour_55 : decode cX0_passHour 55 = .ok (.ifCond .ne 20, 3) := by decide +kernel
theorem dX0_passHour_58 : decode cX0_passHour 58 = .ok (.iload_n 2, 1) := by decide +kernel
theorem dX0_passHour_59 : decode cX0_passHour 59 = .ok (.iload 4, 2) := by decide +kernel
theorem dX0_passHour_61 : decode cX0_passHour 61 = .ok (.invokestatic 105, 3) := by decide +kernel
theorem dX0_passHour_64 : decode cX0_passHour 64 = .ok (.iconst (-1), 1) := by decide +kernel
theorem dX0_passHour_65 : decode cX0_passHour 65 = .ok (.ixor, 1) := by decide +kernel
theorem dX0_passHour_66 : decode cX0_passHour 66 = .ok (.iand, 1) := by decide +kernel
theorem dX0_passHour_67 : decode cX0_passHour 67 = .ok (.istore_n 2, 1) := by decide +kernel
theorem dX0_passHour_68 : decode cX0_passHour 68 = .ok (.aload_n 0, 1) := by decide +kernel
theorem dX0_passHour_69 : decode cX0_passHour 69 = .ok (.aload_n 1, 1) := by decide +kernel
theorem dX0_passHour_70 : decode cX0_passHour 70 = .ok (.iload_n 2, 1) := by decide +kernel
theorem dX0_passHour_71 : decode cX0_passHour 71 = .ok (.invokevirtual 102, 3) := by decide +kernel
theorem dX0_passHour_74 : decode cX0_passHour 74 = .ok (.istore_n 3, 1) := by decide +kernel
theorem dX0_passHour_75 : decode cX0_passHour 75 = .ok (.iinc 4 (-1), 3) := by decide +kernel
theorem dX0_passHour_78 : decode cX0_passHour 78 = .ok (.goto (-53), 3) := by decide +kernel
theorem dX0_passHour_81 : decode cX0_passHour 81 = .ok (.iload_n 3, 1) := by decide +kernel
theorem dX0_passHour_82 : decode cX0_passHour 82 = .ok (.aload_n 0, 1) := by decide +kernel
theorem dX0_passHour_83 : decode cX0_passHour 83 = .ok (.getfield 15, 3) := by decide +kernel
theorem dX0_passHour_86 : decode cX0_passHour 86 = .ok (.if_icmp .le 15, 3) := by decide +kernel
theorem dX0_passHour_89 : decode cX0_passHour 89 = .ok (.aload_n 0, 1) := by decide +kernel
theorem dX0_passHour_90 : decode cX0_passHour 90 = .ok (.iconst 1, 1) := by decide +kernel
theorem dX0_passHour_91 : decode cX0_passHour 91 = .ok (.putfield 50, 3) := by decide +kernel
theorem dX0_passHour_94 : decode cX0_passHour 94 = .ok (.aload_n 0, 1) := by decide +kernel
theorem dX0_passHour_95 : decode cX0_passHour 95 = .ok (.getfield 15, 3) := by decide +kernel
theorem dX0_passHour_98 : decode cX0_passHour 98 = .ok (.istore_n 3, 1) := by decide +kernel
theorem dX0_passHour_99 : decode cX0_passHour 99 = .ok (.iconst 0, 1) := by decide +kernel
theorem dX0_passHour_100 : decode cX0_passHour 100 = .ok (.istore_n 2, 1) := by decide +kernel
theorem dX0_passHour_101 : decode cX0_passHour 101 = .ok (.aload_n 0, 1) := by decide +kernel
theorem dX0_passHour_102 : decode cX0_passHour 102 = .ok (.aload_n 1, 1) := by decide +kernel
theorem dX0_passHour_103 : decode cX0_passHour 103 = .ok (.getfield 80, 3) := by decide +kernel
theorem dX0_passHour_106 : decode cX0_passHour 106 = .ok (.iload_n 2, 1) := by decide +kernel
theorem dX0_passHour_107 : decode cX0_passHour 107 = .ok (.iload_n 3, 1) := by decide +kernel
theorem dX0_passHour_108 : decode cX0_passHour 108 = .ok (.invokevirtual 109, 3) := by decide +kernel
theorem dX0_passHour_111 : decode cX0_passHour 111 = .ok (.aload_n 0, 1) := by decide +kernel
theorem dX0_passHour_112 : decode cX0_passHour 112 = .ok (.dup, 1) := by decide +kernel
theorem dX0_passHour_113 : decode cX0_passHour 113 = .ok (.getfield 34, 3) := by decide +kernel
theorem dX0_passHour_116 : decode cX0_passHour 116 = .ok (.iconst 1, 1) := by decide +kernel
theorem dX0_passHour_117 : decode cX0_passHour 117 = .ok (.iadd, 1) := by decide +kernel
theorem dX0_passHour_118 : decode cX0_passHour 118 = .ok (.putfield 34, 3) := by decide +kernel
theorem dX0_passHour_121 : decode cX0_passHour 121 = .ok (.iload_n 3, 1) := by decide +kernel
theorem dX0_passHour_122 : decode cX0_passHour 122 = .ok (.ireturn, 1) := by decide +kernel
theorem dX0_letWork_0 : decode cX0_letWork 0 = .ok (.iconst 0, 1) := by decide +kernel
theorem dX0_letWork_1 : decode cX0_letWork 1 = .ok (.istore 4, 2) := by decide +kernel
theorem dX0_letWork_3 : decode cX0_letWork 3 = .ok (.aload_n 0, 1) := by decide +kernel
theorem dX0_letWork_4 : decode cX0_letWork 4 = .ok (.iconst 0, 1) := by decide +kernel
theorem dX0_letWork_5 : decode cX0_letWork 5 = .ok (.putfield 40, 3) := by decide +kernel
theorem dX0_letWork_8 : decode cX0_letWork 8 = .ok (.iconst 0, 1) := by decide +kernel
theorem dX0_letWork_9 : decode cX0_letWork 9 = .ok (.istore 5, 2) := by decide +kernel
theorem dX0_letWork_11 : decode cX0_letWork 11 = .ok (.iload 5, 2) := by decide +kernel
theorem dX0_letWork_13 : decode cX0_letWork 13 = .ok (.iload_n 1, 1) := by decide +kernel
theorem dX0_letWork_14 : decode cX0_letWork 14 = .ok (.if_icmp .ge 71, 3) := by decide +kernel
theorem dX0_letWork_17 : decode cX0_letWork 17 = .ok (.iload_n 2, 1) := by decide +kernel
theorem dX0_letWork_18 : decode cX0_letWork 18 = .ok (.iload 5, 2) := by decide +kernel
theorem dX0_letWork_20 : decode cX0_letWork 20 = .ok (.invokestatic 68, 3) := by decide +kernel
theorem dX0_letWork_23 : decode cX0_letWork 23 = .ok (.ifCond .eq 56, 3) := by decide +kernel
theorem dX0_letWork_26 : decode cX0_letWork 26 = .ok (.aload_n 0, 1) := by decide +kernel
theorem dX0_letWork_27 : decode cX0_letWork 27 = .ok (.getfield 25, 3) := by decide +kernel
theorem dX0_letWork_30 : decode cX0_letWork 30 = .ok (.iload 5, 2) := by decide +kernel
theorem dX0_letWork_32 : decode cX0_letWork 32 = .ok (.iaload, 1) := by decide +kernel
theorem dX0_letWork_33 : decode cX0_letWork 33 = .ok (.ifCond .le 46, 3) := by decide +kernel
theorem dX0_letWork_36 : decode cX0_letWork 36 = .ok (.aload_n 0, 1) := by decide +kernel
theorem dX0_letWork_37 : decode cX0_letWork 37 = .ok (.getfield 18, 3) := by decide +kernel
theorem dX0_letWork_40 : decode cX0_letWork 40 = .ok (.iload 5, 2) := by decide +kernel
theorem dX0_letWork_42 : decode cX0_letWork 42 = .ok (.dup2, 1) := by decide +kernel
theorem dX0_letWork_43 : decode cX0_letWork 43 = .ok (.iaload, 1) := by decide +kernel
theorem dX0_letWork_44 : decode cX0_letWork 44 = .ok (.aload_n 0, 1) := by decide +kernel
theorem dX0_letWork_45 : decode cX0_letWork 45 = .ok (.getfield 25, 3) := by decide +kernel
theorem dX0_letWork_48 : decode cX0_letWork 48 = .ok (.iload 5, 2) := by decide +kernel
theorem dX0_letWork_50 : decode cX0_letWork 50 = .ok (.iaload, 1) := by decide +kernel
theorem dX0_letWork_51 : decode cX0_letWork 51 = .ok (.iadd, 1) := by decide +kernel
theorem dX0_letWork_52 : decode cX0_letWork 52 = .ok (.iastore, 1) := by decide +kernel
theorem dX0_letWork_53 : decode cX0_letWork 53 = .ok (.iload 4, 2) := by decide +kernel
theorem dX0_letWork_55 : decode cX0_letWork 55 = .ok (.aload_n 0, 1) := by decide +kernel
theorem dX0_letWork_56 : decode cX0_letWork 56 = .ok (.getfield 25, 3) := by decide +kernel
theorem dX0_letWork_59 : decode cX0_letWork 59 = .ok (.iload 5, 2) := by decide +kernel
theorem dX0_letWork_61 : decode cX0_letWork 61 = .ok (.iaload, 1) := by decide +kernel
theorem dX0_letWork_62 : decode cX0_letWork 62 = .ok (.iadd, 1) := by decide +kernel
theorem dX0_letWork_63 : decode cX0_letWork 63 = .ok (.istore 4, 2) := by decide +kernel
theorem dX0_letWork_65 : decode cX0_letWork 65 = .ok (.aload_n 0, 1) := by decide +kernel
theorem dX0_letWork_66 : decode cX0_letWork 66 = .ok (.dup, 1) := by decide +kernel
theorem dX0_letWork_67 : decode cX0_letWork 67 = .ok (.getfield 40, 3) := by decide +kernel
theorem dX0_letWork_70 : decode cX0_letWork 70 = .ok (.iload 5, 2) := by decide +kernel
theorem dX0_letWork_72 : decode cX0_letWork 72 = .ok (.invokestatic 105, 3) := by decide +kernel
theorem dX0_letWork_75 : decode cX0_letWork 75 = .ok (.ior, 1) := by decide +kernel
theorem dX0_letWork_76 : decode cX0_letWork 76 = .ok (.putfield 40, 3) := by decide +kernel
theorem dX0_letWork_79 : decode cX0_letWork 79 = .ok (.iinc 5 1, 3) := by decide +kernel
theorem dX0_letWork_82 : decode cX0_letWork 82 = .ok (.goto (-71), 3) := by decide +kernel
theorem dX0_letWork_85 : decode cX0_letWork 85 = .ok (.aload_n 0, 1) := by decide +kernel
theorem dX0_letWork_86 : decode cX0_letWork 86 = .ok (.dup, 1) := by decide +kernel
theorem dX0_letWork_87 : decode cX0_letWork 87 = .ok (.getfield 53, 3) := by decide +kernel
theorem dX0_letWork_90 : decode cX0_letWork 90 = .ok (.iload 4, 2) := by decide +kernel
theorem dX0_letWork_92 : decode cX0_letWork 92 = .ok (.iadd, 1) := by decide +kernel
theorem dX0_letWork_93 : decode cX0_letWork 93 = .ok (.putfield 53, 3) := by decide +kernel
theorem dX0_letWork_96 : decode cX0_letWork 96 = .ok (.aload_n 0, 1) := by decide +kernel
theorem dX0_letWork_97 : decode cX0_letWork 97 = .ok (.dup, 1) := by decide +kernel
theorem dX0_letWork_98 : decode cX0_letWork 98 = .ok (.getfield 37, 3) := by decide +kernel
theorem dX0_letWork_101 : decode cX0_letWork 101 = .ok (.iload_n 3, 1) := by decide +kernel
theorem dX0_letWork_102 : decode cX0_letWork 102 = .ok (.iload 4, 2) := by decide +kernel
theorem dX0_letWork_104 : decode cX0_letWork 104 = .ok (.isub, 1) := by decide +kernel
theorem dX0_letWork_105 : decode cX0_letWork 105 = .ok (.iadd, 1) := by decide +kernel
theorem dX0_letWork_106 : decode cX0_letWork 106 = .ok (.putfield 37, 3) := by decide +kernel
theorem dX0_letWork_109 : decode cX0_letWork 109 = .ok (.aload_n 0, 1) := by decide +kernel
theorem dX0_letWork_110 : decode cX0_letWork 110 = .ok (.dup, 1) := by decide +kernel
theorem dX0_letWork_111 : decode cX0_letWork 111 = .ok (.getfield 15, 3) := by decide +kernel
theorem dX0_letWork_114 : decode cX0_letWork 114 = .ok (.iload_n 3, 1) := by decide +kernel
theorem dX0_letWork_115 : decode cX0_letWork 115 = .ok (.isub, 1) := by decide +kernel
theorem dX0_letWork_116 : decode cX0_letWork 116 = .ok (.putfield 15, 3) := by decide +kernel
theorem dX0_letWork_119 : decode cX0_letWork 119 = .ok (.return_, 1) := by decide +kernel
theorem dX0_tellParts_0 : decode cX0_tellParts 0 = .ok (.aload_n 0, 1) := by decide +kernel
theorem dX0_tellParts_1 : decode cX0_tellParts 1 = .ok (.getfield 9, 3) := by decide +kernel
theorem dX0_tellParts_4 : decode cX0_tellParts 4 = .ok (.aload_n 0, 1) := by decide +kernel
theorem dX0_tellParts_5 : decode cX0_tellParts 5 = .ok (.getfield 15, 3) := by decide +kernel
theorem dX0_tellParts_8 : decode cX0_tellParts 8 = .ok (.isub, 1) := by decide +kernel
theorem dX0_tellParts_9 : decode cX0_tellParts 9 = .ok (.istore_n 2, 1) := by decide +kernel
theorem dX0_tellParts_10 : decode cX0_tellParts 10 = .ok (.aload_n 0, 1) := by decide +kernel
theorem dX0_tellParts_11 : decode cX0_tellParts 11 = .ok (.getfield 53, 3) := by decide +kernel
theorem dX0_tellParts_14 : decode cX0_tellParts 14 = .ok (.ifCond .le 7, 3) := by decide +kernel
theorem dX0_tellParts_17 : decode cX0_tellParts 17 = .ok (.iload_n 2, 1) := by decide +kernel
theorem dX0_tellParts_18 : decode cX0_tellParts 18 = .ok (.goto 4, 3) := by decide +kernel
theorem dX0_tellParts_21 : decode cX0_tellParts 21 = .ok (.iconst 0, 1) := by decide +kernel
theorem dX0_tellParts_22 : decode cX0_tellParts 22 = .ok (.istore_n 3, 1) := by decide +kernel
theorem dX0_tellParts_23 : decode cX0_tellParts 23 = .ok (.iconst 0, 1) := by decide +kernel
theorem dX0_tellParts_24 : decode cX0_tellParts 24 = .ok (.istore 4, 2) := by decide +kernel
theorem dX0_tellParts_26 : decode cX0_tellParts 26 = .ok (.iload 4, 2) := by decide +kernel
theorem dX0_tellParts_28 : decode cX0_tellParts 28 = .ok (.iload_n 1, 1) := by decide +kernel
theorem dX0_tellParts_29 : decode cX0_tellParts 29 = .ok (.if_icmp .ge 83, 3) := by decide +kernel
theorem dX0_tellParts_32 : decode cX0_tellParts 32 = .ok (.aload_n 0, 1) := by decide +kernel
theorem dX0_tellParts_33 : decode cX0_tellParts 33 = .ok (.getfield 28, 3) := by decide +kernel
theorem dX0_tellParts_36 : decode cX0_tellParts 36 = .ok (.iload 4, 2) := by decide +kernel
theorem dX0_tellParts_38 : decode cX0_tellParts 38 = .ok (.aload_n 0, 1) := by decide +kernel
theorem dX0_tellParts_39 : decode cX0_tellParts 39 = .ok (.getfield 53, 3) := by decide +kernel
theorem dX0_tellParts_42 : decode cX0_tellParts 42 = .ok (.ifCond .le 20, 3) := by decide +kernel
theorem dX0_tellParts_45 : decode cX0_tellParts 45 = .ok (.iload_n 2, 1) := by decide +kernel
theorem dX0_tellParts_46 : decode cX0_tellParts 46 = .ok (.aload_n 0, 1) := by decide +kernel
theorem dX0_tellParts_47 : decode cX0_tellParts 47 = .ok (.getfield 18, 3) := by decide +kernel
theorem dX0_tellParts_50 : decode cX0_tellParts 50 = .ok (.iload 4, 2) := by decide +kernel
theorem dX0_tellParts_52 : decode cX0_tellParts 52 = .ok (.iaload, 1) := by decide +kernel
theorem dX0_tellParts_53 : decode cX0_tellParts 53 = .ok (.imul, 1) := by decide +kernel
theorem dX0_tellParts_54 : decode cX0_tellParts 54 = .ok (.aload_n 0, 1) := by decide +kernel
theorem dX0_tellParts_55 : decode cX0_tellParts 55 = .ok (.getfield 53, 3) := by decide +kernel
theorem dX0_tellParts_58 : decode cX0_tellParts 58 = .ok (.idiv, 1) := by decide +kernel
theorem dX0_tellParts_59 : decode cX0_tellParts 59 = .ok (.goto 4, 3) := by decide +kernel
theorem dX0_tellParts_62 : decode cX0_tellParts 62 = .ok (.iconst 0, 1) := by decide +kernel
theorem dX0_tellParts_63 : decode cX0_tellParts 63 = .ok (.iastore, 1) := by decide +kernel
theorem dX0_tellParts_64 : decode cX0_tellParts 64 = .ok (.aload_n 0, 1) := by decide +kernel
theorem dX0_tellParts_65 : decode cX0_tellParts 65 = .ok (.getfield 31, 3) := by decide +kernel
theorem dX0_tellParts_68 : decode cX0_tellParts 68 = .ok (.iload 4, 2) := by decide +kernel
theorem dX0_tellParts_70 : decode cX0_tellParts 70 = .ok (.aload_n 0, 1) := by decide +kernel
theorem dX0_tellParts_71 : decode cX0_tellParts 71 = .ok (.getfield 53, 3) := by decide +kernel
theorem dX0_tellParts_74 : decode cX0_tellParts 74 = .ok (.ifCond .le 20, 3) := by decide +kernel
theorem dX0_tellParts_77 : decode cX0_tellParts 77 = .ok (.iload_n 2, 1) := by decide +kernel
theorem dX0_tellParts_78 : decode cX0_tellParts 78 = .ok (.aload_n 0, 1) := by decide +kernel
theorem dX0_tellParts_79 : decode cX0_tellParts 79 = .ok (.getfield 18, 3) := by decide +kernel
theorem dX0_tellParts_82 : decode cX0_tellParts 82 = .ok (.iload 4, 2) := by decide +kernel
theorem dX0_tellParts_84 : decode cX0_tellParts 84 = .ok (.iaload, 1) := by decide +kernel
theorem dX0_tellParts_85 : decode cX0_tellParts 85 = .ok (.imul, 1) := by decide +kernel
theorem dX0_tellParts_86 : decode cX0_tellParts 86 = .ok (.aload_n 0, 1) := by decide +kernel
theorem dX0_tellParts_87 : decode cX0_tellParts 87 = .ok (.getfield 53, 3) := by decide +kernel
theorem dX0_tellParts_90 : decode cX0_tellParts 90 = .ok (.irem, 1) := by decide +kernel
theorem dX0_tellParts_91 : decode cX0_tellParts 91 = .ok (.goto 4, 3) := by decide +kernel
theorem dX0_tellParts_94 : decode cX0_tellParts 94 = .ok (.iconst 0, 1) := by decide +kernel
theorem dX0_tellParts_95 : decode cX0_tellParts 95 = .ok (.iastore, 1) := by decide +kernel
theorem dX0_tellParts_96 : decode cX0_tellParts 96 = .ok (.iload_n 3, 1) := by decide +kernel
theorem dX0_tellParts_97 : decode cX0_tellParts 97 = .ok (.aload_n 0, 1) := by decide +kernel
theorem dX0_tellParts_98 : decode cX0_tellParts 98 = .ok (.getfield 28, 3) := by decide +kernel
theorem dX0_tellParts_101 : decode cX0_tellParts 101 = .ok (.iload 4, 2) := by decide +kernel
theorem dX0_tellParts_103 : decode cX0_tellParts 103 = .ok (.iaload, 1) := by decide +kernel
theorem dX0_tellParts_104 : decode cX0_tellParts 104 = .ok (.isub, 1) := by decide +kernel
theorem dX0_tellParts_105 : decode cX0_tellParts 105 = .ok (.istore_n 3, 1) := by decide +kernel
theorem dX0_tellParts_106 : decode cX0_tellParts 106 = .ok (.iinc 4 1, 3) := by decide +kernel
theorem dX0_tellParts_109 : decode cX0_tellParts 109 = .ok (.goto (-83), 3) := by decide +kernel
theorem dX0_tellParts_112 : decode cX0_tellParts 112 = .ok (.iconst 0, 1) := by decide +kernel
theorem dX0_tellParts_113 : decode cX0_tellParts 113 = .ok (.istore 4, 2) := by decide +kernel
theorem dX0_tellParts_115 : decode cX0_tellParts 115 = .ok (.iload 4, 2) := by decide +kernel
theorem dX0_tellParts_117 : decode cX0_tellParts 117 = .ok (.iload_n 1, 1) := by decide +kernel
theorem dX0_tellParts_118 : decode cX0_tellParts 118 = .ok (.if_icmp .ge 42, 3) := by decide +kernel
theorem dX0_tellParts_121 : decode cX0_tellParts 121 = .ok (.iload_n 3, 1) := by decide +kernel
theorem dX0_tellParts_122 : decode cX0_tellParts 122 = .ok (.ifCond .le 38, 3) := by decide +kernel
theorem dX0_tellParts_125 : decode cX0_tellParts 125 = .ok (.aload_n 0, 1) := by decide +kernel
theorem dX0_tellParts_126 : decode cX0_tellParts 126 = .ok (.iload_n 1, 1) := by decide +kernel
theorem dX0_tellParts_127 : decode cX0_tellParts 127 = .ok (.invokevirtual 113, 3) := by decide +kernel
theorem dX0_tellParts_130 : decode cX0_tellParts 130 = .ok (.istore 5, 2) := by decide +kernel
theorem dX0_tellParts_132 : decode cX0_tellParts 132 = .ok (.aload_n 0, 1) := by decide +kernel
theorem dX0_tellParts_133 : decode cX0_tellParts 133 = .ok (.getfield 28, 3) := by decide +kernel
theorem dX0_tellParts_136 : decode cX0_tellParts 136 = .ok (.iload 5, 2) := by decide +kernel
theorem dX0_tellParts_138 : decode cX0_tellParts 138 = .ok (.dup2, 1) := by decide +kernel
theorem dX0_tellParts_139 : decode cX0_tellParts 139 = .ok (.iaload, 1) := by decide +kernel
theorem dX0_tellParts_140 : decode cX0_tellParts 140 = .ok (.iconst 1, 1) := by decide +kernel
theorem dX0_tellParts_141 : decode cX0_tellParts 141 = .ok (.iadd, 1) := by decide +kernel
theorem dX0_tellParts_142 : decode cX0_tellParts 142 = .ok (.iastore, 1) := by decide +kernel
theorem dX0_tellParts_143 : decode cX0_tellParts 143 = .ok (.aload_n 0, 1) := by decide +kernel
theorem dX0_tellParts_144 : decode cX0_tellParts 144 = .ok (.getfield 31, 3) := by decide +kernel
theorem dX0_tellParts_147 : decode cX0_tellParts 147 = .ok (.iload 5, 2) := by decide +kernel
theorem dX0_tellParts_149 : decode cX0_tellParts 149 = .ok (.iconst (-1), 1) := by decide +kernel
theorem dX0_tellParts_150 : decode cX0_tellParts 150 = .ok (.iastore, 1) := by decide +kernel
theorem dX0_tellParts_151 : decode cX0_tellParts 151 = .ok (.iinc 3 (-1), 3) := by decide +kernel
theorem dX0_tellParts_154 : decode cX0_tellParts 154 = .ok (.iinc 4 1, 3) := by decide +kernel
theorem dX0_tellParts_157 : decode cX0_tellParts 157 = .ok (.goto (-42), 3) := by decide +kernel
theorem dX0_tellParts_160 : decode cX0_tellParts 160 = .ok (.return_, 1) := by decide +kernel
theorem dX0_greatestRest_0 : decode cX0_greatestRest 0 = .ok (.iconst 0, 1) := by decide +kernel
theorem dX0_greatestRest_1 : decode cX0_greatestRest 1 = .ok (.istore_n 2, 1) := by decide +kernel
theorem dX0_greatestRest_2 : decode cX0_greatestRest 2 = .ok (.iconst 1, 1) := by decide +kernel
theorem dX0_greatestRest_3 : decode cX0_greatestRest 3 = .ok (.istore_n 3, 1) := by decide +kernel
theorem dX0_greatestRest_4 : decode cX0_greatestRest 4 = .ok (.iload_n 3, 1) := by decide +kernel
theorem dX0_greatestRest_5 : decode cX0_greatestRest 5 = .ok (.iload_n 1, 1) := by decide +kernel
theorem dX0_greatestRest_6 : decode cX0_greatestRest 6 = .ok (.if_icmp .ge 26, 3) := by decide +kernel
theorem dX0_greatestRest_9 : decode cX0_greatestRest 9 = .ok (.aload_n 0, 1) := by decide +kernel
theorem dX0_greatestRest_10 : decode cX0_greatestRest 10 = .ok (.getfield 31, 3) := by decide +kernel
theorem dX0_greatestRest_13 : decode cX0_greatestRest 13 = .ok (.iload_n 3, 1) := by decide +kernel
theorem dX0_greatestRest_14 : decode cX0_greatestRest 14 = .ok (.iaload, 1) := by decide +kernel
theorem dX0_greatestRest_15 : decode cX0_greatestRest 15 = .ok (.aload_n 0, 1) := by decide +kernel
theorem dX0_greatestRest_16 : decode cX0_greatestRest 16 = .ok (.getfield 31, 3) := by decide +kernel
theorem dX0_greatestRest_19 : decode cX0_greatestRest 19 = .ok (.iload_n 2, 1) := by decide +kernel
theorem dX0_greatestRest_20 : decode cX0_greatestRest 20 = .ok (.iaload, 1) := by decide +kernel
theorem dX0_greatestRest_21 : decode cX0_greatestRest 21 = .ok (.if_icmp .le 5, 3) := by decide +kernel
theorem dX0_greatestRest_24 : decode cX0_greatestRest 24 = .ok (.iload_n 3, 1) := by decide +kernel
theorem dX0_greatestRest_25 : decode cX0_greatestRest 25 = .ok (.istore_n 2, 1) := by decide +kernel
theorem dX0_greatestRest_26 : decode cX0_greatestRest 26 = .ok (.iinc 3 1, 3) := by decide +kernel
theorem dX0_greatestRest_29 : decode cX0_greatestRest 29 = .ok (.goto (-25), 3) := by decide +kernel
theorem dX0_greatestRest_32 : decode cX0_greatestRest 32 = .ok (.iload_n 2, 1) := by decide +kernel
theorem dX0_greatestRest_33 : decode cX0_greatestRest 33 = .ok (.ireturn, 1) := by decide +kernel
theorem dX0_passNight_0 : decode cX0_passNight 0 = .ok (.aload_n 0, 1) := by decide +kernel
theorem dX0_passNight_1 : decode cX0_passNight 1 = .ok (.getfield 9, 3) := by decide +kernel
theorem dX0_passNight_4 : decode cX0_passNight 4 = .ok (.aload_n 0, 1) := by decide +kernel
theorem dX0_passNight_5 : decode cX0_passNight 5 = .ok (.getfield 15, 3) := by decide +kernel
theorem dX0_passNight_8 : decode cX0_passNight 8 = .ok (.isub, 1) := by decide +kernel
theorem dX0_passNight_9 : decode cX0_passNight 9 = .ok (.istore_n 2, 1) := by decide +kernel
theorem dX0_passNight_10 : decode cX0_passNight 10 = .ok (.aload_n 0, 1) := by decide +kernel
theorem dX0_passNight_11 : decode cX0_passNight 11 = .ok (.iload_n 1, 1) := by decide +kernel
theorem dX0_passNight_12 : decode cX0_passNight 12 = .ok (.invokevirtual 116, 3) := by decide +kernel
theorem dX0_passNight_15 : decode cX0_passNight 15 = .ok (.iconst 0, 1) := by decide +kernel
theorem dX0_passNight_16 : decode cX0_passNight 16 = .ok (.istore_n 3, 1) := by decide +kernel
theorem dX0_passNight_17 : decode cX0_passNight 17 = .ok (.iload_n 3, 1) := by decide +kernel
theorem dX0_passNight_18 : decode cX0_passNight 18 = .ok (.iload_n 1, 1) := by decide +kernel
theorem dX0_passNight_19 : decode cX0_passNight 19 = .ok (.if_icmp .ge 41, 3) := by decide +kernel
theorem dX0_passNight_22 : decode cX0_passNight 22 = .ok (.aload_n 0, 1) := by decide +kernel
theorem dX0_passNight_23 : decode cX0_passNight 23 = .ok (.getfield 22, 3) := by decide +kernel
theorem dX0_passNight_26 : decode cX0_passNight 26 = .ok (.iload_n 3, 1) := by decide +kernel
theorem dX0_passNight_27 : decode cX0_passNight 27 = .ok (.sipush 999, 3) := by decide +kernel
theorem dX0_passNight_30 : decode cX0_passNight 30 = .ok (.aload_n 0, 1) := by decide +kernel
theorem dX0_passNight_31 : decode cX0_passNight 31 = .ok (.getfield 22, 3) := by decide +kernel
theorem dX0_passNight_34 : decode cX0_passNight 34 = .ok (.iload_n 3, 1) := by decide +kernel
theorem dX0_passNight_35 : decode cX0_passNight 35 = .ok (.iaload, 1) := by decide +kernel
theorem dX0_passNight_36 : decode cX0_passNight 36 = .ok (.aload_n 0, 1) := by decide +kernel
theorem dX0_passNight_37 : decode cX0_passNight 37 = .ok (.getfield 28, 3) := by decide +kernel
theorem dX0_passNight_40 : decode cX0_passNight 40 = .ok (.iload_n 3, 1) := by decide +kernel
theorem dX0_passNight_41 : decode cX0_passNight 41 = .ok (.iaload, 1) := by decide +kernel
theorem dX0_passNight_42 : decode cX0_passNight 42 = .ok (.iadd, 1) := by decide +kernel
theorem dX0_passNight_43 : decode cX0_passNight 43 = .ok (.invokestatic 120, 3) := by decide +kernel
theorem dX0_passNight_46 : decode cX0_passNight 46 = .ok (.iastore, 1) := by decide +kernel
theorem dX0_passNight_47 : decode cX0_passNight 47 = .ok (.aload_n 0, 1) := by decide +kernel
theorem dX0_passNight_48 : decode cX0_passNight 48 = .ok (.getfield 18, 3) := by decide +kernel
theorem dX0_passNight_51 : decode cX0_passNight 51 = .ok (.iload_n 3, 1) := by decide +kernel
theorem dX0_passNight_52 : decode cX0_passNight 52 = .ok (.iconst 0, 1) := by decide +kernel
theorem dX0_passNight_53 : decode cX0_passNight 53 = .ok (.iastore, 1) := by decide +kernel
theorem dX0_passNight_54 : decode cX0_passNight 54 = .ok (.iinc 3 1, 3) := by decide +kernel
theorem dX0_passNight_57 : decode cX0_passNight 57 = .ok (.goto (-40), 3) := by decide +kernel
theorem dX0_passNight_60 : decode cX0_passNight 60 = .ok (.aload_n 0, 1) := by decide +kernel
theorem dX0_passNight_61 : decode cX0_passNight 61 = .ok (.iconst 0, 1) := by decide +kernel
theorem dX0_passNight_62 : decode cX0_passNight 62 = .ok (.putfield 34, 3) := by decide +kernel
theorem dX0_passNight_65 : decode cX0_passNight 65 = .ok (.aload_n 0, 1) := by decide +kernel
theorem dX0_passNight_66 : decode cX0_passNight 66 = .ok (.aload_n 0, 1) := by decide +kernel
theorem dX0_passNight_67 : decode cX0_passNight 67 = .ok (.getfield 9, 3) := by decide +kernel
theorem dX0_passNight_70 : decode cX0_passNight 70 = .ok (.putfield 15, 3) := by decide +kernel
theorem dX0_passNight_73 : decode cX0_passNight 73 = .ok (.aload_n 0, 1) := by decide +kernel
theorem dX0_passNight_74 : decode cX0_passNight 74 = .ok (.iconst 0, 1) := by decide +kernel
theorem dX0_passNight_75 : decode cX0_passNight 75 = .ok (.putfield 53, 3) := by decide +kernel
theorem dX0_passNight_78 : decode cX0_passNight 78 = .ok (.aload_n 0, 1) := by decide +kernel
theorem dX0_passNight_79 : decode cX0_passNight 79 = .ok (.iconst 0, 1) := by decide +kernel
theorem dX0_passNight_80 : decode cX0_passNight 80 = .ok (.putfield 37, 3) := by decide +kernel
theorem dX0_passNight_83 : decode cX0_passNight 83 = .ok (.aload_n 0, 1) := by decide +kernel
theorem dX0_passNight_84 : decode cX0_passNight 84 = .ok (.iconst 0, 1) := by decide +kernel
theorem dX0_passNight_85 : decode cX0_passNight 85 = .ok (.putfield 40, 3) := by decide +kernel
theorem dX0_passNight_88 : decode cX0_passNight 88 = .ok (.aload_n 0, 1) := by decide +kernel
theorem dX0_passNight_89 : decode cX0_passNight 89 = .ok (.iconst 0, 1) := by decide +kernel
theorem dX0_passNight_90 : decode cX0_passNight 90 = .ok (.putfield 50, 3) := by decide +kernel
theorem dX0_passNight_93 : decode cX0_passNight 93 = .ok (.iload_n 2, 1) := by decide +kernel
theorem dX0_passNight_94 : decode cX0_passNight 94 = .ok (.ireturn, 1) := by decide +kernel
theorem dX1_init_0 : decode cX1_init 0 = .ok (.aload_n 0, 1) := by decide +kernel
theorem dX1_init_1 : decode cX1_init 1 = .ok (.invokespecial 3, 3) := by decide +kernel
theorem dX1_init_4 : decode cX1_init 4 = .ok (.aload_n 0, 1) := by decide +kernel
theorem dX1_init_5 : decode cX1_init 5 = .ok (.bipush 8, 2) := by decide +kernel
theorem dX1_init_7 : decode cX1_init 7 = .ok (.newarray .int, 2) := by decide +kernel
theorem dX1_init_9 : decode cX1_init 9 = .ok (.putfield 9, 3) := by decide +kernel
theorem dX1_init_12 : decode cX1_init 12 = .ok (.aload_n 0, 1) := by decide +kernel
theorem dX1_init_13 : decode cX1_init 13 = .ok (.bipush 8, 2) := by decide +kernel
theorem dX1_init_15 : decode cX1_init 15 = .ok (.newarray .int, 2) := by decide +kernel
theorem dX1_init_17 : decode cX1_init 17 = .ok (.putfield 15, 3) := by decide +kernel
theorem dX1_init_20 : decode cX1_init 20 = .ok (.aload_n 0, 1) := by decide +kernel
theorem dX1_init_21 : decode cX1_init 21 = .ok (.bipush 8, 2) := by decide +kernel
theorem dX1_init_23 : decode cX1_init 23 = .ok (.newarray .int, 2) := by decide +kernel
theorem dX1_init_25 : decode cX1_init 25 = .ok (.putfield 18, 3) := by decide +kernel
theorem dX1_init_28 : decode cX1_init 28 = .ok (.aload_n 0, 1) := by decide +kernel
theorem dX1_init_29 : decode cX1_init 29 = .ok (.bipush 8, 2) := by decide +kernel
theorem dX1_init_31 : decode cX1_init 31 = .ok (.newarray .int, 2) := by decide +kernel
theorem dX1_init_33 : decode cX1_init 33 = .ok (.putfield 21, 3) := by decide +kernel
theorem dX1_init_36 : decode cX1_init 36 = .ok (.aload_n 0, 1) := by decide +kernel
theorem dX1_init_37 : decode cX1_init 37 = .ok (.bipush 8, 2) := by decide +kernel
theorem dX1_init_39 : decode cX1_init 39 = .ok (.newarray .int, 2) := by decide +kernel
theorem dX1_init_41 : decode cX1_init 41 = .ok (.putfield 24, 3) := by decide +kernel
theorem dX1_init_44 : decode cX1_init 44 = .ok (.aload_n 0, 1) := by decide +kernel
theorem dX1_init_45 : decode cX1_init 45 = .ok (.bipush 8, 2) := by decide +kernel
theorem dX1_init_47 : decode cX1_init 47 = .ok (.newarray .int, 2) := by decide +kernel
theorem dX1_init_49 : decode cX1_init 49 = .ok (.putfield 27, 3) := by decide +kernel
theorem dX1_init_52 : decode cX1_init 52 = .ok (.aload_n 0, 1) := by decide +kernel
theorem dX1_init_53 : decode cX1_init 53 = .ok (.bipush 8, 2) := by decide +kernel
theorem dX1_init_55 : decode cX1_init 55 = .ok (.newarray .int, 2) := by decide +kernel
theorem dX1_init_57 : decode cX1_init 57 = .ok (.putfield 30, 3) := by decide +kernel
theorem dX1_init_60 : decode cX1_init 60 = .ok (.return_, 1) := by decide +kernel
theorem dX1_has_0 : decode cX1_has 0 = .ok (.iload_n 1, 1) := by decide +kernel
theorem dX1_has_1 : decode cX1_has 1 = .ok (.ifCond .lt 15, 3) := by decide +kernel
theorem dX1_has_4 : decode cX1_has 4 = .ok (.iload_n 1, 1) := by decide +kernel
theorem dX1_has_5 : decode cX1_has 5 = .ok (.aload_n 0, 1) := by decide +kernel
theorem dX1_has_6 : decode cX1_has 6 = .ok (.getfield 33, 3) := by decide +kernel
theorem dX1_has_9 : decode cX1_has 9 = .ok (.if_icmp .ge 7, 3) := by decide +kernel
theorem dX1_has_12 : decode cX1_has 12 = .ok (.iconst 1, 1) := by decide +kernel
theorem dX1_has_13 : decode cX1_has 13 = .ok (.goto 4, 3) := by decide +kernel
theorem dX1_has_16 : decode cX1_has 16 = .ok (.iconst 0, 1) := by decide +kernel
theorem dX1_has_17 : decode cX1_has 17 = .ok (.ireturn, 1) := by decide +kernel
theorem dX1_all_0 : decode cX1_all 0 = .ok (.aload_n 0, 1) := by decide +kernel
theorem dX1_all_1 : decode cX1_all 1 = .ok (.getfield 33, 3) := by decide +kernel
theorem dX1_all_4 : decode cX1_all 4 = .ok (.invokestatic 37, 3) := by decide +kernel
theorem dX1_all_7 : decode cX1_all 7 = .ok (.iconst 1, 1) := by decide +kernel
theorem dX1_all_8 : decode cX1_all 8 = .ok (.isub, 1) := by decide +kernel
theorem dX1_all_9 : decode cX1_all 9 = .ok (.ireturn, 1) := by decide +kernel
theorem dX1_areBits_0 : decode cX1_areBits 0 = .ok (.iload_n 1, 1) := by decide +kernel
theorem dX1_areBits_1 : decode cX1_areBits 1 = .ok (.ifCond .lt 15, 3) := by decide +kernel
theorem dX1_areBits_4 : decode cX1_areBits 4 = .ok (.iload_n 1, 1) := by decide +kernel
theorem dX1_areBits_5 : decode cX1_areBits 5 = .ok (.aload_n 0, 1) := by decide +kernel
theorem dX1_areBits_6 : decode cX1_areBits 6 = .ok (.invokevirtual 41, 3) := by decide +kernel
theorem dX1_areBits_9 : decode cX1_areBits 9 = .ok (.if_icmp .gt 7, 3) := by decide +kernel
theorem dX1_areBits_12 : decode cX1_areBits 12 = .ok (.iconst 1, 1) := by decide +kernel
theorem dX1_areBits_13 : decode cX1_areBits 13 = .ok (.goto 4, 3) := by decide +kernel
theorem dX1_areBits_16 : decode cX1_areBits 16 = .ok (.iconst 0, 1) := by decide +kernel
theorem dX1_areBits_17 : decode cX1_areBits 17 = .ok (.ireturn, 1) := by decide +kernel
theorem dX1_add_0 : decode cX1_add 0 = .ok (.aload_n 0, 1) := by decide +kernel
theorem dX1_add_1 : decode cX1_add 1 = .ok (.getfield 33, 3) := by decide +kernel
theorem dX1_add_4 : decode cX1_add 4 = .ok (.istore_n 2, 1) := by decide +kernel
theorem dX1_add_5 : decode cX1_add 5 = .ok (.aload_n 0, 1) := by decide +kernel
theorem dX1_add_6 : decode cX1_add 6 = .ok (.getfield 9, 3) := by decide +kernel
theorem dX1_add_9 : decode cX1_add 9 = .ok (.iload_n 2, 1) := by decide +kernel
theorem dX1_add_10 : decode cX1_add 10 = .ok (.aload_n 1, 1) := by decide +kernel
theorem dX1_add_11 : decode cX1_add 11 = .ok (.getfield 45, 3) := by decide +kernel
theorem dX1_add_14 : decode cX1_add 14 = .ok (.iconst 0, 1) := by decide +kernel
theorem dX1_add_15 : decode cX1_add 15 = .ok (.iaload, 1) := by decide +kernel
theorem dX1_add_16 : decode cX1_add 16 = .ok (.invokestatic 50, 3) := by decide +kernel
theorem dX1_add_19 : decode cX1_add 19 = .ok (.iastore, 1) := by decide +kernel
theorem dX1_add_20 : decode cX1_add 20 = .ok (.aload_n 0, 1) := by decide +kernel
theorem dX1_add_21 : decode cX1_add 21 = .ok (.getfield 15, 3) := by decide +kernel
theorem dX1_add_24 : decode cX1_add 24 = .ok (.iload_n 2, 1) := by decide +kernel
theorem dX1_add_25 : decode cX1_add 25 = .ok (.aload_n 1, 1) := by decide +kernel
theorem dX1_add_26 : decode cX1_add 26 = .ok (.getfield 45, 3) := by decide +kernel
theorem dX1_add_29 : decode cX1_add 29 = .ok (.iconst 1, 1) := by decide +kernel
theorem dX1_add_30 : decode cX1_add 30 = .ok (.iaload, 1) := by decide +kernel
theorem dX1_add_31 : decode cX1_add 31 = .ok (.bipush 45, 2) := by decide +kernel
theorem dX1_add_33 : decode cX1_add 33 = .ok (.if_icmp .ne 7, 3) := by decide +kernel
theorem dX1_add_36 : decode cX1_add 36 = .ok (.iconst (-1), 1) := by decide +kernel
theorem dX1_add_37 : decode cX1_add 37 = .ok (.goto 8, 3) := by decide +kernel
theorem dX1_add_40 : decode cX1_add 40 = .ok (.aload_n 1, 1) := by decide +kernel
theorem dX1_add_41 : decode cX1_add 41 = .ok (.iconst 1, 1) := by decide +kernel
theorem dX1_add_42 : decode cX1_add 42 = .ok (.invokevirtual 53, 3) := by decide +kernel
theorem dX1_add_45 : decode cX1_add 45 = .ok (.iastore, 1) := by decide +kernel
theorem dX1_add_46 : decode cX1_add 46 = .ok (.aload_n 0, 1) := by decide +kernel
theorem dX1_add_47 : decode cX1_add 47 = .ok (.getfield 18, 3) := by decide +kernel
theorem dX1_add_50 : decode cX1_add 50 = .ok (.iload_n 2, 1) := by decide +kernel
theorem dX1_add_51 : decode cX1_add 51 = .ok (.aload_n 1, 1) := by decide +kernel
theorem dX1_add_52 : decode cX1_add 52 = .ok (.iconst 2, 1) := by decide +kernel
theorem dX1_add_53 : decode cX1_add 53 = .ok (.invokevirtual 53, 3) := by decide +kernel
theorem dX1_add_56 : decode cX1_add 56 = .ok (.iastore, 1) := by decide +kernel
theorem dX1_add_57 : decode cX1_add 57 = .ok (.aload_n 0, 1) := by decide +kernel
theorem dX1_add_58 : decode cX1_add 58 = .ok (.getfield 21, 3) := by decide +kernel
theorem dX1_add_61 : decode cX1_add 61 = .ok (.iload_n 2, 1) := by decide +kernel
theorem dX1_add_62 : decode cX1_add 62 = .ok (.aload_n 1, 1) := by decide +kernel
theorem dX1_add_63 : decode cX1_add 63 = .ok (.iconst 3, 1) := by decide +kernel
theorem dX1_add_64 : decode cX1_add 64 = .ok (.invokevirtual 53, 3) := by decide +kernel
theorem dX1_add_67 : decode cX1_add 67 = .ok (.iastore, 1) := by decide +kernel
theorem dX1_add_68 : decode cX1_add 68 = .ok (.aload_n 0, 1) := by decide +kernel
theorem dX1_add_69 : decode cX1_add 69 = .ok (.getfield 24, 3) := by decide +kernel
theorem dX1_add_72 : decode cX1_add 72 = .ok (.iload_n 2, 1) := by decide +kernel
theorem dX1_add_73 : decode cX1_add 73 = .ok (.aload_n 1, 1) := by decide +kernel
theorem dX1_add_74 : decode cX1_add 74 = .ok (.iconst 4, 1) := by decide +kernel
theorem dX1_add_75 : decode cX1_add 75 = .ok (.invokevirtual 53, 3) := by decide +kernel
theorem dX1_add_78 : decode cX1_add 78 = .ok (.iastore, 1) := by decide +kernel
theorem dX1_add_79 : decode cX1_add 79 = .ok (.aload_n 0, 1) := by decide +kernel
theorem dX1_add_80 : decode cX1_add 80 = .ok (.getfield 27, 3) := by decide +kernel
theorem dX1_add_83 : decode cX1_add 83 = .ok (.iload_n 2, 1) := by decide +kernel
theorem dX1_add_84 : decode cX1_add 84 = .ok (.aload_n 1, 1) := by decide +kernel
theorem dX1_add_85 : decode cX1_add 85 = .ok (.iconst 5, 1) := by decide +kernel
theorem dX1_add_86 : decode cX1_add 86 = .ok (.invokevirtual 53, 3) := by decide +kernel
theorem dX1_add_89 : decode cX1_add 89 = .ok (.iastore, 1) := by decide +kernel
theorem dX1_add_90 : decode cX1_add 90 = .ok (.aload_n 0, 1) := by decide +kernel
theorem dX1_add_91 : decode cX1_add 91 = .ok (.getfield 30, 3) := by decide +kernel
theorem dX1_add_94 : decode cX1_add 94 = .ok (.iload_n 2, 1) := by decide +kernel
theorem dX1_add_95 : decode cX1_add 95 = .ok (.iload_n 2, 1) := by decide +kernel
theorem dX1_add_96 : decode cX1_add 96 = .ok (.invokestatic 37, 3) := by decide +kernel
theorem dX1_add_99 : decode cX1_add 99 = .ok (.aload_n 0, 1) := by decide +kernel
theorem dX1_add_100 : decode cX1_add 100 = .ok (.aload_n 0, 1) := by decide +kernel
theorem dX1_add_101 : decode cX1_add 101 = .ok (.getfield 15, 3) := by decide +kernel
theorem dX1_add_104 : decode cX1_add 104 = .ok (.iload_n 2, 1) := by decide +kernel
theorem dX1_add_105 : decode cX1_add 105 = .ok (.iaload, 1) := by decide +kernel
theorem dX1_add_106 : decode cX1_add 106 = .ok (.invokevirtual 56, 3) := by decide +kernel
theorem dX1_add_109 : decode cX1_add 109 = .ok (.ifCond .eq 17, 3) := by decide +kernel
theorem dX1_add_112 : decode cX1_add 112 = .ok (.aload_n 0, 1) := by decide +kernel
theorem dX1_add_113 : decode cX1_add 113 = .ok (.getfield 30, 3) := by decide +kernel
theorem dX1_add_116 : decode cX1_add 116 = .ok (.aload_n 0, 1) := by decide +kernel
theorem dX1_add_117 : decode cX1_add 117 = .ok (.getfield 15, 3) := by decide +kernel
theorem dX1_add_120 : decode cX1_add 120 = .ok (.iload_n 2, 1) := by decide +kernel
theorem dX1_add_121 : decode cX1_add 121 = .ok (.iaload, 1) := by decide +kernel
theorem dX1_add_122 : decode cX1_add 122 = .ok (.iaload, 1) := by decide +kernel
theorem dX1_add_123 : decode cX1_add 123 = .ok (.goto 4, 3) := by decide +kernel
theorem dX1_add_126 : decode cX1_add 126 = .ok (.iconst 0, 1) := by decide +kernel
theorem dX1_add_127 : decode cX1_add 127 = .ok (.ior, 1) := by decide +kernel
theorem dX1_add_128 : decode cX1_add 128 = .ok (.iastore, 1) := by decide +kernel
theorem dX1_add_129 : decode cX1_add 129 = .ok (.aload_n 0, 1) := by decide +kernel
theorem dX1_add_130 : decode cX1_add 130 = .ok (.dup, 1) := by decide +kernel
theorem dX1_add_131 : decode cX1_add 131 = .ok (.getfield 33, 3) := by decide +kernel
theorem dX1_add_134 : decode cX1_add 134 = .ok (.iconst 1, 1) := by decide +kernel
theorem dX1_add_135 : decode cX1_add 135 = .ok (.iadd, 1) := by decide +kernel
theorem dX1_add_136 : decode cX1_add 136 = .ok (.putfield 33, 3) := by decide +kernel
theorem dX1_add_139 : decode cX1_add 139 = .ok (.return_, 1) := by decide +kernel
theorem dX1_isA_0 : decode cX1_isA 0 = .ok (.iload_n 2, 1) := by decide +kernel
theorem dX1_isA_1 : decode cX1_isA 1 = .ok (.ifCond .eq 28, 3) := by decide +kernel
theorem dX1_isA_4 : decode cX1_isA 4 = .ok (.aload_n 0, 1) := by decide +kernel
theorem dX1_isA_5 : decode cX1_isA 5 = .ok (.getfield 9, 3) := by decide +kernel
theorem dX1_isA_8 : decode cX1_isA 8 = .ok (.iload_n 1, 1) := by decide +kernel
theorem dX1_isA_9 : decode cX1_isA 9 = .ok (.iaload, 1) := by decide +kernel
theorem dX1_isA_10 : decode cX1_isA 10 = .ok (.iload_n 2, 1) := by decide +kernel
theorem dX1_isA_11 : decode cX1_isA 11 = .ok (.if_icmp .eq 18, 3) := by decide +kernel
theorem dX1_isA_14 : decode cX1_isA 14 = .ok (.iload_n 2, 1) := by decide +kernel
theorem dX1_isA_15 : decode cX1_isA 15 = .ok (.iconst 2, 1) := by decide +kernel
theorem dX1_isA_16 : decode cX1_isA 16 = .ok (.if_icmp .ne 17, 3) := by decide +kernel
theorem dX1_isA_19 : decode cX1_isA 19 = .ok (.aload_n 0, 1) := by decide +kernel
theorem dX1_isA_20 : decode cX1_isA 20 = .ok (.getfield 9, 3) := by decide +kernel
theorem dX1_isA_23 : decode cX1_isA 23 = .ok (.iload_n 1, 1) := by decide +kernel
theorem dX1_isA_24 : decode cX1_isA 24 = .ok (.iaload, 1) := by decide +kernel
theorem dX1_isA_25 : decode cX1_isA 25 = .ok (.iconst 4, 1) := by decide +kernel
theorem dX1_isA_26 : decode cX1_isA 26 = .ok (.if_icmp .ne 7, 3) := by decide +kernel
theorem dX1_isA_29 : decode cX1_isA 29 = .ok (.iconst 1, 1) := by decide +kernel
theorem dX1_isA_30 : decode cX1_isA 30 = .ok (.goto 4, 3) := by decide +kernel
theorem dX1_isA_33 : decode cX1_isA 33 = .ok (.iconst 0, 1) := by decide +kernel
theorem dX1_isA_34 : decode cX1_isA 34 = .ok (.ireturn, 1) := by decide +kernel
theorem dX1_isOpen_0 : decode cX1_isOpen 0 = .ok (.aload_n 0, 1) := by decide +kernel
theorem dX1_isOpen_1 : decode cX1_isOpen 1 = .ok (.getfield 18, 3) := by decide +kernel
theorem dX1_isOpen_4 : decode cX1_isOpen 4 = .ok (.iload_n 1, 1) := by decide +kernel
theorem dX1_isOpen_5 : decode cX1_isOpen 5 = .ok (.iaload, 1) := by decide +kernel
theorem dX1_isOpen_6 : decode cX1_isOpen 6 = .ok (.iload_n 2, 1) := by decide +kernel
theorem dX1_isOpen_7 : decode cX1_isOpen 7 = .ok (.if_icmp .gt 17, 3) := by decide +kernel
theorem dX1_isOpen_10 : decode cX1_isOpen 10 = .ok (.iload_n 2, 1) := by decide +kernel
theorem dX1_isOpen_11 : decode cX1_isOpen 11 = .ok (.aload_n 0, 1) := by decide +kernel
theorem dX1_isOpen_12 : decode cX1_isOpen 12 = .ok (.getfield 21, 3) := by decide +kernel
theorem dX1_isOpen_15 : decode cX1_isOpen 15 = .ok (.iload_n 1, 1) := by decide +kernel
theorem dX1_isOpen_16 : decode cX1_isOpen 16 = .ok (.iaload, 1) := by decide +kernel
theorem dX1_isOpen_17 : decode cX1_isOpen 17 = .ok (.if_icmp .ge 7, 3) := by decide +kernel
theorem dX1_isOpen_20 : decode cX1_isOpen 20 = .ok (.iconst 1, 1) := by decide +kernel
theorem dX1_isOpen_21 : decode cX1_isOpen 21 = .ok (.goto 4, 3) := by decide +kernel
theorem dX1_isOpen_24 : decode cX1_isOpen 24 = .ok (.iconst 0, 1) := by decide +kernel
theorem dX1_isOpen_25 : decode cX1_isOpen 25 = .ok (.ireturn, 1) := by decide +kernel
theorem dX1_openIn_0 : decode cX1_openIn 0 = .ok (.iconst 0, 1) := by decide +kernel
theorem dX1_openIn_1 : decode cX1_openIn 1 = .ok (.istore_n 2, 1) := by decide +kernel
theorem dX1_openIn_2 : decode cX1_openIn 2 = .ok (.iconst 0, 1) := by decide +kernel
theorem dX1_openIn_3 : decode cX1_openIn 3 = .ok (.istore_n 3, 1) := by decide +kernel
theorem dX1_openIn_4 : decode cX1_openIn 4 = .ok (.iload_n 3, 1) := by decide +kernel
theorem dX1_openIn_5 : decode cX1_openIn 5 = .ok (.aload_n 0, 1) := by decide +kernel
theorem dX1_openIn_6 : decode cX1_openIn 6 = .ok (.getfield 33, 3) := by decide +kernel
theorem dX1_openIn_9 : decode cX1_openIn 9 = .ok (.if_icmp .ge 25, 3) := by decide +kernel
theorem dX1_openIn_12 : decode cX1_openIn 12 = .ok (.aload_n 0, 1) := by decide +kernel
theorem dX1_openIn_13 : decode cX1_openIn 13 = .ok (.iload_n 3, 1) := by decide +kernel
theorem dX1_openIn_14 : decode cX1_openIn 14 = .ok (.iload_n 1, 1) := by decide +kernel
theorem dX1_openIn_15 : decode cX1_openIn 15 = .ok (.invokevirtual 60, 3) := by decide +kernel
theorem dX1_openIn_18 : decode cX1_openIn 18 = .ok (.ifCond .eq 10, 3) := by decide +kernel
theorem dX1_openIn_21 : decode cX1_openIn 21 = .ok (.iload_n 2, 1) := by decide +kernel
theorem dX1_openIn_22 : decode cX1_openIn 22 = .ok (.iload_n 3, 1) := by decide +kernel
theorem dX1_openIn_23 : decode cX1_openIn 23 = .ok (.invokestatic 37, 3) := by decide +kernel
theorem dX1_openIn_26 : decode cX1_openIn 26 = .ok (.ior, 1) := by decide +kernel
theorem dX1_openIn_27 : decode cX1_openIn 27 = .ok (.istore_n 2, 1) := by decide +kernel
theorem dX1_openIn_28 : decode cX1_openIn 28 = .ok (.iinc 3 1, 3) := by decide +kernel
theorem dX1_openIn_31 : decode cX1_openIn 31 = .ok (.goto (-27), 3) := by decide +kernel
theorem dX1_openIn_34 : decode cX1_openIn 34 = .ok (.iload_n 2, 1) := by decide +kernel
theorem dX1_openIn_35 : decode cX1_openIn 35 = .ok (.ireturn, 1) := by decide +kernel
theorem dX1_takesOf_0 : decode cX1_takesOf 0 = .ok (.iconst 0, 1) := by decide +kernel
theorem dX1_takesOf_1 : decode cX1_takesOf 1 = .ok (.istore_n 2, 1) := by decide +kernel
theorem dX1_takesOf_2 : decode cX1_takesOf 2 = .ok (.iconst 0, 1) := by decide +kernel
theorem dX1_takesOf_3 : decode cX1_takesOf 3 = .ok (.istore_n 3, 1) := by decide +kernel
theorem dX1_takesOf_4 : decode cX1_takesOf 4 = .ok (.iload_n 3, 1) := by decide +kernel
theorem dX1_takesOf_5 : decode cX1_takesOf 5 = .ok (.aload_n 0, 1) := by decide +kernel
theorem dX1_takesOf_6 : decode cX1_takesOf 6 = .ok (.getfield 33, 3) := by decide +kernel
theorem dX1_takesOf_9 : decode cX1_takesOf 9 = .ok (.if_icmp .ge 26, 3) := by decide +kernel
theorem dX1_takesOf_12 : decode cX1_takesOf 12 = .ok (.iload_n 1, 1) := by decide +kernel
theorem dX1_takesOf_13 : decode cX1_takesOf 13 = .ok (.iload_n 3, 1) := by decide +kernel
theorem dX1_takesOf_14 : decode cX1_takesOf 14 = .ok (.invokestatic 64, 3) := by decide +kernel
theorem dX1_takesOf_17 : decode cX1_takesOf 17 = .ok (.ifCond .eq 12, 3) := by decide +kernel
theorem dX1_takesOf_20 : decode cX1_takesOf 20 = .ok (.iload_n 2, 1) := by decide +kernel
theorem dX1_takesOf_21 : decode cX1_takesOf 21 = .ok (.aload_n 0, 1) := by decide +kernel
theorem dX1_takesOf_22 : decode cX1_takesOf 22 = .ok (.getfield 24, 3) := by decide +kernel
theorem dX1_takesOf_25 : decode cX1_takesOf 25 = .ok (.iload_n 3, 1) := by decide +kernel
theorem dX1_takesOf_26 : decode cX1_takesOf 26 = .ok (.iaload, 1) := by decide +kernel
theorem dX1_takesOf_27 : decode cX1_takesOf 27 = .ok (.iadd, 1) := by decide +kernel
theorem dX1_takesOf_28 : decode cX1_takesOf 28 = .ok (.istore_n 2, 1) := by decide +kernel
theorem dX1_takesOf_29 : decode cX1_takesOf 29 = .ok (.iinc 3 1, 3) := by decide +kernel
theorem dX1_takesOf_32 : decode cX1_takesOf 32 = .ok (.goto (-28), 3) := by decide +kernel
theorem dX1_takesOf_35 : decode cX1_takesOf 35 = .ok (.iload_n 2, 1) := by decide +kernel
theorem dX1_takesOf_36 : decode cX1_takesOf 36 = .ok (.ireturn, 1) := by decide +kernel
theorem dX1_waysTo_0 : decode cX1_waysTo 0 = .ok (.iconst 0, 1) := by decide +kernel
theorem dX1_waysTo_1 : decode cX1_waysTo 1 = .ok (.istore_n 2, 1) := by decide +kernel
theorem dX1_waysTo_2 : decode cX1_waysTo 2 = .ok (.iconst 0, 1) := by decide +kernel
theorem dX1_waysTo_3 : decode cX1_waysTo 3 = .ok (.istore_n 3, 1) := by decide +kernel
theorem dX1_waysTo_4 : decode cX1_waysTo 4 = .ok (.iload_n 3, 1) := by decide +kernel
theorem dX1_waysTo_5 : decode cX1_waysTo 5 = .ok (.aload_n 0, 1) := by decide +kernel
theorem dX1_waysTo_6 : decode cX1_waysTo 6 = .ok (.getfield 33, 3) := by decide +kernel
theorem dX1_waysTo_9 : decode cX1_waysTo 9 = .ok (.if_icmp .ge 26, 3) := by decide +kernel
theorem dX1_waysTo_12 : decode cX1_waysTo 12 = .ok (.iload_n 1, 1) := by decide +kernel
theorem dX1_waysTo_13 : decode cX1_waysTo 13 = .ok (.iload_n 3, 1) := by decide +kernel
theorem dX1_waysTo_14 : decode cX1_waysTo 14 = .ok (.invokestatic 64, 3) := by decide +kernel
theorem dX1_waysTo_17 : decode cX1_waysTo 17 = .ok (.ifCond .eq 12, 3) := by decide +kernel
theorem dX1_waysTo_20 : decode cX1_waysTo 20 = .ok (.iload_n 2, 1) := by decide +kernel
theorem dX1_waysTo_21 : decode cX1_waysTo 21 = .ok (.aload_n 0, 1) := by decide +kernel
theorem dX1_waysTo_22 : decode cX1_waysTo 22 = .ok (.getfield 30, 3) := by decide +kernel
theorem dX1_waysTo_25 : decode cX1_waysTo 25 = .ok (.iload_n 3, 1) := by decide +kernel
theorem dX1_waysTo_26 : decode cX1_waysTo 26 = .ok (.iaload, 1) := by decide +kernel
theorem dX1_waysTo_27 : decode cX1_waysTo 27 = .ok (.ior, 1) := by decide +kernel
theorem dX1_waysTo_28 : decode cX1_waysTo 28 = .ok (.istore_n 2, 1) := by decide +kernel
theorem dX1_waysTo_29 : decode cX1_waysTo 29 = .ok (.iinc 3 1, 3) := by decide +kernel
theorem dX1_waysTo_32 : decode cX1_waysTo 32 = .ok (.goto (-28), 3) := by decide +kernel
theorem dX1_waysTo_35 : decode cX1_waysTo 35 = .ok (.iload_n 2, 1) := by decide +kernel
theorem dX1_waysTo_36 : decode cX1_waysTo 36 = .ok (.ireturn, 1) := by decide +kernel
theorem dX1_toldLossOf_0 : decode cX1_toldLossOf 0 = .ok (.iconst 0, 1) := by decide +kernel
theorem dX1_toldLossOf_1 : decode cX1_toldLossOf 1 = .ok (.istore_n 2, 1) := by decide +kernel
theorem dX1_toldLossOf_2 : decode cX1_toldLossOf 2 = .ok (.iconst 0, 1) := by decide +kernel
theorem dX1_toldLossOf_3 : decode cX1_toldLossOf 3 = .ok (.istore_n 3, 1) := by decide +kernel
theorem dX1_toldLossOf_4 : decode cX1_toldLossOf 4 = .ok (.iload_n 3, 1) := by decide +kernel
theorem dX1_toldLossOf_5 : decode cX1_toldLossOf 5 = .ok (.aload_n 0, 1) := by decide +kernel
theorem dX1_toldLossOf_6 : decode cX1_toldLossOf 6 = .ok (.getfield 33, 3) := by decide +kernel
theorem dX1_toldLossOf_9 : decode cX1_toldLossOf 9 = .ok (.if_icmp .ge 26, 3) := by decide +kernel
theorem dX1_toldLossOf_12 : decode cX1_toldLossOf 12 = .ok (.iload_n 1, 1) := by decide +kernel
theorem dX1_toldLossOf_13 : decode cX1_toldLossOf 13 = .ok (.iload_n 3, 1) := by decide +kernel
theorem dX1_toldLossOf_14 : decode cX1_toldLossOf 14 = .ok (.invokestatic 64, 3) := by decide +kernel
theorem dX1_toldLossOf_17 : decode cX1_toldLossOf 17 = .ok (.ifCond .eq 12, 3) := by decide +kernel
theorem dX1_toldLossOf_20 : decode cX1_toldLossOf 20 = .ok (.iload_n 2, 1) := by decide +kernel
theorem dX1_toldLossOf_21 : decode cX1_toldLossOf 21 = .ok (.aload_n 0, 1) := by decide +kernel
theorem dX1_toldLossOf_22 : decode cX1_toldLossOf 22 = .ok (.getfield 27, 3) := by decide +kernel
theorem dX1_toldLossOf_25 : decode cX1_toldLossOf 25 = .ok (.iload_n 3, 1) := by decide +kernel
theorem dX1_toldLossOf_26 : decode cX1_toldLossOf 26 = .ok (.iaload, 1) := by decide +kernel
theorem dX1_toldLossOf_27 : decode cX1_toldLossOf 27 = .ok (.iadd, 1) := by decide +kernel
theorem dX1_toldLossOf_28 : decode cX1_toldLossOf 28 = .ok (.istore_n 2, 1) := by decide +kernel
theorem dX1_toldLossOf_29 : decode cX1_toldLossOf 29 = .ok (.iinc 3 1, 3) := by decide +kernel
theorem dX1_toldLossOf_32 : decode cX1_toldLossOf 32 = .ok (.goto (-28), 3) := by decide +kernel
theorem dX1_toldLossOf_35 : decode cX1_toldLossOf 35 = .ok (.iload_n 2, 1) := by decide +kernel
theorem dX1_toldLossOf_36 : decode cX1_toldLossOf 36 = .ok (.ireturn, 1) := by decide +kernel
theorem dX1_lossOf_0 : decode cX1_lossOf 0 = .ok (.iconst 0, 1) := by decide +kernel
theorem dX1_lossOf_1 : decode cX1_lossOf 1 = .ok (.istore_n 3, 1) := by decide +kernel
theorem dX1_lossOf_2 : decode cX1_lossOf 2 = .ok (.iconst 0, 1) := by decide +kernel
theorem dX1_lossOf_3 : decode cX1_lossOf 3 = .ok (.istore 4, 2) := by decide +kernel
theorem dX1_lossOf_5 : decode cX1_lossOf 5 = .ok (.iload 4, 2) := by decide +kernel
theorem dX1_lossOf_7 : decode cX1_lossOf 7 = .ok (.aload_n 0, 1) := by decide +kernel
theorem dX1_lossOf_8 : decode cX1_lossOf 8 = .ok (.getfield 33, 3) := by decide +kernel
theorem dX1_lossOf_11 : decode cX1_lossOf 11 = .ok (.if_icmp .ge 55, 3) := by decide +kernel
theorem dX1_lossOf_14 : decode cX1_lossOf 14 = .ok (.iload_n 1, 1) := by decide +kernel
theorem dX1_lossOf_15 : decode cX1_lossOf 15 = .ok (.iload 4, 2) := by decide +kernel
theorem dX1_lossOf_17 : decode cX1_lossOf 17 = .ok (.invokestatic 64, 3) := by decide +kernel
theorem dX1_lossOf_20 : decode cX1_lossOf 20 = .ok (.ifCond .eq 40, 3) := by decide +kernel
theorem dX1_lossOf_23 : decode cX1_lossOf 23 = .ok (.aload_n 0, 1) := by decide +kernel
theorem dX1_lossOf_24 : decode cX1_lossOf 24 = .ok (.getfield 9, 3) := by decide +kernel
theorem dX1_lossOf_27 : decode cX1_lossOf 27 = .ok (.iload 4, 2) := by decide +kernel
theorem dX1_lossOf_29 : decode cX1_lossOf 29 = .ok (.iaload, 1) := by decide +kernel
theorem dX1_lossOf_30 : decode cX1_lossOf 30 = .ok (.iconst 4, 1) := by decide +kernel
theorem dX1_lossOf_31 : decode cX1_lossOf 31 = .ok (.if_icmp .eq 29, 3) := by decide +kernel
theorem dX1_lossOf_34 : decode cX1_lossOf 34 = .ok (.iload_n 3, 1) := by decide +kernel
theorem dX1_lossOf_35 : decode cX1_lossOf 35 = .ok (.iload_n 2, 1) := by decide +kernel
theorem dX1_lossOf_36 : decode cX1_lossOf 36 = .ok (.ifCond .eq 15, 3) := by decide +kernel
theorem dX1_lossOf_39 : decode cX1_lossOf 39 = .ok (.aload_n 0, 1) := by decide +kernel
theorem dX1_lossOf_40 : decode cX1_lossOf 40 = .ok (.getfield 27, 3) := by decide +kernel
theorem dX1_lossOf_43 : decode cX1_lossOf 43 = .ok (.iload 4, 2) := by decide +kernel
theorem dX1_lossOf_45 : decode cX1_lossOf 45 = .ok (.iaload, 1) := by decide +kernel
theorem dX1_lossOf_46 : decode cX1_lossOf 46 = .ok (.iconst 1, 1) := by decide +kernel
theorem dX1_lossOf_47 : decode cX1_lossOf 47 = .ok (.iadd, 1) := by decide +kernel
theorem dX1_lossOf_48 : decode cX1_lossOf 48 = .ok (.goto 10, 3) := by decide +kernel
theorem dX1_lossOf_51 : decode cX1_lossOf 51 = .ok (.aload_n 0, 1) := by decide +kernel
theorem dX1_lossOf_52 : decode cX1_lossOf 52 = .ok (.getfield 27, 3) := by decide +kernel
theorem dX1_lossOf_55 : decode cX1_lossOf 55 = .ok (.iload 4, 2) := by decide +kernel
theorem dX1_lossOf_57 : decode cX1_lossOf 57 = .ok (.iaload, 1) := by decide +kernel
theorem dX1_lossOf_58 : decode cX1_lossOf 58 = .ok (.iadd, 1) := by decide +kernel
theorem dX1_lossOf_59 : decode cX1_lossOf 59 = .ok (.istore_n 3, 1) := by decide +kernel
theorem dX1_lossOf_60 : decode cX1_lossOf 60 = .ok (.iinc 4 1, 3) := by decide +kernel
theorem dX1_lossOf_63 : decode cX1_lossOf 63 = .ok (.goto (-58), 3) := by decide +kernel
theorem dX1_lossOf_66 : decode cX1_lossOf 66 = .ok (.iload_n 3, 1) := by decide +kernel
theorem dX1_lossOf_67 : decode cX1_lossOf 67 = .ok (.ireturn, 1) := by decide +kernel
theorem dX2_init_0 : decode cX2_init 0 = .ok (.aload_n 0, 1) := by decide +kernel
theorem dX2_init_1 : decode cX2_init 1 = .ok (.invokespecial 3, 3) := by decide +kernel
theorem dX2_init_4 : decode cX2_init 4 = .ok (.aload_n 0, 1) := by decide +kernel
theorem dX2_init_5 : decode cX2_init 5 = .ok (.bipush 12, 2) := by decide +kernel
theorem dX2_init_7 : decode cX2_init 7 = .ok (.newarray .int, 2) := by decide +kernel
theorem dX2_init_9 : decode cX2_init 9 = .ok (.putfield 9, 3) := by decide +kernel
theorem dX2_init_12 : decode cX2_init 12 = .ok (.return_, 1) := by decide +kernel
theorem dX2_codeIn_0 : decode cX2_codeIn 0 = .ok (.lload_n 0, 1) := by decide +kernel
theorem dX2_codeIn_1 : decode cX2_codeIn 1 = .ok (.bipush 8, 2) := by decide +kernel
theorem dX2_codeIn_3 : decode cX2_codeIn 3 = .ok (.iload_n 2, 1) := by decide +kernel
theorem dX2_codeIn_4 : decode cX2_codeIn 4 = .ok (.imul, 1) := by decide +kernel
theorem dX2_codeIn_5 : decode cX2_codeIn 5 = .ok (.lushr, 1) := by decide +kernel
theorem dX2_codeIn_6 : decode cX2_codeIn 6 = .ok (.l2i, 1) := by decide +kernel
theorem dX2_codeIn_7 : decode cX2_codeIn 7 = .ok (.sipush 255, 3) := by decide +kernel
theorem dX2_codeIn_10 : decode cX2_codeIn 10 = .ok (.iand, 1) := by decide +kernel
theorem dX2_codeIn_11 : decode cX2_codeIn 11 = .ok (.ireturn, 1) := by decide +kernel
theorem dX2_lettersIn_0 : decode cX2_lettersIn 0 = .ok (.iconst 0, 1) := by decide +kernel
theorem dX2_lettersIn_1 : decode cX2_lettersIn 1 = .ok (.istore_n 2, 1) := by decide +kernel
theorem dX2_lettersIn_2 : decode cX2_lettersIn 2 = .ok (.iconst 0, 1) := by decide +kernel
theorem dX2_lettersIn_3 : decode cX2_lettersIn 3 = .ok (.istore_n 3, 1) := by decide +kernel
theorem dX2_lettersIn_4 : decode cX2_lettersIn 4 = .ok (.iconst 0, 1) := by decide +kernel
theorem dX2_lettersIn_5 : decode cX2_lettersIn 5 = .ok (.istore 4, 2) := by decide +kernel
theorem dX2_lettersIn_7 : decode cX2_lettersIn 7 = .ok (.iload 4, 2) := by decide +kernel
theorem dX2_lettersIn_9 : decode cX2_lettersIn 9 = .ok (.bipush 8, 2) := by decide +kernel
theorem dX2_lettersIn_11 : decode cX2_lettersIn 11 = .ok (.if_icmp .ge 48, 3) := by decide +kernel
theorem dX2_lettersIn_14 : decode cX2_lettersIn 14 = .ok (.lload_n 0, 1) := by decide +kernel
theorem dX2_lettersIn_15 : decode cX2_lettersIn 15 = .ok (.iload 4, 2) := by decide +kernel
theorem dX2_lettersIn_17 : decode cX2_lettersIn 17 = .ok (.invokestatic 15, 3) := by decide +kernel
theorem dX2_lettersIn_20 : decode cX2_lettersIn 20 = .ok (.istore 5, 2) := by decide +kernel
theorem dX2_lettersIn_22 : decode cX2_lettersIn 22 = .ok (.iload 5, 2) := by decide +kernel
theorem dX2_lettersIn_24 : decode cX2_lettersIn 24 = .ok (.bipush 126, 2) := by decide +kernel
theorem dX2_lettersIn_26 : decode cX2_lettersIn 26 = .ok (.if_icmp .gt 12, 3) := by decide +kernel
theorem dX2_lettersIn_29 : decode cX2_lettersIn 29 = .ok (.iload_n 3, 1) := by decide +kernel
theorem dX2_lettersIn_30 : decode cX2_lettersIn 30 = .ok (.ifCond .eq 10, 3) := by decide +kernel
theorem dX2_lettersIn_33 : decode cX2_lettersIn 33 = .ok (.iload 5, 2) := by decide +kernel
theorem dX2_lettersIn_35 : decode cX2_lettersIn 35 = .ok (.ifCond .eq 5, 3) := by decide +kernel
theorem dX2_lettersIn_38 : decode cX2_lettersIn 38 = .ok (.iconst (-1), 1) := by decide +kernel
theorem dX2_lettersIn_39 : decode cX2_lettersIn 39 = .ok (.ireturn, 1) := by decide +kernel
theorem dX2_lettersIn_40 : decode cX2_lettersIn 40 = .ok (.iload 5, 2) := by decide +kernel
theorem dX2_lettersIn_42 : decode cX2_lettersIn 42 = .ok (.ifCond .ne 8, 3) := by decide +kernel
theorem dX2_lettersIn_45 : decode cX2_lettersIn 45 = .ok (.iconst 1, 1) := by decide +kernel
theorem dX2_lettersIn_46 : decode cX2_lettersIn 46 = .ok (.istore_n 3, 1) := by decide +kernel
theorem dX2_lettersIn_47 : decode cX2_lettersIn 47 = .ok (.goto 6, 3) := by decide +kernel
theorem dX2_lettersIn_50 : decode cX2_lettersIn 50 = .ok (.iinc 2 1, 3) := by decide +kernel
theorem dX2_lettersIn_53 : decode cX2_lettersIn 53 = .ok (.iinc 4 1, 3) := by decide +kernel
theorem dX2_lettersIn_56 : decode cX2_lettersIn 56 = .ok (.goto (-49), 3) := by decide +kernel
theorem dX2_lettersIn_59 : decode cX2_lettersIn 59 = .ok (.iload_n 2, 1) := by decide +kernel
theorem dX2_lettersIn_60 : decode cX2_lettersIn 60 = .ok (.ireturn, 1) := by decide +kernel
theorem dX2_append_0 : decode cX2_append 0 = .ok (.iconst 0, 1) := by decide +kernel
theorem dX2_append_1 : decode cX2_append 1 = .ok (.istore 4, 2) := by decide +kernel
theorem dX2_append_3 : decode cX2_append 3 = .ok (.iload 4, 2) := by decide +kernel
theorem dX2_append_5 : decode cX2_append 5 = .ok (.iload_n 3, 1) := by decide +kernel
theorem dX2_append_6 : decode cX2_append 6 = .ok (.if_icmp .ge 43, 3) := by decide +kernel
theorem dX2_append_9 : decode cX2_append 9 = .ok (.aload_n 0, 1) := by decide +kernel
theorem dX2_append_10 : decode cX2_append 10 = .ok (.getfield 19, 3) := by decide +kernel
theorem dX2_append_13 : decode cX2_append 13 = .ok (.bipush 12, 2) := by decide +kernel
theorem dX2_append_15 : decode cX2_append 15 = .ok (.if_icmp .ge 34, 3) := by decide +kernel
theorem dX2_append_18 : decode cX2_append 18 = .ok (.aload_n 0, 1) := by decide +kernel
theorem dX2_append_19 : decode cX2_append 19 = .ok (.getfield 9, 3) := by decide +kernel
theorem dX2_append_22 : decode cX2_append 22 = .ok (.aload_n 0, 1) := by decide +kernel
theorem dX2_append_23 : decode cX2_append 23 = .ok (.getfield 19, 3) := by decide +kernel
theorem dX2_append_26 : decode cX2_append 26 = .ok (.lload_n 1, 1) := by decide +kernel
theorem dX2_append_27 : decode cX2_append 27 = .ok (.iload 4, 2) := by decide +kernel
theorem dX2_append_29 : decode cX2_append 29 = .ok (.invokestatic 15, 3) := by decide +kernel
theorem dX2_append_32 : decode cX2_append 32 = .ok (.iastore, 1) := by decide +kernel
theorem dX2_append_33 : decode cX2_append 33 = .ok (.aload_n 0, 1) := by decide +kernel
theorem dX2_append_34 : decode cX2_append 34 = .ok (.dup, 1) := by decide +kernel
theorem dX2_append_35 : decode cX2_append 35 = .ok (.getfield 19, 3) := by decide +kernel
theorem dX2_append_38 : decode cX2_append 38 = .ok (.iconst 1, 1) := by decide +kernel
theorem dX2_append_39 : decode cX2_append 39 = .ok (.iadd, 1) := by decide +kernel
theorem dX2_append_40 : decode cX2_append 40 = .ok (.putfield 19, 3) := by decide +kernel
theorem dX2_append_43 : decode cX2_append 43 = .ok (.iinc 4 1, 3) := by decide +kernel
theorem dX2_append_46 : decode cX2_append 46 = .ok (.goto (-43), 3) := by decide +kernel
