theorem dX5_as_2 : decode cX5_as 2 = .ok (.invokevirtual 99, 3) := by decide +kernel
theorem dX5_as_5 : decode cX5_as 5 = .ok (.ifCond .ne 6, 3) := by decide +kernel
theorem dX5_as_8 : decode cX5_as 8 = .ok (.bipush (-101), 2) := by decide +kernel
theorem dX5_as_10 : decode cX5_as 10 = .ok (.ireturn, 1) := by decide +kernel
theorem dX5_as_11 : decode cX5_as 11 = .ok (.iload_n 2, 1) := by decide +kernel
theorem dX5_as_12 : decode cX5_as 12 = .ok (.iconst 0, 1) := by decide +kernel
theorem dX5_as_13 : decode cX5_as 13 = .ok (.iconst 4, 1) := by decide +kernel
theorem dX5_as_14 : decode cX5_as 14 = .ok (.invokestatic 78, 3) := by decide +kernel
theorem dX5_as_17 : decode cX5_as 17 = .ok (.ifCond .ne 6, 3) := by decide +kernel
theorem dX5_as_20 : decode cX5_as 20 = .ok (.bipush (-102), 2) := by decide +kernel
theorem dX5_as_22 : decode cX5_as 22 = .ok (.ireturn, 1) := by decide +kernel
theorem dX5_as_23 : decode cX5_as 23 = .ok (.aload_n 0, 1) := by decide +kernel
theorem dX5_as_24 : decode cX5_as 24 = .ok (.getfield 7, 3) := by decide +kernel
theorem dX5_as_27 : decode cX5_as 27 = .ok (.iload_n 1, 1) := by decide +kernel
theorem dX5_as_28 : decode cX5_as 28 = .ok (.iaload, 1) := by decide +kernel
theorem dX5_as_29 : decode cX5_as 29 = .ok (.istore_n 3, 1) := by decide +kernel
theorem dX5_as_30 : decode cX5_as 30 = .ok (.iload_n 2, 1) := by decide +kernel
theorem dX5_as_31 : decode cX5_as 31 = .ok (.ifCond .eq 18, 3) := by decide +kernel
theorem dX5_as_34 : decode cX5_as 34 = .ok (.iload_n 3, 1) := by decide +kernel
theorem dX5_as_35 : decode cX5_as 35 = .ok (.iload_n 2, 1) := by decide +kernel
theorem dX5_as_36 : decode cX5_as 36 = .ok (.if_icmp .eq 13, 3) := by decide +kernel
theorem dX5_as_39 : decode cX5_as 39 = .ok (.iload_n 2, 1) := by decide +kernel
theorem dX5_as_40 : decode cX5_as 40 = .ok (.iconst 2, 1) := by decide +kernel
theorem dX5_as_41 : decode cX5_as 41 = .ok (.if_icmp .ne 12, 3) := by decide +kernel
theorem dX5_as_44 : decode cX5_as 44 = .ok (.iload_n 3, 1) := by decide +kernel
theorem dX5_as_45 : decode cX5_as 45 = .ok (.iconst 4, 1) := by decide +kernel
theorem dX5_as_46 : decode cX5_as 46 = .ok (.if_icmp .ne 7, 3) := by decide +kernel
theorem dX5_as_49 : decode cX5_as 49 = .ok (.iload_n 1, 1) := by decide +kernel
theorem dX5_as_50 : decode cX5_as 50 = .ok (.goto 4, 3) := by decide +kernel
theorem dX5_as_53 : decode cX5_as 53 = .ok (.iconst (-1), 1) := by decide +kernel
theorem dX5_as_54 : decode cX5_as 54 = .ok (.ireturn, 1) := by decide +kernel
theorem dX5_length_0 : decode cX5_length 0 = .ok (.iload_n 1, 1) := by decide +kernel
theorem dX5_length_1 : decode cX5_length 1 = .ok (.iconst 1, 1) := by decide +kernel
theorem dX5_length_2 : decode cX5_length 2 = .ok (.bipush 99, 2) := by decide +kernel
theorem dX5_length_4 : decode cX5_length 4 = .ok (.invokestatic 78, 3) := by decide +kernel
theorem dX5_length_7 : decode cX5_length 7 = .ok (.ifCond .ne 6, 3) := by decide +kernel
theorem dX5_length_10 : decode cX5_length 10 = .ok (.bipush (-102), 2) := by decide +kernel
theorem dX5_length_12 : decode cX5_length 12 = .ok (.ireturn, 1) := by decide +kernel
theorem dX5_length_13 : decode cX5_length 13 = .ok (.aload_n 0, 1) := by decide +kernel
theorem dX5_length_14 : decode cX5_length 14 = .ok (.getfield 90, 3) := by decide +kernel
theorem dX5_length_17 : decode cX5_length 17 = .ok (.ifCond .le 6, 3) := by decide +kernel
theorem dX5_length_20 : decode cX5_length 20 = .ok (.bipush (-103), 2) := by decide +kernel
theorem dX5_length_22 : decode cX5_length 22 = .ok (.ireturn, 1) := by decide +kernel
theorem dX5_length_23 : decode cX5_length 23 = .ok (.aload_n 0, 1) := by decide +kernel
theorem dX5_length_24 : decode cX5_length 24 = .ok (.getfield 34, 3) := by decide +kernel
theorem dX5_length_27 : decode cX5_length 27 = .ok (.istore_n 2, 1) := by decide +kernel
theorem dX5_length_28 : decode cX5_length 28 = .ok (.aload_n 0, 1) := by decide +kernel
theorem dX5_length_29 : decode cX5_length 29 = .ok (.iload_n 1, 1) := by decide +kernel
theorem dX5_length_30 : decode cX5_length 30 = .ok (.putfield 34, 3) := by decide +kernel
theorem dX5_length_33 : decode cX5_length 33 = .ok (.aload_n 0, 1) := by decide +kernel
theorem dX5_length_34 : decode cX5_length 34 = .ok (.iload_n 1, 1) := by decide +kernel
theorem dX5_length_35 : decode cX5_length 35 = .ok (.putfield 38, 3) := by decide +kernel
theorem dX5_length_38 : decode cX5_length 38 = .ok (.iload_n 2, 1) := by decide +kernel
theorem dX5_length_39 : decode cX5_length 39 = .ok (.ireturn, 1) := by decide +kernel
theorem dX5_brake_0 : decode cX5_brake 0 = .ok (.aload_n 0, 1) := by decide +kernel
theorem dX5_brake_1 : decode cX5_brake 1 = .ok (.iload_n 1, 1) := by decide +kernel
theorem dX5_brake_2 : decode cX5_brake 2 = .ok (.invokevirtual 99, 3) := by decide +kernel
theorem dX5_brake_5 : decode cX5_brake 5 = .ok (.ifCond .ne 6, 3) := by decide +kernel
theorem dX5_brake_8 : decode cX5_brake 8 = .ok (.bipush (-101), 2) := by decide +kernel
theorem dX5_brake_10 : decode cX5_brake 10 = .ok (.ireturn, 1) := by decide +kernel
theorem dX5_brake_11 : decode cX5_brake 11 = .ok (.aload_n 0, 1) := by decide +kernel
theorem dX5_brake_12 : decode cX5_brake 12 = .ok (.getfield 93, 3) := by decide +kernel
theorem dX5_brake_15 : decode cX5_brake 15 = .ok (.iload_n 1, 1) := by decide +kernel
theorem dX5_brake_16 : decode cX5_brake 16 = .ok (.ishr, 1) := by decide +kernel
theorem dX5_brake_17 : decode cX5_brake 17 = .ok (.iconst 1, 1) := by decide +kernel
theorem dX5_brake_18 : decode cX5_brake 18 = .ok (.iand, 1) := by decide +kernel
theorem dX5_brake_19 : decode cX5_brake 19 = .ok (.istore_n 3, 1) := by decide +kernel
theorem dX5_brake_20 : decode cX5_brake 20 = .ok (.aload_n 0, 1) := by decide +kernel
theorem dX5_brake_21 : decode cX5_brake 21 = .ok (.iload_n 2, 1) := by decide +kernel
theorem dX5_brake_22 : decode cX5_brake 22 = .ok (.ifCond .eq 14, 3) := by decide +kernel
theorem dX5_brake_25 : decode cX5_brake 25 = .ok (.aload_n 0, 1) := by decide +kernel
theorem dX5_brake_26 : decode cX5_brake 26 = .ok (.getfield 93, 3) := by decide +kernel
theorem dX5_brake_29 : decode cX5_brake 29 = .ok (.iconst 1, 1) := by decide +kernel
theorem dX5_brake_30 : decode cX5_brake 30 = .ok (.iload_n 1, 1) := by decide +kernel
theorem dX5_brake_31 : decode cX5_brake 31 = .ok (.ishl, 1) := by decide +kernel
theorem dX5_brake_32 : decode cX5_brake 32 = .ok (.ior, 1) := by decide +kernel
theorem dX5_brake_33 : decode cX5_brake 33 = .ok (.goto 13, 3) := by decide +kernel
theorem dX5_brake_36 : decode cX5_brake 36 = .ok (.aload_n 0, 1) := by decide +kernel
theorem dX5_brake_37 : decode cX5_brake 37 = .ok (.getfield 93, 3) := by decide +kernel
theorem dX5_brake_40 : decode cX5_brake 40 = .ok (.iconst 1, 1) := by decide +kernel
theorem dX5_brake_41 : decode cX5_brake 41 = .ok (.iload_n 1, 1) := by decide +kernel
theorem dX5_brake_42 : decode cX5_brake 42 = .ok (.ishl, 1) := by decide +kernel
theorem dX5_brake_43 : decode cX5_brake 43 = .ok (.iconst (-1), 1) := by decide +kernel
theorem dX5_brake_44 : decode cX5_brake 44 = .ok (.ixor, 1) := by decide +kernel
theorem dX5_brake_45 : decode cX5_brake 45 = .ok (.iand, 1) := by decide +kernel
theorem dX5_brake_46 : decode cX5_brake 46 = .ok (.putfield 93, 3) := by decide +kernel
theorem dX5_brake_49 : decode cX5_brake 49 = .ok (.iload_n 3, 1) := by decide +kernel
theorem dX5_brake_50 : decode cX5_brake 50 = .ok (.ireturn, 1) := by decide +kernel
theorem dX5_rain_0 : decode cX5_rain 0 = .ok (.aload_n 0, 1) := by decide +kernel
theorem dX5_rain_1 : decode cX5_rain 1 = .ok (.getfield 107, 3) := by decide +kernel
theorem dX5_rain_4 : decode cX5_rain 4 = .ok (.ifCond .eq 7, 3) := by decide +kernel
theorem dX5_rain_7 : decode cX5_rain 7 = .ok (.iconst 1, 1) := by decide +kernel
theorem dX5_rain_8 : decode cX5_rain 8 = .ok (.goto 4, 3) := by decide +kernel
theorem dX5_rain_11 : decode cX5_rain 11 = .ok (.iconst 0, 1) := by decide +kernel
theorem dX5_rain_12 : decode cX5_rain 12 = .ok (.istore_n 2, 1) := by decide +kernel
theorem dX5_rain_13 : decode cX5_rain 13 = .ok (.aload_n 0, 1) := by decide +kernel
theorem dX5_rain_14 : decode cX5_rain 14 = .ok (.iload_n 1, 1) := by decide +kernel
theorem dX5_rain_15 : decode cX5_rain 15 = .ok (.putfield 107, 3) := by decide +kernel
theorem dX5_rain_18 : decode cX5_rain 18 = .ok (.iload_n 2, 1) := by decide +kernel
theorem dX5_rain_19 : decode cX5_rain 19 = .ok (.ireturn, 1) := by decide +kernel
theorem dX5_isTime_0 : decode cX5_isTime 0 = .ok (.aload_n 0, 1) := by decide +kernel
theorem dX5_isTime_1 : decode cX5_isTime 1 = .ok (.getfield 90, 3) := by decide +kernel
theorem dX5_isTime_4 : decode cX5_isTime 4 = .ok (.bipush 9, 2) := by decide +kernel
theorem dX5_isTime_6 : decode cX5_isTime 6 = .ok (.if_icmp .ge 33, 3) := by decide +kernel
theorem dX5_isTime_9 : decode cX5_isTime 9 = .ok (.aload_n 0, 1) := by decide +kernel
theorem dX5_isTime_10 : decode cX5_isTime 10 = .ok (.getfield 90, 3) := by decide +kernel
theorem dX5_isTime_13 : decode cX5_isTime 13 = .ok (.aload_n 0, 1) := by decide +kernel
theorem dX5_isTime_14 : decode cX5_isTime 14 = .ok (.getfield 16, 3) := by decide +kernel
theorem dX5_isTime_17 : decode cX5_isTime 17 = .ok (.iload_n 1, 1) := by decide +kernel
theorem dX5_isTime_18 : decode cX5_isTime 18 = .ok (.iaload, 1) := by decide +kernel
theorem dX5_isTime_19 : decode cX5_isTime 19 = .ok (.if_icmp .lt 20, 3) := by decide +kernel
theorem dX5_isTime_22 : decode cX5_isTime 22 = .ok (.aload_n 0, 1) := by decide +kernel
theorem dX5_isTime_23 : decode cX5_isTime 23 = .ok (.getfield 90, 3) := by decide +kernel
theorem dX5_isTime_26 : decode cX5_isTime 26 = .ok (.aload_n 0, 1) := by decide +kernel
theorem dX5_isTime_27 : decode cX5_isTime 27 = .ok (.getfield 19, 3) := by decide +kernel
theorem dX5_isTime_30 : decode cX5_isTime 30 = .ok (.iload_n 1, 1) := by decide +kernel
theorem dX5_isTime_31 : decode cX5_isTime 31 = .ok (.iaload, 1) := by decide +kernel
theorem dX5_isTime_32 : decode cX5_isTime 32 = .ok (.if_icmp .ge 7, 3) := by decide +kernel
theorem dX5_isTime_35 : decode cX5_isTime 35 = .ok (.iconst 1, 1) := by decide +kernel
theorem dX5_isTime_36 : decode cX5_isTime 36 = .ok (.goto 4, 3) := by decide +kernel
theorem dX5_isTime_39 : decode cX5_isTime 39 = .ok (.iconst 0, 1) := by decide +kernel
theorem dX5_isTime_40 : decode cX5_isTime 40 = .ok (.ireturn, 1) := by decide +kernel
theorem dX5_wantsNow_0 : decode cX5_wantsNow 0 = .ok (.aload_n 0, 1) := by decide +kernel
theorem dX5_wantsNow_1 : decode cX5_wantsNow 1 = .ok (.iload_n 1, 1) := by decide +kernel
theorem dX5_wantsNow_2 : decode cX5_wantsNow 2 = .ok (.invokevirtual 111, 3) := by decide +kernel
theorem dX5_wantsNow_5 : decode cX5_wantsNow 5 = .ok (.ifCond .eq 14, 3) := by decide +kernel
theorem dX5_wantsNow_8 : decode cX5_wantsNow 8 = .ok (.aload_n 0, 1) := by decide +kernel
theorem dX5_wantsNow_9 : decode cX5_wantsNow 9 = .ok (.getfield 93, 3) := by decide +kernel
theorem dX5_wantsNow_12 : decode cX5_wantsNow 12 = .ok (.iload_n 1, 1) := by decide +kernel
theorem dX5_wantsNow_13 : decode cX5_wantsNow 13 = .ok (.invokestatic 96, 3) := by decide +kernel
theorem dX5_wantsNow_16 : decode cX5_wantsNow 16 = .ok (.ifCond .eq 5, 3) := by decide +kernel
theorem dX5_wantsNow_19 : decode cX5_wantsNow 19 = .ok (.iconst 0, 1) := by decide +kernel
theorem dX5_wantsNow_20 : decode cX5_wantsNow 20 = .ok (.ireturn, 1) := by decide +kernel
theorem dX5_wantsNow_21 : decode cX5_wantsNow 21 = .ok (.aload_n 0, 1) := by decide +kernel
theorem dX5_wantsNow_22 : decode cX5_wantsNow 22 = .ok (.getfield 7, 3) := by decide +kernel
theorem dX5_wantsNow_25 : decode cX5_wantsNow 25 = .ok (.iload_n 1, 1) := by decide +kernel
theorem dX5_wantsNow_26 : decode cX5_wantsNow 26 = .ok (.iaload, 1) := by decide +kernel
theorem dX5_wantsNow_27 : decode cX5_wantsNow 27 = .ok (.iconst 2, 1) := by decide +kernel
theorem dX5_wantsNow_28 : decode cX5_wantsNow 28 = .ok (.if_icmp .eq 13, 3) := by decide +kernel
theorem dX5_wantsNow_31 : decode cX5_wantsNow 31 = .ok (.aload_n 0, 1) := by decide +kernel
theorem dX5_wantsNow_32 : decode cX5_wantsNow 32 = .ok (.getfield 7, 3) := by decide +kernel
theorem dX5_wantsNow_35 : decode cX5_wantsNow 35 = .ok (.iload_n 1, 1) := by decide +kernel
theorem dX5_wantsNow_36 : decode cX5_wantsNow 36 = .ok (.iaload, 1) := by decide +kernel
theorem dX5_wantsNow_37 : decode cX5_wantsNow 37 = .ok (.iconst 4, 1) := by decide +kernel
theorem dX5_wantsNow_38 : decode cX5_wantsNow 38 = .ok (.if_icmp .ne 20, 3) := by decide +kernel
theorem dX5_wantsNow_41 : decode cX5_wantsNow 41 = .ok (.aload_n 0, 1) := by decide +kernel
theorem dX5_wantsNow_42 : decode cX5_wantsNow 42 = .ok (.getfield 90, 3) := by decide +kernel
theorem dX5_wantsNow_45 : decode cX5_wantsNow 45 = .ok (.aload_n 0, 1) := by decide +kernel
theorem dX5_wantsNow_46 : decode cX5_wantsNow 46 = .ok (.getfield 16, 3) := by decide +kernel
theorem dX5_wantsNow_49 : decode cX5_wantsNow 49 = .ok (.iload_n 1, 1) := by decide +kernel
theorem dX5_wantsNow_50 : decode cX5_wantsNow 50 = .ok (.iaload, 1) := by decide +kernel
theorem dX5_wantsNow_51 : decode cX5_wantsNow 51 = .ok (.if_icmp .ne 7, 3) := by decide +kernel
theorem dX5_wantsNow_54 : decode cX5_wantsNow 54 = .ok (.iconst 1, 1) := by decide +kernel
theorem dX5_wantsNow_55 : decode cX5_wantsNow 55 = .ok (.goto 4, 3) := by decide +kernel
theorem dX5_wantsNow_58 : decode cX5_wantsNow 58 = .ok (.iconst 0, 1) := by decide +kernel
theorem dX5_wantsNow_59 : decode cX5_wantsNow 59 = .ok (.istore_n 2, 1) := by decide +kernel
theorem dX5_wantsNow_60 : decode cX5_wantsNow 60 = .ok (.aload_n 0, 1) := by decide +kernel
theorem dX5_wantsNow_61 : decode cX5_wantsNow 61 = .ok (.getfield 7, 3) := by decide +kernel
theorem dX5_wantsNow_64 : decode cX5_wantsNow 64 = .ok (.iload_n 1, 1) := by decide +kernel
theorem dX5_wantsNow_65 : decode cX5_wantsNow 65 = .ok (.iaload, 1) := by decide +kernel
theorem dX5_wantsNow_66 : decode cX5_wantsNow 66 = .ok (.iconst 3, 1) := by decide +kernel
theorem dX5_wantsNow_67 : decode cX5_wantsNow 67 = .ok (.if_icmp .ne 18, 3) := by decide +kernel
theorem dX5_wantsNow_70 : decode cX5_wantsNow 70 = .ok (.aload_n 0, 1) := by decide +kernel
theorem dX5_wantsNow_71 : decode cX5_wantsNow 71 = .ok (.getfield 114, 3) := by decide +kernel
theorem dX5_wantsNow_74 : decode cX5_wantsNow 74 = .ok (.iload_n 1, 1) := by decide +kernel
theorem dX5_wantsNow_75 : decode cX5_wantsNow 75 = .ok (.invokestatic 96, 3) := by decide +kernel
theorem dX5_wantsNow_78 : decode cX5_wantsNow 78 = .ok (.ifCond .eq 7, 3) := by decide +kernel
theorem dX5_wantsNow_81 : decode cX5_wantsNow 81 = .ok (.iconst 1, 1) := by decide +kernel
theorem dX5_wantsNow_82 : decode cX5_wantsNow 82 = .ok (.goto 4, 3) := by decide +kernel
theorem dX5_wantsNow_85 : decode cX5_wantsNow 85 = .ok (.iconst 0, 1) := by decide +kernel
theorem dX5_wantsNow_86 : decode cX5_wantsNow 86 = .ok (.istore_n 3, 1) := by decide +kernel
theorem dX5_wantsNow_87 : decode cX5_wantsNow 87 = .ok (.iload_n 2, 1) := by decide +kernel
theorem dX5_wantsNow_88 : decode cX5_wantsNow 88 = .ok (.ifCond .eq 14, 3) := by decide +kernel
theorem dX5_wantsNow_91 : decode cX5_wantsNow 91 = .ok (.iconst 2, 1) := by decide +kernel
theorem dX5_wantsNow_92 : decode cX5_wantsNow 92 = .ok (.aload_n 0, 1) := by decide +kernel
theorem dX5_wantsNow_93 : decode cX5_wantsNow 93 = .ok (.getfield 22, 3) := by decide +kernel
theorem dX5_wantsNow_96 : decode cX5_wantsNow 96 = .ok (.iload_n 1, 1) := by decide +kernel
theorem dX5_wantsNow_97 : decode cX5_wantsNow 97 = .ok (.iaload, 1) := by decide +kernel
theorem dX5_wantsNow_98 : decode cX5_wantsNow 98 = .ok (.imul, 1) := by decide +kernel
theorem dX5_wantsNow_99 : decode cX5_wantsNow 99 = .ok (.goto 11, 3) := by decide +kernel
theorem dX5_wantsNow_102 : decode cX5_wantsNow 102 = .ok (.aload_n 0, 1) := by decide +kernel
theorem dX5_wantsNow_103 : decode cX5_wantsNow 103 = .ok (.getfield 22, 3) := by decide +kernel
theorem dX5_wantsNow_106 : decode cX5_wantsNow 106 = .ok (.iload_n 1, 1) := by decide +kernel
theorem dX5_wantsNow_107 : decode cX5_wantsNow 107 = .ok (.iaload, 1) := by decide +kernel
theorem dX5_wantsNow_108 : decode cX5_wantsNow 108 = .ok (.iload_n 3, 1) := by decide +kernel
theorem dX5_wantsNow_109 : decode cX5_wantsNow 109 = .ok (.isub, 1) := by decide +kernel
theorem dX5_wantsNow_110 : decode cX5_wantsNow 110 = .ok (.ireturn, 1) := by decide +kernel
theorem dX5_wants_0 : decode cX5_wants 0 = .ok (.aload_n 0, 1) := by decide +kernel
theorem dX5_wants_1 : decode cX5_wants 1 = .ok (.iload_n 1, 1) := by decide +kernel
theorem dX5_wants_2 : decode cX5_wants 2 = .ok (.invokevirtual 99, 3) := by decide +kernel
theorem dX5_wants_5 : decode cX5_wants 5 = .ok (.ifCond .eq 11, 3) := by decide +kernel
theorem dX5_wants_8 : decode cX5_wants 8 = .ok (.aload_n 0, 1) := by decide +kernel
theorem dX5_wants_9 : decode cX5_wants 9 = .ok (.iload_n 1, 1) := by decide +kernel
theorem dX5_wants_10 : decode cX5_wants 10 = .ok (.invokevirtual 117, 3) := by decide +kernel
theorem dX5_wants_13 : decode cX5_wants 13 = .ok (.goto 5, 3) := by decide +kernel
theorem dX5_wants_16 : decode cX5_wants 16 = .ok (.bipush (-101), 2) := by decide +kernel
theorem dX5_wants_18 : decode cX5_wants 18 = .ok (.ireturn, 1) := by decide +kernel
theorem dX5_shafts_0 : decode cX5_shafts 0 = .ok (.iload_n 1, 1) := by decide +kernel
theorem dX5_shafts_1 : decode cX5_shafts 1 = .ok (.istore_n 2, 1) := by decide +kernel
theorem dX5_shafts_2 : decode cX5_shafts 2 = .ok (.aload_n 0, 1) := by decide +kernel
theorem dX5_shafts_3 : decode cX5_shafts 3 = .ok (.getfield 75, 3) := by decide +kernel
theorem dX5_shafts_6 : decode cX5_shafts 6 = .ok (.iconst 1, 1) := by decide +kernel
theorem dX5_shafts_7 : decode cX5_shafts 7 = .ok (.isub, 1) := by decide +kernel
theorem dX5_shafts_8 : decode cX5_shafts 8 = .ok (.istore_n 3, 1) := by decide +kernel
theorem dX5_shafts_9 : decode cX5_shafts 9 = .ok (.iload_n 3, 1) := by decide +kernel
theorem dX5_shafts_10 : decode cX5_shafts 10 = .ok (.ifCond .lt 42, 3) := by decide +kernel
theorem dX5_shafts_13 : decode cX5_shafts 13 = .ok (.iload_n 2, 1) := by decide +kernel
theorem dX5_shafts_14 : decode cX5_shafts 14 = .ok (.iload_n 2, 1) := by decide +kernel
theorem dX5_shafts_15 : decode cX5_shafts 15 = .ok (.iload_n 3, 1) := by decide +kernel
theorem dX5_shafts_16 : decode cX5_shafts 16 = .ok (.invokestatic 96, 3) := by decide +kernel
theorem dX5_shafts_19 : decode cX5_shafts 19 = .ok (.ifCond .eq 24, 3) := by decide +kernel
theorem dX5_shafts_22 : decode cX5_shafts 22 = .ok (.aload_n 0, 1) := by decide +kernel
theorem dX5_shafts_23 : decode cX5_shafts 23 = .ok (.getfield 13, 3) := by decide +kernel
theorem dX5_shafts_26 : decode cX5_shafts 26 = .ok (.iload_n 3, 1) := by decide +kernel
theorem dX5_shafts_27 : decode cX5_shafts 27 = .ok (.iaload, 1) := by decide +kernel
theorem dX5_shafts_28 : decode cX5_shafts 28 = .ok (.iconst (-1), 1) := by decide +kernel
theorem dX5_shafts_29 : decode cX5_shafts 29 = .ok (.if_icmp .eq 14, 3) := by decide +kernel
theorem dX5_shafts_32 : decode cX5_shafts 32 = .ok (.iconst 1, 1) := by decide +kernel
theorem dX5_shafts_33 : decode cX5_shafts 33 = .ok (.aload_n 0, 1) := by decide +kernel
theorem dX5_shafts_34 : decode cX5_shafts 34 = .ok (.getfield 13, 3) := by decide +kernel
theorem dX5_shafts_37 : decode cX5_shafts 37 = .ok (.iload_n 3, 1) := by decide +kernel
theorem dX5_shafts_38 : decode cX5_shafts 38 = .ok (.iaload, 1) := by decide +kernel
theorem dX5_shafts_39 : decode cX5_shafts 39 = .ok (.ishl, 1) := by decide +kernel
theorem dX5_shafts_40 : decode cX5_shafts 40 = .ok (.goto 4, 3) := by decide +kernel
theorem dX5_shafts_43 : decode cX5_shafts 43 = .ok (.iconst 0, 1) := by decide +kernel
theorem dX5_shafts_44 : decode cX5_shafts 44 = .ok (.ior, 1) := by decide +kernel
theorem dX5_shafts_45 : decode cX5_shafts 45 = .ok (.istore_n 2, 1) := by decide +kernel
theorem dX5_shafts_46 : decode cX5_shafts 46 = .ok (.iinc 3 (-1), 3) := by decide +kernel
theorem dX5_shafts_49 : decode cX5_shafts 49 = .ok (.goto (-40), 3) := by decide +kernel
theorem dX5_shafts_52 : decode cX5_shafts 52 = .ok (.iload_n 2, 1) := by decide +kernel
theorem dX5_shafts_53 : decode cX5_shafts 53 = .ok (.ireturn, 1) := by decide +kernel
theorem dX5_wanting_0 : decode cX5_wanting 0 = .ok (.iconst 0, 1) := by decide +kernel
theorem dX5_wanting_1 : decode cX5_wanting 1 = .ok (.istore_n 2, 1) := by decide +kernel
theorem dX5_wanting_2 : decode cX5_wanting 2 = .ok (.iconst 0, 1) := by decide +kernel
theorem dX5_wanting_3 : decode cX5_wanting 3 = .ok (.istore_n 3, 1) := by decide +kernel
theorem dX5_wanting_4 : decode cX5_wanting 4 = .ok (.iload_n 3, 1) := by decide +kernel
theorem dX5_wanting_5 : decode cX5_wanting 5 = .ok (.aload_n 0, 1) := by decide +kernel
theorem dX5_wanting_6 : decode cX5_wanting 6 = .ok (.getfield 75, 3) := by decide +kernel
theorem dX5_wanting_9 : decode cX5_wanting 9 = .ok (.if_icmp .ge 35, 3) := by decide +kernel
theorem dX5_wanting_12 : decode cX5_wanting 12 = .ok (.iload_n 2, 1) := by decide +kernel
theorem dX5_wanting_13 : decode cX5_wanting 13 = .ok (.iload_n 1, 1) := by decide +kernel
theorem dX5_wanting_14 : decode cX5_wanting 14 = .ok (.iload_n 3, 1) := by decide +kernel
theorem dX5_wanting_15 : decode cX5_wanting 15 = .ok (.invokestatic 96, 3) := by decide +kernel
theorem dX5_wanting_18 : decode cX5_wanting 18 = .ok (.ifCond .eq 17, 3) := by decide +kernel
theorem dX5_wanting_21 : decode cX5_wanting 21 = .ok (.aload_n 0, 1) := by decide +kernel
theorem dX5_wanting_22 : decode cX5_wanting 22 = .ok (.iload_n 3, 1) := by decide +kernel
theorem dX5_wanting_23 : decode cX5_wanting 23 = .ok (.invokevirtual 117, 3) := by decide +kernel
theorem dX5_wanting_26 : decode cX5_wanting 26 = .ok (.ifCond .le 9, 3) := by decide +kernel
theorem dX5_wanting_29 : decode cX5_wanting 29 = .ok (.iconst 1, 1) := by decide +kernel
theorem dX5_wanting_30 : decode cX5_wanting 30 = .ok (.iload_n 3, 1) := by decide +kernel
theorem dX5_wanting_31 : decode cX5_wanting 31 = .ok (.ishl, 1) := by decide +kernel
theorem dX5_wanting_32 : decode cX5_wanting 32 = .ok (.goto 4, 3) := by decide +kernel
theorem dX5_wanting_35 : decode cX5_wanting 35 = .ok (.iconst 0, 1) := by decide +kernel
theorem dX5_wanting_36 : decode cX5_wanting 36 = .ok (.ior, 1) := by decide +kernel
theorem dX5_wanting_37 : decode cX5_wanting 37 = .ok (.istore_n 2, 1) := by decide +kernel
theorem dX5_wanting_38 : decode cX5_wanting 38 = .ok (.iinc 3 1, 3) := by decide +kernel
theorem dX5_wanting_41 : decode cX5_wanting 41 = .ok (.goto (-37), 3) := by decide +kernel
theorem dX5_wanting_44 : decode cX5_wanting 44 = .ok (.iload_n 2, 1) := by decide +kernel
theorem dX5_wanting_45 : decode cX5_wanting 45 = .ok (.ireturn, 1) := by decide +kernel
theorem dX5_takesBy_0 : decode cX5_takesBy 0 = .ok (.iconst 0, 1) := by decide +kernel
theorem dX5_takesBy_1 : decode cX5_takesBy 1 = .ok (.istore_n 2, 1) := by decide +kernel
theorem dX5_takesBy_2 : decode cX5_takesBy 2 = .ok (.iconst 0, 1) := by decide +kernel
theorem dX5_takesBy_3 : decode cX5_takesBy 3 = .ok (.istore_n 3, 1) := by decide +kernel
theorem dX5_takesBy_4 : decode cX5_takesBy 4 = .ok (.iload_n 3, 1) := by decide +kernel
theorem dX5_takesBy_5 : decode cX5_takesBy 5 = .ok (.aload_n 0, 1) := by decide +kernel
theorem dX5_takesBy_6 : decode cX5_takesBy 6 = .ok (.getfield 75, 3) := by decide +kernel
theorem dX5_takesBy_9 : decode cX5_takesBy 9 = .ok (.if_icmp .ge 29, 3) := by decide +kernel
theorem dX5_takesBy_12 : decode cX5_takesBy 12 = .ok (.iload_n 2, 1) := by decide +kernel
theorem dX5_takesBy_13 : decode cX5_takesBy 13 = .ok (.iload_n 1, 1) := by decide +kernel
theorem dX5_takesBy_14 : decode cX5_takesBy 14 = .ok (.iload_n 3, 1) := by decide +kernel
theorem dX5_takesBy_15 : decode cX5_takesBy 15 = .ok (.invokestatic 96, 3) := by decide +kernel
theorem dX5_takesBy_18 : decode cX5_takesBy 18 = .ok (.ifCond .eq 11, 3) := by decide +kernel
theorem dX5_takesBy_21 : decode cX5_takesBy 21 = .ok (.aload_n 0, 1) := by decide +kernel
theorem dX5_takesBy_22 : decode cX5_takesBy 22 = .ok (.iload_n 3, 1) := by decide +kernel
theorem dX5_takesBy_23 : decode cX5_takesBy 23 = .ok (.invokevirtual 117, 3) := by decide +kernel
theorem dX5_takesBy_26 : decode cX5_takesBy 26 = .ok (.goto 4, 3) := by decide +kernel
theorem dX5_takesBy_29 : decode cX5_takesBy 29 = .ok (.iconst 0, 1) := by decide +kernel
theorem dX5_takesBy_30 : decode cX5_takesBy 30 = .ok (.iadd, 1) := by decide +kernel
theorem dX5_takesBy_31 : decode cX5_takesBy 31 = .ok (.istore_n 2, 1) := by decide +kernel
theorem dX5_takesBy_32 : decode cX5_takesBy 32 = .ok (.iinc 3 1, 3) := by decide +kernel
theorem dX5_takesBy_35 : decode cX5_takesBy 35 = .ok (.goto (-31), 3) := by decide +kernel
theorem dX5_takesBy_38 : decode cX5_takesBy 38 = .ok (.iload_n 2, 1) := by decide +kernel
theorem dX5_takesBy_39 : decode cX5_takesBy 39 = .ok (.ireturn, 1) := by decide +kernel
theorem dX5_goesBy_0 : decode cX5_goesBy 0 = .ok (.aload_n 0, 1) := by decide +kernel
theorem dX5_goesBy_1 : decode cX5_goesBy 1 = .ok (.iload_n 1, 1) := by decide +kernel
theorem dX5_goesBy_2 : decode cX5_goesBy 2 = .ok (.invokevirtual 120, 3) := by decide +kernel
theorem dX5_goesBy_5 : decode cX5_goesBy 5 = .ok (.istore_n 2, 1) := by decide +kernel
theorem dX5_goesBy_6 : decode cX5_goesBy 6 = .ok (.aload_n 0, 1) := by decide +kernel
theorem dX5_goesBy_7 : decode cX5_goesBy 7 = .ok (.iload_n 2, 1) := by decide +kernel
theorem dX5_goesBy_8 : decode cX5_goesBy 8 = .ok (.invokevirtual 123, 3) := by decide +kernel
theorem dX5_goesBy_11 : decode cX5_goesBy 11 = .ok (.istore_n 3, 1) := by decide +kernel
theorem dX5_goesBy_12 : decode cX5_goesBy 12 = .ok (.aload_n 0, 1) := by decide +kernel
theorem dX5_goesBy_13 : decode cX5_goesBy 13 = .ok (.iload_n 2, 1) := by decide +kernel
theorem dX5_goesBy_14 : decode cX5_goesBy 14 = .ok (.invokevirtual 126, 3) := by decide +kernel
theorem dX5_goesBy_17 : decode cX5_goesBy 17 = .ok (.istore 4, 2) := by decide +kernel
theorem dX5_goesBy_19 : decode cX5_goesBy 19 = .ok (.iconst 0, 1) := by decide +kernel
theorem dX5_goesBy_20 : decode cX5_goesBy 20 = .ok (.istore 5, 2) := by decide +kernel
theorem dX5_goesBy_22 : decode cX5_goesBy 22 = .ok (.iload 5, 2) := by decide +kernel
theorem dX5_goesBy_24 : decode cX5_goesBy 24 = .ok (.aload_n 0, 1) := by decide +kernel
theorem dX5_goesBy_25 : decode cX5_goesBy 25 = .ok (.getfield 75, 3) := by decide +kernel
theorem dX5_goesBy_28 : decode cX5_goesBy 28 = .ok (.if_icmp .ge 58, 3) := by decide +kernel
theorem dX5_goesBy_31 : decode cX5_goesBy 31 = .ok (.iload 4, 2) := by decide +kernel
theorem dX5_goesBy_33 : decode cX5_goesBy 33 = .ok (.iload_n 3, 1) := by decide +kernel
theorem dX5_goesBy_34 : decode cX5_goesBy 34 = .ok (.iload 5, 2) := by decide +kernel
theorem dX5_goesBy_36 : decode cX5_goesBy 36 = .ok (.invokestatic 96, 3) := by decide +kernel
theorem dX5_goesBy_39 : decode cX5_goesBy 39 = .ok (.ifCond .eq 37, 3) := by decide +kernel
theorem dX5_goesBy_42 : decode cX5_goesBy 42 = .ok (.aload_n 0, 1) := by decide +kernel
theorem dX5_goesBy_43 : decode cX5_goesBy 43 = .ok (.getfield 7, 3) := by decide +kernel
theorem dX5_goesBy_46 : decode cX5_goesBy 46 = .ok (.iload 5, 2) := by decide +kernel
theorem dX5_goesBy_48 : decode cX5_goesBy 48 = .ok (.iaload, 1) := by decide +kernel
theorem dX5_goesBy_49 : decode cX5_goesBy 49 = .ok (.iconst 4, 1) := by decide +kernel
theorem dX5_goesBy_50 : decode cX5_goesBy 50 = .ok (.if_icmp .eq 26, 3) := by decide +kernel
theorem dX5_goesBy_53 : decode cX5_goesBy 53 = .ok (.aload_n 0, 1) := by decide +kernel
theorem dX5_goesBy_54 : decode cX5_goesBy 54 = .ok (.getfield 25, 3) := by decide +kernel
theorem dX5_goesBy_57 : decode cX5_goesBy 57 = .ok (.iload 5, 2) := by decide +kernel
theorem dX5_goesBy_59 : decode cX5_goesBy 59 = .ok (.iaload, 1) := by decide +kernel
theorem dX5_goesBy_60 : decode cX5_goesBy 60 = .ok (.aload_n 0, 1) := by decide +kernel
theorem dX5_goesBy_61 : decode cX5_goesBy 61 = .ok (.getfield 107, 3) := by decide +kernel
theorem dX5_goesBy_64 : decode cX5_goesBy 64 = .ok (.ifCond .eq 7, 3) := by decide +kernel
theorem dX5_goesBy_67 : decode cX5_goesBy 67 = .ok (.iconst 1, 1) := by decide +kernel
theorem dX5_goesBy_68 : decode cX5_goesBy 68 = .ok (.goto 4, 3) := by decide +kernel
theorem dX5_goesBy_71 : decode cX5_goesBy 71 = .ok (.iconst 0, 1) := by decide +kernel
theorem dX5_goesBy_72 : decode cX5_goesBy 72 = .ok (.iadd, 1) := by decide +kernel
theorem dX5_goesBy_73 : decode cX5_goesBy 73 = .ok (.goto 4, 3) := by decide +kernel
theorem dX5_goesBy_76 : decode cX5_goesBy 76 = .ok (.iconst 0, 1) := by decide +kernel
theorem dX5_goesBy_77 : decode cX5_goesBy 77 = .ok (.iadd, 1) := by decide +kernel
theorem dX5_goesBy_78 : decode cX5_goesBy 78 = .ok (.istore 4, 2) := by decide +kernel
theorem dX5_goesBy_80 : decode cX5_goesBy 80 = .ok (.iinc 5 1, 3) := by decide +kernel
theorem dX5_goesBy_83 : decode cX5_goesBy 83 = .ok (.goto (-61), 3) := by decide +kernel
theorem dX5_goesBy_86 : decode cX5_goesBy 86 = .ok (.iload 4, 2) := by decide +kernel
theorem dX5_goesBy_88 : decode cX5_goesBy 88 = .ok (.ireturn, 1) := by decide +kernel
theorem dX5_everybody_0 : decode cX5_everybody 0 = .ok (.iconst 1, 1) := by decide +kernel
theorem dX5_everybody_1 : decode cX5_everybody 1 = .ok (.aload_n 0, 1) := by decide +kernel
theorem dX5_everybody_2 : decode cX5_everybody 2 = .ok (.getfield 75, 3) := by decide +kernel
theorem dX5_everybody_5 : decode cX5_everybody 5 = .ok (.ishl, 1) := by decide +kernel
theorem dX5_everybody_6 : decode cX5_everybody 6 = .ok (.iconst 1, 1) := by decide +kernel
theorem dX5_everybody_7 : decode cX5_everybody 7 = .ok (.isub, 1) := by decide +kernel
theorem dX5_everybody_8 : decode cX5_everybody 8 = .ok (.ireturn, 1) := by decide +kernel
theorem dX5_goes_0 : decode cX5_goes 0 = .ok (.iload_n 1, 1) := by decide +kernel
theorem dX5_goes_1 : decode cX5_goes 1 = .ok (.iconst 0, 1) := by decide +kernel
theorem dX5_goes_2 : decode cX5_goes 2 = .ok (.aload_n 0, 1) := by decide +kernel
theorem dX5_goes_3 : decode cX5_goes 3 = .ok (.invokevirtual 129, 3) := by decide +kernel
theorem dX5_goes_6 : decode cX5_goes 6 = .ok (.invokestatic 78, 3) := by decide +kernel
theorem dX5_goes_9 : decode cX5_goes 9 = .ok (.ifCond .eq 11, 3) := by decide +kernel
theorem dX5_goes_12 : decode cX5_goes 12 = .ok (.aload_n 0, 1) := by decide +kernel
theorem dX5_goes_13 : decode cX5_goes 13 = .ok (.iload_n 1, 1) := by decide +kernel
theorem dX5_goes_14 : decode cX5_goes 14 = .ok (.invokevirtual 132, 3) := by decide +kernel
theorem dX5_goes_17 : decode cX5_goes 17 = .ok (.goto 5, 3) := by decide +kernel
theorem dX5_goes_20 : decode cX5_goes 20 = .ok (.bipush (-102), 2) := by decide +kernel
theorem dX5_goes_22 : decode cX5_goes 22 = .ok (.ireturn, 1) := by decide +kernel
theorem dX5_working_0 : decode cX5_working 0 = .ok (.aload_n 0, 1) := by decide +kernel
theorem dX5_working_1 : decode cX5_working 1 = .ok (.aload_n 0, 1) := by decide +kernel
theorem dX5_working_2 : decode cX5_working 2 = .ok (.invokevirtual 129, 3) := by decide +kernel
theorem dX5_working_5 : decode cX5_working 5 = .ok (.invokevirtual 120, 3) := by decide +kernel
theorem dX5_working_8 : decode cX5_working 8 = .ok (.istore_n 1, 1) := by decide +kernel
theorem dX5_working_9 : decode cX5_working 9 = .ok (.aload_n 0, 1) := by decide +kernel
theorem dX5_working_10 : decode cX5_working 10 = .ok (.getfield 75, 3) := by decide +kernel
theorem dX5_working_13 : decode cX5_working 13 = .ok (.iconst 1, 1) := by decide +kernel
theorem dX5_working_14 : decode cX5_working 14 = .ok (.isub, 1) := by decide +kernel
theorem dX5_working_15 : decode cX5_working 15 = .ok (.istore_n 2, 1) := by decide +kernel
theorem dX5_working_16 : decode cX5_working 16 = .ok (.iload_n 2, 1) := by decide +kernel
theorem dX5_working_17 : decode cX5_working 17 = .ok (.ifCond .lt 61, 3) := by decide +kernel
theorem dX5_working_20 : decode cX5_working 20 = .ok (.iload_n 1, 1) := by decide +kernel
theorem dX5_working_21 : decode cX5_working 21 = .ok (.iload_n 2, 1) := by decide +kernel
theorem dX5_working_22 : decode cX5_working 22 = .ok (.invokestatic 96, 3) := by decide +kernel
theorem dX5_working_25 : decode cX5_working 25 = .ok (.ifCond .eq 29, 3) := by decide +kernel
theorem dX5_working_28 : decode cX5_working 28 = .ok (.aload_n 0, 1) := by decide +kernel
theorem dX5_working_29 : decode cX5_working 29 = .ok (.getfield 7, 3) := by decide +kernel
theorem dX5_working_32 : decode cX5_working 32 = .ok (.iload_n 2, 1) := by decide +kernel
theorem dX5_working_33 : decode cX5_working 33 = .ok (.iaload, 1) := by decide +kernel
theorem dX5_working_34 : decode cX5_working 34 = .ok (.iconst 1, 1) := by decide +kernel
theorem dX5_working_35 : decode cX5_working 35 = .ok (.if_icmp .eq 19, 3) := by decide +kernel
theorem dX5_working_38 : decode cX5_working 38 = .ok (.aload_n 0, 1) := by decide +kernel
theorem dX5_working_39 : decode cX5_working 39 = .ok (.iload_n 1, 1) := by decide +kernel
theorem dX5_working_40 : decode cX5_working 40 = .ok (.invokevirtual 132, 3) := by decide +kernel
theorem dX5_working_43 : decode cX5_working 43 = .ok (.aload_n 0, 1) := by decide +kernel
theorem dX5_working_44 : decode cX5_working 44 = .ok (.getfield 38, 3) := by decide +kernel
theorem dX5_working_47 : decode cX5_working 47 = .ok (.if_icmp .le 7, 3) := by decide +kernel
theorem dX5_working_50 : decode cX5_working 50 = .ok (.iconst 1, 1) := by decide +kernel
theorem dX5_working_51 : decode cX5_working 51 = .ok (.goto 4, 3) := by decide +kernel
theorem dX5_working_54 : decode cX5_working 54 = .ok (.iconst 0, 1) := by decide +kernel
theorem dX5_working_55 : decode cX5_working 55 = .ok (.istore_n 3, 1) := by decide +kernel
theorem dX5_working_56 : decode cX5_working 56 = .ok (.iload_n 3, 1) := by decide +kernel
theorem dX5_working_57 : decode cX5_working 57 = .ok (.ifCond .eq 13, 3) := by decide +kernel
theorem dX5_working_60 : decode cX5_working 60 = .ok (.iload_n 1, 1) := by decide +kernel
theorem dX5_working_61 : decode cX5_working 61 = .ok (.iconst 1, 1) := by decide +kernel
theorem dX5_working_62 : decode cX5_working 62 = .ok (.iload_n 2, 1) := by decide +kernel
theorem dX5_working_63 : decode cX5_working 63 = .ok (.ishl, 1) := by decide +kernel
theorem dX5_working_64 : decode cX5_working 64 = .ok (.iconst (-1), 1) := by decide +kernel
theorem dX5_working_65 : decode cX5_working 65 = .ok (.ixor, 1) := by decide +kernel
theorem dX5_working_66 : decode cX5_working 66 = .ok (.iand, 1) := by decide +kernel
theorem dX5_working_67 : decode cX5_working 67 = .ok (.goto 4, 3) := by decide +kernel
theorem dX5_working_70 : decode cX5_working 70 = .ok (.iload_n 1, 1) := by decide +kernel
theorem dX5_working_71 : decode cX5_working 71 = .ok (.istore_n 1, 1) := by decide +kernel
theorem dX5_working_72 : decode cX5_working 72 = .ok (.iinc 2 (-1), 3) := by decide +kernel
theorem dX5_working_75 : decode cX5_working 75 = .ok (.goto (-59), 3) := by decide +kernel
theorem dX5_working_78 : decode cX5_working 78 = .ok (.iload_n 1, 1) := by decide +kernel
theorem dX5_working_79 : decode cX5_working 79 = .ok (.ireturn, 1) := by decide +kernel
theorem dX5_isOver_0 : decode cX5_isOver 0 = .ok (.aload_n 0, 1) := by decide +kernel
theorem dX5_isOver_1 : decode cX5_isOver 1 = .ok (.getfield 90, 3) := by decide +kernel
theorem dX5_isOver_4 : decode cX5_isOver 4 = .ok (.bipush 9, 2) := by decide +kernel
theorem dX5_isOver_6 : decode cX5_isOver 6 = .ok (.if_icmp .ge 10, 3) := by decide +kernel
theorem dX5_isOver_9 : decode cX5_isOver 9 = .ok (.aload_n 0, 1) := by decide +kernel
theorem dX5_isOver_10 : decode cX5_isOver 10 = .ok (.getfield 135, 3) := by decide +kernel
theorem dX5_isOver_13 : decode cX5_isOver 13 = .ok (.ifCond .eq 7, 3) := by decide +kernel
theorem dX5_isOver_16 : decode cX5_isOver 16 = .ok (.iconst 1, 1) := by decide +kernel
theorem dX5_isOver_17 : decode cX5_isOver 17 = .ok (.goto 4, 3) := by decide +kernel
theorem dX5_isOver_20 : decode cX5_isOver 20 = .ok (.iconst 0, 1) := by decide +kernel
theorem dX5_isOver_21 : decode cX5_isOver 21 = .ok (.ireturn, 1) := by decide +kernel
theorem dX5_goHour_0 : decode cX5_goHour 0 = .ok (.aload_n 0, 1) := by decide +kernel
theorem dX5_goHour_1 : decode cX5_goHour 1 = .ok (.invokevirtual 138, 3) := by decide +kernel
theorem dX5_goHour_4 : decode cX5_goHour 4 = .ok (.istore_n 1, 1) := by decide +kernel
theorem dX5_goHour_5 : decode cX5_goHour 5 = .ok (.aload_n 0, 1) := by decide +kernel
theorem dX5_goHour_6 : decode cX5_goHour 6 = .ok (.iload_n 1, 1) := by decide +kernel
theorem dX5_goHour_7 : decode cX5_goHour 7 = .ok (.invokevirtual 132, 3) := by decide +kernel
theorem dX5_goHour_10 : decode cX5_goHour 10 = .ok (.istore_n 2, 1) := by decide +kernel
theorem dX5_goHour_11 : decode cX5_goHour 11 = .ok (.iload_n 2, 1) := by decide +kernel
theorem dX5_goHour_12 : decode cX5_goHour 12 = .ok (.aload_n 0, 1) := by decide +kernel
theorem dX5_goHour_13 : decode cX5_goHour 13 = .ok (.getfield 38, 3) := by decide +kernel
theorem dX5_goHour_16 : decode cX5_goHour 16 = .ok (.if_icmp .le 45, 3) := by decide +kernel
theorem dX5_goHour_19 : decode cX5_goHour 19 = .ok (.aload_n 0, 1) := by decide +kernel
theorem dX5_goHour_20 : decode cX5_goHour 20 = .ok (.getfield 38, 3) := by decide +kernel
theorem dX5_goHour_23 : decode cX5_goHour 23 = .ok (.istore_n 3, 1) := by decide +kernel
theorem dX5_goHour_24 : decode cX5_goHour 24 = .ok (.aload_n 0, 1) := by decide +kernel
theorem dX5_goHour_25 : decode cX5_goHour 25 = .ok (.dup, 1) := by decide +kernel
theorem dX5_goHour_26 : decode cX5_goHour 26 = .ok (.getfield 141, 3) := by decide +kernel
theorem dX5_goHour_29 : decode cX5_goHour 29 = .ok (.iload_n 3, 1) := by decide +kernel
theorem dX5_goHour_30 : decode cX5_goHour 30 = .ok (.iadd, 1) := by decide +kernel
theorem dX5_goHour_31 : decode cX5_goHour 31 = .ok (.putfield 141, 3) := by decide +kernel
theorem dX5_goHour_34 : decode cX5_goHour 34 = .ok (.aload_n 0, 1) := by decide +kernel
theorem dX5_goHour_35 : decode cX5_goHour 35 = .ok (.iconst 0, 1) := by decide +kernel
theorem dX5_goHour_36 : decode cX5_goHour 36 = .ok (.putfield 38, 3) := by decide +kernel
theorem dX5_goHour_39 : decode cX5_goHour 39 = .ok (.aload_n 0, 1) := by decide +kernel
theorem dX5_goHour_40 : decode cX5_goHour 40 = .ok (.iconst 1, 1) := by decide +kernel
theorem dX5_goHour_41 : decode cX5_goHour 41 = .ok (.putfield 135, 3) := by decide +kernel
theorem dX5_goHour_44 : decode cX5_goHour 44 = .ok (.aload_n 0, 1) := by decide +kernel
theorem dX5_goHour_45 : decode cX5_goHour 45 = .ok (.iconst 0, 1) := by decide +kernel
theorem dX5_goHour_46 : decode cX5_goHour 46 = .ok (.putfield 114, 3) := by decide +kernel
theorem dX5_goHour_49 : decode cX5_goHour 49 = .ok (.aload_n 0, 1) := by decide +kernel
theorem dX5_goHour_50 : decode cX5_goHour 50 = .ok (.dup, 1) := by decide +kernel
theorem dX5_goHour_51 : decode cX5_goHour 51 = .ok (.getfield 90, 3) := by decide +kernel
theorem dX5_goHour_54 : decode cX5_goHour 54 = .ok (.iconst 1, 1) := by decide +kernel
theorem dX5_goHour_55 : decode cX5_goHour 55 = .ok (.iadd, 1) := by decide +kernel
theorem dX5_goHour_56 : decode cX5_goHour 56 = .ok (.putfield 90, 3) := by decide +kernel
theorem dX5_goHour_59 : decode cX5_goHour 59 = .ok (.iload_n 3, 1) := by decide +kernel
theorem dX5_goHour_60 : decode cX5_goHour 60 = .ok (.ireturn, 1) := by decide +kernel
theorem dX5_goHour_61 : decode cX5_goHour 61 = .ok (.aload_n 0, 1) := by decide +kernel
theorem dX5_goHour_62 : decode cX5_goHour 62 = .ok (.iload_n 1, 1) := by decide +kernel
theorem dX5_goHour_63 : decode cX5_goHour 63 = .ok (.invokevirtual 126, 3) := by decide +kernel
theorem dX5_goHour_66 : decode cX5_goHour 66 = .ok (.istore_n 3, 1) := by decide +kernel
theorem dX5_goHour_67 : decode cX5_goHour 67 = .ok (.aload_n 0, 1) := by decide +kernel
theorem dX5_goHour_68 : decode cX5_goHour 68 = .ok (.dup, 1) := by decide +kernel
theorem dX5_goHour_69 : decode cX5_goHour 69 = .ok (.getfield 141, 3) := by decide +kernel
theorem dX5_goHour_72 : decode cX5_goHour 72 = .ok (.iload_n 2, 1) := by decide +kernel
theorem dX5_goHour_73 : decode cX5_goHour 73 = .ok (.iload_n 3, 1) := by decide +kernel
theorem dX5_goHour_74 : decode cX5_goHour 74 = .ok (.isub, 1) := by decide +kernel
theorem dX5_goHour_75 : decode cX5_goHour 75 = .ok (.iadd, 1) := by decide +kernel
theorem dX5_goHour_76 : decode cX5_goHour 76 = .ok (.putfield 141, 3) := by decide +kernel
theorem dX5_goHour_79 : decode cX5_goHour 79 = .ok (.iconst 0, 1) := by decide +kernel
theorem dX5_goHour_80 : decode cX5_goHour 80 = .ok (.istore 4, 2) := by decide +kernel
theorem dX5_goHour_82 : decode cX5_goHour 82 = .ok (.iload 4, 2) := by decide +kernel
theorem dX5_goHour_84 : decode cX5_goHour 84 = .ok (.aload_n 0, 1) := by decide +kernel
theorem dX5_goHour_85 : decode cX5_goHour 85 = .ok (.getfield 75, 3) := by decide +kernel
theorem dX5_goHour_88 : decode cX5_goHour 88 = .ok (.if_icmp .ge 38, 3) := by decide +kernel
theorem dX5_goHour_91 : decode cX5_goHour 91 = .ok (.aload_n 0, 1) := by decide +kernel
theorem dX5_goHour_92 : decode cX5_goHour 92 = .ok (.getfield 28, 3) := by decide +kernel
theorem dX5_goHour_95 : decode cX5_goHour 95 = .ok (.iload 4, 2) := by decide +kernel
theorem dX5_goHour_97 : decode cX5_goHour 97 = .ok (.dup2, 1) := by decide +kernel
theorem dX5_goHour_98 : decode cX5_goHour 98 = .ok (.iaload, 1) := by decide +kernel
theorem dX5_goHour_99 : decode cX5_goHour 99 = .ok (.iload_n 1, 1) := by decide +kernel
theorem dX5_goHour_100 : decode cX5_goHour 100 = .ok (.iload 4, 2) := by decide +kernel
theorem dX5_goHour_102 : decode cX5_goHour 102 = .ok (.invokestatic 96, 3) := by decide +kernel
theorem dX5_goHour_105 : decode cX5_goHour 105 = .ok (.ifCond .eq 12, 3) := by decide +kernel
theorem dX5_goHour_108 : decode cX5_goHour 108 = .ok (.aload_n 0, 1) := by decide +kernel
theorem dX5_goHour_109 : decode cX5_goHour 109 = .ok (.iload 4, 2) := by decide +kernel
theorem dX5_goHour_111 : decode cX5_goHour 111 = .ok (.invokevirtual 117, 3) := by decide +kernel
theorem dX5_goHour_114 : decode cX5_goHour 114 = .ok (.goto 4, 3) := by decide +kernel
theorem dX5_goHour_117 : decode cX5_goHour 117 = .ok (.iconst 0, 1) := by decide +kernel
theorem dX5_goHour_118 : decode cX5_goHour 118 = .ok (.iadd, 1) := by decide +kernel
theorem dX5_goHour_119 : decode cX5_goHour 119 = .ok (.iastore, 1) := by decide +kernel
theorem dX5_goHour_120 : decode cX5_goHour 120 = .ok (.iinc 4 1, 3) := by decide +kernel
theorem dX5_goHour_123 : decode cX5_goHour 123 = .ok (.goto (-41), 3) := by decide +kernel
theorem dX5_goHour_126 : decode cX5_goHour 126 = .ok (.aload_n 0, 1) := by decide +kernel
theorem dX5_goHour_127 : decode cX5_goHour 127 = .ok (.dup, 1) := by decide +kernel
theorem dX5_goHour_128 : decode cX5_goHour 128 = .ok (.getfield 38, 3) := by decide +kernel
theorem dX5_goHour_131 : decode cX5_goHour 131 = .ok (.iload_n 2, 1) := by decide +kernel
theorem dX5_goHour_132 : decode cX5_goHour 132 = .ok (.isub, 1) := by decide +kernel
theorem dX5_goHour_133 : decode cX5_goHour 133 = .ok (.putfield 38, 3) := by decide +kernel
theorem dX5_goHour_136 : decode cX5_goHour 136 = .ok (.aload_n 0, 1) := by decide +kernel
theorem dX5_goHour_137 : decode cX5_goHour 137 = .ok (.iload_n 1, 1) := by decide +kernel
theorem dX5_goHour_138 : decode cX5_goHour 138 = .ok (.putfield 114, 3) := by decide +kernel
theorem dX5_goHour_141 : decode cX5_goHour 141 = .ok (.aload_n 0, 1) := by decide +kernel
theorem dX5_goHour_142 : decode cX5_goHour 142 = .ok (.dup, 1) := by decide +kernel
theorem dX5_goHour_143 : decode cX5_goHour 143 = .ok (.getfield 90, 3) := by decide +kernel
theorem dX5_goHour_146 : decode cX5_goHour 146 = .ok (.iconst 1, 1) := by decide +kernel
theorem dX5_goHour_147 : decode cX5_goHour 147 = .ok (.iadd, 1) := by decide +kernel
theorem dX5_goHour_148 : decode cX5_goHour 148 = .ok (.putfield 90, 3) := by decide +kernel
theorem dX5_goHour_151 : decode cX5_goHour 151 = .ok (.iload_n 2, 1) := by decide +kernel
theorem dX5_goHour_152 : decode cX5_goHour 152 = .ok (.ireturn, 1) := by decide +kernel
theorem dX5_hour_0 : decode cX5_hour 0 = .ok (.aload_n 0, 1) := by decide +kernel
theorem dX5_hour_1 : decode cX5_hour 1 = .ok (.invokevirtual 144, 3) := by decide +kernel
theorem dX5_hour_4 : decode cX5_hour 4 = .ok (.ifCond .eq 8, 3) := by decide +kernel
theorem dX5_hour_7 : decode cX5_hour 7 = .ok (.bipush (-103), 2) := by decide +kernel
theorem dX5_hour_9 : decode cX5_hour 9 = .ok (.goto 7, 3) := by decide +kernel
theorem dX5_hour_12 : decode cX5_hour 12 = .ok (.aload_n 0, 1) := by decide +kernel
theorem dX5_hour_13 : decode cX5_hour 13 = .ok (.invokevirtual 148, 3) := by decide +kernel
theorem dX5_hour_16 : decode cX5_hour 16 = .ok (.ireturn, 1) := by decide +kernel
theorem dX5_worked_0 : decode cX5_worked 0 = .ok (.aload_n 0, 1) := by decide +kernel
theorem dX5_worked_1 : decode cX5_worked 1 = .ok (.getfield 114, 3) := by decide +kernel
theorem dX5_worked_4 : decode cX5_worked 4 = .ok (.ireturn, 1) := by decide +kernel
theorem dX5_takenAll_0 : decode cX5_takenAll 0 = .ok (.iconst 0, 1) := by decide +kernel
theorem dX5_takenAll_1 : decode cX5_takenAll 1 = .ok (.istore_n 1, 1) := by decide +kernel
theorem dX5_takenAll_2 : decode cX5_takenAll 2 = .ok (.iconst 0, 1) := by decide +kernel
theorem dX5_takenAll_3 : decode cX5_takenAll 3 = .ok (.istore_n 2, 1) := by decide +kernel
theorem dX5_takenAll_4 : decode cX5_takenAll 4 = .ok (.iload_n 2, 1) := by decide +kernel
theorem dX5_takenAll_5 : decode cX5_takenAll 5 = .ok (.aload_n 0, 1) := by decide +kernel
theorem dX5_takenAll_6 : decode cX5_takenAll 6 = .ok (.getfield 75, 3) := by decide +kernel
theorem dX5_takenAll_9 : decode cX5_takenAll 9 = .ok (.if_icmp .ge 18, 3) := by decide +kernel
theorem dX5_takenAll_12 : decode cX5_takenAll 12 = .ok (.iload_n 1, 1) := by decide +kernel
theorem dX5_takenAll_13 : decode cX5_takenAll 13 = .ok (.aload_n 0, 1) := by decide +kernel
theorem dX5_takenAll_14 : decode cX5_takenAll 14 = .ok (.getfield 28, 3) := by decide +kernel
theorem dX5_takenAll_17 : decode cX5_takenAll 17 = .ok (.iload_n 2, 1) := by decide +kernel
theorem dX5_takenAll_18 : decode cX5_takenAll 18 = .ok (.iaload, 1) := by decide +kernel
theorem dX5_takenAll_19 : decode cX5_takenAll 19 = .ok (.iadd, 1) := by decide +kernel
theorem dX5_takenAll_20 : decode cX5_takenAll 20 = .ok (.istore_n 1, 1) := by decide +kernel
theorem dX5_takenAll_21 : decode cX5_takenAll 21 = .ok (.iinc 2 1, 3) := by decide +kernel
theorem dX5_takenAll_24 : decode cX5_takenAll 24 = .ok (.goto (-20), 3) := by decide +kernel
theorem dX5_takenAll_27 : decode cX5_takenAll 27 = .ok (.iload_n 1, 1) := by decide +kernel
theorem dX5_takenAll_28 : decode cX5_takenAll 28 = .ok (.ireturn, 1) := by decide +kernel
theorem dX5_partOf_0 : decode cX5_partOf 0 = .ok (.aload_n 0, 1) := by decide +kernel
theorem dX5_partOf_1 : decode cX5_partOf 1 = .ok (.invokevirtual 151, 3) := by decide +kernel
theorem dX5_partOf_4 : decode cX5_partOf 4 = .ok (.istore_n 2, 1) := by decide +kernel
theorem dX5_partOf_5 : decode cX5_partOf 5 = .ok (.aload_n 0, 1) := by decide +kernel
theorem dX5_partOf_6 : decode cX5_partOf 6 = .ok (.getfield 34, 3) := by decide +kernel
theorem dX5_partOf_9 : decode cX5_partOf 9 = .ok (.aload_n 0, 1) := by decide +kernel
theorem dX5_partOf_10 : decode cX5_partOf 10 = .ok (.getfield 38, 3) := by decide +kernel
theorem dX5_partOf_13 : decode cX5_partOf 13 = .ok (.isub, 1) := by decide +kernel
theorem dX5_partOf_14 : decode cX5_partOf 14 = .ok (.istore_n 3, 1) := by decide +kernel
theorem dX5_partOf_15 : decode cX5_partOf 15 = .ok (.iload_n 2, 1) := by decide +kernel
theorem dX5_partOf_16 : decode cX5_partOf 16 = .ok (.ifCond .ne 5, 3) := by decide +kernel
theorem dX5_partOf_19 : decode cX5_partOf 19 = .ok (.iconst 0, 1) := by decide +kernel
theorem dX5_partOf_20 : decode cX5_partOf 20 = .ok (.ireturn, 1) := by decide +kernel
theorem dX5_partOf_21 : decode cX5_partOf 21 = .ok (.iconst 0, 1) := by decide +kernel
theorem dX5_partOf_22 : decode cX5_partOf 22 = .ok (.istore 4, 2) := by decide +kernel
theorem dX5_partOf_24 : decode cX5_partOf 24 = .ok (.iconst 0, 1) := by decide +kernel
theorem dX5_partOf_25 : decode cX5_partOf 25 = .ok (.istore 5, 2) := by decide +kernel
theorem dX5_partOf_27 : decode cX5_partOf 27 = .ok (.iconst 0, 1) := by decide +kernel
theorem dX5_partOf_28 : decode cX5_partOf 28 = .ok (.istore 6, 2) := by decide +kernel
theorem dX5_partOf_30 : decode cX5_partOf 30 = .ok (.iload 6, 2) := by decide +kernel
theorem dX5_partOf_32 : decode cX5_partOf 32 = .ok (.aload_n 0, 1) := by decide +kernel
theorem dX5_partOf_33 : decode cX5_partOf 33 = .ok (.getfield 75, 3) := by decide +kernel
theorem dX5_partOf_36 : decode cX5_partOf 36 = .ok (.if_icmp .ge 80, 3) := by decide +kernel
theorem dX5_partOf_39 : decode cX5_partOf 39 = .ok (.iload 4, 2) := by decide +kernel
theorem dX5_partOf_41 : decode cX5_partOf 41 = .ok (.iload_n 3, 1) := by decide +kernel
theorem dX5_partOf_42 : decode cX5_partOf 42 = .ok (.aload_n 0, 1) := by decide +kernel
theorem dX5_partOf_43 : decode cX5_partOf 43 = .ok (.getfield 28, 3) := by decide +kernel
theorem dX5_partOf_46 : decode cX5_partOf 46 = .ok (.iload 6, 2) := by decide +kernel
theorem dX5_partOf_48 : decode cX5_partOf 48 = .ok (.iaload, 1) := by decide +kernel
theorem dX5_partOf_49 : decode cX5_partOf 49 = .ok (.imul, 1) := by decide +kernel
theorem dX5_partOf_50 : decode cX5_partOf 50 = .ok (.iload_n 2, 1) := by decide +kernel
theorem dX5_partOf_51 : decode cX5_partOf 51 = .ok (.idiv, 1) := by decide +kernel
theorem dX5_partOf_52 : decode cX5_partOf 52 = .ok (.iadd, 1) := by decide +kernel
theorem dX5_partOf_53 : decode cX5_partOf 53 = .ok (.istore 4, 2) := by decide +kernel
theorem dX5_partOf_55 : decode cX5_partOf 55 = .ok (.iload_n 3, 1) := by decide +kernel
theorem dX5_partOf_56 : decode cX5_partOf 56 = .ok (.aload_n 0, 1) := by decide +kernel
theorem dX5_partOf_57 : decode cX5_partOf 57 = .ok (.getfield 28, 3) := by decide +kernel
theorem dX5_partOf_60 : decode cX5_partOf 60 = .ok (.iload 6, 2) := by decide +kernel
theorem dX5_partOf_62 : decode cX5_partOf 62 = .ok (.iaload, 1) := by decide +kernel
theorem dX5_partOf_63 : decode cX5_partOf 63 = .ok (.imul, 1) := by decide +kernel
theorem dX5_partOf_64 : decode cX5_partOf 64 = .ok (.iload_n 2, 1) := by decide +kernel
theorem dX5_partOf_65 : decode cX5_partOf 65 = .ok (.irem, 1) := by decide +kernel
theorem dX5_partOf_66 : decode cX5_partOf 66 = .ok (.istore 7, 2) := by decide +kernel
theorem dX5_partOf_68 : decode cX5_partOf 68 = .ok (.iload_n 3, 1) := by decide +kernel
theorem dX5_partOf_69 : decode cX5_partOf 69 = .ok (.aload_n 0, 1) := by decide +kernel
theorem dX5_partOf_70 : decode cX5_partOf 70 = .ok (.getfield 28, 3) := by decide +kernel
theorem dX5_partOf_73 : decode cX5_partOf 73 = .ok (.iload_n 1, 1) := by decide +kernel
theorem dX5_partOf_74 : decode cX5_partOf 74 = .ok (.iaload, 1) := by decide +kernel
theorem dX5_partOf_75 : decode cX5_partOf 75 = .ok (.imul, 1) := by decide +kernel
theorem dX5_partOf_76 : decode cX5_partOf 76 = .ok (.iload_n 2, 1) := by decide +kernel
theorem dX5_partOf_77 : decode cX5_partOf 77 = .ok (.irem, 1) := by decide +kernel
theorem dX5_partOf_78 : decode cX5_partOf 78 = .ok (.istore 8, 2) := by decide +kernel
theorem dX5_partOf_80 : decode cX5_partOf 80 = .ok (.iload 5, 2) := by decide +kernel
theorem dX5_partOf_82 : decode cX5_partOf 82 = .ok (.iload 7, 2) := by decide +kernel
theorem dX5_partOf_84 : decode cX5_partOf 84 = .ok (.iload 8, 2) := by decide +kernel
theorem dX5_partOf_86 : decode cX5_partOf 86 = .ok (.if_icmp .gt 16, 3) := by decide +kernel
theorem dX5_partOf_89 : decode cX5_partOf 89 = .ok (.iload 7, 2) := by decide +kernel
theorem dX5_partOf_91 : decode cX5_partOf 91 = .ok (.iload 8, 2) := by decide +kernel
theorem dX5_partOf_93 : decode cX5_partOf 93 = .ok (.if_icmp .ne 13, 3) := by decide +kernel
theorem dX5_partOf_96 : decode cX5_partOf 96 = .ok (.iload 6, 2) := by decide +kernel
theorem dX5_partOf_98 : decode cX5_partOf 98 = .ok (.iload_n 1, 1) := by decide +kernel
theorem dX5_partOf_99 : decode cX5_partOf 99 = .ok (.if_icmp .ge 7, 3) := by decide +kernel
theorem dX5_partOf_102 : decode cX5_partOf 102 = .ok (.iconst 1, 1) := by decide +kernel
theorem dX5_partOf_103 : decode cX5_partOf 103 = .ok (.goto 4, 3) := by decide +kernel
theorem dX5_partOf_106 : decode cX5_partOf 106 = .ok (.iconst 0, 1) := by decide +kernel
theorem dX5_partOf_107 : decode cX5_partOf 107 = .ok (.iadd, 1) := by decide +kernel
theorem dX5_partOf_108 : decode cX5_partOf 108 = .ok (.istore 5, 2) := by decide +kernel
theorem dX5_partOf_110 : decode cX5_partOf 110 = .ok (.iinc 6 1, 3) := by decide +kernel
theorem dX5_partOf_113 : decode cX5_partOf 113 = .ok (.goto (-83), 3) := by decide +kernel
theorem dX5_partOf_116 : decode cX5_partOf 116 = .ok (.iload_n 3, 1) := by decide +kernel
theorem dX5_partOf_117 : decode cX5_partOf 117 = .ok (.aload_n 0, 1) := by decide +kernel
theorem dX5_partOf_118 : decode cX5_partOf 118 = .ok (.getfield 28, 3) := by decide +kernel
theorem dX5_partOf_121 : decode cX5_partOf 121 = .ok (.iload_n 1, 1) := by decide +kernel
theorem dX5_partOf_122 : decode cX5_partOf 122 = .ok (.iaload, 1) := by decide +kernel
theorem dX5_partOf_123 : decode cX5_partOf 123 = .ok (.imul, 1) := by decide +kernel
theorem dX5_partOf_124 : decode cX5_partOf 124 = .ok (.iload_n 2, 1) := by decide +kernel
theorem dX5_partOf_125 : decode cX5_partOf 125 = .ok (.idiv, 1) := by decide +kernel
theorem dX5_partOf_126 : decode cX5_partOf 126 = .ok (.iload 5, 2) := by decide +kernel
theorem dX5_partOf_128 : decode cX5_partOf 128 = .ok (.iload_n 3, 1) := by decide +kernel
theorem dX5_partOf_129 : decode cX5_partOf 129 = .ok (.iload 4, 2) := by decide +kernel
theorem dX5_partOf_131 : decode cX5_partOf 131 = .ok (.isub, 1) := by decide +kernel
theorem dX5_partOf_132 : decode cX5_partOf 132 = .ok (.if_icmp .ge 7, 3) := by decide +kernel
theorem dX5_partOf_135 : decode cX5_partOf 135 = .ok (.iconst 1, 1) := by decide +kernel
theorem dX5_partOf_136 : decode cX5_partOf 136 = .ok (.goto 4, 3) := by decide +kernel
theorem dX5_partOf_139 : decode cX5_partOf 139 = .ok (.iconst 0, 1) := by decide +kernel
theorem dX5_partOf_140 : decode cX5_partOf 140 = .ok (.iadd, 1) := by decide +kernel
theorem dX5_partOf_141 : decode cX5_partOf 141 = .ok (.ireturn, 1) := by decide +kernel
theorem dX5_part_0 : decode cX5_part 0 = .ok (.aload_n 0, 1) := by decide +kernel
theorem dX5_part_1 : decode cX5_part 1 = .ok (.iload_n 1, 1) := by decide +kernel
theorem dX5_part_2 : decode cX5_part 2 = .ok (.invokevirtual 99, 3) := by decide +kernel
theorem dX5_part_5 : decode cX5_part 5 = .ok (.ifCond .eq 11, 3) := by decide +kernel
theorem dX5_part_8 : decode cX5_part 8 = .ok (.aload_n 0, 1) := by decide +kernel
theorem dX5_part_9 : decode cX5_part 9 = .ok (.iload_n 1, 1) := by decide +kernel
theorem dX5_part_10 : decode cX5_part 10 = .ok (.invokevirtual 154, 3) := by decide +kernel
theorem dX5_part_13 : decode cX5_part 13 = .ok (.goto 5, 3) := by decide +kernel
theorem dX5_part_16 : decode cX5_part 16 = .ok (.bipush (-101), 2) := by decide +kernel
theorem dX5_part_18 : decode cX5_part 18 = .ok (.ireturn, 1) := by decide +kernel
theorem dX5_night_0 : decode cX5_night 0 = .ok (.aload_n 0, 1) := by decide +kernel
theorem dX5_night_1 : decode cX5_night 1 = .ok (.getfield 34, 3) := by decide +kernel
theorem dX5_night_4 : decode cX5_night 4 = .ok (.aload_n 0, 1) := by decide +kernel
theorem dX5_night_5 : decode cX5_night 5 = .ok (.getfield 38, 3) := by decide +kernel
theorem dX5_night_8 : decode cX5_night 8 = .ok (.isub, 1) := by decide +kernel
theorem dX5_night_9 : decode cX5_night 9 = .ok (.istore_n 1, 1) := by decide +kernel
theorem dX5_night_10 : decode cX5_night 10 = .ok (.iconst 0, 1) := by decide +kernel
theorem dX5_night_11 : decode cX5_night 11 = .ok (.istore_n 2, 1) := by decide +kernel
theorem dX5_night_12 : decode cX5_night 12 = .ok (.iload_n 2, 1) := by decide +kernel
theorem dX5_night_13 : decode cX5_night 13 = .ok (.aload_n 0, 1) := by decide +kernel
theorem dX5_night_14 : decode cX5_night 14 = .ok (.getfield 75, 3) := by decide +kernel
theorem dX5_night_17 : decode cX5_night 17 = .ok (.if_icmp .ge 42, 3) := by decide +kernel
theorem dX5_night_20 : decode cX5_night 20 = .ok (.aload_n 0, 1) := by decide +kernel
theorem dX5_night_21 : decode cX5_night 21 = .ok (.getfield 31, 3) := by decide +kernel
theorem dX5_night_24 : decode cX5_night 24 = .ok (.iload_n 2, 1) := by decide +kernel
theorem dX5_night_25 : decode cX5_night 25 = .ok (.iaload, 1) := by decide +kernel
theorem dX5_night_26 : decode cX5_night 26 = .ok (.aload_n 0, 1) := by decide +kernel
theorem dX5_night_27 : decode cX5_night 27 = .ok (.iload_n 2, 1) := by decide +kernel
theorem dX5_night_28 : decode cX5_night 28 = .ok (.invokevirtual 154, 3) := by decide +kernel
theorem dX5_night_31 : decode cX5_night 31 = .ok (.iadd, 1) := by decide +kernel
theorem dX5_night_32 : decode cX5_night 32 = .ok (.istore_n 3, 1) := by decide +kernel
theorem dX5_night_33 : decode cX5_night 33 = .ok (.aload_n 0, 1) := by decide +kernel
theorem dX5_night_34 : decode cX5_night 34 = .ok (.getfield 31, 3) := by decide +kernel
theorem dX5_night_37 : decode cX5_night 37 = .ok (.iload_n 2, 1) := by decide +kernel
theorem dX5_night_38 : decode cX5_night 38 = .ok (.iload_n 3, 1) := by decide +kernel
theorem dX5_night_39 : decode cX5_night 39 = .ok (.sipush 999, 3) := by decide +kernel
theorem dX5_night_42 : decode cX5_night 42 = .ok (.if_icmp .le 9, 3) := by decide +kernel
theorem dX5_night_45 : decode cX5_night 45 = .ok (.sipush 999, 3) := by decide +kernel
theorem dX5_night_48 : decode cX5_night 48 = .ok (.goto 4, 3) := by decide +kernel
theorem dX5_night_51 : decode cX5_night 51 = .ok (.iload_n 3, 1) := by decide +kernel
theorem dX5_night_52 : decode cX5_night 52 = .ok (.iastore, 1) := by decide +kernel
theorem dX5_night_53 : decode cX5_night 53 = .ok (.iinc 2 1, 3) := by decide +kernel
theorem dX5_night_56 : decode cX5_night 56 = .ok (.goto (-44), 3) := by decide +kernel
theorem dX5_night_59 : decode cX5_night 59 = .ok (.iconst 0, 1) := by decide +kernel
theorem dX5_night_60 : decode cX5_night 60 = .ok (.istore_n 2, 1) := by decide +kernel
theorem dX5_night_61 : decode cX5_night 61 = .ok (.iload_n 2, 1) := by decide +kernel
theorem dX5_night_62 : decode cX5_night 62 = .ok (.aload_n 0, 1) := by decide +kernel
theorem dX5_night_63 : decode cX5_night 63 = .ok (.getfield 75, 3) := by decide +kernel
theorem dX5_night_66 : decode cX5_night 66 = .ok (.if_icmp .ge 16, 3) := by decide +kernel
theorem dX5_night_69 : decode cX5_night 69 = .ok (.aload_n 0, 1) := by decide +kernel
theorem dX5_night_70 : decode cX5_night 70 = .ok (.getfield 28, 3) := by decide +kernel
theorem dX5_night_73 : decode cX5_night 73 = .ok (.iload_n 2, 1) := by decide +kernel
theorem dX5_night_74 : decode cX5_night 74 = .ok (.iconst 0, 1) := by decide +kernel
theorem dX5_night_75 : decode cX5_night 75 = .ok (.iastore, 1) := by decide +kernel
theorem dX5_night_76 : decode cX5_night 76 = .ok (.iinc 2 1, 3) := by decide +kernel
theorem dX5_night_79 : decode cX5_night 79 = .ok (.goto (-18), 3) := by decide +kernel
theorem dX5_night_82 : decode cX5_night 82 = .ok (.aload_n 0, 1) := by decide +kernel
theorem dX5_night_83 : decode cX5_night 83 = .ok (.iconst 0, 1) := by decide +kernel
theorem dX5_night_84 : decode cX5_night 84 = .ok (.putfield 90, 3) := by decide +kernel
theorem dX5_night_87 : decode cX5_night 87 = .ok (.aload_n 0, 1) := by decide +kernel
theorem dX5_night_88 : decode cX5_night 88 = .ok (.aload_n 0, 1) := by decide +kernel
theorem dX5_night_89 : decode cX5_night 89 = .ok (.getfield 34, 3) := by decide +kernel
theorem dX5_night_92 : decode cX5_night 92 = .ok (.putfield 38, 3) := by decide +kernel
theorem dX5_night_95 : decode cX5_night 95 = .ok (.aload_n 0, 1) := by decide +kernel
theorem dX5_night_96 : decode cX5_night 96 = .ok (.iconst 0, 1) := by decide +kernel
theorem dX5_night_97 : decode cX5_night 97 = .ok (.putfield 141, 3) := by decide +kernel
theorem dX5_night_100 : decode cX5_night 100 = .ok (.aload_n 0, 1) := by decide +kernel
theorem dX5_night_101 : decode cX5_night 101 = .ok (.iconst 0, 1) := by decide +kernel
theorem dX5_night_102 : decode cX5_night 102 = .ok (.putfield 114, 3) := by decide +kernel
theorem dX5_night_105 : decode cX5_night 105 = .ok (.aload_n 0, 1) := by decide +kernel
theorem dX5_night_106 : decode cX5_night 106 = .ok (.iconst 0, 1) := by decide +kernel
theorem dX5_night_107 : decode cX5_night 107 = .ok (.putfield 135, 3) := by decide +kernel
theorem dX5_night_110 : decode cX5_night 110 = .ok (.iload_n 1, 1) := by decide +kernel
theorem dX5_night_111 : decode cX5_night 111 = .ok (.ireturn, 1) := by decide +kernel
theorem dX5_save_0 : decode cX5_save 0 = .ok (.iconst 0, 1) := by decide +kernel
theorem dX5_save_1 : decode cX5_save 1 = .ok (.istore_n 1, 1) := by decide +kernel
theorem dX5_save_2 : decode cX5_save 2 = .ok (.iload_n 1, 1) := by decide +kernel
theorem dX5_save_3 : decode cX5_save 3 = .ok (.bipush 8, 2) := by decide +kernel
theorem dX5_save_5 : decode cX5_save 5 = .ok (.if_icmp .ge 21, 3) := by decide +kernel
theorem dX5_save_8 : decode cX5_save 8 = .ok (.aload_n 0, 1) := by decide +kernel
theorem dX5_save_9 : decode cX5_save 9 = .ok (.getfield 51, 3) := by decide +kernel
theorem dX5_save_12 : decode cX5_save 12 = .ok (.iload_n 1, 1) := by decide +kernel
theorem dX5_save_13 : decode cX5_save 13 = .ok (.aload_n 0, 1) := by decide +kernel
theorem dX5_save_14 : decode cX5_save 14 = .ok (.getfield 28, 3) := by decide +kernel
theorem dX5_save_17 : decode cX5_save 17 = .ok (.iload_n 1, 1) := by decide +kernel
theorem dX5_save_18 : decode cX5_save 18 = .ok (.iaload, 1) := by decide +kernel
theorem dX5_save_19 : decode cX5_save 19 = .ok (.iastore, 1) := by decide +kernel
theorem dX5_save_20 : decode cX5_save 20 = .ok (.iinc 1 1, 3) := by decide +kernel
theorem dX5_save_23 : decode cX5_save 23 = .ok (.goto (-21), 3) := by decide +kernel
theorem dX5_save_26 : decode cX5_save 26 = .ok (.aload_n 0, 1) := by decide +kernel
theorem dX5_save_27 : decode cX5_save 27 = .ok (.aload_n 0, 1) := by decide +kernel
theorem dX5_save_28 : decode cX5_save 28 = .ok (.getfield 93, 3) := by decide +kernel
theorem dX5_save_31 : decode cX5_save 31 = .ok (.putfield 157, 3) := by decide +kernel
theorem dX5_save_34 : decode cX5_save 34 = .ok (.aload_n 0, 1) := by decide +kernel
theorem dX5_save_35 : decode cX5_save 35 = .ok (.aload_n 0, 1) := by decide +kernel
theorem dX5_save_36 : decode cX5_save 36 = .ok (.getfield 38, 3) := by decide +kernel
theorem dX5_save_39 : decode cX5_save 39 = .ok (.putfield 160, 3) := by decide +kernel
theorem dX5_save_42 : decode cX5_save 42 = .ok (.aload_n 0, 1) := by decide +kernel
theorem dX5_save_43 : decode cX5_save 43 = .ok (.aload_n 0, 1) := by decide +kernel
theorem dX5_save_44 : decode cX5_save 44 = .ok (.getfield 90, 3) := by decide +kernel
theorem dX5_save_47 : decode cX5_save 47 = .ok (.putfield 163, 3) := by decide +kernel
theorem dX5_save_50 : decode cX5_save 50 = .ok (.aload_n 0, 1) := by decide +kernel
theorem dX5_save_51 : decode cX5_save 51 = .ok (.aload_n 0, 1) := by decide +kernel
theorem dX5_save_52 : decode cX5_save 52 = .ok (.getfield 141, 3) := by decide +kernel
theorem dX5_save_55 : decode cX5_save 55 = .ok (.putfield 166, 3) := by decide +kernel
theorem dX5_save_58 : decode cX5_save 58 = .ok (.aload_n 0, 1) := by decide +kernel
theorem dX5_save_59 : decode cX5_save 59 = .ok (.aload_n 0, 1) := by decide +kernel
theorem dX5_save_60 : decode cX5_save 60 = .ok (.getfield 114, 3) := by decide +kernel
theorem dX5_save_63 : decode cX5_save 63 = .ok (.putfield 169, 3) := by decide +kernel
theorem dX5_save_66 : decode cX5_save 66 = .ok (.aload_n 0, 1) := by decide +kernel
theorem dX5_save_67 : decode cX5_save 67 = .ok (.aload_n 0, 1) := by decide +kernel
theorem dX5_save_68 : decode cX5_save 68 = .ok (.getfield 135, 3) := by decide +kernel
theorem dX5_save_71 : decode cX5_save 71 = .ok (.putfield 172, 3) := by decide +kernel
theorem dX5_save_74 : decode cX5_save 74 = .ok (.aload_n 0, 1) := by decide +kernel
theorem dX5_save_75 : decode cX5_save 75 = .ok (.aload_n 0, 1) := by decide +kernel
theorem dX5_save_76 : decode cX5_save 76 = .ok (.getfield 107, 3) := by decide +kernel
theorem dX5_save_79 : decode cX5_save 79 = .ok (.putfield 175, 3) := by decide +kernel
theorem dX5_save_82 : decode cX5_save 82 = .ok (.return_, 1) := by decide +kernel
theorem dX5_back_0 : decode cX5_back 0 = .ok (.iconst 0, 1) := by decide +kernel
theorem dX5_back_1 : decode cX5_back 1 = .ok (.istore_n 1, 1) := by decide +kernel
theorem dX5_back_2 : decode cX5_back 2 = .ok (.iload_n 1, 1) := by decide +kernel
theorem dX5_back_3 : decode cX5_back 3 = .ok (.bipush 8, 2) := by decide +kernel
theorem dX5_back_5 : decode cX5_back 5 = .ok (.if_icmp .ge 21, 3) := by decide +kernel
theorem dX5_back_8 : decode cX5_back 8 = .ok (.aload_n 0, 1) := by decide +kernel
theorem dX5_back_9 : decode cX5_back 9 = .ok (.getfield 28, 3) := by decide +kernel
theorem dX5_back_12 : decode cX5_back 12 = .ok (.iload_n 1, 1) := by decide +kernel
theorem dX5_back_13 : decode cX5_back 13 = .ok (.aload_n 0, 1) := by decide +kernel
theorem dX5_back_14 : decode cX5_back 14 = .ok (.getfield 51, 3) := by decide +kernel
theorem dX5_back_17 : decode cX5_back 17 = .ok (.iload_n 1, 1) := by decide +kernel
theorem dX5_back_18 : decode cX5_back 18 = .ok (.iaload, 1) := by decide +kernel
theorem dX5_back_19 : decode cX5_back 19 = .ok (.iastore, 1) := by decide +kernel
theorem dX5_back_20 : decode cX5_back 20 = .ok (.iinc 1 1, 3) := by decide +kernel
theorem dX5_back_23 : decode cX5_back 23 = .ok (.goto (-21), 3) := by decide +kernel
theorem dX5_back_26 : decode cX5_back 26 = .ok (.aload_n 0, 1) := by decide +kernel
theorem dX5_back_27 : decode cX5_back 27 = .ok (.aload_n 0, 1) := by decide +kernel
theorem dX5_back_28 : decode cX5_back 28 = .ok (.getfield 157, 3) := by decide +kernel
theorem dX5_back_31 : decode cX5_back 31 = .ok (.putfield 93, 3) := by decide +kernel
theorem dX5_back_34 : decode cX5_back 34 = .ok (.aload_n 0, 1) := by decide +kernel
theorem dX5_back_35 : decode cX5_back 35 = .ok (.aload_n 0, 1) := by decide +kernel
theorem dX5_back_36 : decode cX5_back 36 = .ok (.getfield 160, 3) := by decide +kernel
theorem dX5_back_39 : decode cX5_back 39 = .ok (.putfield 38, 3) := by decide +kernel
theorem dX5_back_42 : decode cX5_back 42 = .ok (.aload_n 0, 1) := by decide +kernel
theorem dX5_back_43 : decode cX5_back 43 = .ok (.aload_n 0, 1) := by decide +kernel
theorem dX5_back_44 : decode cX5_back 44 = .ok (.getfield 163, 3) := by decide +kernel
theorem dX5_back_47 : decode cX5_back 47 = .ok (.putfield 90, 3) := by decide +kernel
theorem dX5_back_50 : decode cX5_back 50 = .ok (.aload_n 0, 1) := by decide +kernel
theorem dX5_back_51 : decode cX5_back 51 = .ok (.aload_n 0, 1) := by decide +kernel
theorem dX5_back_52 : decode cX5_back 52 = .ok (.getfield 166, 3) := by decide +kernel
theorem dX5_back_55 : decode cX5_back 55 = .ok (.putfield 141, 3) := by decide +kernel
theorem dX5_back_58 : decode cX5_back 58 = .ok (.aload_n 0, 1) := by decide +kernel
theorem dX5_back_59 : decode cX5_back 59 = .ok (.aload_n 0, 1) := by decide +kernel
theorem dX5_back_60 : decode cX5_back 60 = .ok (.getfield 169, 3) := by decide +kernel
theorem dX5_back_63 : decode cX5_back 63 = .ok (.putfield 114, 3) := by decide +kernel
theorem dX5_back_66 : decode cX5_back 66 = .ok (.aload_n 0, 1) := by decide +kernel
theorem dX5_back_67 : decode cX5_back 67 = .ok (.aload_n 0, 1) := by decide +kernel
theorem dX5_back_68 : decode cX5_back 68 = .ok (.getfield 172, 3) := by decide +kernel
theorem dX5_back_71 : decode cX5_back 71 = .ok (.putfield 135, 3) := by decide +kernel
theorem dX5_back_74 : decode cX5_back 74 = .ok (.aload_n 0, 1) := by decide +kernel
theorem dX5_back_75 : decode cX5_back 75 = .ok (.aload_n 0, 1) := by decide +kernel
theorem dX5_back_76 : decode cX5_back 76 = .ok (.getfield 175, 3) := by decide +kernel
theorem dX5_back_79 : decode cX5_back 79 = .ok (.putfield 107, 3) := by decide +kernel
theorem dX5_back_82 : decode cX5_back 82 = .ok (.return_, 1) := by decide +kernel
theorem dX5_takenOn_0 : decode cX5_takenOn 0 = .ok (.aload_n 0, 1) := by decide +kernel
theorem dX5_takenOn_1 : decode cX5_takenOn 1 = .ok (.invokevirtual 178, 3) := by decide +kernel
theorem dX5_takenOn_4 : decode cX5_takenOn 4 = .ok (.aload_n 0, 1) := by decide +kernel
theorem dX5_takenOn_5 : decode cX5_takenOn 5 = .ok (.invokevirtual 151, 3) := by decide +kernel
theorem dX5_takenOn_8 : decode cX5_takenOn 8 = .ok (.istore_n 3, 1) := by decide +kernel
theorem dX5_takenOn_9 : decode cX5_takenOn 9 = .ok (.aload_n 0, 1) := by decide +kernel
theorem dX5_takenOn_10 : decode cX5_takenOn 10 = .ok (.iload_n 1, 1) := by decide +kernel
theorem dX5_takenOn_11 : decode cX5_takenOn 11 = .ok (.putfield 93, 3) := by decide +kernel
theorem dX5_takenOn_14 : decode cX5_takenOn 14 = .ok (.aload_n 0, 1) := by decide +kernel
theorem dX5_takenOn_15 : decode cX5_takenOn 15 = .ok (.dup, 1) := by decide +kernel
theorem dX5_takenOn_16 : decode cX5_takenOn 16 = .ok (.getfield 38, 3) := by decide +kernel
theorem dX5_takenOn_19 : decode cX5_takenOn 19 = .ok (.iload_n 2, 1) := by decide +kernel
theorem dX5_takenOn_20 : decode cX5_takenOn 20 = .ok (.iadd, 1) := by decide +kernel
theorem dX5_takenOn_21 : decode cX5_takenOn 21 = .ok (.putfield 38, 3) := by decide +kernel
theorem dX5_takenOn_24 : decode cX5_takenOn 24 = .ok (.aload_n 0, 1) := by decide +kernel
theorem dX5_takenOn_25 : decode cX5_takenOn 25 = .ok (.invokevirtual 144, 3) := by decide +kernel
theorem dX5_takenOn_28 : decode cX5_takenOn 28 = .ok (.ifCond .ne 11, 3) := by decide +kernel
theorem dX5_takenOn_31 : decode cX5_takenOn 31 = .ok (.aload_n 0, 1) := by decide +kernel
theorem dX5_takenOn_32 : decode cX5_takenOn 32 = .ok (.invokevirtual 148, 3) := by decide +kernel
theorem dX5_takenOn_35 : decode cX5_takenOn 35 = .ok (.pop, 1) := by decide +kernel
theorem dX5_takenOn_36 : decode cX5_takenOn 36 = .ok (.goto (-12), 3) := by decide +kernel
theorem dX5_takenOn_39 : decode cX5_takenOn 39 = .ok (.aload_n 0, 1) := by decide +kernel
theorem dX5_takenOn_40 : decode cX5_takenOn 40 = .ok (.invokevirtual 151, 3) := by decide +kernel
theorem dX5_takenOn_43 : decode cX5_takenOn 43 = .ok (.iload_n 3, 1) := by decide +kernel
theorem dX5_takenOn_44 : decode cX5_takenOn 44 = .ok (.isub, 1) := by decide +kernel
theorem dX5_takenOn_45 : decode cX5_takenOn 45 = .ok (.istore 4, 2) := by decide +kernel
theorem dX5_takenOn_47 : decode cX5_takenOn 47 = .ok (.aload_n 0, 1) := by decide +kernel
theorem dX5_takenOn_48 : decode cX5_takenOn 48 = .ok (.invokevirtual 181, 3) := by decide +kernel
theorem dX5_takenOn_51 : decode cX5_takenOn 51 = .ok (.iload 4, 2) := by decide +kernel
theorem dX5_takenOn_53 : decode cX5_takenOn 53 = .ok (.ireturn, 1) := by decide +kernel
theorem dX5_planNow_0 : decode cX5_planNow 0 = .ok (.iconst 0, 1) := by decide +kernel
theorem dX5_planNow_1 : decode cX5_planNow 1 = .ok (.istore_n 2, 1) := by decide +kernel
theorem dX5_planNow_2 : decode cX5_planNow 2 = .ok (.aload_n 0, 1) := by decide +kernel
theorem dX5_planNow_3 : decode cX5_planNow 3 = .ok (.iconst 0, 1) := by decide +kernel
theorem dX5_planNow_4 : decode cX5_planNow 4 = .ok (.iconst 0, 1) := by decide +kernel
theorem dX5_planNow_5 : decode cX5_planNow 5 = .ok (.invokevirtual 184, 3) := by decide +kernel
theorem dX5_planNow_8 : decode cX5_planNow 8 = .ok (.istore_n 3, 1) := by decide +kernel
theorem dX5_planNow_9 : decode cX5_planNow 9 = .ok (.iconst 1, 1) := by decide +kernel
theorem dX5_planNow_10 : decode cX5_planNow 10 = .ok (.istore 4, 2) := by decide +kernel
theorem dX5_planNow_12 : decode cX5_planNow 12 = .ok (.iload 4, 2) := by decide +kernel
theorem dX5_planNow_14 : decode cX5_planNow 14 = .ok (.aload_n 0, 1) := by decide +kernel
theorem dX5_planNow_15 : decode cX5_planNow 15 = .ok (.invokevirtual 129, 3) := by decide +kernel
theorem dX5_planNow_18 : decode cX5_planNow 18 = .ok (.if_icmp .gt 73, 3) := by decide +kernel
theorem dX5_planNow_21 : decode cX5_planNow 21 = .ok (.aload_n 0, 1) := by decide +kernel
theorem dX5_planNow_22 : decode cX5_planNow 22 = .ok (.iload 4, 2) := by decide +kernel
theorem dX5_planNow_24 : decode cX5_planNow 24 = .ok (.iconst 0, 1) := by decide +kernel
theorem dX5_planNow_25 : decode cX5_planNow 25 = .ok (.invokevirtual 184, 3) := by decide +kernel
theorem dX5_planNow_28 : decode cX5_planNow 28 = .ok (.istore 5, 2) := by decide +kernel
theorem dX5_planNow_30 : decode cX5_planNow 30 = .ok (.iload 5, 2) := by decide +kernel
theorem dX5_planNow_32 : decode cX5_planNow 32 = .ok (.iload_n 3, 1) := by decide +kernel
theorem dX5_planNow_33 : decode cX5_planNow 33 = .ok (.if_icmp .gt 21, 3) := by decide +kernel
theorem dX5_planNow_36 : decode cX5_planNow 36 = .ok (.iload 5, 2) := by decide +kernel
theorem dX5_planNow_38 : decode cX5_planNow 38 = .ok (.iload_n 3, 1) := by decide +kernel
theorem dX5_planNow_39 : decode cX5_planNow 39 = .ok (.if_icmp .ne 19, 3) := by decide +kernel
theorem dX5_planNow_42 : decode cX5_planNow 42 = .ok (.iload 4, 2) := by decide +kernel
theorem dX5_planNow_44 : decode cX5_planNow 44 = .ok (.invokestatic 187, 3) := by decide +kernel
theorem dX5_planNow_47 : decode cX5_planNow 47 = .ok (.iload_n 2, 1) := by decide +kernel
theorem dX5_planNow_48 : decode cX5_planNow 48 = .ok (.invokestatic 187, 3) := by decide +kernel
theorem dX5_planNow_51 : decode cX5_planNow 51 = .ok (.if_icmp .ge 7, 3) := by decide +kernel
theorem dX5_planNow_54 : decode cX5_planNow 54 = .ok (.iconst 1, 1) := by decide +kernel
theorem dX5_planNow_55 : decode cX5_planNow 55 = .ok (.goto 4, 3) := by decide +kernel
theorem dX5_planNow_58 : decode cX5_planNow 58 = .ok (.iconst 0, 1) := by decide +kernel
theorem dX5_planNow_59 : decode cX5_planNow 59 = .ok (.istore 6, 2) := by decide +kernel
theorem dX5_planNow_61 : decode cX5_planNow 61 = .ok (.iload 6, 2) := by decide +kernel
theorem dX5_planNow_63 : decode cX5_planNow 63 = .ok (.ifCond .eq 8, 3) := by decide +kernel
theorem dX5_planNow_66 : decode cX5_planNow 66 = .ok (.iload 4, 2) := by decide +kernel
theorem dX5_planNow_68 : decode cX5_planNow 68 = .ok (.goto 4, 3) := by decide +kernel
theorem dX5_planNow_71 : decode cX5_planNow 71 = .ok (.iload_n 2, 1) := by decide +kernel
theorem dX5_planNow_72 : decode cX5_planNow 72 = .ok (.istore_n 2, 1) := by decide +kernel
theorem dX5_planNow_73 : decode cX5_planNow 73 = .ok (.iload 6, 2) := by decide +kernel
theorem dX5_planNow_75 : decode cX5_planNow 75 = .ok (.ifCond .eq 8, 3) := by decide +kernel
theorem dX5_planNow_78 : decode cX5_planNow 78 = .ok (.iload 5, 2) := by decide +kernel
theorem dX5_planNow_80 : decode cX5_planNow 80 = .ok (.goto 4, 3) := by decide +kernel
theorem dX5_planNow_83 : decode cX5_planNow 83 = .ok (.iload_n 3, 1) := by decide +kernel
theorem dX5_planNow_84 : decode cX5_planNow 84 = .ok (.istore_n 3, 1) := by decide +kernel
theorem dX5_planNow_85 : decode cX5_planNow 85 = .ok (.iinc 4 1, 3) := by decide +kernel
theorem dX5_planNow_88 : decode cX5_planNow 88 = .ok (.goto (-76), 3) := by decide +kernel
theorem dX5_planNow_91 : decode cX5_planNow 91 = .ok (.iload_n 1, 1) := by decide +kernel
theorem dX5_planNow_92 : decode cX5_planNow 92 = .ok (.ifCond .ne 7, 3) := by decide +kernel
theorem dX5_planNow_95 : decode cX5_planNow 95 = .ok (.iload_n 3, 1) := by decide +kernel
theorem dX5_planNow_96 : decode cX5_planNow 96 = .ok (.goto 4, 3) := by decide +kernel
theorem dX5_planNow_99 : decode cX5_planNow 99 = .ok (.iload_n 2, 1) := by decide +kernel
theorem dX5_planNow_100 : decode cX5_planNow 100 = .ok (.ireturn, 1) := by decide +kernel
theorem dX5_plan_0 : decode cX5_plan 0 = .ok (.iload_n 1, 1) := by decide +kernel
theorem dX5_plan_1 : decode cX5_plan 1 = .ok (.iconst 0, 1) := by decide +kernel
theorem dX5_plan_2 : decode cX5_plan 2 = .ok (.iconst 1, 1) := by decide +kernel
theorem dX5_plan_3 : decode cX5_plan 3 = .ok (.invokestatic 78, 3) := by decide +kernel
theorem dX5_plan_6 : decode cX5_plan 6 = .ok (.ifCond .eq 11, 3) := by decide +kernel
theorem dX5_plan_9 : decode cX5_plan 9 = .ok (.aload_n 0, 1) := by decide +kernel
theorem dX5_plan_10 : decode cX5_plan 10 = .ok (.iload_n 1, 1) := by decide +kernel
theorem dX5_plan_11 : decode cX5_plan 11 = .ok (.invokevirtual 190, 3) := by decide +kernel
theorem dX5_plan_14 : decode cX5_plan 14 = .ok (.goto 5, 3) := by decide +kernel
theorem dX5_plan_17 : decode cX5_plan 17 = .ok (.bipush (-102), 2) := by decide +kernel
theorem dX5_plan_19 : decode cX5_plan 19 = .ok (.ireturn, 1) := by decide +kernel
theorem dX5_moreNow_0 : decode cX5_moreNow 0 = .ok (.aload_n 0, 1) := by decide +kernel
theorem dX5_moreNow_1 : decode cX5_moreNow 1 = .ok (.aload_n 0, 1) := by decide +kernel
theorem dX5_moreNow_2 : decode cX5_moreNow 2 = .ok (.getfield 93, 3) := by decide +kernel
theorem dX5_moreNow_5 : decode cX5_moreNow 5 = .ok (.iload_n 1, 1) := by decide +kernel
theorem dX5_moreNow_6 : decode cX5_moreNow 6 = .ok (.invokevirtual 184, 3) := by decide +kernel
theorem dX5_moreNow_9 : decode cX5_moreNow 9 = .ok (.aload_n 0, 1) := by decide +kernel
theorem dX5_moreNow_10 : decode cX5_moreNow 10 = .ok (.aload_n 0, 1) := by decide +kernel
theorem dX5_moreNow_11 : decode cX5_moreNow 11 = .ok (.getfield 93, 3) := by decide +kernel
theorem dX5_moreNow_14 : decode cX5_moreNow 14 = .ok (.iconst 0, 1) := by decide +kernel
theorem dX5_moreNow_15 : decode cX5_moreNow 15 = .ok (.invokevirtual 184, 3) := by decide +kernel
theorem dX5_moreNow_18 : decode cX5_moreNow 18 = .ok (.isub, 1) := by decide +kernel
theorem dX5_moreNow_19 : decode cX5_moreNow 19 = .ok (.ireturn, 1) := by decide +kernel
theorem dX5_more_0 : decode cX5_more 0 = .ok (.iload_n 1, 1) := by decide +kernel
theorem dX5_more_1 : decode cX5_more 1 = .ok (.iconst 0, 1) := by decide +kernel
theorem dX5_more_2 : decode cX5_more 2 = .ok (.bipush 99, 2) := by decide +kernel
theorem dX5_more_4 : decode cX5_more 4 = .ok (.invokestatic 78, 3) := by decide +kernel
theorem dX5_more_7 : decode cX5_more 7 = .ok (.ifCond .eq 11, 3) := by decide +kernel
theorem dX5_more_10 : decode cX5_more 10 = .ok (.aload_n 0, 1) := by decide +kernel
theorem dX5_more_11 : decode cX5_more 11 = .ok (.iload_n 1, 1) := by decide +kernel
theorem dX5_more_12 : decode cX5_more 12 = .ok (.invokevirtual 193, 3) := by decide +kernel
theorem dX5_more_15 : decode cX5_more 15 = .ok (.goto 5, 3) := by decide +kernel
theorem dX5_more_18 : decode cX5_more 18 = .ok (.bipush (-102), 2) := by decide +kernel
theorem dX5_more_20 : decode cX5_more 20 = .ok (.ireturn, 1) := by decide +kernel
theorem dX5_sumOf_0 : decode cX5_sumOf 0 = .ok (.iconst 0, 1) := by decide +kernel
theorem dX5_sumOf_1 : decode cX5_sumOf 1 = .ok (.istore_n 2, 1) := by decide +kernel
theorem dX5_sumOf_2 : decode cX5_sumOf 2 = .ok (.iconst 0, 1) := by decide +kernel
theorem dX5_sumOf_3 : decode cX5_sumOf 3 = .ok (.istore_n 3, 1) := by decide +kernel
theorem dX5_sumOf_4 : decode cX5_sumOf 4 = .ok (.iload_n 3, 1) := by decide +kernel
