theorem dX5_sumOf_5 : decode cX5_sumOf 5 = .ok (.aload_n 0, 1) := by decide +kernel
theorem dX5_sumOf_6 : decode cX5_sumOf 6 = .ok (.getfield 75, 3) := by decide +kernel
theorem dX5_sumOf_9 : decode cX5_sumOf 9 = .ok (.if_icmp .ge 30, 3) := by decide +kernel
theorem dX5_sumOf_12 : decode cX5_sumOf 12 = .ok (.iload_n 2, 1) := by decide +kernel
theorem dX5_sumOf_13 : decode cX5_sumOf 13 = .ok (.iload_n 1, 1) := by decide +kernel
theorem dX5_sumOf_14 : decode cX5_sumOf 14 = .ok (.iload_n 3, 1) := by decide +kernel
theorem dX5_sumOf_15 : decode cX5_sumOf 15 = .ok (.invokestatic 96, 3) := by decide +kernel
theorem dX5_sumOf_18 : decode cX5_sumOf 18 = .ok (.ifCond .eq 12, 3) := by decide +kernel
theorem dX5_sumOf_21 : decode cX5_sumOf 21 = .ok (.aload_n 0, 1) := by decide +kernel
theorem dX5_sumOf_22 : decode cX5_sumOf 22 = .ok (.getfield 22, 3) := by decide +kernel
theorem dX5_sumOf_25 : decode cX5_sumOf 25 = .ok (.iload_n 3, 1) := by decide +kernel
theorem dX5_sumOf_26 : decode cX5_sumOf 26 = .ok (.iaload, 1) := by decide +kernel
theorem dX5_sumOf_27 : decode cX5_sumOf 27 = .ok (.goto 4, 3) := by decide +kernel
theorem dX5_sumOf_30 : decode cX5_sumOf 30 = .ok (.iconst 0, 1) := by decide +kernel
theorem dX5_sumOf_31 : decode cX5_sumOf 31 = .ok (.iadd, 1) := by decide +kernel
theorem dX5_sumOf_32 : decode cX5_sumOf 32 = .ok (.istore_n 2, 1) := by decide +kernel
theorem dX5_sumOf_33 : decode cX5_sumOf 33 = .ok (.iinc 3 1, 3) := by decide +kernel
theorem dX5_sumOf_36 : decode cX5_sumOf 36 = .ok (.goto (-32), 3) := by decide +kernel
theorem dX5_sumOf_39 : decode cX5_sumOf 39 = .ok (.iload_n 2, 1) := by decide +kernel
theorem dX5_sumOf_40 : decode cX5_sumOf 40 = .ok (.ireturn, 1) := by decide +kernel
theorem dX5_missing_0 : decode cX5_missing 0 = .ok (.iload_n 1, 1) := by decide +kernel
theorem dX5_missing_1 : decode cX5_missing 1 = .ok (.iconst 1, 1) := by decide +kernel
theorem dX5_missing_2 : decode cX5_missing 2 = .ok (.bipush 72, 2) := by decide +kernel
theorem dX5_missing_4 : decode cX5_missing 4 = .ok (.invokestatic 78, 3) := by decide +kernel
theorem dX5_missing_7 : decode cX5_missing 7 = .ok (.ifCond .eq 12, 3) := by decide +kernel
theorem dX5_missing_10 : decode cX5_missing 10 = .ok (.iload_n 2, 1) := by decide +kernel
theorem dX5_missing_11 : decode cX5_missing 11 = .ok (.iconst 0, 1) := by decide +kernel
theorem dX5_missing_12 : decode cX5_missing 12 = .ok (.iconst 2, 1) := by decide +kernel
theorem dX5_missing_13 : decode cX5_missing 13 = .ok (.invokestatic 78, 3) := by decide +kernel
theorem dX5_missing_16 : decode cX5_missing 16 = .ok (.ifCond .ne 6, 3) := by decide +kernel
theorem dX5_missing_19 : decode cX5_missing 19 = .ok (.bipush (-102), 2) := by decide +kernel
theorem dX5_missing_21 : decode cX5_missing 21 = .ok (.ireturn, 1) := by decide +kernel
theorem dX5_missing_22 : decode cX5_missing 22 = .ok (.iconst 0, 1) := by decide +kernel
theorem dX5_missing_23 : decode cX5_missing 23 = .ok (.istore_n 3, 1) := by decide +kernel
theorem dX5_missing_24 : decode cX5_missing 24 = .ok (.iconst 0, 1) := by decide +kernel
theorem dX5_missing_25 : decode cX5_missing 25 = .ok (.istore 4, 2) := by decide +kernel
theorem dX5_missing_27 : decode cX5_missing 27 = .ok (.iload 4, 2) := by decide +kernel
theorem dX5_missing_29 : decode cX5_missing 29 = .ok (.aload_n 0, 1) := by decide +kernel
theorem dX5_missing_30 : decode cX5_missing 30 = .ok (.getfield 75, 3) := by decide +kernel
theorem dX5_missing_33 : decode cX5_missing 33 = .ok (.if_icmp .ge 29, 3) := by decide +kernel
theorem dX5_missing_36 : decode cX5_missing 36 = .ok (.iload_n 3, 1) := by decide +kernel
theorem dX5_missing_37 : decode cX5_missing 37 = .ok (.aload_n 0, 1) := by decide +kernel
theorem dX5_missing_38 : decode cX5_missing 38 = .ok (.iload 4, 2) := by decide +kernel
theorem dX5_missing_40 : decode cX5_missing 40 = .ok (.invokevirtual 111, 3) := by decide +kernel
theorem dX5_missing_43 : decode cX5_missing 43 = .ok (.ifCond .eq 10, 3) := by decide +kernel
theorem dX5_missing_46 : decode cX5_missing 46 = .ok (.iconst 1, 1) := by decide +kernel
theorem dX5_missing_47 : decode cX5_missing 47 = .ok (.iload 4, 2) := by decide +kernel
theorem dX5_missing_49 : decode cX5_missing 49 = .ok (.ishl, 1) := by decide +kernel
theorem dX5_missing_50 : decode cX5_missing 50 = .ok (.goto 4, 3) := by decide +kernel
theorem dX5_missing_53 : decode cX5_missing 53 = .ok (.iconst 0, 1) := by decide +kernel
theorem dX5_missing_54 : decode cX5_missing 54 = .ok (.ior, 1) := by decide +kernel
theorem dX5_missing_55 : decode cX5_missing 55 = .ok (.istore_n 3, 1) := by decide +kernel
theorem dX5_missing_56 : decode cX5_missing 56 = .ok (.iinc 4 1, 3) := by decide +kernel
theorem dX5_missing_59 : decode cX5_missing 59 = .ok (.goto (-32), 3) := by decide +kernel
theorem dX5_missing_62 : decode cX5_missing 62 = .ok (.iconst 0, 1) := by decide +kernel
theorem dX5_missing_63 : decode cX5_missing 63 = .ok (.istore 4, 2) := by decide +kernel
theorem dX5_missing_65 : decode cX5_missing 65 = .ok (.aload_n 0, 1) := by decide +kernel
theorem dX5_missing_66 : decode cX5_missing 66 = .ok (.invokevirtual 129, 3) := by decide +kernel
theorem dX5_missing_69 : decode cX5_missing 69 = .ok (.istore 5, 2) := by decide +kernel
theorem dX5_missing_71 : decode cX5_missing 71 = .ok (.iconst 0, 1) := by decide +kernel
theorem dX5_missing_72 : decode cX5_missing 72 = .ok (.istore 6, 2) := by decide +kernel
theorem dX5_missing_74 : decode cX5_missing 74 = .ok (.iconst 1, 1) := by decide +kernel
theorem dX5_missing_75 : decode cX5_missing 75 = .ok (.istore 7, 2) := by decide +kernel
theorem dX5_missing_77 : decode cX5_missing 77 = .ok (.iload 7, 2) := by decide +kernel
theorem dX5_missing_79 : decode cX5_missing 79 = .ok (.aload_n 0, 1) := by decide +kernel
theorem dX5_missing_80 : decode cX5_missing 80 = .ok (.invokevirtual 129, 3) := by decide +kernel
theorem dX5_missing_83 : decode cX5_missing 83 = .ok (.if_icmp .gt 45, 3) := by decide +kernel
theorem dX5_missing_86 : decode cX5_missing 86 = .ok (.iload 7, 2) := by decide +kernel
theorem dX5_missing_88 : decode cX5_missing 88 = .ok (.iload_n 3, 1) := by decide +kernel
theorem dX5_missing_89 : decode cX5_missing 89 = .ok (.iconst (-1), 1) := by decide +kernel
theorem dX5_missing_90 : decode cX5_missing 90 = .ok (.ixor, 1) := by decide +kernel
theorem dX5_missing_91 : decode cX5_missing 91 = .ok (.iand, 1) := by decide +kernel
theorem dX5_missing_92 : decode cX5_missing 92 = .ok (.ifCond .ne 30, 3) := by decide +kernel
theorem dX5_missing_95 : decode cX5_missing 95 = .ok (.aload_n 0, 1) := by decide +kernel
theorem dX5_missing_96 : decode cX5_missing 96 = .ok (.iload 7, 2) := by decide +kernel
theorem dX5_missing_98 : decode cX5_missing 98 = .ok (.invokevirtual 196, 3) := by decide +kernel
theorem dX5_missing_101 : decode cX5_missing 101 = .ok (.iload_n 1, 1) := by decide +kernel
theorem dX5_missing_102 : decode cX5_missing 102 = .ok (.if_icmp .ne 20, 3) := by decide +kernel
theorem dX5_missing_105 : decode cX5_missing 105 = .ok (.iinc 4 1, 3) := by decide +kernel
theorem dX5_missing_108 : decode cX5_missing 108 = .ok (.iload 5, 2) := by decide +kernel
theorem dX5_missing_110 : decode cX5_missing 110 = .ok (.iload 7, 2) := by decide +kernel
theorem dX5_missing_112 : decode cX5_missing 112 = .ok (.iand, 1) := by decide +kernel
theorem dX5_missing_113 : decode cX5_missing 113 = .ok (.istore 5, 2) := by decide +kernel
theorem dX5_missing_115 : decode cX5_missing 115 = .ok (.iload 6, 2) := by decide +kernel
theorem dX5_missing_117 : decode cX5_missing 117 = .ok (.iload 7, 2) := by decide +kernel
theorem dX5_missing_119 : decode cX5_missing 119 = .ok (.ior, 1) := by decide +kernel
theorem dX5_missing_120 : decode cX5_missing 120 = .ok (.istore 6, 2) := by decide +kernel
theorem dX5_missing_122 : decode cX5_missing 122 = .ok (.iinc 7 1, 3) := by decide +kernel
theorem dX5_missing_125 : decode cX5_missing 125 = .ok (.goto (-48), 3) := by decide +kernel
theorem dX5_missing_128 : decode cX5_missing 128 = .ok (.iload_n 2, 1) := by decide +kernel
theorem dX5_missing_129 : decode cX5_missing 129 = .ok (.ifCond .ne 8, 3) := by decide +kernel
theorem dX5_missing_132 : decode cX5_missing 132 = .ok (.iload 4, 2) := by decide +kernel
theorem dX5_missing_134 : decode cX5_missing 134 = .ok (.goto 24, 3) := by decide +kernel
theorem dX5_missing_137 : decode cX5_missing 137 = .ok (.iload_n 2, 1) := by decide +kernel
theorem dX5_missing_138 : decode cX5_missing 138 = .ok (.iconst 2, 1) := by decide +kernel
theorem dX5_missing_139 : decode cX5_missing 139 = .ok (.if_icmp .ne 8, 3) := by decide +kernel
theorem dX5_missing_142 : decode cX5_missing 142 = .ok (.iload 6, 2) := by decide +kernel
theorem dX5_missing_144 : decode cX5_missing 144 = .ok (.goto 14, 3) := by decide +kernel
theorem dX5_missing_147 : decode cX5_missing 147 = .ok (.iload 4, 2) := by decide +kernel
theorem dX5_missing_149 : decode cX5_missing 149 = .ok (.ifCond .ne 7, 3) := by decide +kernel
theorem dX5_missing_152 : decode cX5_missing 152 = .ok (.iconst 0, 1) := by decide +kernel
theorem dX5_missing_153 : decode cX5_missing 153 = .ok (.goto 5, 3) := by decide +kernel
theorem dX5_missing_156 : decode cX5_missing 156 = .ok (.iload 5, 2) := by decide +kernel
theorem dX5_missing_158 : decode cX5_missing 158 = .ok (.ireturn, 1) := by decide +kernel
theorem dX5_draw_0 : decode cX5_draw 0 = .ok (.aload_n 0, 1) := by decide +kernel
theorem dX5_draw_1 : decode cX5_draw 1 = .ok (.ldc2_w 199, 3) := by decide +kernel
theorem dX5_draw_4 : decode cX5_draw 4 = .ok (.aload_n 0, 1) := by decide +kernel
theorem dX5_draw_5 : decode cX5_draw 5 = .ok (.getfield 201, 3) := by decide +kernel
theorem dX5_draw_8 : decode cX5_draw 8 = .ok (.lmul, 1) := by decide +kernel
theorem dX5_draw_9 : decode cX5_draw 9 = .ok (.ldc2_w 205, 3) := by decide +kernel
theorem dX5_draw_12 : decode cX5_draw 12 = .ok (.ladd, 1) := by decide +kernel
theorem dX5_draw_13 : decode cX5_draw 13 = .ok (.ldc2_w 207, 3) := by decide +kernel
theorem dX5_draw_16 : decode cX5_draw 16 = .ok (.land, 1) := by decide +kernel
theorem dX5_draw_17 : decode cX5_draw 17 = .ok (.putfield 201, 3) := by decide +kernel
theorem dX5_draw_20 : decode cX5_draw 20 = .ok (.aload_n 0, 1) := by decide +kernel
theorem dX5_draw_21 : decode cX5_draw 21 = .ok (.getfield 201, 3) := by decide +kernel
theorem dX5_draw_24 : decode cX5_draw 24 = .ok (.ldc2_w 209, 3) := by decide +kernel
theorem dX5_draw_27 : decode cX5_draw 27 = .ok (.ldiv, 1) := by decide +kernel
theorem dX5_draw_28 : decode cX5_draw 28 = .ok (.iload_n 1, 1) := by decide +kernel
theorem dX5_draw_29 : decode cX5_draw 29 = .ok (.i2l, 1) := by decide +kernel
theorem dX5_draw_30 : decode cX5_draw 30 = .ok (.lrem, 1) := by decide +kernel
theorem dX5_draw_31 : decode cX5_draw 31 = .ok (.l2i, 1) := by decide +kernel
theorem dX5_draw_32 : decode cX5_draw 32 = .ok (.ireturn, 1) := by decide +kernel
theorem dX5_rest_0 : decode cX5_rest 0 = .ok (.iload_n 1, 1) := by decide +kernel
theorem dX5_rest_1 : decode cX5_rest 1 = .ok (.ifCond .lt 12, 3) := by decide +kernel
theorem dX5_rest_4 : decode cX5_rest 4 = .ok (.iload_n 2, 1) := by decide +kernel
theorem dX5_rest_5 : decode cX5_rest 5 = .ok (.iconst 0, 1) := by decide +kernel
theorem dX5_rest_6 : decode cX5_rest 6 = .ok (.iconst 3, 1) := by decide +kernel
theorem dX5_rest_7 : decode cX5_rest 7 = .ok (.invokestatic 78, 3) := by decide +kernel
theorem dX5_rest_10 : decode cX5_rest 10 = .ok (.ifCond .ne 6, 3) := by decide +kernel
theorem dX5_rest_13 : decode cX5_rest 13 = .ok (.bipush (-102), 2) := by decide +kernel
theorem dX5_rest_15 : decode cX5_rest 15 = .ok (.ireturn, 1) := by decide +kernel
theorem dX5_rest_16 : decode cX5_rest 16 = .ok (.aload_n 0, 1) := by decide +kernel
theorem dX5_rest_17 : decode cX5_rest 17 = .ok (.invokevirtual 178, 3) := by decide +kernel
theorem dX5_rest_20 : decode cX5_rest 20 = .ok (.aload_n 0, 1) := by decide +kernel
theorem dX5_rest_21 : decode cX5_rest 21 = .ok (.iload_n 1, 1) := by decide +kernel
theorem dX5_rest_22 : decode cX5_rest 22 = .ok (.i2l, 1) := by decide +kernel
theorem dX5_rest_23 : decode cX5_rest 23 = .ok (.putfield 201, 3) := by decide +kernel
theorem dX5_rest_26 : decode cX5_rest 26 = .ok (.aload_n 0, 1) := by decide +kernel
theorem dX5_rest_27 : decode cX5_rest 27 = .ok (.invokevirtual 151, 3) := by decide +kernel
theorem dX5_rest_30 : decode cX5_rest 30 = .ok (.istore_n 3, 1) := by decide +kernel
theorem dX5_rest_31 : decode cX5_rest 31 = .ok (.iconst (-1), 1) := by decide +kernel
theorem dX5_rest_32 : decode cX5_rest 32 = .ok (.istore 4, 2) := by decide +kernel
theorem dX5_rest_34 : decode cX5_rest 34 = .ok (.aload_n 0, 1) := by decide +kernel
theorem dX5_rest_35 : decode cX5_rest 35 = .ok (.invokevirtual 144, 3) := by decide +kernel
theorem dX5_rest_38 : decode cX5_rest 38 = .ok (.ifCond .ne 47, 3) := by decide +kernel
theorem dX5_rest_41 : decode cX5_rest 41 = .ok (.aload_n 0, 1) := by decide +kernel
theorem dX5_rest_42 : decode cX5_rest 42 = .ok (.aload_n 0, 1) := by decide +kernel
theorem dX5_rest_43 : decode cX5_rest 43 = .ok (.iconst 3, 1) := by decide +kernel
theorem dX5_rest_44 : decode cX5_rest 44 = .ok (.invokevirtual 211, 3) := by decide +kernel
theorem dX5_rest_47 : decode cX5_rest 47 = .ok (.ifCond .ne 7, 3) := by decide +kernel
theorem dX5_rest_50 : decode cX5_rest 50 = .ok (.iconst 1, 1) := by decide +kernel
theorem dX5_rest_51 : decode cX5_rest 51 = .ok (.goto 4, 3) := by decide +kernel
theorem dX5_rest_54 : decode cX5_rest 54 = .ok (.iconst 0, 1) := by decide +kernel
theorem dX5_rest_55 : decode cX5_rest 55 = .ok (.putfield 107, 3) := by decide +kernel
theorem dX5_rest_58 : decode cX5_rest 58 = .ok (.aload_n 0, 1) := by decide +kernel
theorem dX5_rest_59 : decode cX5_rest 59 = .ok (.invokevirtual 148, 3) := by decide +kernel
theorem dX5_rest_62 : decode cX5_rest 62 = .ok (.pop, 1) := by decide +kernel
theorem dX5_rest_63 : decode cX5_rest 63 = .ok (.aload_n 0, 1) := by decide +kernel
theorem dX5_rest_64 : decode cX5_rest 64 = .ok (.getfield 135, 3) := by decide +kernel
theorem dX5_rest_67 : decode cX5_rest 67 = .ok (.ifCond .eq 12, 3) := by decide +kernel
theorem dX5_rest_70 : decode cX5_rest 70 = .ok (.aload_n 0, 1) := by decide +kernel
theorem dX5_rest_71 : decode cX5_rest 71 = .ok (.getfield 90, 3) := by decide +kernel
theorem dX5_rest_74 : decode cX5_rest 74 = .ok (.iconst 1, 1) := by decide +kernel
theorem dX5_rest_75 : decode cX5_rest 75 = .ok (.isub, 1) := by decide +kernel
theorem dX5_rest_76 : decode cX5_rest 76 = .ok (.goto 4, 3) := by decide +kernel
theorem dX5_rest_79 : decode cX5_rest 79 = .ok (.iconst (-1), 1) := by decide +kernel
theorem dX5_rest_80 : decode cX5_rest 80 = .ok (.istore 4, 2) := by decide +kernel
theorem dX5_rest_82 : decode cX5_rest 82 = .ok (.goto (-48), 3) := by decide +kernel
theorem dX5_rest_85 : decode cX5_rest 85 = .ok (.aload_n 0, 1) := by decide +kernel
theorem dX5_rest_86 : decode cX5_rest 86 = .ok (.invokevirtual 151, 3) := by decide +kernel
theorem dX5_rest_89 : decode cX5_rest 89 = .ok (.iload_n 3, 1) := by decide +kernel
theorem dX5_rest_90 : decode cX5_rest 90 = .ok (.isub, 1) := by decide +kernel
theorem dX5_rest_91 : decode cX5_rest 91 = .ok (.istore 5, 2) := by decide +kernel
theorem dX5_rest_93 : decode cX5_rest 93 = .ok (.aload_n 0, 1) := by decide +kernel
theorem dX5_rest_94 : decode cX5_rest 94 = .ok (.getfield 38, 3) := by decide +kernel
theorem dX5_rest_97 : decode cX5_rest 97 = .ok (.istore 6, 2) := by decide +kernel
theorem dX5_rest_99 : decode cX5_rest 99 = .ok (.aload_n 0, 1) := by decide +kernel
theorem dX5_rest_100 : decode cX5_rest 100 = .ok (.invokevirtual 181, 3) := by decide +kernel
theorem dX5_rest_103 : decode cX5_rest 103 = .ok (.iload_n 2, 1) := by decide +kernel
theorem dX5_rest_104 : decode cX5_rest 104 = .ok (.ifCond .ne 8, 3) := by decide +kernel
theorem dX5_rest_107 : decode cX5_rest 107 = .ok (.iload 5, 2) := by decide +kernel
theorem dX5_rest_109 : decode cX5_rest 109 = .ok (.goto 28, 3) := by decide +kernel
theorem dX5_rest_112 : decode cX5_rest 112 = .ok (.iload_n 2, 1) := by decide +kernel
theorem dX5_rest_113 : decode cX5_rest 113 = .ok (.iconst 1, 1) := by decide +kernel
theorem dX5_rest_114 : decode cX5_rest 114 = .ok (.if_icmp .ne 8, 3) := by decide +kernel
theorem dX5_rest_117 : decode cX5_rest 117 = .ok (.iload 6, 2) := by decide +kernel
theorem dX5_rest_119 : decode cX5_rest 119 = .ok (.goto 18, 3) := by decide +kernel
theorem dX5_rest_122 : decode cX5_rest 122 = .ok (.iload_n 2, 1) := by decide +kernel
theorem dX5_rest_123 : decode cX5_rest 123 = .ok (.iconst 2, 1) := by decide +kernel
theorem dX5_rest_124 : decode cX5_rest 124 = .ok (.if_icmp .ne 8, 3) := by decide +kernel
theorem dX5_rest_127 : decode cX5_rest 127 = .ok (.iload 4, 2) := by decide +kernel
theorem dX5_rest_129 : decode cX5_rest 129 = .ok (.goto 8, 3) := by decide +kernel
theorem dX5_rest_132 : decode cX5_rest 132 = .ok (.aload_n 0, 1) := by decide +kernel
theorem dX5_rest_133 : decode cX5_rest 133 = .ok (.getfield 201, 3) := by decide +kernel
theorem dX5_rest_136 : decode cX5_rest 136 = .ok (.l2i, 1) := by decide +kernel
theorem dX5_rest_137 : decode cX5_rest 137 = .ok (.ireturn, 1) := by decide +kernel
theorem dX5_read_0 : decode cX5_read 0 = .ok (.iload_n 1, 1) := by decide +kernel
theorem dX5_read_1 : decode cX5_read 1 = .ok (.iconst 1, 1) := by decide +kernel
theorem dX5_read_2 : decode cX5_read 2 = .ok (.aload_n 0, 1) := by decide +kernel
theorem dX5_read_3 : decode cX5_read 3 = .ok (.invokevirtual 129, 3) := by decide +kernel
theorem dX5_read_6 : decode cX5_read 6 = .ok (.invokestatic 78, 3) := by decide +kernel
theorem dX5_read_9 : decode cX5_read 9 = .ok (.ifCond .eq 14, 3) := by decide +kernel
theorem dX5_read_12 : decode cX5_read 12 = .ok (.iload_n 2, 1) := by decide +kernel
theorem dX5_read_13 : decode cX5_read 13 = .ok (.iconst 1, 1) := by decide +kernel
theorem dX5_read_14 : decode cX5_read 14 = .ok (.sipush 199, 3) := by decide +kernel
theorem dX5_read_17 : decode cX5_read 17 = .ok (.invokestatic 78, 3) := by decide +kernel
theorem dX5_read_20 : decode cX5_read 20 = .ok (.ifCond .ne 6, 3) := by decide +kernel
theorem dX5_read_23 : decode cX5_read 23 = .ok (.bipush (-102), 2) := by decide +kernel
theorem dX5_read_25 : decode cX5_read 25 = .ok (.ireturn, 1) := by decide +kernel
theorem dX5_read_26 : decode cX5_read 26 = .ok (.aload_n 0, 1) := by decide +kernel
theorem dX5_read_27 : decode cX5_read 27 = .ok (.getfield 214, 3) := by decide +kernel
theorem dX5_read_30 : decode cX5_read 30 = .ok (.bipush 8, 2) := by decide +kernel
theorem dX5_read_32 : decode cX5_read 32 = .ok (.if_icmp .ne 6, 3) := by decide +kernel
theorem dX5_read_35 : decode cX5_read 35 = .ok (.bipush (-104), 2) := by decide +kernel
theorem dX5_read_37 : decode cX5_read 37 = .ok (.ireturn, 1) := by decide +kernel
theorem dX5_read_38 : decode cX5_read 38 = .ok (.aload_n 0, 1) := by decide +kernel
theorem dX5_read_39 : decode cX5_read 39 = .ok (.getfield 41, 3) := by decide +kernel
theorem dX5_read_42 : decode cX5_read 42 = .ok (.aload_n 0, 1) := by decide +kernel
theorem dX5_read_43 : decode cX5_read 43 = .ok (.getfield 214, 3) := by decide +kernel
theorem dX5_read_46 : decode cX5_read 46 = .ok (.iload_n 1, 1) := by decide +kernel
theorem dX5_read_47 : decode cX5_read 47 = .ok (.iastore, 1) := by decide +kernel
theorem dX5_read_48 : decode cX5_read 48 = .ok (.aload_n 0, 1) := by decide +kernel
theorem dX5_read_49 : decode cX5_read 49 = .ok (.getfield 44, 3) := by decide +kernel
theorem dX5_read_52 : decode cX5_read 52 = .ok (.aload_n 0, 1) := by decide +kernel
theorem dX5_read_53 : decode cX5_read 53 = .ok (.getfield 214, 3) := by decide +kernel
theorem dX5_read_56 : decode cX5_read 56 = .ok (.iload_n 2, 1) := by decide +kernel
theorem dX5_read_57 : decode cX5_read 57 = .ok (.iastore, 1) := by decide +kernel
theorem dX5_read_58 : decode cX5_read 58 = .ok (.aload_n 0, 1) := by decide +kernel
theorem dX5_read_59 : decode cX5_read 59 = .ok (.dup, 1) := by decide +kernel
theorem dX5_read_60 : decode cX5_read 60 = .ok (.getfield 214, 3) := by decide +kernel
theorem dX5_read_63 : decode cX5_read 63 = .ok (.iconst 1, 1) := by decide +kernel
theorem dX5_read_64 : decode cX5_read 64 = .ok (.iadd, 1) := by decide +kernel
theorem dX5_read_65 : decode cX5_read 65 = .ok (.putfield 214, 3) := by decide +kernel
theorem dX5_read_68 : decode cX5_read 68 = .ok (.aload_n 0, 1) := by decide +kernel
theorem dX5_read_69 : decode cX5_read 69 = .ok (.getfield 214, 3) := by decide +kernel
theorem dX5_read_72 : decode cX5_read 72 = .ok (.ireturn, 1) := by decide +kernel
theorem dX5_wipe_0 : decode cX5_wipe 0 = .ok (.aload_n 0, 1) := by decide +kernel
theorem dX5_wipe_1 : decode cX5_wipe 1 = .ok (.getfield 214, 3) := by decide +kernel
theorem dX5_wipe_4 : decode cX5_wipe 4 = .ok (.istore_n 1, 1) := by decide +kernel
theorem dX5_wipe_5 : decode cX5_wipe 5 = .ok (.aload_n 0, 1) := by decide +kernel
theorem dX5_wipe_6 : decode cX5_wipe 6 = .ok (.iconst 0, 1) := by decide +kernel
theorem dX5_wipe_7 : decode cX5_wipe 7 = .ok (.putfield 214, 3) := by decide +kernel
theorem dX5_wipe_10 : decode cX5_wipe 10 = .ok (.iload_n 1, 1) := by decide +kernel
theorem dX5_wipe_11 : decode cX5_wipe 11 = .ok (.ireturn, 1) := by decide +kernel
theorem dX5_feetBy_0 : decode cX5_feetBy 0 = .ok (.aload_n 0, 1) := by decide +kernel
theorem dX5_feetBy_1 : decode cX5_feetBy 1 = .ok (.iload_n 1, 1) := by decide +kernel
theorem dX5_feetBy_2 : decode cX5_feetBy 2 = .ok (.invokevirtual 123, 3) := by decide +kernel
theorem dX5_feetBy_5 : decode cX5_feetBy 5 = .ok (.istore_n 2, 1) := by decide +kernel
theorem dX5_feetBy_6 : decode cX5_feetBy 6 = .ok (.aload_n 0, 1) := by decide +kernel
theorem dX5_feetBy_7 : decode cX5_feetBy 7 = .ok (.iload_n 1, 1) := by decide +kernel
theorem dX5_feetBy_8 : decode cX5_feetBy 8 = .ok (.invokevirtual 196, 3) := by decide +kernel
theorem dX5_feetBy_11 : decode cX5_feetBy 11 = .ok (.istore_n 3, 1) := by decide +kernel
theorem dX5_feetBy_12 : decode cX5_feetBy 12 = .ok (.iconst 0, 1) := by decide +kernel
theorem dX5_feetBy_13 : decode cX5_feetBy 13 = .ok (.istore 4, 2) := by decide +kernel
theorem dX5_feetBy_15 : decode cX5_feetBy 15 = .ok (.iload 4, 2) := by decide +kernel
theorem dX5_feetBy_17 : decode cX5_feetBy 17 = .ok (.aload_n 0, 1) := by decide +kernel
theorem dX5_feetBy_18 : decode cX5_feetBy 18 = .ok (.getfield 75, 3) := by decide +kernel
theorem dX5_feetBy_21 : decode cX5_feetBy 21 = .ok (.if_icmp .ge 32, 3) := by decide +kernel
theorem dX5_feetBy_24 : decode cX5_feetBy 24 = .ok (.iload_n 3, 1) := by decide +kernel
theorem dX5_feetBy_25 : decode cX5_feetBy 25 = .ok (.iload_n 2, 1) := by decide +kernel
theorem dX5_feetBy_26 : decode cX5_feetBy 26 = .ok (.iload 4, 2) := by decide +kernel
theorem dX5_feetBy_28 : decode cX5_feetBy 28 = .ok (.invokestatic 96, 3) := by decide +kernel
theorem dX5_feetBy_31 : decode cX5_feetBy 31 = .ok (.ifCond .eq 13, 3) := by decide +kernel
theorem dX5_feetBy_34 : decode cX5_feetBy 34 = .ok (.aload_n 0, 1) := by decide +kernel
theorem dX5_feetBy_35 : decode cX5_feetBy 35 = .ok (.getfield 25, 3) := by decide +kernel
theorem dX5_feetBy_38 : decode cX5_feetBy 38 = .ok (.iload 4, 2) := by decide +kernel
theorem dX5_feetBy_40 : decode cX5_feetBy 40 = .ok (.iaload, 1) := by decide +kernel
theorem dX5_feetBy_41 : decode cX5_feetBy 41 = .ok (.goto 4, 3) := by decide +kernel
theorem dX5_feetBy_44 : decode cX5_feetBy 44 = .ok (.iconst 0, 1) := by decide +kernel
theorem dX5_feetBy_45 : decode cX5_feetBy 45 = .ok (.iadd, 1) := by decide +kernel
theorem dX5_feetBy_46 : decode cX5_feetBy 46 = .ok (.istore_n 3, 1) := by decide +kernel
theorem dX5_feetBy_47 : decode cX5_feetBy 47 = .ok (.iinc 4 1, 3) := by decide +kernel
theorem dX5_feetBy_50 : decode cX5_feetBy 50 = .ok (.goto (-35), 3) := by decide +kernel
theorem dX5_feetBy_53 : decode cX5_feetBy 53 = .ok (.iload_n 3, 1) := by decide +kernel
theorem dX5_feetBy_54 : decode cX5_feetBy 54 = .ok (.ireturn, 1) := by decide +kernel
theorem dX5_leakNow_0 : decode cX5_leakNow 0 = .ok (.iconst 1, 1) := by decide +kernel
theorem dX5_leakNow_1 : decode cX5_leakNow 1 = .ok (.istore_n 2, 1) := by decide +kernel
theorem dX5_leakNow_2 : decode cX5_leakNow 2 = .ok (.iload_n 2, 1) := by decide +kernel
theorem dX5_leakNow_3 : decode cX5_leakNow 3 = .ok (.bipush 10, 2) := by decide +kernel
theorem dX5_leakNow_5 : decode cX5_leakNow 5 = .ok (.if_icmp .ge 94, 3) := by decide +kernel
theorem dX5_leakNow_8 : decode cX5_leakNow 8 = .ok (.iconst 1, 1) := by decide +kernel
theorem dX5_leakNow_9 : decode cX5_leakNow 9 = .ok (.istore_n 3, 1) := by decide +kernel
theorem dX5_leakNow_10 : decode cX5_leakNow 10 = .ok (.iconst 0, 1) := by decide +kernel
theorem dX5_leakNow_11 : decode cX5_leakNow 11 = .ok (.istore 4, 2) := by decide +kernel
theorem dX5_leakNow_13 : decode cX5_leakNow 13 = .ok (.iload 4, 2) := by decide +kernel
theorem dX5_leakNow_15 : decode cX5_leakNow 15 = .ok (.aload_n 0, 1) := by decide +kernel
theorem dX5_leakNow_16 : decode cX5_leakNow 16 = .ok (.getfield 214, 3) := by decide +kernel
theorem dX5_leakNow_19 : decode cX5_leakNow 19 = .ok (.if_icmp .ge 68, 3) := by decide +kernel
theorem dX5_leakNow_22 : decode cX5_leakNow 22 = .ok (.aload_n 0, 1) := by decide +kernel
theorem dX5_leakNow_23 : decode cX5_leakNow 23 = .ok (.aload_n 0, 1) := by decide +kernel
theorem dX5_leakNow_24 : decode cX5_leakNow 24 = .ok (.getfield 41, 3) := by decide +kernel
theorem dX5_leakNow_27 : decode cX5_leakNow 27 = .ok (.iload 4, 2) := by decide +kernel
theorem dX5_leakNow_29 : decode cX5_leakNow 29 = .ok (.iaload, 1) := by decide +kernel
theorem dX5_leakNow_30 : decode cX5_leakNow 30 = .ok (.invokevirtual 123, 3) := by decide +kernel
theorem dX5_leakNow_33 : decode cX5_leakNow 33 = .ok (.iload_n 1, 1) := by decide +kernel
theorem dX5_leakNow_34 : decode cX5_leakNow 34 = .ok (.invokestatic 96, 3) := by decide +kernel
theorem dX5_leakNow_37 : decode cX5_leakNow 37 = .ok (.ifCond .eq 7, 3) := by decide +kernel
theorem dX5_leakNow_40 : decode cX5_leakNow 40 = .ok (.iload_n 2, 1) := by decide +kernel
theorem dX5_leakNow_41 : decode cX5_leakNow 41 = .ok (.goto 4, 3) := by decide +kernel
theorem dX5_leakNow_44 : decode cX5_leakNow 44 = .ok (.iconst 0, 1) := by decide +kernel
theorem dX5_leakNow_45 : decode cX5_leakNow 45 = .ok (.istore 5, 2) := by decide +kernel
theorem dX5_leakNow_47 : decode cX5_leakNow 47 = .ok (.iload_n 3, 1) := by decide +kernel
theorem dX5_leakNow_48 : decode cX5_leakNow 48 = .ok (.ifCond .eq 31, 3) := by decide +kernel
theorem dX5_leakNow_51 : decode cX5_leakNow 51 = .ok (.aload_n 0, 1) := by decide +kernel
theorem dX5_leakNow_52 : decode cX5_leakNow 52 = .ok (.aload_n 0, 1) := by decide +kernel
theorem dX5_leakNow_53 : decode cX5_leakNow 53 = .ok (.getfield 41, 3) := by decide +kernel
theorem dX5_leakNow_56 : decode cX5_leakNow 56 = .ok (.iload 4, 2) := by decide +kernel
theorem dX5_leakNow_58 : decode cX5_leakNow 58 = .ok (.iaload, 1) := by decide +kernel
theorem dX5_leakNow_59 : decode cX5_leakNow 59 = .ok (.invokevirtual 217, 3) := by decide +kernel
theorem dX5_leakNow_62 : decode cX5_leakNow 62 = .ok (.iload 5, 2) := by decide +kernel
theorem dX5_leakNow_64 : decode cX5_leakNow 64 = .ok (.iadd, 1) := by decide +kernel
theorem dX5_leakNow_65 : decode cX5_leakNow 65 = .ok (.aload_n 0, 1) := by decide +kernel
theorem dX5_leakNow_66 : decode cX5_leakNow 66 = .ok (.getfield 44, 3) := by decide +kernel
theorem dX5_leakNow_69 : decode cX5_leakNow 69 = .ok (.iload 4, 2) := by decide +kernel
theorem dX5_leakNow_71 : decode cX5_leakNow 71 = .ok (.iaload, 1) := by decide +kernel
theorem dX5_leakNow_72 : decode cX5_leakNow 72 = .ok (.if_icmp .ne 7, 3) := by decide +kernel
theorem dX5_leakNow_75 : decode cX5_leakNow 75 = .ok (.iconst 1, 1) := by decide +kernel
theorem dX5_leakNow_76 : decode cX5_leakNow 76 = .ok (.goto 4, 3) := by decide +kernel
theorem dX5_leakNow_79 : decode cX5_leakNow 79 = .ok (.iconst 0, 1) := by decide +kernel
theorem dX5_leakNow_80 : decode cX5_leakNow 80 = .ok (.istore_n 3, 1) := by decide +kernel
theorem dX5_leakNow_81 : decode cX5_leakNow 81 = .ok (.iinc 4 1, 3) := by decide +kernel
theorem dX5_leakNow_84 : decode cX5_leakNow 84 = .ok (.goto (-71), 3) := by decide +kernel
theorem dX5_leakNow_87 : decode cX5_leakNow 87 = .ok (.iload_n 3, 1) := by decide +kernel
theorem dX5_leakNow_88 : decode cX5_leakNow 88 = .ok (.ifCond .eq 5, 3) := by decide +kernel
theorem dX5_leakNow_91 : decode cX5_leakNow 91 = .ok (.iload_n 2, 1) := by decide +kernel
theorem dX5_leakNow_92 : decode cX5_leakNow 92 = .ok (.ireturn, 1) := by decide +kernel
theorem dX5_leakNow_93 : decode cX5_leakNow 93 = .ok (.iinc 2 1, 3) := by decide +kernel
theorem dX5_leakNow_96 : decode cX5_leakNow 96 = .ok (.goto (-94), 3) := by decide +kernel
theorem dX5_leakNow_99 : decode cX5_leakNow 99 = .ok (.iconst (-1), 1) := by decide +kernel
theorem dX5_leakNow_100 : decode cX5_leakNow 100 = .ok (.ireturn, 1) := by decide +kernel
theorem dX5_leak_0 : decode cX5_leak 0 = .ok (.aload_n 0, 1) := by decide +kernel
theorem dX5_leak_1 : decode cX5_leak 1 = .ok (.iload_n 1, 1) := by decide +kernel
theorem dX5_leak_2 : decode cX5_leak 2 = .ok (.invokevirtual 99, 3) := by decide +kernel
theorem dX5_leak_5 : decode cX5_leak 5 = .ok (.ifCond .eq 11, 3) := by decide +kernel
theorem dX5_leak_8 : decode cX5_leak 8 = .ok (.aload_n 0, 1) := by decide +kernel
theorem dX5_leak_9 : decode cX5_leak 9 = .ok (.iload_n 1, 1) := by decide +kernel
theorem dX5_leak_10 : decode cX5_leak 10 = .ok (.invokevirtual 220, 3) := by decide +kernel
theorem dX5_leak_13 : decode cX5_leak 13 = .ok (.goto 5, 3) := by decide +kernel
theorem dX5_leak_16 : decode cX5_leak 16 = .ok (.bipush (-101), 2) := by decide +kernel
theorem dX5_leak_18 : decode cX5_leak 18 = .ok (.ireturn, 1) := by decide +kernel
theorem dX5_leaksNow_0 : decode cX5_leaksNow 0 = .ok (.iconst 0, 1) := by decide +kernel
theorem dX5_leaksNow_1 : decode cX5_leaksNow 1 = .ok (.istore_n 1, 1) := by decide +kernel
theorem dX5_leaksNow_2 : decode cX5_leaksNow 2 = .ok (.iconst 0, 1) := by decide +kernel
theorem dX5_leaksNow_3 : decode cX5_leaksNow 3 = .ok (.istore_n 2, 1) := by decide +kernel
theorem dX5_leaksNow_4 : decode cX5_leaksNow 4 = .ok (.iload_n 2, 1) := by decide +kernel
theorem dX5_leaksNow_5 : decode cX5_leaksNow 5 = .ok (.aload_n 0, 1) := by decide +kernel
theorem dX5_leaksNow_6 : decode cX5_leaksNow 6 = .ok (.getfield 75, 3) := by decide +kernel
theorem dX5_leaksNow_9 : decode cX5_leaksNow 9 = .ok (.if_icmp .ge 28, 3) := by decide +kernel
theorem dX5_leaksNow_12 : decode cX5_leaksNow 12 = .ok (.iload_n 1, 1) := by decide +kernel
theorem dX5_leaksNow_13 : decode cX5_leaksNow 13 = .ok (.aload_n 0, 1) := by decide +kernel
theorem dX5_leaksNow_14 : decode cX5_leaksNow 14 = .ok (.iload_n 2, 1) := by decide +kernel
theorem dX5_leaksNow_15 : decode cX5_leaksNow 15 = .ok (.invokevirtual 220, 3) := by decide +kernel
theorem dX5_leaksNow_18 : decode cX5_leaksNow 18 = .ok (.iconst (-1), 1) := by decide +kernel
theorem dX5_leaksNow_19 : decode cX5_leaksNow 19 = .ok (.if_icmp .eq 9, 3) := by decide +kernel
theorem dX5_leaksNow_22 : decode cX5_leaksNow 22 = .ok (.iconst 1, 1) := by decide +kernel
theorem dX5_leaksNow_23 : decode cX5_leaksNow 23 = .ok (.iload_n 2, 1) := by decide +kernel
theorem dX5_leaksNow_24 : decode cX5_leaksNow 24 = .ok (.ishl, 1) := by decide +kernel
theorem dX5_leaksNow_25 : decode cX5_leaksNow 25 = .ok (.goto 4, 3) := by decide +kernel
theorem dX5_leaksNow_28 : decode cX5_leaksNow 28 = .ok (.iconst 0, 1) := by decide +kernel
theorem dX5_leaksNow_29 : decode cX5_leaksNow 29 = .ok (.ior, 1) := by decide +kernel
theorem dX5_leaksNow_30 : decode cX5_leaksNow 30 = .ok (.istore_n 1, 1) := by decide +kernel
theorem dX5_leaksNow_31 : decode cX5_leaksNow 31 = .ok (.iinc 2 1, 3) := by decide +kernel
theorem dX5_leaksNow_34 : decode cX5_leaksNow 34 = .ok (.goto (-30), 3) := by decide +kernel
theorem dX5_leaksNow_37 : decode cX5_leaksNow 37 = .ok (.iload_n 1, 1) := by decide +kernel
theorem dX5_leaksNow_38 : decode cX5_leaksNow 38 = .ok (.ireturn, 1) := by decide +kernel
theorem dX5_leaks_0 : decode cX5_leaks 0 = .ok (.aload_n 0, 1) := by decide +kernel
theorem dX5_leaks_1 : decode cX5_leaks 1 = .ok (.invokevirtual 223, 3) := by decide +kernel
theorem dX5_leaks_4 : decode cX5_leaks 4 = .ok (.ireturn, 1) := by decide +kernel
theorem dX5_lookNow_0 : decode cX5_lookNow 0 = .ok (.aload_n 0, 1) := by decide +kernel
theorem dX5_lookNow_1 : decode cX5_lookNow 1 = .ok (.invokevirtual 223, 3) := by decide +kernel
theorem dX5_lookNow_4 : decode cX5_lookNow 4 = .ok (.istore_n 1, 1) := by decide +kernel
theorem dX5_lookNow_5 : decode cX5_lookNow 5 = .ok (.iload_n 1, 1) := by decide +kernel
theorem dX5_lookNow_6 : decode cX5_lookNow 6 = .ok (.ifCond .ne 5, 3) := by decide +kernel
theorem dX5_lookNow_9 : decode cX5_lookNow 9 = .ok (.iconst (-1), 1) := by decide +kernel
theorem dX5_lookNow_10 : decode cX5_lookNow 10 = .ok (.ireturn, 1) := by decide +kernel
theorem dX5_lookNow_11 : decode cX5_lookNow 11 = .ok (.iconst (-1), 1) := by decide +kernel
theorem dX5_lookNow_12 : decode cX5_lookNow 12 = .ok (.istore_n 2, 1) := by decide +kernel
theorem dX5_lookNow_13 : decode cX5_lookNow 13 = .ok (.bipush 9, 2) := by decide +kernel
theorem dX5_lookNow_15 : decode cX5_lookNow 15 = .ok (.istore_n 3, 1) := by decide +kernel
theorem dX5_lookNow_16 : decode cX5_lookNow 16 = .ok (.iconst 1, 1) := by decide +kernel
theorem dX5_lookNow_17 : decode cX5_lookNow 17 = .ok (.istore 4, 2) := by decide +kernel
theorem dX5_lookNow_19 : decode cX5_lookNow 19 = .ok (.iload 4, 2) := by decide +kernel
theorem dX5_lookNow_21 : decode cX5_lookNow 21 = .ok (.aload_n 0, 1) := by decide +kernel
theorem dX5_lookNow_22 : decode cX5_lookNow 22 = .ok (.invokevirtual 129, 3) := by decide +kernel
theorem dX5_lookNow_25 : decode cX5_lookNow 25 = .ok (.if_icmp .gt 73, 3) := by decide +kernel
theorem dX5_lookNow_28 : decode cX5_lookNow 28 = .ok (.iload_n 1, 1) := by decide +kernel
theorem dX5_lookNow_29 : decode cX5_lookNow 29 = .ok (.aload_n 0, 1) := by decide +kernel
theorem dX5_lookNow_30 : decode cX5_lookNow 30 = .ok (.iload 4, 2) := by decide +kernel
theorem dX5_lookNow_32 : decode cX5_lookNow 32 = .ok (.invokevirtual 123, 3) := by decide +kernel
theorem dX5_lookNow_35 : decode cX5_lookNow 35 = .ok (.iand, 1) := by decide +kernel
theorem dX5_lookNow_36 : decode cX5_lookNow 36 = .ok (.invokestatic 187, 3) := by decide +kernel
theorem dX5_lookNow_39 : decode cX5_lookNow 39 = .ok (.istore 5, 2) := by decide +kernel
theorem dX5_lookNow_41 : decode cX5_lookNow 41 = .ok (.iload_n 1, 1) := by decide +kernel
theorem dX5_lookNow_42 : decode cX5_lookNow 42 = .ok (.invokestatic 187, 3) := by decide +kernel
theorem dX5_lookNow_45 : decode cX5_lookNow 45 = .ok (.iload 5, 2) := by decide +kernel
theorem dX5_lookNow_47 : decode cX5_lookNow 47 = .ok (.isub, 1) := by decide +kernel
theorem dX5_lookNow_48 : decode cX5_lookNow 48 = .ok (.istore 6, 2) := by decide +kernel
theorem dX5_lookNow_50 : decode cX5_lookNow 50 = .ok (.iload 5, 2) := by decide +kernel
theorem dX5_lookNow_52 : decode cX5_lookNow 52 = .ok (.iload 6, 2) := by decide +kernel
theorem dX5_lookNow_54 : decode cX5_lookNow 54 = .ok (.if_icmp .le 8, 3) := by decide +kernel
theorem dX5_lookNow_57 : decode cX5_lookNow 57 = .ok (.iload 5, 2) := by decide +kernel
theorem dX5_lookNow_59 : decode cX5_lookNow 59 = .ok (.goto 5, 3) := by decide +kernel
theorem dX5_lookNow_62 : decode cX5_lookNow 62 = .ok (.iload 6, 2) := by decide +kernel
theorem dX5_lookNow_64 : decode cX5_lookNow 64 = .ok (.istore 7, 2) := by decide +kernel
theorem dX5_lookNow_66 : decode cX5_lookNow 66 = .ok (.iload 7, 2) := by decide +kernel
theorem dX5_lookNow_68 : decode cX5_lookNow 68 = .ok (.iload_n 3, 1) := by decide +kernel
theorem dX5_lookNow_69 : decode cX5_lookNow 69 = .ok (.if_icmp .ge 8, 3) := by decide +kernel
theorem dX5_lookNow_72 : decode cX5_lookNow 72 = .ok (.iload 4, 2) := by decide +kernel
theorem dX5_lookNow_74 : decode cX5_lookNow 74 = .ok (.goto 4, 3) := by decide +kernel
theorem dX5_lookNow_77 : decode cX5_lookNow 77 = .ok (.iload_n 2, 1) := by decide +kernel
theorem dX5_lookNow_78 : decode cX5_lookNow 78 = .ok (.istore_n 2, 1) := by decide +kernel
theorem dX5_lookNow_79 : decode cX5_lookNow 79 = .ok (.iload 7, 2) := by decide +kernel
theorem dX5_lookNow_81 : decode cX5_lookNow 81 = .ok (.iload_n 3, 1) := by decide +kernel
theorem dX5_lookNow_82 : decode cX5_lookNow 82 = .ok (.if_icmp .ge 8, 3) := by decide +kernel
theorem dX5_lookNow_85 : decode cX5_lookNow 85 = .ok (.iload 7, 2) := by decide +kernel
theorem dX5_lookNow_87 : decode cX5_lookNow 87 = .ok (.goto 4, 3) := by decide +kernel
theorem dX5_lookNow_90 : decode cX5_lookNow 90 = .ok (.iload_n 3, 1) := by decide +kernel
theorem dX5_lookNow_91 : decode cX5_lookNow 91 = .ok (.istore_n 3, 1) := by decide +kernel
theorem dX5_lookNow_92 : decode cX5_lookNow 92 = .ok (.iinc 4 1, 3) := by decide +kernel
theorem dX5_lookNow_95 : decode cX5_lookNow 95 = .ok (.goto (-76), 3) := by decide +kernel
theorem dX5_lookNow_98 : decode cX5_lookNow 98 = .ok (.iload_n 2, 1) := by decide +kernel
theorem dX5_lookNow_99 : decode cX5_lookNow 99 = .ok (.ireturn, 1) := by decide +kernel
theorem dX5_look_0 : decode cX5_look 0 = .ok (.aload_n 0, 1) := by decide +kernel
theorem dX5_look_1 : decode cX5_look 1 = .ok (.invokevirtual 226, 3) := by decide +kernel
theorem dX5_look_4 : decode cX5_look 4 = .ok (.ireturn, 1) := by decide +kernel
theorem dX5_image_0 : decode cX5_image 0 = .ok (.aload_n 0, 1) := by decide +kernel
theorem dX5_image_1 : decode cX5_image 1 = .ok (.iconst 1, 1) := by decide +kernel
theorem dX5_image_2 : decode cX5_image 2 = .ok (.putfield 229, 3) := by decide +kernel
theorem dX5_image_5 : decode cX5_image 5 = .ok (.aload_n 0, 1) := by decide +kernel
theorem dX5_image_6 : decode cX5_image 6 = .ok (.aload_n 0, 1) := by decide +kernel
theorem dX5_image_7 : decode cX5_image 7 = .ok (.getfield 75, 3) := by decide +kernel
theorem dX5_image_10 : decode cX5_image 10 = .ok (.putfield 232, 3) := by decide +kernel
theorem dX5_image_13 : decode cX5_image 13 = .ok (.aload_n 0, 1) := by decide +kernel
theorem dX5_image_14 : decode cX5_image 14 = .ok (.aload_n 0, 1) := by decide +kernel
theorem dX5_image_15 : decode cX5_image 15 = .ok (.getfield 34, 3) := by decide +kernel
theorem dX5_image_18 : decode cX5_image 18 = .ok (.putfield 235, 3) := by decide +kernel
theorem dX5_image_21 : decode cX5_image 21 = .ok (.aload_n 0, 1) := by decide +kernel
theorem dX5_image_22 : decode cX5_image 22 = .ok (.aload_n 0, 1) := by decide +kernel
theorem dX5_image_23 : decode cX5_image 23 = .ok (.getfield 38, 3) := by decide +kernel
theorem dX5_image_26 : decode cX5_image 26 = .ok (.putfield 238, 3) := by decide +kernel
theorem dX5_image_29 : decode cX5_image 29 = .ok (.aload_n 0, 1) := by decide +kernel
theorem dX5_image_30 : decode cX5_image 30 = .ok (.aload_n 0, 1) := by decide +kernel
theorem dX5_image_31 : decode cX5_image 31 = .ok (.getfield 90, 3) := by decide +kernel
theorem dX5_image_34 : decode cX5_image 34 = .ok (.putfield 241, 3) := by decide +kernel
theorem dX5_image_37 : decode cX5_image 37 = .ok (.aload_n 0, 1) := by decide +kernel
theorem dX5_image_38 : decode cX5_image 38 = .ok (.aload_n 0, 1) := by decide +kernel
theorem dX5_image_39 : decode cX5_image 39 = .ok (.getfield 141, 3) := by decide +kernel
theorem dX5_image_42 : decode cX5_image 42 = .ok (.putfield 244, 3) := by decide +kernel
theorem dX5_image_45 : decode cX5_image 45 = .ok (.aload_n 0, 1) := by decide +kernel
theorem dX5_image_46 : decode cX5_image 46 = .ok (.aload_n 0, 1) := by decide +kernel
theorem dX5_image_47 : decode cX5_image 47 = .ok (.getfield 114, 3) := by decide +kernel
theorem dX5_image_50 : decode cX5_image 50 = .ok (.putfield 247, 3) := by decide +kernel
theorem dX5_image_53 : decode cX5_image 53 = .ok (.aload_n 0, 1) := by decide +kernel
theorem dX5_image_54 : decode cX5_image 54 = .ok (.aload_n 0, 1) := by decide +kernel
theorem dX5_image_55 : decode cX5_image 55 = .ok (.getfield 93, 3) := by decide +kernel
theorem dX5_image_58 : decode cX5_image 58 = .ok (.putfield 250, 3) := by decide +kernel
theorem dX5_image_61 : decode cX5_image 61 = .ok (.aload_n 0, 1) := by decide +kernel
theorem dX5_image_62 : decode cX5_image 62 = .ok (.aload_n 0, 1) := by decide +kernel
theorem dX5_image_63 : decode cX5_image 63 = .ok (.getfield 135, 3) := by decide +kernel
theorem dX5_image_66 : decode cX5_image 66 = .ok (.putfield 253, 3) := by decide +kernel
theorem dX5_image_69 : decode cX5_image 69 = .ok (.aload_n 0, 1) := by decide +kernel
theorem dX5_image_70 : decode cX5_image 70 = .ok (.aload_n 0, 1) := by decide +kernel
theorem dX5_image_71 : decode cX5_image 71 = .ok (.getfield 107, 3) := by decide +kernel
theorem dX5_image_74 : decode cX5_image 74 = .ok (.putfield 256, 3) := by decide +kernel
theorem dX5_image_77 : decode cX5_image 77 = .ok (.aload_n 0, 1) := by decide +kernel
theorem dX5_image_78 : decode cX5_image 78 = .ok (.aload_n 0, 1) := by decide +kernel
theorem dX5_image_79 : decode cX5_image 79 = .ok (.getfield 214, 3) := by decide +kernel
theorem dX5_image_82 : decode cX5_image 82 = .ok (.putfield 259, 3) := by decide +kernel
theorem dX5_image_85 : decode cX5_image 85 = .ok (.iconst 0, 1) := by decide +kernel
theorem dX5_image_86 : decode cX5_image 86 = .ok (.istore_n 1, 1) := by decide +kernel
theorem dX5_image_87 : decode cX5_image 87 = .ok (.iload_n 1, 1) := by decide +kernel
theorem dX5_image_88 : decode cX5_image 88 = .ok (.bipush 8, 2) := by decide +kernel
theorem dX5_image_90 : decode cX5_image 90 = .ok (.if_icmp .ge 57, 3) := by decide +kernel
theorem dX5_image_93 : decode cX5_image 93 = .ok (.aload_n 0, 1) := by decide +kernel
theorem dX5_image_94 : decode cX5_image 94 = .ok (.getfield 54, 3) := by decide +kernel
theorem dX5_image_97 : decode cX5_image 97 = .ok (.iload_n 1, 1) := by decide +kernel
theorem dX5_image_98 : decode cX5_image 98 = .ok (.aload_n 0, 1) := by decide +kernel
theorem dX5_image_99 : decode cX5_image 99 = .ok (.getfield 28, 3) := by decide +kernel
theorem dX5_image_102 : decode cX5_image 102 = .ok (.iload_n 1, 1) := by decide +kernel
theorem dX5_image_103 : decode cX5_image 103 = .ok (.iaload, 1) := by decide +kernel
theorem dX5_image_104 : decode cX5_image 104 = .ok (.iastore, 1) := by decide +kernel
theorem dX5_image_105 : decode cX5_image 105 = .ok (.aload_n 0, 1) := by decide +kernel
theorem dX5_image_106 : decode cX5_image 106 = .ok (.getfield 57, 3) := by decide +kernel
theorem dX5_image_109 : decode cX5_image 109 = .ok (.iload_n 1, 1) := by decide +kernel
theorem dX5_image_110 : decode cX5_image 110 = .ok (.aload_n 0, 1) := by decide +kernel
theorem dX5_image_111 : decode cX5_image 111 = .ok (.getfield 31, 3) := by decide +kernel
theorem dX5_image_114 : decode cX5_image 114 = .ok (.iload_n 1, 1) := by decide +kernel
theorem dX5_image_115 : decode cX5_image 115 = .ok (.iaload, 1) := by decide +kernel
theorem dX5_image_116 : decode cX5_image 116 = .ok (.iastore, 1) := by decide +kernel
theorem dX5_image_117 : decode cX5_image 117 = .ok (.aload_n 0, 1) := by decide +kernel
theorem dX5_image_118 : decode cX5_image 118 = .ok (.getfield 60, 3) := by decide +kernel
theorem dX5_image_121 : decode cX5_image 121 = .ok (.iload_n 1, 1) := by decide +kernel
theorem dX5_image_122 : decode cX5_image 122 = .ok (.aload_n 0, 1) := by decide +kernel
theorem dX5_image_123 : decode cX5_image 123 = .ok (.getfield 41, 3) := by decide +kernel
theorem dX5_image_126 : decode cX5_image 126 = .ok (.iload_n 1, 1) := by decide +kernel
theorem dX5_image_127 : decode cX5_image 127 = .ok (.iaload, 1) := by decide +kernel
theorem dX5_image_128 : decode cX5_image 128 = .ok (.iastore, 1) := by decide +kernel
theorem dX5_image_129 : decode cX5_image 129 = .ok (.aload_n 0, 1) := by decide +kernel
theorem dX5_image_130 : decode cX5_image 130 = .ok (.getfield 63, 3) := by decide +kernel
theorem dX5_image_133 : decode cX5_image 133 = .ok (.iload_n 1, 1) := by decide +kernel
theorem dX5_image_134 : decode cX5_image 134 = .ok (.aload_n 0, 1) := by decide +kernel
theorem dX5_image_135 : decode cX5_image 135 = .ok (.getfield 44, 3) := by decide +kernel
theorem dX5_image_138 : decode cX5_image 138 = .ok (.iload_n 1, 1) := by decide +kernel
theorem dX5_image_139 : decode cX5_image 139 = .ok (.iaload, 1) := by decide +kernel
theorem dX5_image_140 : decode cX5_image 140 = .ok (.iastore, 1) := by decide +kernel
theorem dX5_image_141 : decode cX5_image 141 = .ok (.iinc 1 1, 3) := by decide +kernel
theorem dX5_image_144 : decode cX5_image 144 = .ok (.goto (-57), 3) := by decide +kernel
theorem dX5_image_147 : decode cX5_image 147 = .ok (.aload_n 0, 1) := by decide +kernel
theorem dX5_image_148 : decode cX5_image 148 = .ok (.getfield 38, 3) := by decide +kernel
theorem dX5_image_151 : decode cX5_image 151 = .ok (.ireturn, 1) := by decide +kernel
theorem dX5_restore_0 : decode cX5_restore 0 = .ok (.aload_n 0, 1) := by decide +kernel
theorem dX5_restore_1 : decode cX5_restore 1 = .ok (.getfield 229, 3) := by decide +kernel
theorem dX5_restore_4 : decode cX5_restore 4 = .ok (.ifCond .ne 6, 3) := by decide +kernel
theorem dX5_restore_7 : decode cX5_restore 7 = .ok (.bipush (-103), 2) := by decide +kernel
theorem dX5_restore_9 : decode cX5_restore 9 = .ok (.ireturn, 1) := by decide +kernel
theorem dX5_restore_10 : decode cX5_restore 10 = .ok (.aload_n 0, 1) := by decide +kernel
theorem dX5_restore_11 : decode cX5_restore 11 = .ok (.aload_n 0, 1) := by decide +kernel
theorem dX5_restore_12 : decode cX5_restore 12 = .ok (.getfield 232, 3) := by decide +kernel
theorem dX5_restore_15 : decode cX5_restore 15 = .ok (.putfield 75, 3) := by decide +kernel
theorem dX5_restore_18 : decode cX5_restore 18 = .ok (.aload_n 0, 1) := by decide +kernel
theorem dX5_restore_19 : decode cX5_restore 19 = .ok (.aload_n 0, 1) := by decide +kernel
theorem dX5_restore_20 : decode cX5_restore 20 = .ok (.getfield 235, 3) := by decide +kernel
theorem dX5_restore_23 : decode cX5_restore 23 = .ok (.putfield 34, 3) := by decide +kernel
theorem dX5_restore_26 : decode cX5_restore 26 = .ok (.aload_n 0, 1) := by decide +kernel
theorem dX5_restore_27 : decode cX5_restore 27 = .ok (.aload_n 0, 1) := by decide +kernel
theorem dX5_restore_28 : decode cX5_restore 28 = .ok (.getfield 238, 3) := by decide +kernel
theorem dX5_restore_31 : decode cX5_restore 31 = .ok (.putfield 38, 3) := by decide +kernel
theorem dX5_restore_34 : decode cX5_restore 34 = .ok (.aload_n 0, 1) := by decide +kernel
theorem dX5_restore_35 : decode cX5_restore 35 = .ok (.aload_n 0, 1) := by decide +kernel
theorem dX5_restore_36 : decode cX5_restore 36 = .ok (.getfield 241, 3) := by decide +kernel
theorem dX5_restore_39 : decode cX5_restore 39 = .ok (.putfield 90, 3) := by decide +kernel
theorem dX5_restore_42 : decode cX5_restore 42 = .ok (.aload_n 0, 1) := by decide +kernel
theorem dX5_restore_43 : decode cX5_restore 43 = .ok (.aload_n 0, 1) := by decide +kernel
theorem dX5_restore_44 : decode cX5_restore 44 = .ok (.getfield 244, 3) := by decide +kernel
theorem dX5_restore_47 : decode cX5_restore 47 = .ok (.putfield 141, 3) := by decide +kernel
theorem dX5_restore_50 : decode cX5_restore 50 = .ok (.aload_n 0, 1) := by decide +kernel
theorem dX5_restore_51 : decode cX5_restore 51 = .ok (.aload_n 0, 1) := by decide +kernel
theorem dX5_restore_52 : decode cX5_restore 52 = .ok (.getfield 247, 3) := by decide +kernel
theorem dX5_restore_55 : decode cX5_restore 55 = .ok (.putfield 114, 3) := by decide +kernel
theorem dX5_restore_58 : decode cX5_restore 58 = .ok (.aload_n 0, 1) := by decide +kernel
theorem dX5_restore_59 : decode cX5_restore 59 = .ok (.aload_n 0, 1) := by decide +kernel
theorem dX5_restore_60 : decode cX5_restore 60 = .ok (.getfield 250, 3) := by decide +kernel
theorem dX5_restore_63 : decode cX5_restore 63 = .ok (.putfield 93, 3) := by decide +kernel
theorem dX5_restore_66 : decode cX5_restore 66 = .ok (.aload_n 0, 1) := by decide +kernel
theorem dX5_restore_67 : decode cX5_restore 67 = .ok (.aload_n 0, 1) := by decide +kernel
theorem dX5_restore_68 : decode cX5_restore 68 = .ok (.getfield 253, 3) := by decide +kernel
theorem dX5_restore_71 : decode cX5_restore 71 = .ok (.putfield 135, 3) := by decide +kernel
theorem dX5_restore_74 : decode cX5_restore 74 = .ok (.aload_n 0, 1) := by decide +kernel
theorem dX5_restore_75 : decode cX5_restore 75 = .ok (.aload_n 0, 1) := by decide +kernel
theorem dX5_restore_76 : decode cX5_restore 76 = .ok (.getfield 256, 3) := by decide +kernel
theorem dX5_restore_79 : decode cX5_restore 79 = .ok (.putfield 107, 3) := by decide +kernel
theorem dX5_restore_82 : decode cX5_restore 82 = .ok (.aload_n 0, 1) := by decide +kernel
theorem dX5_restore_83 : decode cX5_restore 83 = .ok (.aload_n 0, 1) := by decide +kernel
theorem dX5_restore_84 : decode cX5_restore 84 = .ok (.getfield 259, 3) := by decide +kernel
theorem dX5_restore_87 : decode cX5_restore 87 = .ok (.putfield 214, 3) := by decide +kernel
theorem dX5_restore_90 : decode cX5_restore 90 = .ok (.iconst 0, 1) := by decide +kernel
theorem dX5_restore_91 : decode cX5_restore 91 = .ok (.istore_n 1, 1) := by decide +kernel
theorem dX5_restore_92 : decode cX5_restore 92 = .ok (.iload_n 1, 1) := by decide +kernel
theorem dX5_restore_93 : decode cX5_restore 93 = .ok (.bipush 8, 2) := by decide +kernel
theorem dX5_restore_95 : decode cX5_restore 95 = .ok (.if_icmp .ge 57, 3) := by decide +kernel
theorem dX5_restore_98 : decode cX5_restore 98 = .ok (.aload_n 0, 1) := by decide +kernel
theorem dX5_restore_99 : decode cX5_restore 99 = .ok (.getfield 28, 3) := by decide +kernel
theorem dX5_restore_102 : decode cX5_restore 102 = .ok (.iload_n 1, 1) := by decide +kernel
theorem dX5_restore_103 : decode cX5_restore 103 = .ok (.aload_n 0, 1) := by decide +kernel
theorem dX5_restore_104 : decode cX5_restore 104 = .ok (.getfield 54, 3) := by decide +kernel
theorem dX5_restore_107 : decode cX5_restore 107 = .ok (.iload_n 1, 1) := by decide +kernel
theorem dX5_restore_108 : decode cX5_restore 108 = .ok (.iaload, 1) := by decide +kernel
theorem dX5_restore_109 : decode cX5_restore 109 = .ok (.iastore, 1) := by decide +kernel
theorem dX5_restore_110 : decode cX5_restore 110 = .ok (.aload_n 0, 1) := by decide +kernel
theorem dX5_restore_111 : decode cX5_restore 111 = .ok (.getfield 31, 3) := by decide +kernel
theorem dX5_restore_114 : decode cX5_restore 114 = .ok (.iload_n 1, 1) := by decide +kernel
theorem dX5_restore_115 : decode cX5_restore 115 = .ok (.aload_n 0, 1) := by decide +kernel
theorem dX5_restore_116 : decode cX5_restore 116 = .ok (.getfield 57, 3) := by decide +kernel
theorem dX5_restore_119 : decode cX5_restore 119 = .ok (.iload_n 1, 1) := by decide +kernel
theorem dX5_restore_120 : decode cX5_restore 120 = .ok (.iaload, 1) := by decide +kernel
theorem dX5_restore_121 : decode cX5_restore 121 = .ok (.iastore, 1) := by decide +kernel
theorem dX5_restore_122 : decode cX5_restore 122 = .ok (.aload_n 0, 1) := by decide +kernel
theorem dX5_restore_123 : decode cX5_restore 123 = .ok (.getfield 41, 3) := by decide +kernel
theorem dX5_restore_126 : decode cX5_restore 126 = .ok (.iload_n 1, 1) := by decide +kernel
theorem dX5_restore_127 : decode cX5_restore 127 = .ok (.aload_n 0, 1) := by decide +kernel
theorem dX5_restore_128 : decode cX5_restore 128 = .ok (.getfield 60, 3) := by decide +kernel
theorem dX5_restore_131 : decode cX5_restore 131 = .ok (.iload_n 1, 1) := by decide +kernel
theorem dX5_restore_132 : decode cX5_restore 132 = .ok (.iaload, 1) := by decide +kernel
theorem dX5_restore_133 : decode cX5_restore 133 = .ok (.iastore, 1) := by decide +kernel
theorem dX5_restore_134 : decode cX5_restore 134 = .ok (.aload_n 0, 1) := by decide +kernel
theorem dX5_restore_135 : decode cX5_restore 135 = .ok (.getfield 44, 3) := by decide +kernel
theorem dX5_restore_138 : decode cX5_restore 138 = .ok (.iload_n 1, 1) := by decide +kernel
theorem dX5_restore_139 : decode cX5_restore 139 = .ok (.aload_n 0, 1) := by decide +kernel
theorem dX5_restore_140 : decode cX5_restore 140 = .ok (.getfield 63, 3) := by decide +kernel
theorem dX5_restore_143 : decode cX5_restore 143 = .ok (.iload_n 1, 1) := by decide +kernel
theorem dX5_restore_144 : decode cX5_restore 144 = .ok (.iaload, 1) := by decide +kernel
theorem dX5_restore_145 : decode cX5_restore 145 = .ok (.iastore, 1) := by decide +kernel
theorem dX5_restore_146 : decode cX5_restore 146 = .ok (.iinc 1 1, 3) := by decide +kernel
theorem dX5_restore_149 : decode cX5_restore 149 = .ok (.goto (-57), 3) := by decide +kernel
theorem dX5_restore_152 : decode cX5_restore 152 = .ok (.aload_n 0, 1) := by decide +kernel
theorem dX5_restore_153 : decode cX5_restore 153 = .ok (.getfield 38, 3) := by decide +kernel
theorem dX5_restore_156 : decode cX5_restore 156 = .ok (.ireturn, 1) := by decide +kernel
theorem dX5_howMany_0 : decode cX5_howMany 0 = .ok (.iload_n 1, 1) := by decide +kernel
theorem dX5_howMany_1 : decode cX5_howMany 1 = .ok (.tableswitch 121 0 9 #[55, 60, 65, 70, 75, 80, 85, 98, 111, 116], 55) := by decide +kernel
theorem dX5_howMany_56 : decode cX5_howMany 56 = .ok (.aload_n 0, 1) := by decide +kernel
theorem dX5_howMany_57 : decode cX5_howMany 57 = .ok (.getfield 75, 3) := by decide +kernel
theorem dX5_howMany_60 : decode cX5_howMany 60 = .ok (.ireturn, 1) := by decide +kernel
theorem dX5_howMany_61 : decode cX5_howMany 61 = .ok (.aload_n 0, 1) := by decide +kernel
theorem dX5_howMany_62 : decode cX5_howMany 62 = .ok (.getfield 34, 3) := by decide +kernel
theorem dX5_howMany_65 : decode cX5_howMany 65 = .ok (.ireturn, 1) := by decide +kernel
theorem dX5_howMany_66 : decode cX5_howMany 66 = .ok (.aload_n 0, 1) := by decide +kernel
theorem dX5_howMany_67 : decode cX5_howMany 67 = .ok (.getfield 38, 3) := by decide +kernel
theorem dX5_howMany_70 : decode cX5_howMany 70 = .ok (.ireturn, 1) := by decide +kernel
theorem dX5_howMany_71 : decode cX5_howMany 71 = .ok (.aload_n 0, 1) := by decide +kernel
theorem dX5_howMany_72 : decode cX5_howMany 72 = .ok (.getfield 90, 3) := by decide +kernel
theorem dX5_howMany_75 : decode cX5_howMany 75 = .ok (.ireturn, 1) := by decide +kernel
theorem dX5_howMany_76 : decode cX5_howMany 76 = .ok (.aload_n 0, 1) := by decide +kernel
theorem dX5_howMany_77 : decode cX5_howMany 77 = .ok (.invokevirtual 151, 3) := by decide +kernel
theorem dX5_howMany_80 : decode cX5_howMany 80 = .ok (.ireturn, 1) := by decide +kernel
theorem dX5_howMany_81 : decode cX5_howMany 81 = .ok (.aload_n 0, 1) := by decide +kernel
theorem dX5_howMany_82 : decode cX5_howMany 82 = .ok (.getfield 141, 3) := by decide +kernel
theorem dX5_howMany_85 : decode cX5_howMany 85 = .ok (.ireturn, 1) := by decide +kernel
theorem dX5_howMany_86 : decode cX5_howMany 86 = .ok (.aload_n 0, 1) := by decide +kernel
theorem dX5_howMany_87 : decode cX5_howMany 87 = .ok (.getfield 135, 3) := by decide +kernel
theorem dX5_howMany_90 : decode cX5_howMany 90 = .ok (.ifCond .eq 7, 3) := by decide +kernel
theorem dX5_howMany_93 : decode cX5_howMany 93 = .ok (.iconst 1, 1) := by decide +kernel
theorem dX5_howMany_94 : decode cX5_howMany 94 = .ok (.goto 4, 3) := by decide +kernel
theorem dX5_howMany_97 : decode cX5_howMany 97 = .ok (.iconst 0, 1) := by decide +kernel
theorem dX5_howMany_98 : decode cX5_howMany 98 = .ok (.ireturn, 1) := by decide +kernel
theorem dX5_howMany_99 : decode cX5_howMany 99 = .ok (.aload_n 0, 1) := by decide +kernel
theorem dX5_howMany_100 : decode cX5_howMany 100 = .ok (.getfield 107, 3) := by decide +kernel
theorem dX5_howMany_103 : decode cX5_howMany 103 = .ok (.ifCond .eq 7, 3) := by decide +kernel
theorem dX5_howMany_106 : decode cX5_howMany 106 = .ok (.iconst 1, 1) := by decide +kernel
theorem dX5_howMany_107 : decode cX5_howMany 107 = .ok (.goto 4, 3) := by decide +kernel
theorem dX5_howMany_110 : decode cX5_howMany 110 = .ok (.iconst 0, 1) := by decide +kernel
theorem dX5_howMany_111 : decode cX5_howMany 111 = .ok (.ireturn, 1) := by decide +kernel
theorem dX5_howMany_112 : decode cX5_howMany 112 = .ok (.aload_n 0, 1) := by decide +kernel
theorem dX5_howMany_113 : decode cX5_howMany 113 = .ok (.getfield 214, 3) := by decide +kernel
theorem dX5_howMany_116 : decode cX5_howMany 116 = .ok (.ireturn, 1) := by decide +kernel
theorem dX5_howMany_117 : decode cX5_howMany 117 = .ok (.aload_n 0, 1) := by decide +kernel
theorem dX5_howMany_118 : decode cX5_howMany 118 = .ok (.getfield 68, 3) := by decide +kernel
theorem dX5_howMany_121 : decode cX5_howMany 121 = .ok (.ireturn, 1) := by decide +kernel
theorem dX5_howMany_122 : decode cX5_howMany 122 = .ok (.bipush (-102), 2) := by decide +kernel
theorem dX5_howMany_124 : decode cX5_howMany 124 = .ok (.ireturn, 1) := by decide +kernel
theorem dX5_count_0 : decode cX5_count 0 = .ok (.aload_n 0, 1) := by decide +kernel
theorem dX5_count_1 : decode cX5_count 1 = .ok (.iload_n 1, 1) := by decide +kernel
theorem dX5_count_2 : decode cX5_count 2 = .ok (.invokevirtual 262, 3) := by decide +kernel
theorem dX5_count_5 : decode cX5_count 5 = .ok (.ireturn, 1) := by decide +kernel
theorem dX5_mix_0 : decode cX5_mix 0 = .ok (.aload_n 0, 1) := by decide +kernel
theorem dX5_mix_1 : decode cX5_mix 1 = .ok (.ldc2_w 265, 3) := by decide +kernel
theorem dX5_mix_4 : decode cX5_mix 4 = .ok (.aload_n 0, 1) := by decide +kernel
theorem dX5_mix_5 : decode cX5_mix 5 = .ok (.getfield 267, 3) := by decide +kernel
theorem dX5_mix_8 : decode cX5_mix 8 = .ok (.lmul, 1) := by decide +kernel
theorem dX5_mix_9 : decode cX5_mix 9 = .ok (.lload_n 1, 1) := by decide +kernel
theorem dX5_mix_10 : decode cX5_mix 10 = .ok (.ladd, 1) := by decide +kernel
theorem dX5_mix_11 : decode cX5_mix 11 = .ok (.putfield 267, 3) := by decide +kernel
theorem dX5_mix_14 : decode cX5_mix 14 = .ok (.return_, 1) := by decide +kernel
theorem dX5_digest_0 : decode cX5_digest 0 = .ok (.aload_n 0, 1) := by decide +kernel
theorem dX5_digest_1 : decode cX5_digest 1 = .ok (.ldc2_w 270, 3) := by decide +kernel
theorem dX5_digest_4 : decode cX5_digest 4 = .ok (.putfield 267, 3) := by decide +kernel
theorem dX5_digest_7 : decode cX5_digest 7 = .ok (.iconst 0, 1) := by decide +kernel
theorem dX5_digest_8 : decode cX5_digest 8 = .ok (.istore_n 1, 1) := by decide +kernel
theorem dX5_digest_9 : decode cX5_digest 9 = .ok (.iload_n 1, 1) := by decide +kernel
theorem dX5_digest_10 : decode cX5_digest 10 = .ok (.aload_n 0, 1) := by decide +kernel
theorem dX5_digest_11 : decode cX5_digest 11 = .ok (.getfield 75, 3) := by decide +kernel
theorem dX5_digest_14 : decode cX5_digest 14 = .ok (.if_icmp .ge 64, 3) := by decide +kernel
theorem dX5_digest_17 : decode cX5_digest 17 = .ok (.iconst 0, 1) := by decide +kernel
theorem dX5_digest_18 : decode cX5_digest 18 = .ok (.istore_n 2, 1) := by decide +kernel
theorem dX5_digest_19 : decode cX5_digest 19 = .ok (.iload_n 2, 1) := by decide +kernel
theorem dX5_digest_20 : decode cX5_digest 20 = .ok (.bipush 9, 2) := by decide +kernel
theorem dX5_digest_22 : decode cX5_digest 22 = .ok (.if_icmp .ge 20, 3) := by decide +kernel
theorem dX5_digest_25 : decode cX5_digest 25 = .ok (.aload_n 0, 1) := by decide +kernel
theorem dX5_digest_26 : decode cX5_digest 26 = .ok (.aload_n 0, 1) := by decide +kernel
theorem dX5_digest_27 : decode cX5_digest 27 = .ok (.iload_n 1, 1) := by decide +kernel
theorem dX5_digest_28 : decode cX5_digest 28 = .ok (.iload_n 2, 1) := by decide +kernel
theorem dX5_digest_29 : decode cX5_digest 29 = .ok (.invokevirtual 103, 3) := by decide +kernel
theorem dX5_digest_32 : decode cX5_digest 32 = .ok (.i2l, 1) := by decide +kernel
theorem dX5_digest_33 : decode cX5_digest 33 = .ok (.invokevirtual 272, 3) := by decide +kernel
theorem dX5_digest_36 : decode cX5_digest 36 = .ok (.iinc 2 1, 3) := by decide +kernel
theorem dX5_digest_39 : decode cX5_digest 39 = .ok (.goto (-20), 3) := by decide +kernel
theorem dX5_digest_42 : decode cX5_digest 42 = .ok (.aload_n 0, 1) := by decide +kernel
theorem dX5_digest_43 : decode cX5_digest 43 = .ok (.aload_n 0, 1) := by decide +kernel
theorem dX5_digest_44 : decode cX5_digest 44 = .ok (.iload_n 1, 1) := by decide +kernel
theorem dX5_digest_45 : decode cX5_digest 45 = .ok (.invokevirtual 117, 3) := by decide +kernel
theorem dX5_digest_48 : decode cX5_digest 48 = .ok (.i2l, 1) := by decide +kernel
theorem dX5_digest_49 : decode cX5_digest 49 = .ok (.invokevirtual 272, 3) := by decide +kernel
theorem dX5_digest_52 : decode cX5_digest 52 = .ok (.aload_n 0, 1) := by decide +kernel
theorem dX5_digest_53 : decode cX5_digest 53 = .ok (.aload_n 0, 1) := by decide +kernel
theorem dX5_digest_54 : decode cX5_digest 54 = .ok (.iload_n 1, 1) := by decide +kernel
theorem dX5_digest_55 : decode cX5_digest 55 = .ok (.invokevirtual 154, 3) := by decide +kernel
theorem dX5_digest_58 : decode cX5_digest 58 = .ok (.i2l, 1) := by decide +kernel
theorem dX5_digest_59 : decode cX5_digest 59 = .ok (.invokevirtual 272, 3) := by decide +kernel
theorem dX5_digest_62 : decode cX5_digest 62 = .ok (.aload_n 0, 1) := by decide +kernel
theorem dX5_digest_63 : decode cX5_digest 63 = .ok (.aload_n 0, 1) := by decide +kernel
theorem dX5_digest_64 : decode cX5_digest 64 = .ok (.iload_n 1, 1) := by decide +kernel
theorem dX5_digest_65 : decode cX5_digest 65 = .ok (.invokevirtual 220, 3) := by decide +kernel
theorem dX5_digest_68 : decode cX5_digest 68 = .ok (.i2l, 1) := by decide +kernel
theorem dX5_digest_69 : decode cX5_digest 69 = .ok (.invokevirtual 272, 3) := by decide +kernel
theorem dX5_digest_72 : decode cX5_digest 72 = .ok (.iinc 1 1, 3) := by decide +kernel
theorem dX5_digest_75 : decode cX5_digest 75 = .ok (.goto (-66), 3) := by decide +kernel
theorem dX5_digest_78 : decode cX5_digest 78 = .ok (.aload_n 0, 1) := by decide +kernel
theorem dX5_digest_79 : decode cX5_digest 79 = .ok (.aload_n 0, 1) := by decide +kernel
theorem dX5_digest_80 : decode cX5_digest 80 = .ok (.getfield 114, 3) := by decide +kernel
theorem dX5_digest_83 : decode cX5_digest 83 = .ok (.i2l, 1) := by decide +kernel
theorem dX5_digest_84 : decode cX5_digest 84 = .ok (.invokevirtual 272, 3) := by decide +kernel
theorem dX5_digest_87 : decode cX5_digest 87 = .ok (.aload_n 0, 1) := by decide +kernel
theorem dX5_digest_88 : decode cX5_digest 88 = .ok (.aload_n 0, 1) := by decide +kernel
theorem dX5_digest_89 : decode cX5_digest 89 = .ok (.aload_n 0, 1) := by decide +kernel
theorem dX5_digest_90 : decode cX5_digest 90 = .ok (.invokevirtual 129, 3) := by decide +kernel
theorem dX5_digest_93 : decode cX5_digest 93 = .ok (.invokevirtual 132, 3) := by decide +kernel
theorem dX5_digest_96 : decode cX5_digest 96 = .ok (.i2l, 1) := by decide +kernel
theorem dX5_digest_97 : decode cX5_digest 97 = .ok (.invokevirtual 272, 3) := by decide +kernel
theorem dX5_digest_100 : decode cX5_digest 100 = .ok (.aload_n 0, 1) := by decide +kernel
theorem dX5_digest_101 : decode cX5_digest 101 = .ok (.aload_n 0, 1) := by decide +kernel
theorem dX5_digest_102 : decode cX5_digest 102 = .ok (.iconst 0, 1) := by decide +kernel
theorem dX5_digest_103 : decode cX5_digest 103 = .ok (.invokevirtual 190, 3) := by decide +kernel
theorem dX5_digest_106 : decode cX5_digest 106 = .ok (.i2l, 1) := by decide +kernel
theorem dX5_digest_107 : decode cX5_digest 107 = .ok (.invokevirtual 272, 3) := by decide +kernel
theorem dX5_digest_110 : decode cX5_digest 110 = .ok (.aload_n 0, 1) := by decide +kernel
theorem dX5_digest_111 : decode cX5_digest 111 = .ok (.aload_n 0, 1) := by decide +kernel
theorem dX5_digest_112 : decode cX5_digest 112 = .ok (.iconst 1, 1) := by decide +kernel
theorem dX5_digest_113 : decode cX5_digest 113 = .ok (.invokevirtual 190, 3) := by decide +kernel
theorem dX5_digest_116 : decode cX5_digest 116 = .ok (.i2l, 1) := by decide +kernel
theorem dX5_digest_117 : decode cX5_digest 117 = .ok (.invokevirtual 272, 3) := by decide +kernel
theorem dX5_digest_120 : decode cX5_digest 120 = .ok (.aload_n 0, 1) := by decide +kernel
theorem dX5_digest_121 : decode cX5_digest 121 = .ok (.aload_n 0, 1) := by decide +kernel
theorem dX5_digest_122 : decode cX5_digest 122 = .ok (.bipush 9, 2) := by decide +kernel
theorem dX5_digest_124 : decode cX5_digest 124 = .ok (.invokevirtual 193, 3) := by decide +kernel
theorem dX5_digest_127 : decode cX5_digest 127 = .ok (.i2l, 1) := by decide +kernel
theorem dX5_digest_128 : decode cX5_digest 128 = .ok (.invokevirtual 272, 3) := by decide +kernel
theorem dX5_digest_131 : decode cX5_digest 131 = .ok (.aload_n 0, 1) := by decide +kernel
theorem dX5_digest_132 : decode cX5_digest 132 = .ok (.aload_n 0, 1) := by decide +kernel
theorem dX5_digest_133 : decode cX5_digest 133 = .ok (.invokevirtual 223, 3) := by decide +kernel
theorem dX5_digest_136 : decode cX5_digest 136 = .ok (.i2l, 1) := by decide +kernel
theorem dX5_digest_137 : decode cX5_digest 137 = .ok (.invokevirtual 272, 3) := by decide +kernel
theorem dX5_digest_140 : decode cX5_digest 140 = .ok (.aload_n 0, 1) := by decide +kernel
theorem dX5_digest_141 : decode cX5_digest 141 = .ok (.aload_n 0, 1) := by decide +kernel
theorem dX5_digest_142 : decode cX5_digest 142 = .ok (.invokevirtual 226, 3) := by decide +kernel
theorem dX5_digest_145 : decode cX5_digest 145 = .ok (.i2l, 1) := by decide +kernel
theorem dX5_digest_146 : decode cX5_digest 146 = .ok (.invokevirtual 272, 3) := by decide +kernel
theorem dX5_digest_149 : decode cX5_digest 149 = .ok (.iconst 0, 1) := by decide +kernel
theorem dX5_digest_150 : decode cX5_digest 150 = .ok (.istore_n 1, 1) := by decide +kernel
theorem dX5_digest_151 : decode cX5_digest 151 = .ok (.iload_n 1, 1) := by decide +kernel
theorem dX5_digest_152 : decode cX5_digest 152 = .ok (.aload_n 0, 1) := by decide +kernel
theorem dX5_digest_153 : decode cX5_digest 153 = .ok (.getfield 68, 3) := by decide +kernel
theorem dX5_digest_156 : decode cX5_digest 156 = .ok (.if_icmp .ge 20, 3) := by decide +kernel
theorem dX5_digest_159 : decode cX5_digest 159 = .ok (.aload_n 0, 1) := by decide +kernel
theorem dX5_digest_160 : decode cX5_digest 160 = .ok (.aload_n 0, 1) := by decide +kernel
theorem dX5_digest_161 : decode cX5_digest 161 = .ok (.getfield 47, 3) := by decide +kernel
theorem dX5_digest_164 : decode cX5_digest 164 = .ok (.iload_n 1, 1) := by decide +kernel
theorem dX5_digest_165 : decode cX5_digest 165 = .ok (.baload, 1) := by decide +kernel
theorem dX5_digest_166 : decode cX5_digest 166 = .ok (.i2l, 1) := by decide +kernel
theorem dX5_digest_167 : decode cX5_digest 167 = .ok (.invokevirtual 272, 3) := by decide +kernel
theorem dX5_digest_170 : decode cX5_digest 170 = .ok (.iinc 1 1, 3) := by decide +kernel
theorem dX5_digest_173 : decode cX5_digest 173 = .ok (.goto (-22), 3) := by decide +kernel
theorem dX5_digest_176 : decode cX5_digest 176 = .ok (.iconst 0, 1) := by decide +kernel
theorem dX5_digest_177 : decode cX5_digest 177 = .ok (.istore_n 1, 1) := by decide +kernel
theorem dX5_digest_178 : decode cX5_digest 178 = .ok (.iload_n 1, 1) := by decide +kernel
theorem dX5_digest_179 : decode cX5_digest 179 = .ok (.bipush 10, 2) := by decide +kernel
theorem dX5_digest_181 : decode cX5_digest 181 = .ok (.if_icmp .ge 19, 3) := by decide +kernel
theorem dX5_digest_184 : decode cX5_digest 184 = .ok (.aload_n 0, 1) := by decide +kernel
theorem dX5_digest_185 : decode cX5_digest 185 = .ok (.aload_n 0, 1) := by decide +kernel
theorem dX5_digest_186 : decode cX5_digest 186 = .ok (.iload_n 1, 1) := by decide +kernel
theorem dX5_digest_187 : decode cX5_digest 187 = .ok (.invokevirtual 262, 3) := by decide +kernel
theorem dX5_digest_190 : decode cX5_digest 190 = .ok (.i2l, 1) := by decide +kernel
theorem dX5_digest_191 : decode cX5_digest 191 = .ok (.invokevirtual 272, 3) := by decide +kernel
theorem dX5_digest_194 : decode cX5_digest 194 = .ok (.iinc 1 1, 3) := by decide +kernel
theorem dX5_digest_197 : decode cX5_digest 197 = .ok (.goto (-19), 3) := by decide +kernel
theorem dX5_digest_200 : decode cX5_digest 200 = .ok (.aload_n 0, 1) := by decide +kernel
theorem dX5_digest_201 : decode cX5_digest 201 = .ok (.getfield 267, 3) := by decide +kernel
theorem dX5_digest_204 : decode cX5_digest 204 = .ok (.lreturn, 1) := by decide +kernel
theorem dJ11_isValidCodePoint_9a6ad_0 : decode cJ11_isValidCodePoint_9a6ad 0 = .ok (.iload_n 0, 1) := by decide +kernel
theorem dJ11_isValidCodePoint_9a6ad_1 : decode cJ11_isValidCodePoint_9a6ad 1 = .ok (.bipush 16, 2) := by decide +kernel
theorem dJ11_isValidCodePoint_9a6ad_3 : decode cJ11_isValidCodePoint_9a6ad 3 = .ok (.iushr, 1) := by decide +kernel
theorem dJ11_isValidCodePoint_9a6ad_4 : decode cJ11_isValidCodePoint_9a6ad 4 = .ok (.istore_n 1, 1) := by decide +kernel
theorem dJ11_isValidCodePoint_9a6ad_5 : decode cJ11_isValidCodePoint_9a6ad 5 = .ok (.iload_n 1, 1) := by decide +kernel
theorem dJ11_isValidCodePoint_9a6ad_6 : decode cJ11_isValidCodePoint_9a6ad 6 = .ok (.bipush 17, 2) := by decide +kernel
theorem dJ11_isValidCodePoint_9a6ad_8 : decode cJ11_isValidCodePoint_9a6ad 8 = .ok (.if_icmp .ge 7, 3) := by decide +kernel
theorem dJ11_isValidCodePoint_9a6ad_11 : decode cJ11_isValidCodePoint_9a6ad 11 = .ok (.iconst 1, 1) := by decide +kernel
theorem dJ11_isValidCodePoint_9a6ad_12 : decode cJ11_isValidCodePoint_9a6ad 12 = .ok (.goto 4, 3) := by decide +kernel
theorem dJ11_isValidCodePoint_9a6ad_15 : decode cJ11_isValidCodePoint_9a6ad 15 = .ok (.iconst 0, 1) := by decide +kernel
theorem dJ11_isValidCodePoint_9a6ad_16 : decode cJ11_isValidCodePoint_9a6ad 16 = .ok (.ireturn, 1) := by decide +kernel
theorem dJ11_highSurrogate_5068e_0 : decode cJ11_highSurrogate_5068e 0 = .ok (.iload_n 0, 1) := by decide +kernel
theorem dJ11_highSurrogate_5068e_1 : decode cJ11_highSurrogate_5068e 1 = .ok (.bipush 10, 2) := by decide +kernel
theorem dJ11_highSurrogate_5068e_3 : decode cJ11_highSurrogate_5068e 3 = .ok (.iushr, 1) := by decide +kernel
theorem dJ11_highSurrogate_5068e_4 : decode cJ11_highSurrogate_5068e 4 = .ok (.ldc 110, 2) := by decide +kernel
theorem dJ11_highSurrogate_5068e_6 : decode cJ11_highSurrogate_5068e 6 = .ok (.iadd, 1) := by decide +kernel
theorem dJ11_highSurrogate_5068e_7 : decode cJ11_highSurrogate_5068e 7 = .ok (.i2c, 1) := by decide +kernel
theorem dJ11_highSurrogate_5068e_8 : decode cJ11_highSurrogate_5068e 8 = .ok (.ireturn, 1) := by decide +kernel
theorem dJ11_lowSurrogate_5068e_0 : decode cJ11_lowSurrogate_5068e 0 = .ok (.iload_n 0, 1) := by decide +kernel
theorem dJ11_lowSurrogate_5068e_1 : decode cJ11_lowSurrogate_5068e 1 = .ok (.sipush 1023, 3) := by decide +kernel
theorem dJ11_lowSurrogate_5068e_4 : decode cJ11_lowSurrogate_5068e 4 = .ok (.iand, 1) := by decide +kernel
theorem dJ11_lowSurrogate_5068e_5 : decode cJ11_lowSurrogate_5068e 5 = .ok (.ldc 76, 2) := by decide +kernel
theorem dJ11_lowSurrogate_5068e_7 : decode cJ11_lowSurrogate_5068e 7 = .ok (.iadd, 1) := by decide +kernel
theorem dJ11_lowSurrogate_5068e_8 : decode cJ11_lowSurrogate_5068e 8 = .ok (.i2c, 1) := by decide +kernel
theorem dJ11_lowSurrogate_5068e_9 : decode cJ11_lowSurrogate_5068e 9 = .ok (.ireturn, 1) := by decide +kernel
theorem dJ6_bitCount_0f7a4_0 : decode cJ6_bitCount_0f7a4 0 = .ok (.iload_n 0, 1) := by decide +kernel
theorem dJ6_bitCount_0f7a4_1 : decode cJ6_bitCount_0f7a4 1 = .ok (.iload_n 0, 1) := by decide +kernel
theorem dJ6_bitCount_0f7a4_2 : decode cJ6_bitCount_0f7a4 2 = .ok (.iconst 1, 1) := by decide +kernel
theorem dJ6_bitCount_0f7a4_3 : decode cJ6_bitCount_0f7a4 3 = .ok (.iushr, 1) := by decide +kernel
theorem dJ6_bitCount_0f7a4_4 : decode cJ6_bitCount_0f7a4 4 = .ok (.ldc_w 265, 3) := by decide +kernel
theorem dJ6_bitCount_0f7a4_7 : decode cJ6_bitCount_0f7a4 7 = .ok (.iand, 1) := by decide +kernel
theorem dJ6_bitCount_0f7a4_8 : decode cJ6_bitCount_0f7a4 8 = .ok (.isub, 1) := by decide +kernel
theorem dJ6_bitCount_0f7a4_9 : decode cJ6_bitCount_0f7a4 9 = .ok (.istore_n 0, 1) := by decide +kernel
theorem dJ6_bitCount_0f7a4_10 : decode cJ6_bitCount_0f7a4 10 = .ok (.iload_n 0, 1) := by decide +kernel
theorem dJ6_bitCount_0f7a4_11 : decode cJ6_bitCount_0f7a4 11 = .ok (.ldc_w 266, 3) := by decide +kernel
theorem dJ6_bitCount_0f7a4_14 : decode cJ6_bitCount_0f7a4 14 = .ok (.iand, 1) := by decide +kernel
theorem dJ6_bitCount_0f7a4_15 : decode cJ6_bitCount_0f7a4 15 = .ok (.iload_n 0, 1) := by decide +kernel
theorem dJ6_bitCount_0f7a4_16 : decode cJ6_bitCount_0f7a4 16 = .ok (.iconst 2, 1) := by decide +kernel
theorem dJ6_bitCount_0f7a4_17 : decode cJ6_bitCount_0f7a4 17 = .ok (.iushr, 1) := by decide +kernel
theorem dJ6_bitCount_0f7a4_18 : decode cJ6_bitCount_0f7a4 18 = .ok (.ldc_w 266, 3) := by decide +kernel
theorem dJ6_bitCount_0f7a4_21 : decode cJ6_bitCount_0f7a4 21 = .ok (.iand, 1) := by decide +kernel
theorem dJ6_bitCount_0f7a4_22 : decode cJ6_bitCount_0f7a4 22 = .ok (.iadd, 1) := by decide +kernel
theorem dJ6_bitCount_0f7a4_23 : decode cJ6_bitCount_0f7a4 23 = .ok (.istore_n 0, 1) := by decide +kernel
theorem dJ6_bitCount_0f7a4_24 : decode cJ6_bitCount_0f7a4 24 = .ok (.iload_n 0, 1) := by decide +kernel
theorem dJ6_bitCount_0f7a4_25 : decode cJ6_bitCount_0f7a4 25 = .ok (.iload_n 0, 1) := by decide +kernel
theorem dJ6_bitCount_0f7a4_26 : decode cJ6_bitCount_0f7a4 26 = .ok (.iconst 4, 1) := by decide +kernel
theorem dJ6_bitCount_0f7a4_27 : decode cJ6_bitCount_0f7a4 27 = .ok (.iushr, 1) := by decide +kernel
theorem dJ6_bitCount_0f7a4_28 : decode cJ6_bitCount_0f7a4 28 = .ok (.iadd, 1) := by decide +kernel
theorem dJ6_bitCount_0f7a4_29 : decode cJ6_bitCount_0f7a4 29 = .ok (.ldc_w 267, 3) := by decide +kernel
theorem dJ6_bitCount_0f7a4_32 : decode cJ6_bitCount_0f7a4 32 = .ok (.iand, 1) := by decide +kernel
theorem dJ6_bitCount_0f7a4_33 : decode cJ6_bitCount_0f7a4 33 = .ok (.istore_n 0, 1) := by decide +kernel
theorem dJ6_bitCount_0f7a4_34 : decode cJ6_bitCount_0f7a4 34 = .ok (.iload_n 0, 1) := by decide +kernel
theorem dJ6_bitCount_0f7a4_35 : decode cJ6_bitCount_0f7a4 35 = .ok (.iload_n 0, 1) := by decide +kernel
theorem dJ6_bitCount_0f7a4_36 : decode cJ6_bitCount_0f7a4 36 = .ok (.bipush 8, 2) := by decide +kernel
theorem dJ6_bitCount_0f7a4_38 : decode cJ6_bitCount_0f7a4 38 = .ok (.iushr, 1) := by decide +kernel
theorem dJ6_bitCount_0f7a4_39 : decode cJ6_bitCount_0f7a4 39 = .ok (.iadd, 1) := by decide +kernel
theorem dJ6_bitCount_0f7a4_40 : decode cJ6_bitCount_0f7a4 40 = .ok (.istore_n 0, 1) := by decide +kernel
theorem dJ6_bitCount_0f7a4_41 : decode cJ6_bitCount_0f7a4 41 = .ok (.iload_n 0, 1) := by decide +kernel
theorem dJ6_bitCount_0f7a4_42 : decode cJ6_bitCount_0f7a4 42 = .ok (.iload_n 0, 1) := by decide +kernel
theorem dJ6_bitCount_0f7a4_43 : decode cJ6_bitCount_0f7a4 43 = .ok (.bipush 16, 2) := by decide +kernel
theorem dJ6_bitCount_0f7a4_45 : decode cJ6_bitCount_0f7a4 45 = .ok (.iushr, 1) := by decide +kernel
theorem dJ6_bitCount_0f7a4_46 : decode cJ6_bitCount_0f7a4 46 = .ok (.iadd, 1) := by decide +kernel
theorem dJ6_bitCount_0f7a4_47 : decode cJ6_bitCount_0f7a4 47 = .ok (.istore_n 0, 1) := by decide +kernel
theorem dJ6_bitCount_0f7a4_48 : decode cJ6_bitCount_0f7a4 48 = .ok (.iload_n 0, 1) := by decide +kernel
theorem dJ6_bitCount_0f7a4_49 : decode cJ6_bitCount_0f7a4 49 = .ok (.bipush 63, 2) := by decide +kernel
theorem dJ6_bitCount_0f7a4_51 : decode cJ6_bitCount_0f7a4 51 = .ok (.iand, 1) := by decide +kernel
theorem dJ6_bitCount_0f7a4_52 : decode cJ6_bitCount_0f7a4 52 = .ok (.ireturn, 1) := by decide +kernel
theorem dJ9_max_7cf53_0 : decode cJ9_max_7cf53 0 = .ok (.iload_n 0, 1) := by decide +kernel
theorem dJ9_max_7cf53_1 : decode cJ9_max_7cf53 1 = .ok (.iload_n 1, 1) := by decide +kernel
theorem dJ9_max_7cf53_2 : decode cJ9_max_7cf53 2 = .ok (.if_icmp .lt 7, 3) := by decide +kernel
theorem dJ9_max_7cf53_5 : decode cJ9_max_7cf53 5 = .ok (.iload_n 0, 1) := by decide +kernel
theorem dJ9_max_7cf53_6 : decode cJ9_max_7cf53 6 = .ok (.goto 4, 3) := by decide +kernel
theorem dJ9_max_7cf53_9 : decode cJ9_max_7cf53 9 = .ok (.iload_n 1, 1) := by decide +kernel
theorem dJ9_max_7cf53_10 : decode cJ9_max_7cf53 10 = .ok (.ireturn, 1) := by decide +kernel
theorem dJ9_min_7cf53_0 : decode cJ9_min_7cf53 0 = .ok (.iload_n 0, 1) := by decide +kernel
theorem dJ9_min_7cf53_1 : decode cJ9_min_7cf53 1 = .ok (.iload_n 1, 1) := by decide +kernel
theorem dJ9_min_7cf53_2 : decode cJ9_min_7cf53 2 = .ok (.if_icmp .gt 7, 3) := by decide +kernel
theorem dJ9_min_7cf53_5 : decode cJ9_min_7cf53 5 = .ok (.iload_n 0, 1) := by decide +kernel
theorem dJ9_min_7cf53_6 : decode cJ9_min_7cf53 6 = .ok (.goto 4, 3) := by decide +kernel
theorem dJ9_min_7cf53_9 : decode cJ9_min_7cf53 9 = .ok (.iload_n 1, 1) := by decide +kernel
theorem dJ9_min_7cf53_10 : decode cJ9_min_7cf53 10 = .ok (.ireturn, 1) := by decide +kernel
theorem dJ0_length_8abf5_0 : decode cJ0_length_8abf5 0 = .ok (.aload_n 0, 1) := by decide +kernel
theorem dJ0_length_8abf5_1 : decode cJ0_length_8abf5 1 = .ok (.getfield 9, 3) := by decide +kernel
theorem dJ0_length_8abf5_4 : decode cJ0_length_8abf5 4 = .ok (.arraylength, 1) := by decide +kernel
theorem dJ0_length_8abf5_5 : decode cJ0_length_8abf5 5 = .ok (.aload_n 0, 1) := by decide +kernel
theorem dJ0_length_8abf5_6 : decode cJ0_length_8abf5 6 = .ok (.invokevirtual 335, 3) := by decide +kernel
theorem dJ0_length_8abf5_9 : decode cJ0_length_8abf5 9 = .ok (.ishr, 1) := by decide +kernel
theorem dJ0_length_8abf5_10 : decode cJ0_length_8abf5 10 = .ok (.ireturn, 1) := by decide +kernel
theorem dJ0_indexOf_0f7a4_0 : decode cJ0_indexOf_0f7a4 0 = .ok (.aload_n 0, 1) := by decide +kernel
theorem dJ0_indexOf_0f7a4_1 : decode cJ0_indexOf_0f7a4 1 = .ok (.iload_n 1, 1) := by decide +kernel
theorem dJ0_indexOf_0f7a4_2 : decode cJ0_indexOf_0f7a4 2 = .ok (.iconst 0, 1) := by decide +kernel
theorem dJ0_indexOf_0f7a4_3 : decode cJ0_indexOf_0f7a4 3 = .ok (.invokevirtual 633, 3) := by decide +kernel
theorem dJ0_indexOf_0f7a4_6 : decode cJ0_indexOf_0f7a4 6 = .ok (.ireturn, 1) := by decide +kernel
theorem dJ0_indexOf_7cf53_0 : decode cJ0_indexOf_7cf53 0 = .ok (.aload_n 0, 1) := by decide +kernel
theorem dJ0_indexOf_7cf53_1 : decode cJ0_indexOf_7cf53 1 = .ok (.invokevirtual 492, 3) := by decide +kernel
theorem dJ0_indexOf_7cf53_4 : decode cJ0_indexOf_7cf53 4 = .ok (.ifCond .eq 19, 3) := by decide +kernel
theorem dJ0_indexOf_7cf53_7 : decode cJ0_indexOf_7cf53 7 = .ok (.aload_n 0, 1) := by decide +kernel
theorem dJ0_indexOf_7cf53_8 : decode cJ0_indexOf_7cf53 8 = .ok (.getfield 9, 3) := by decide +kernel
theorem dJ0_indexOf_7cf53_11 : decode cJ0_indexOf_7cf53 11 = .ok (.iload_n 1, 1) := by decide +kernel
theorem dJ0_indexOf_7cf53_12 : decode cJ0_indexOf_7cf53 12 = .ok (.iload_n 2, 1) := by decide +kernel
theorem dJ0_indexOf_7cf53_13 : decode cJ0_indexOf_7cf53 13 = .ok (.aload_n 0, 1) := by decide +kernel
theorem dJ0_indexOf_7cf53_14 : decode cJ0_indexOf_7cf53 14 = .ok (.invokevirtual 505, 3) := by decide +kernel
theorem dJ0_indexOf_7cf53_17 : decode cJ0_indexOf_7cf53 17 = .ok (.invokestatic 637, 3) := by decide +kernel
theorem dJ0_indexOf_7cf53_20 : decode cJ0_indexOf_7cf53 20 = .ok (.goto 16, 3) := by decide +kernel
theorem dJ0_indexOf_7cf53_23 : decode cJ0_indexOf_7cf53 23 = .ok (.aload_n 0, 1) := by decide +kernel
theorem dJ0_indexOf_7cf53_24 : decode cJ0_indexOf_7cf53 24 = .ok (.getfield 9, 3) := by decide +kernel
theorem dJ0_indexOf_7cf53_27 : decode cJ0_indexOf_7cf53 27 = .ok (.iload_n 1, 1) := by decide +kernel
theorem dJ0_indexOf_7cf53_28 : decode cJ0_indexOf_7cf53 28 = .ok (.iload_n 2, 1) := by decide +kernel
theorem dJ0_indexOf_7cf53_29 : decode cJ0_indexOf_7cf53 29 = .ok (.aload_n 0, 1) := by decide +kernel
theorem dJ0_indexOf_7cf53_30 : decode cJ0_indexOf_7cf53 30 = .ok (.invokevirtual 505, 3) := by decide +kernel
theorem dJ0_indexOf_7cf53_33 : decode cJ0_indexOf_7cf53 33 = .ok (.invokestatic 640, 3) := by decide +kernel
theorem dJ0_indexOf_7cf53_36 : decode cJ0_indexOf_7cf53 36 = .ok (.ireturn, 1) := by decide +kernel
theorem dJ0_coder_7d493_0 : decode cJ0_coder_7d493 0 = .ok (.getstatic 38, 3) := by decide +kernel
theorem dJ0_coder_7d493_3 : decode cJ0_coder_7d493 3 = .ok (.ifCond .eq 10, 3) := by decide +kernel
theorem dJ0_coder_7d493_6 : decode cJ0_coder_7d493 6 = .ok (.aload_n 0, 1) := by decide +kernel
theorem dJ0_coder_7d493_7 : decode cJ0_coder_7d493 7 = .ok (.getfield 15, 3) := by decide +kernel
theorem dJ0_coder_7d493_10 : decode cJ0_coder_7d493 10 = .ok (.goto 4, 3) := by decide +kernel
theorem dJ0_coder_7d493_13 : decode cJ0_coder_7d493 13 = .ok (.iconst 1, 1) := by decide +kernel
theorem dJ0_coder_7d493_14 : decode cJ0_coder_7d493 14 = .ok (.ireturn, 1) := by decide +kernel
theorem dJ0_isLatin1_aae02_0 : decode cJ0_isLatin1_aae02 0 = .ok (.getstatic 38, 3) := by decide +kernel
theorem dJ0_isLatin1_aae02_3 : decode cJ0_isLatin1_aae02 3 = .ok (.ifCond .eq 14, 3) := by decide +kernel
theorem dJ0_isLatin1_aae02_6 : decode cJ0_isLatin1_aae02 6 = .ok (.aload_n 0, 1) := by decide +kernel
theorem dJ0_isLatin1_aae02_7 : decode cJ0_isLatin1_aae02 7 = .ok (.getfield 15, 3) := by decide +kernel
theorem dJ0_isLatin1_aae02_10 : decode cJ0_isLatin1_aae02 10 = .ok (.ifCond .ne 7, 3) := by decide +kernel
theorem dJ0_isLatin1_aae02_13 : decode cJ0_isLatin1_aae02 13 = .ok (.iconst 1, 1) := by decide +kernel
theorem dJ0_isLatin1_aae02_14 : decode cJ0_isLatin1_aae02 14 = .ok (.goto 4, 3) := by decide +kernel
theorem dJ0_isLatin1_aae02_17 : decode cJ0_isLatin1_aae02 17 = .ok (.iconst 0, 1) := by decide +kernel
theorem dJ0_isLatin1_aae02_18 : decode cJ0_isLatin1_aae02 18 = .ok (.ireturn, 1) := by decide +kernel
theorem dJ0_checkBoundsBeginEnd_23922_0 : decode cJ0_checkBoundsBeginEnd_23922 0 = .ok (.iload_n 0, 1) := by decide +kernel
theorem dJ0_checkBoundsBeginEnd_23922_1 : decode cJ0_checkBoundsBeginEnd_23922 1 = .ok (.iload_n 1, 1) := by decide +kernel
theorem dJ0_checkBoundsBeginEnd_23922_2 : decode cJ0_checkBoundsBeginEnd_23922 2 = .ok (.iload_n 2, 1) := by decide +kernel
theorem dJ0_checkBoundsBeginEnd_23922_3 : decode cJ0_checkBoundsBeginEnd_23922 3 = .ok (.getstatic 1053, 3) := by decide +kernel
theorem dJ0_checkBoundsBeginEnd_23922_6 : decode cJ0_checkBoundsBeginEnd_23922 6 = .ok (.invokestatic 1062, 3) := by decide +kernel
