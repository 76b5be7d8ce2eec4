theorem dX4_image_2 : decode cX4_image 2 = .ok (.putfield 232, 3) := by decide +kernel
theorem dX4_image_5 : decode cX4_image 5 = .ok (.aload_n 0, 1) := by decide +kernel
theorem dX4_image_6 : decode cX4_image 6 = .ok (.aload_n 0, 1) := by decide +kernel
theorem dX4_image_7 : decode cX4_image 7 = .ok (.getfield 19, 3) := by decide +kernel
theorem dX4_image_10 : decode cX4_image 10 = .ok (.getfield 58, 3) := by decide +kernel
theorem dX4_image_13 : decode cX4_image 13 = .ok (.putfield 235, 3) := by decide +kernel
theorem dX4_image_16 : decode cX4_image 16 = .ok (.aload_n 0, 1) := by decide +kernel
theorem dX4_image_17 : decode cX4_image 17 = .ok (.getfield 40, 3) := by decide +kernel
theorem dX4_image_20 : decode cX4_image 20 = .ok (.aload_n 0, 1) := by decide +kernel
theorem dX4_image_21 : decode cX4_image 21 = .ok (.getfield 26, 3) := by decide +kernel
theorem dX4_image_24 : decode cX4_image 24 = .ok (.invokevirtual 189, 3) := by decide +kernel
theorem dX4_image_27 : decode cX4_image 27 = .ok (.aload_n 0, 1) := by decide +kernel
theorem dX4_image_28 : decode cX4_image 28 = .ok (.getfield 43, 3) := by decide +kernel
theorem dX4_image_31 : decode cX4_image 31 = .ok (.aload_n 0, 1) := by decide +kernel
theorem dX4_image_32 : decode cX4_image 32 = .ok (.getfield 33, 3) := by decide +kernel
theorem dX4_image_35 : decode cX4_image 35 = .ok (.invokevirtual 238, 3) := by decide +kernel
theorem dX4_image_38 : decode cX4_image 38 = .ok (.aload_n 0, 1) := by decide +kernel
theorem dX4_image_39 : decode cX4_image 39 = .ok (.getfield 26, 3) := by decide +kernel
theorem dX4_image_42 : decode cX4_image 42 = .ok (.getfield 129, 3) := by decide +kernel
theorem dX4_image_45 : decode cX4_image 45 = .ok (.ireturn, 1) := by decide +kernel
theorem dX4_restore_0 : decode cX4_restore 0 = .ok (.aload_n 0, 1) := by decide +kernel
theorem dX4_restore_1 : decode cX4_restore 1 = .ok (.getfield 232, 3) := by decide +kernel
theorem dX4_restore_4 : decode cX4_restore 4 = .ok (.ifCond .ne 6, 3) := by decide +kernel
theorem dX4_restore_7 : decode cX4_restore 7 = .ok (.bipush (-103), 2) := by decide +kernel
theorem dX4_restore_9 : decode cX4_restore 9 = .ok (.ireturn, 1) := by decide +kernel
theorem dX4_restore_10 : decode cX4_restore 10 = .ok (.aload_n 0, 1) := by decide +kernel
theorem dX4_restore_11 : decode cX4_restore 11 = .ok (.getfield 19, 3) := by decide +kernel
theorem dX4_restore_14 : decode cX4_restore 14 = .ok (.aload_n 0, 1) := by decide +kernel
theorem dX4_restore_15 : decode cX4_restore 15 = .ok (.getfield 235, 3) := by decide +kernel
theorem dX4_restore_18 : decode cX4_restore 18 = .ok (.putfield 58, 3) := by decide +kernel
theorem dX4_restore_21 : decode cX4_restore 21 = .ok (.aload_n 0, 1) := by decide +kernel
theorem dX4_restore_22 : decode cX4_restore 22 = .ok (.getfield 26, 3) := by decide +kernel
theorem dX4_restore_25 : decode cX4_restore 25 = .ok (.aload_n 0, 1) := by decide +kernel
theorem dX4_restore_26 : decode cX4_restore 26 = .ok (.getfield 40, 3) := by decide +kernel
theorem dX4_restore_29 : decode cX4_restore 29 = .ok (.invokevirtual 189, 3) := by decide +kernel
theorem dX4_restore_32 : decode cX4_restore 32 = .ok (.aload_n 0, 1) := by decide +kernel
theorem dX4_restore_33 : decode cX4_restore 33 = .ok (.getfield 33, 3) := by decide +kernel
theorem dX4_restore_36 : decode cX4_restore 36 = .ok (.aload_n 0, 1) := by decide +kernel
theorem dX4_restore_37 : decode cX4_restore 37 = .ok (.getfield 43, 3) := by decide +kernel
theorem dX4_restore_40 : decode cX4_restore 40 = .ok (.invokevirtual 238, 3) := by decide +kernel
theorem dX4_restore_43 : decode cX4_restore 43 = .ok (.aload_n 0, 1) := by decide +kernel
theorem dX4_restore_44 : decode cX4_restore 44 = .ok (.getfield 26, 3) := by decide +kernel
theorem dX4_restore_47 : decode cX4_restore 47 = .ok (.getfield 129, 3) := by decide +kernel
theorem dX4_restore_50 : decode cX4_restore 50 = .ok (.ireturn, 1) := by decide +kernel
theorem dX4_count_0 : decode cX4_count 0 = .ok (.iload_n 1, 1) := by decide +kernel
theorem dX4_count_1 : decode cX4_count 1 = .ok (.tableswitch 141 0 9 #[55, 63, 71, 79, 87, 95, 103, 114, 125, 133], 55) := by decide +kernel
theorem dX4_count_56 : decode cX4_count 56 = .ok (.aload_n 0, 1) := by decide +kernel
theorem dX4_count_57 : decode cX4_count 57 = .ok (.getfield 19, 3) := by decide +kernel
theorem dX4_count_60 : decode cX4_count 60 = .ok (.getfield 58, 3) := by decide +kernel
theorem dX4_count_63 : decode cX4_count 63 = .ok (.ireturn, 1) := by decide +kernel
theorem dX4_count_64 : decode cX4_count 64 = .ok (.aload_n 0, 1) := by decide +kernel
theorem dX4_count_65 : decode cX4_count 65 = .ok (.getfield 26, 3) := by decide +kernel
theorem dX4_count_68 : decode cX4_count 68 = .ok (.getfield 127, 3) := by decide +kernel
theorem dX4_count_71 : decode cX4_count 71 = .ok (.ireturn, 1) := by decide +kernel
theorem dX4_count_72 : decode cX4_count 72 = .ok (.aload_n 0, 1) := by decide +kernel
theorem dX4_count_73 : decode cX4_count 73 = .ok (.getfield 26, 3) := by decide +kernel
theorem dX4_count_76 : decode cX4_count 76 = .ok (.getfield 129, 3) := by decide +kernel
theorem dX4_count_79 : decode cX4_count 79 = .ok (.ireturn, 1) := by decide +kernel
theorem dX4_count_80 : decode cX4_count 80 = .ok (.aload_n 0, 1) := by decide +kernel
theorem dX4_count_81 : decode cX4_count 81 = .ok (.getfield 26, 3) := by decide +kernel
theorem dX4_count_84 : decode cX4_count 84 = .ok (.getfield 180, 3) := by decide +kernel
theorem dX4_count_87 : decode cX4_count 87 = .ok (.ireturn, 1) := by decide +kernel
theorem dX4_count_88 : decode cX4_count 88 = .ok (.aload_n 0, 1) := by decide +kernel
theorem dX4_count_89 : decode cX4_count 89 = .ok (.getfield 26, 3) := by decide +kernel
theorem dX4_count_92 : decode cX4_count 92 = .ok (.getfield 200, 3) := by decide +kernel
theorem dX4_count_95 : decode cX4_count 95 = .ok (.ireturn, 1) := by decide +kernel
theorem dX4_count_96 : decode cX4_count 96 = .ok (.aload_n 0, 1) := by decide +kernel
theorem dX4_count_97 : decode cX4_count 97 = .ok (.getfield 26, 3) := by decide +kernel
theorem dX4_count_100 : decode cX4_count 100 = .ok (.getfield 241, 3) := by decide +kernel
theorem dX4_count_103 : decode cX4_count 103 = .ok (.ireturn, 1) := by decide +kernel
theorem dX4_count_104 : decode cX4_count 104 = .ok (.aload_n 0, 1) := by decide +kernel
theorem dX4_count_105 : decode cX4_count 105 = .ok (.getfield 26, 3) := by decide +kernel
theorem dX4_count_108 : decode cX4_count 108 = .ok (.getfield 193, 3) := by decide +kernel
theorem dX4_count_111 : decode cX4_count 111 = .ok (.invokestatic 112, 3) := by decide +kernel
theorem dX4_count_114 : decode cX4_count 114 = .ok (.ireturn, 1) := by decide +kernel
theorem dX4_count_115 : decode cX4_count 115 = .ok (.aload_n 0, 1) := by decide +kernel
theorem dX4_count_116 : decode cX4_count 116 = .ok (.getfield 26, 3) := by decide +kernel
theorem dX4_count_119 : decode cX4_count 119 = .ok (.getfield 135, 3) := by decide +kernel
theorem dX4_count_122 : decode cX4_count 122 = .ok (.invokestatic 112, 3) := by decide +kernel
theorem dX4_count_125 : decode cX4_count 125 = .ok (.ireturn, 1) := by decide +kernel
theorem dX4_count_126 : decode cX4_count 126 = .ok (.aload_n 0, 1) := by decide +kernel
theorem dX4_count_127 : decode cX4_count 127 = .ok (.getfield 33, 3) := by decide +kernel
theorem dX4_count_130 : decode cX4_count 130 = .ok (.getfield 203, 3) := by decide +kernel
theorem dX4_count_133 : decode cX4_count 133 = .ok (.ireturn, 1) := by decide +kernel
theorem dX4_count_134 : decode cX4_count 134 = .ok (.aload_n 0, 1) := by decide +kernel
theorem dX4_count_135 : decode cX4_count 135 = .ok (.getfield 10, 3) := by decide +kernel
theorem dX4_count_138 : decode cX4_count 138 = .ok (.getfield 50, 3) := by decide +kernel
theorem dX4_count_141 : decode cX4_count 141 = .ok (.ireturn, 1) := by decide +kernel
theorem dX4_count_142 : decode cX4_count 142 = .ok (.bipush (-102), 2) := by decide +kernel
theorem dX4_count_144 : decode cX4_count 144 = .ok (.ireturn, 1) := by decide +kernel
theorem dX4_digest_0 : decode cX4_digest 0 = .ok (.aload_n 0, 1) := by decide +kernel
theorem dX4_digest_1 : decode cX4_digest 1 = .ok (.ldc2_w 244, 3) := by decide +kernel
theorem dX4_digest_4 : decode cX4_digest 4 = .ok (.invokevirtual 246, 3) := by decide +kernel
theorem dX4_digest_7 : decode cX4_digest 7 = .ok (.lstore_n 1, 1) := by decide +kernel
theorem dX4_digest_8 : decode cX4_digest 8 = .ok (.ldc2_w 250, 3) := by decide +kernel
theorem dX4_digest_11 : decode cX4_digest 11 = .ok (.lload_n 1, 1) := by decide +kernel
theorem dX4_digest_12 : decode cX4_digest 12 = .ok (.lmul, 1) := by decide +kernel
theorem dX4_digest_13 : decode cX4_digest 13 = .ok (.aload_n 0, 1) := by decide +kernel
theorem dX4_digest_14 : decode cX4_digest 14 = .ok (.invokevirtual 252, 3) := by decide +kernel
theorem dX4_digest_17 : decode cX4_digest 17 = .ok (.i2l, 1) := by decide +kernel
theorem dX4_digest_18 : decode cX4_digest 18 = .ok (.ladd, 1) := by decide +kernel
theorem dX4_digest_19 : decode cX4_digest 19 = .ok (.lstore_n 1, 1) := by decide +kernel
theorem dX4_digest_20 : decode cX4_digest 20 = .ok (.ldc2_w 250, 3) := by decide +kernel
theorem dX4_digest_23 : decode cX4_digest 23 = .ok (.lload_n 1, 1) := by decide +kernel
theorem dX4_digest_24 : decode cX4_digest 24 = .ok (.lmul, 1) := by decide +kernel
theorem dX4_digest_25 : decode cX4_digest 25 = .ok (.aload_n 0, 1) := by decide +kernel
theorem dX4_digest_26 : decode cX4_digest 26 = .ok (.aload_n 0, 1) := by decide +kernel
theorem dX4_digest_27 : decode cX4_digest 27 = .ok (.getfield 19, 3) := by decide +kernel
theorem dX4_digest_30 : decode cX4_digest 30 = .ok (.invokevirtual 219, 3) := by decide +kernel
theorem dX4_digest_33 : decode cX4_digest 33 = .ok (.invokevirtual 254, 3) := by decide +kernel
theorem dX4_digest_36 : decode cX4_digest 36 = .ok (.i2l, 1) := by decide +kernel
theorem dX4_digest_37 : decode cX4_digest 37 = .ok (.ladd, 1) := by decide +kernel
theorem dX4_digest_38 : decode cX4_digest 38 = .ok (.lstore_n 1, 1) := by decide +kernel
theorem dX4_digest_39 : decode cX4_digest 39 = .ok (.aload_n 0, 1) := by decide +kernel
theorem dX4_digest_40 : decode cX4_digest 40 = .ok (.invokevirtual 173, 3) := by decide +kernel
theorem dX4_digest_43 : decode cX4_digest 43 = .ok (.istore_n 3, 1) := by decide +kernel
theorem dX4_digest_44 : decode cX4_digest 44 = .ok (.ldc2_w 250, 3) := by decide +kernel
theorem dX4_digest_47 : decode cX4_digest 47 = .ok (.lload_n 1, 1) := by decide +kernel
theorem dX4_digest_48 : decode cX4_digest 48 = .ok (.lmul, 1) := by decide +kernel
theorem dX4_digest_49 : decode cX4_digest 49 = .ok (.aload_n 0, 1) := by decide +kernel
theorem dX4_digest_50 : decode cX4_digest 50 = .ok (.aload_n 0, 1) := by decide +kernel
theorem dX4_digest_51 : decode cX4_digest 51 = .ok (.getfield 26, 3) := by decide +kernel
theorem dX4_digest_54 : decode cX4_digest 54 = .ok (.getfield 129, 3) := by decide +kernel
theorem dX4_digest_57 : decode cX4_digest 57 = .ok (.iload_n 3, 1) := by decide +kernel
theorem dX4_digest_58 : decode cX4_digest 58 = .ok (.invokevirtual 176, 3) := by decide +kernel
theorem dX4_digest_61 : decode cX4_digest 61 = .ok (.i2l, 1) := by decide +kernel
theorem dX4_digest_62 : decode cX4_digest 62 = .ok (.ladd, 1) := by decide +kernel
theorem dX4_digest_63 : decode cX4_digest 63 = .ok (.lstore_n 1, 1) := by decide +kernel
theorem dX4_digest_64 : decode cX4_digest 64 = .ok (.ldc2_w 250, 3) := by decide +kernel
theorem dX4_digest_67 : decode cX4_digest 67 = .ok (.lload_n 1, 1) := by decide +kernel
theorem dX4_digest_68 : decode cX4_digest 68 = .ok (.lmul, 1) := by decide +kernel
theorem dX4_digest_69 : decode cX4_digest 69 = .ok (.iload_n 3, 1) := by decide +kernel
theorem dX4_digest_70 : decode cX4_digest 70 = .ok (.i2l, 1) := by decide +kernel
theorem dX4_digest_71 : decode cX4_digest 71 = .ok (.ladd, 1) := by decide +kernel
theorem dX4_digest_72 : decode cX4_digest 72 = .ok (.lstore_n 1, 1) := by decide +kernel
theorem dX4_digest_73 : decode cX4_digest 73 = .ok (.ldc2_w 250, 3) := by decide +kernel
theorem dX4_digest_76 : decode cX4_digest 76 = .ok (.lload_n 1, 1) := by decide +kernel
theorem dX4_digest_77 : decode cX4_digest 77 = .ok (.lmul, 1) := by decide +kernel
theorem dX4_digest_78 : decode cX4_digest 78 = .ok (.aload_n 0, 1) := by decide +kernel
theorem dX4_digest_79 : decode cX4_digest 79 = .ok (.bipush 9, 2) := by decide +kernel
theorem dX4_digest_81 : decode cX4_digest 81 = .ok (.invokevirtual 257, 3) := by decide +kernel
theorem dX4_digest_84 : decode cX4_digest 84 = .ok (.i2l, 1) := by decide +kernel
theorem dX4_digest_85 : decode cX4_digest 85 = .ok (.ladd, 1) := by decide +kernel
theorem dX4_digest_86 : decode cX4_digest 86 = .ok (.lstore_n 1, 1) := by decide +kernel
theorem dX4_digest_87 : decode cX4_digest 87 = .ok (.ldc2_w 250, 3) := by decide +kernel
theorem dX4_digest_90 : decode cX4_digest 90 = .ok (.lload_n 1, 1) := by decide +kernel
theorem dX4_digest_91 : decode cX4_digest 91 = .ok (.lmul, 1) := by decide +kernel
theorem dX4_digest_92 : decode cX4_digest 92 = .ok (.aload_n 0, 1) := by decide +kernel
theorem dX4_digest_93 : decode cX4_digest 93 = .ok (.invokevirtual 216, 3) := by decide +kernel
theorem dX4_digest_96 : decode cX4_digest 96 = .ok (.i2l, 1) := by decide +kernel
theorem dX4_digest_97 : decode cX4_digest 97 = .ok (.ladd, 1) := by decide +kernel
theorem dX4_digest_98 : decode cX4_digest 98 = .ok (.lstore_n 1, 1) := by decide +kernel
theorem dX4_digest_99 : decode cX4_digest 99 = .ok (.ldc2_w 250, 3) := by decide +kernel
theorem dX4_digest_102 : decode cX4_digest 102 = .ok (.lload_n 1, 1) := by decide +kernel
theorem dX4_digest_103 : decode cX4_digest 103 = .ok (.lmul, 1) := by decide +kernel
theorem dX4_digest_104 : decode cX4_digest 104 = .ok (.aload_n 0, 1) := by decide +kernel
theorem dX4_digest_105 : decode cX4_digest 105 = .ok (.invokevirtual 260, 3) := by decide +kernel
theorem dX4_digest_108 : decode cX4_digest 108 = .ok (.i2l, 1) := by decide +kernel
theorem dX4_digest_109 : decode cX4_digest 109 = .ok (.ladd, 1) := by decide +kernel
theorem dX4_digest_110 : decode cX4_digest 110 = .ok (.lstore_n 1, 1) := by decide +kernel
theorem dX4_digest_111 : decode cX4_digest 111 = .ok (.iconst 0, 1) := by decide +kernel
theorem dX4_digest_112 : decode cX4_digest 112 = .ok (.istore 4, 2) := by decide +kernel
theorem dX4_digest_114 : decode cX4_digest 114 = .ok (.iload 4, 2) := by decide +kernel
theorem dX4_digest_116 : decode cX4_digest 116 = .ok (.aload_n 0, 1) := by decide +kernel
theorem dX4_digest_117 : decode cX4_digest 117 = .ok (.getfield 10, 3) := by decide +kernel
theorem dX4_digest_120 : decode cX4_digest 120 = .ok (.getfield 50, 3) := by decide +kernel
theorem dX4_digest_123 : decode cX4_digest 123 = .ok (.if_icmp .ge 27, 3) := by decide +kernel
theorem dX4_digest_126 : decode cX4_digest 126 = .ok (.ldc2_w 250, 3) := by decide +kernel
theorem dX4_digest_129 : decode cX4_digest 129 = .ok (.lload_n 1, 1) := by decide +kernel
theorem dX4_digest_130 : decode cX4_digest 130 = .ok (.lmul, 1) := by decide +kernel
theorem dX4_digest_131 : decode cX4_digest 131 = .ok (.aload_n 0, 1) := by decide +kernel
theorem dX4_digest_132 : decode cX4_digest 132 = .ok (.getfield 10, 3) := by decide +kernel
theorem dX4_digest_135 : decode cX4_digest 135 = .ok (.getfield 263, 3) := by decide +kernel
theorem dX4_digest_138 : decode cX4_digest 138 = .ok (.iload 4, 2) := by decide +kernel
theorem dX4_digest_140 : decode cX4_digest 140 = .ok (.iaload, 1) := by decide +kernel
theorem dX4_digest_141 : decode cX4_digest 141 = .ok (.i2l, 1) := by decide +kernel
theorem dX4_digest_142 : decode cX4_digest 142 = .ok (.ladd, 1) := by decide +kernel
theorem dX4_digest_143 : decode cX4_digest 143 = .ok (.lstore_n 1, 1) := by decide +kernel
theorem dX4_digest_144 : decode cX4_digest 144 = .ok (.iinc 4 1, 3) := by decide +kernel
theorem dX4_digest_147 : decode cX4_digest 147 = .ok (.goto (-33), 3) := by decide +kernel
theorem dX4_digest_150 : decode cX4_digest 150 = .ok (.iconst 0, 1) := by decide +kernel
theorem dX4_digest_151 : decode cX4_digest 151 = .ok (.istore 4, 2) := by decide +kernel
theorem dX4_digest_153 : decode cX4_digest 153 = .ok (.iload 4, 2) := by decide +kernel
theorem dX4_digest_155 : decode cX4_digest 155 = .ok (.bipush 9, 2) := by decide +kernel
theorem dX4_digest_157 : decode cX4_digest 157 = .ok (.if_icmp .gt 23, 3) := by decide +kernel
theorem dX4_digest_160 : decode cX4_digest 160 = .ok (.ldc2_w 250, 3) := by decide +kernel
theorem dX4_digest_163 : decode cX4_digest 163 = .ok (.lload_n 1, 1) := by decide +kernel
theorem dX4_digest_164 : decode cX4_digest 164 = .ok (.lmul, 1) := by decide +kernel
theorem dX4_digest_165 : decode cX4_digest 165 = .ok (.aload_n 0, 1) := by decide +kernel
theorem dX4_digest_166 : decode cX4_digest 166 = .ok (.iload 4, 2) := by decide +kernel
theorem dX4_digest_168 : decode cX4_digest 168 = .ok (.invokevirtual 266, 3) := by decide +kernel
theorem dX4_digest_171 : decode cX4_digest 171 = .ok (.i2l, 1) := by decide +kernel
theorem dX4_digest_172 : decode cX4_digest 172 = .ok (.ladd, 1) := by decide +kernel
theorem dX4_digest_173 : decode cX4_digest 173 = .ok (.lstore_n 1, 1) := by decide +kernel
theorem dX4_digest_174 : decode cX4_digest 174 = .ok (.iinc 4 1, 3) := by decide +kernel
theorem dX4_digest_177 : decode cX4_digest 177 = .ok (.goto (-24), 3) := by decide +kernel
theorem dX4_digest_180 : decode cX4_digest 180 = .ok (.lload_n 1, 1) := by decide +kernel
theorem dX4_digest_181 : decode cX4_digest 181 = .ok (.lreturn, 1) := by decide +kernel
theorem dX4_digestOfHouses_0 : decode cX4_digestOfHouses 0 = .ok (.lload_n 1, 1) := by decide +kernel
theorem dX4_digestOfHouses_1 : decode cX4_digestOfHouses 1 = .ok (.lstore_n 3, 1) := by decide +kernel
theorem dX4_digestOfHouses_2 : decode cX4_digestOfHouses 2 = .ok (.iconst 0, 1) := by decide +kernel
theorem dX4_digestOfHouses_3 : decode cX4_digestOfHouses 3 = .ok (.istore 5, 2) := by decide +kernel
theorem dX4_digestOfHouses_5 : decode cX4_digestOfHouses 5 = .ok (.iload 5, 2) := by decide +kernel
theorem dX4_digestOfHouses_7 : decode cX4_digestOfHouses 7 = .ok (.aload_n 0, 1) := by decide +kernel
theorem dX4_digestOfHouses_8 : decode cX4_digestOfHouses 8 = .ok (.getfield 19, 3) := by decide +kernel
theorem dX4_digestOfHouses_11 : decode cX4_digestOfHouses 11 = .ok (.getfield 58, 3) := by decide +kernel
theorem dX4_digestOfHouses_14 : decode cX4_digestOfHouses 14 = .ok (.if_icmp .ge 83, 3) := by decide +kernel
theorem dX4_digestOfHouses_17 : decode cX4_digestOfHouses 17 = .ok (.iconst 0, 1) := by decide +kernel
theorem dX4_digestOfHouses_18 : decode cX4_digestOfHouses 18 = .ok (.istore 6, 2) := by decide +kernel
theorem dX4_digestOfHouses_20 : decode cX4_digestOfHouses 20 = .ok (.iload 6, 2) := by decide +kernel
theorem dX4_digestOfHouses_22 : decode cX4_digestOfHouses 22 = .ok (.bipush 8, 2) := by decide +kernel
theorem dX4_digestOfHouses_24 : decode cX4_digestOfHouses 24 = .ok (.if_icmp .gt 25, 3) := by decide +kernel
theorem dX4_digestOfHouses_27 : decode cX4_digestOfHouses 27 = .ok (.ldc2_w 250, 3) := by decide +kernel
theorem dX4_digestOfHouses_30 : decode cX4_digestOfHouses 30 = .ok (.lload_n 3, 1) := by decide +kernel
theorem dX4_digestOfHouses_31 : decode cX4_digestOfHouses 31 = .ok (.lmul, 1) := by decide +kernel
theorem dX4_digestOfHouses_32 : decode cX4_digestOfHouses 32 = .ok (.aload_n 0, 1) := by decide +kernel
theorem dX4_digestOfHouses_33 : decode cX4_digestOfHouses 33 = .ok (.iload 5, 2) := by decide +kernel
theorem dX4_digestOfHouses_35 : decode cX4_digestOfHouses 35 = .ok (.iload 6, 2) := by decide +kernel
theorem dX4_digestOfHouses_37 : decode cX4_digestOfHouses 37 = .ok (.invokevirtual 269, 3) := by decide +kernel
theorem dX4_digestOfHouses_40 : decode cX4_digestOfHouses 40 = .ok (.i2l, 1) := by decide +kernel
theorem dX4_digestOfHouses_41 : decode cX4_digestOfHouses 41 = .ok (.ladd, 1) := by decide +kernel
theorem dX4_digestOfHouses_42 : decode cX4_digestOfHouses 42 = .ok (.lstore_n 3, 1) := by decide +kernel
theorem dX4_digestOfHouses_43 : decode cX4_digestOfHouses 43 = .ok (.iinc 6 1, 3) := by decide +kernel
theorem dX4_digestOfHouses_46 : decode cX4_digestOfHouses 46 = .ok (.goto (-26), 3) := by decide +kernel
theorem dX4_digestOfHouses_49 : decode cX4_digestOfHouses 49 = .ok (.ldc2_w 250, 3) := by decide +kernel
theorem dX4_digestOfHouses_52 : decode cX4_digestOfHouses 52 = .ok (.lload_n 3, 1) := by decide +kernel
theorem dX4_digestOfHouses_53 : decode cX4_digestOfHouses 53 = .ok (.lmul, 1) := by decide +kernel
theorem dX4_digestOfHouses_54 : decode cX4_digestOfHouses 54 = .ok (.aload_n 0, 1) := by decide +kernel
theorem dX4_digestOfHouses_55 : decode cX4_digestOfHouses 55 = .ok (.iload 5, 2) := by decide +kernel
theorem dX4_digestOfHouses_57 : decode cX4_digestOfHouses 57 = .ok (.invokevirtual 272, 3) := by decide +kernel
theorem dX4_digestOfHouses_60 : decode cX4_digestOfHouses 60 = .ok (.i2l, 1) := by decide +kernel
theorem dX4_digestOfHouses_61 : decode cX4_digestOfHouses 61 = .ok (.ladd, 1) := by decide +kernel
theorem dX4_digestOfHouses_62 : decode cX4_digestOfHouses 62 = .ok (.lstore_n 3, 1) := by decide +kernel
theorem dX4_digestOfHouses_63 : decode cX4_digestOfHouses 63 = .ok (.ldc2_w 250, 3) := by decide +kernel
theorem dX4_digestOfHouses_66 : decode cX4_digestOfHouses 66 = .ok (.lload_n 3, 1) := by decide +kernel
theorem dX4_digestOfHouses_67 : decode cX4_digestOfHouses 67 = .ok (.lmul, 1) := by decide +kernel
theorem dX4_digestOfHouses_68 : decode cX4_digestOfHouses 68 = .ok (.aload_n 0, 1) := by decide +kernel
theorem dX4_digestOfHouses_69 : decode cX4_digestOfHouses 69 = .ok (.iload 5, 2) := by decide +kernel
theorem dX4_digestOfHouses_71 : decode cX4_digestOfHouses 71 = .ok (.invokevirtual 275, 3) := by decide +kernel
theorem dX4_digestOfHouses_74 : decode cX4_digestOfHouses 74 = .ok (.i2l, 1) := by decide +kernel
theorem dX4_digestOfHouses_75 : decode cX4_digestOfHouses 75 = .ok (.ladd, 1) := by decide +kernel
theorem dX4_digestOfHouses_76 : decode cX4_digestOfHouses 76 = .ok (.lstore_n 3, 1) := by decide +kernel
theorem dX4_digestOfHouses_77 : decode cX4_digestOfHouses 77 = .ok (.ldc2_w 250, 3) := by decide +kernel
theorem dX4_digestOfHouses_80 : decode cX4_digestOfHouses 80 = .ok (.lload_n 3, 1) := by decide +kernel
theorem dX4_digestOfHouses_81 : decode cX4_digestOfHouses 81 = .ok (.lmul, 1) := by decide +kernel
theorem dX4_digestOfHouses_82 : decode cX4_digestOfHouses 82 = .ok (.aload_n 0, 1) := by decide +kernel
theorem dX4_digestOfHouses_83 : decode cX4_digestOfHouses 83 = .ok (.iload 5, 2) := by decide +kernel
theorem dX4_digestOfHouses_85 : decode cX4_digestOfHouses 85 = .ok (.invokevirtual 278, 3) := by decide +kernel
theorem dX4_digestOfHouses_88 : decode cX4_digestOfHouses 88 = .ok (.i2l, 1) := by decide +kernel
theorem dX4_digestOfHouses_89 : decode cX4_digestOfHouses 89 = .ok (.ladd, 1) := by decide +kernel
theorem dX4_digestOfHouses_90 : decode cX4_digestOfHouses 90 = .ok (.lstore_n 3, 1) := by decide +kernel
theorem dX4_digestOfHouses_91 : decode cX4_digestOfHouses 91 = .ok (.iinc 5 1, 3) := by decide +kernel
theorem dX4_digestOfHouses_94 : decode cX4_digestOfHouses 94 = .ok (.goto (-89), 3) := by decide +kernel
theorem dX4_digestOfHouses_97 : decode cX4_digestOfHouses 97 = .ok (.lload_n 3, 1) := by decide +kernel
theorem dX4_digestOfHouses_98 : decode cX4_digestOfHouses 98 = .ok (.lreturn, 1) := by decide +kernel
theorem dX4_bestBrakes_0 : decode cX4_bestBrakes 0 = .ok (.iconst 0, 1) := by decide +kernel
theorem dX4_bestBrakes_1 : decode cX4_bestBrakes 1 = .ok (.istore_n 1, 1) := by decide +kernel
theorem dX4_bestBrakes_2 : decode cX4_bestBrakes 2 = .ok (.aload_n 0, 1) := by decide +kernel
theorem dX4_bestBrakes_3 : decode cX4_bestBrakes 3 = .ok (.aload_n 0, 1) := by decide +kernel
theorem dX4_bestBrakes_4 : decode cX4_bestBrakes 4 = .ok (.getfield 26, 3) := by decide +kernel
theorem dX4_bestBrakes_7 : decode cX4_bestBrakes 7 = .ok (.getfield 129, 3) := by decide +kernel
theorem dX4_bestBrakes_10 : decode cX4_bestBrakes 10 = .ok (.iconst 0, 1) := by decide +kernel
theorem dX4_bestBrakes_11 : decode cX4_bestBrakes 11 = .ok (.invokevirtual 176, 3) := by decide +kernel
theorem dX4_bestBrakes_14 : decode cX4_bestBrakes 14 = .ok (.istore_n 2, 1) := by decide +kernel
theorem dX4_bestBrakes_15 : decode cX4_bestBrakes 15 = .ok (.iconst 1, 1) := by decide +kernel
theorem dX4_bestBrakes_16 : decode cX4_bestBrakes 16 = .ok (.istore_n 3, 1) := by decide +kernel
theorem dX4_bestBrakes_17 : decode cX4_bestBrakes 17 = .ok (.iload_n 3, 1) := by decide +kernel
theorem dX4_bestBrakes_18 : decode cX4_bestBrakes 18 = .ok (.aload_n 0, 1) := by decide +kernel
theorem dX4_bestBrakes_19 : decode cX4_bestBrakes 19 = .ok (.getfield 19, 3) := by decide +kernel
theorem dX4_bestBrakes_22 : decode cX4_bestBrakes 22 = .ok (.invokevirtual 219, 3) := by decide +kernel
theorem dX4_bestBrakes_25 : decode cX4_bestBrakes 25 = .ok (.if_icmp .gt 63, 3) := by decide +kernel
theorem dX4_bestBrakes_28 : decode cX4_bestBrakes 28 = .ok (.aload_n 0, 1) := by decide +kernel
theorem dX4_bestBrakes_29 : decode cX4_bestBrakes 29 = .ok (.aload_n 0, 1) := by decide +kernel
theorem dX4_bestBrakes_30 : decode cX4_bestBrakes 30 = .ok (.getfield 26, 3) := by decide +kernel
theorem dX4_bestBrakes_33 : decode cX4_bestBrakes 33 = .ok (.getfield 129, 3) := by decide +kernel
theorem dX4_bestBrakes_36 : decode cX4_bestBrakes 36 = .ok (.iload_n 3, 1) := by decide +kernel
theorem dX4_bestBrakes_37 : decode cX4_bestBrakes 37 = .ok (.invokevirtual 176, 3) := by decide +kernel
theorem dX4_bestBrakes_40 : decode cX4_bestBrakes 40 = .ok (.istore 4, 2) := by decide +kernel
theorem dX4_bestBrakes_42 : decode cX4_bestBrakes 42 = .ok (.iload_n 3, 1) := by decide +kernel
theorem dX4_bestBrakes_43 : decode cX4_bestBrakes 43 = .ok (.invokestatic 222, 3) := by decide +kernel
theorem dX4_bestBrakes_46 : decode cX4_bestBrakes 46 = .ok (.iload_n 1, 1) := by decide +kernel
theorem dX4_bestBrakes_47 : decode cX4_bestBrakes 47 = .ok (.invokestatic 222, 3) := by decide +kernel
theorem dX4_bestBrakes_50 : decode cX4_bestBrakes 50 = .ok (.if_icmp .ge 7, 3) := by decide +kernel
theorem dX4_bestBrakes_53 : decode cX4_bestBrakes 53 = .ok (.iconst 1, 1) := by decide +kernel
theorem dX4_bestBrakes_54 : decode cX4_bestBrakes 54 = .ok (.goto 4, 3) := by decide +kernel
theorem dX4_bestBrakes_57 : decode cX4_bestBrakes 57 = .ok (.iconst 0, 1) := by decide +kernel
theorem dX4_bestBrakes_58 : decode cX4_bestBrakes 58 = .ok (.istore 5, 2) := by decide +kernel
theorem dX4_bestBrakes_60 : decode cX4_bestBrakes 60 = .ok (.iload 4, 2) := by decide +kernel
theorem dX4_bestBrakes_62 : decode cX4_bestBrakes 62 = .ok (.iload_n 2, 1) := by decide +kernel
theorem dX4_bestBrakes_63 : decode cX4_bestBrakes 63 = .ok (.if_icmp .gt 14, 3) := by decide +kernel
theorem dX4_bestBrakes_66 : decode cX4_bestBrakes 66 = .ok (.iload 4, 2) := by decide +kernel
theorem dX4_bestBrakes_68 : decode cX4_bestBrakes 68 = .ok (.iload_n 2, 1) := by decide +kernel
theorem dX4_bestBrakes_69 : decode cX4_bestBrakes 69 = .ok (.if_icmp .ne 13, 3) := by decide +kernel
theorem dX4_bestBrakes_72 : decode cX4_bestBrakes 72 = .ok (.iload 5, 2) := by decide +kernel
theorem dX4_bestBrakes_74 : decode cX4_bestBrakes 74 = .ok (.ifCond .eq 8, 3) := by decide +kernel
theorem dX4_bestBrakes_77 : decode cX4_bestBrakes 77 = .ok (.iload 4, 2) := by decide +kernel
theorem dX4_bestBrakes_79 : decode cX4_bestBrakes 79 = .ok (.istore_n 2, 1) := by decide +kernel
theorem dX4_bestBrakes_80 : decode cX4_bestBrakes 80 = .ok (.iload_n 3, 1) := by decide +kernel
theorem dX4_bestBrakes_81 : decode cX4_bestBrakes 81 = .ok (.istore_n 1, 1) := by decide +kernel
theorem dX4_bestBrakes_82 : decode cX4_bestBrakes 82 = .ok (.iinc 3 1, 3) := by decide +kernel
theorem dX4_bestBrakes_85 : decode cX4_bestBrakes 85 = .ok (.goto (-68), 3) := by decide +kernel
theorem dX4_bestBrakes_88 : decode cX4_bestBrakes 88 = .ok (.iload_n 1, 1) := by decide +kernel
theorem dX4_bestBrakes_89 : decode cX4_bestBrakes 89 = .ok (.ireturn, 1) := by decide +kernel
theorem dX4_takenAhead_0 : decode cX4_takenAhead 0 = .ok (.aload_n 0, 1) := by decide +kernel
theorem dX4_takenAhead_1 : decode cX4_takenAhead 1 = .ok (.getfield 37, 3) := by decide +kernel
theorem dX4_takenAhead_4 : decode cX4_takenAhead 4 = .ok (.aload_n 0, 1) := by decide +kernel
theorem dX4_takenAhead_5 : decode cX4_takenAhead 5 = .ok (.getfield 26, 3) := by decide +kernel
theorem dX4_takenAhead_8 : decode cX4_takenAhead 8 = .ok (.invokevirtual 189, 3) := by decide +kernel
theorem dX4_takenAhead_11 : decode cX4_takenAhead 11 = .ok (.aload_n 0, 1) := by decide +kernel
theorem dX4_takenAhead_12 : decode cX4_takenAhead 12 = .ok (.getfield 37, 3) := by decide +kernel
theorem dX4_takenAhead_15 : decode cX4_takenAhead 15 = .ok (.iload_n 1, 1) := by decide +kernel
theorem dX4_takenAhead_16 : decode cX4_takenAhead 16 = .ok (.putfield 129, 3) := by decide +kernel
theorem dX4_takenAhead_19 : decode cX4_takenAhead 19 = .ok (.aload_n 0, 1) := by decide +kernel
theorem dX4_takenAhead_20 : decode cX4_takenAhead 20 = .ok (.getfield 37, 3) := by decide +kernel
theorem dX4_takenAhead_23 : decode cX4_takenAhead 23 = .ok (.iload_n 2, 1) := by decide +kernel
theorem dX4_takenAhead_24 : decode cX4_takenAhead 24 = .ok (.putfield 105, 3) := by decide +kernel
theorem dX4_takenAhead_27 : decode cX4_takenAhead 27 = .ok (.aload_n 0, 1) := by decide +kernel
theorem dX4_takenAhead_28 : decode cX4_takenAhead 28 = .ok (.getfield 26, 3) := by decide +kernel
theorem dX4_takenAhead_31 : decode cX4_takenAhead 31 = .ok (.getfield 180, 3) := by decide +kernel
theorem dX4_takenAhead_34 : decode cX4_takenAhead 34 = .ok (.istore_n 3, 1) := by decide +kernel
theorem dX4_takenAhead_35 : decode cX4_takenAhead 35 = .ok (.iload_n 3, 1) := by decide +kernel
theorem dX4_takenAhead_36 : decode cX4_takenAhead 36 = .ok (.bipush 9, 2) := by decide +kernel
theorem dX4_takenAhead_38 : decode cX4_takenAhead 38 = .ok (.if_icmp .ge 41, 3) := by decide +kernel
theorem dX4_takenAhead_41 : decode cX4_takenAhead 41 = .ok (.aload_n 0, 1) := by decide +kernel
theorem dX4_takenAhead_42 : decode cX4_takenAhead 42 = .ok (.getfield 37, 3) := by decide +kernel
theorem dX4_takenAhead_45 : decode cX4_takenAhead 45 = .ok (.getfield 193, 3) := by decide +kernel
theorem dX4_takenAhead_48 : decode cX4_takenAhead 48 = .ok (.ifCond .ne 31, 3) := by decide +kernel
theorem dX4_takenAhead_51 : decode cX4_takenAhead 51 = .ok (.aload_n 0, 1) := by decide +kernel
theorem dX4_takenAhead_52 : decode cX4_takenAhead 52 = .ok (.getfield 37, 3) := by decide +kernel
theorem dX4_takenAhead_55 : decode cX4_takenAhead 55 = .ok (.getfield 129, 3) := by decide +kernel
theorem dX4_takenAhead_58 : decode cX4_takenAhead 58 = .ok (.ifCond .le 21, 3) := by decide +kernel
theorem dX4_takenAhead_61 : decode cX4_takenAhead 61 = .ok (.aload_n 0, 1) := by decide +kernel
theorem dX4_takenAhead_62 : decode cX4_takenAhead 62 = .ok (.getfield 37, 3) := by decide +kernel
theorem dX4_takenAhead_65 : decode cX4_takenAhead 65 = .ok (.aload_n 0, 1) := by decide +kernel
theorem dX4_takenAhead_66 : decode cX4_takenAhead 66 = .ok (.getfield 19, 3) := by decide +kernel
theorem dX4_takenAhead_69 : decode cX4_takenAhead 69 = .ok (.invokevirtual 156, 3) := by decide +kernel
theorem dX4_takenAhead_72 : decode cX4_takenAhead 72 = .ok (.pop, 1) := by decide +kernel
theorem dX4_takenAhead_73 : decode cX4_takenAhead 73 = .ok (.iinc 3 1, 3) := by decide +kernel
theorem dX4_takenAhead_76 : decode cX4_takenAhead 76 = .ok (.goto (-41), 3) := by decide +kernel
theorem dX4_takenAhead_79 : decode cX4_takenAhead 79 = .ok (.aload_n 0, 1) := by decide +kernel
theorem dX4_takenAhead_80 : decode cX4_takenAhead 80 = .ok (.getfield 37, 3) := by decide +kernel
theorem dX4_takenAhead_83 : decode cX4_takenAhead 83 = .ok (.getfield 200, 3) := by decide +kernel
theorem dX4_takenAhead_86 : decode cX4_takenAhead 86 = .ok (.aload_n 0, 1) := by decide +kernel
theorem dX4_takenAhead_87 : decode cX4_takenAhead 87 = .ok (.getfield 26, 3) := by decide +kernel
theorem dX4_takenAhead_90 : decode cX4_takenAhead 90 = .ok (.getfield 200, 3) := by decide +kernel
theorem dX4_takenAhead_93 : decode cX4_takenAhead 93 = .ok (.isub, 1) := by decide +kernel
theorem dX4_takenAhead_94 : decode cX4_takenAhead 94 = .ok (.ireturn, 1) := by decide +kernel
theorem dX4_seedAfter_0 : decode cX4_seedAfter 0 = .ok (.ldc2_w 281, 3) := by decide +kernel
theorem dX4_seedAfter_3 : decode cX4_seedAfter 3 = .ok (.iload_n 0, 1) := by decide +kernel
theorem dX4_seedAfter_4 : decode cX4_seedAfter 4 = .ok (.i2l, 1) := by decide +kernel
theorem dX4_seedAfter_5 : decode cX4_seedAfter 5 = .ok (.lmul, 1) := by decide +kernel
theorem dX4_seedAfter_6 : decode cX4_seedAfter 6 = .ok (.ldc2_w 283, 3) := by decide +kernel
theorem dX4_seedAfter_9 : decode cX4_seedAfter 9 = .ok (.ladd, 1) := by decide +kernel
theorem dX4_seedAfter_10 : decode cX4_seedAfter 10 = .ok (.ldc2_w 285, 3) := by decide +kernel
theorem dX4_seedAfter_13 : decode cX4_seedAfter 13 = .ok (.lrem, 1) := by decide +kernel
theorem dX4_seedAfter_14 : decode cX4_seedAfter 14 = .ok (.l2i, 1) := by decide +kernel
theorem dX4_seedAfter_15 : decode cX4_seedAfter 15 = .ok (.ireturn, 1) := by decide +kernel
theorem dX4_bit_0 : decode cX4_bit 0 = .ok (.iconst 1, 1) := by decide +kernel
theorem dX4_bit_1 : decode cX4_bit 1 = .ok (.iload_n 0, 1) := by decide +kernel
theorem dX4_bit_2 : decode cX4_bit 2 = .ok (.ishl, 1) := by decide +kernel
theorem dX4_bit_3 : decode cX4_bit 3 = .ok (.ireturn, 1) := by decide +kernel
theorem dX4_isIn_0 : decode cX4_isIn 0 = .ok (.iload_n 0, 1) := by decide +kernel
theorem dX4_isIn_1 : decode cX4_isIn 1 = .ok (.iload_n 1, 1) := by decide +kernel
theorem dX4_isIn_2 : decode cX4_isIn 2 = .ok (.ishr, 1) := by decide +kernel
theorem dX4_isIn_3 : decode cX4_isIn 3 = .ok (.iconst 1, 1) := by decide +kernel
theorem dX4_isIn_4 : decode cX4_isIn 4 = .ok (.iand, 1) := by decide +kernel
theorem dX4_isIn_5 : decode cX4_isIn 5 = .ok (.ifCond .eq 7, 3) := by decide +kernel
theorem dX4_isIn_8 : decode cX4_isIn 8 = .ok (.iconst 1, 1) := by decide +kernel
theorem dX4_isIn_9 : decode cX4_isIn 9 = .ok (.goto 4, 3) := by decide +kernel
theorem dX4_isIn_12 : decode cX4_isIn 12 = .ok (.iconst 0, 1) := by decide +kernel
theorem dX4_isIn_13 : decode cX4_isIn 13 = .ok (.ireturn, 1) := by decide +kernel
theorem dX4_oneIf_0 : decode cX4_oneIf 0 = .ok (.iload_n 0, 1) := by decide +kernel
theorem dX4_oneIf_1 : decode cX4_oneIf 1 = .ok (.ifCond .eq 7, 3) := by decide +kernel
theorem dX4_oneIf_4 : decode cX4_oneIf 4 = .ok (.iconst 1, 1) := by decide +kernel
theorem dX4_oneIf_5 : decode cX4_oneIf 5 = .ok (.goto 4, 3) := by decide +kernel
theorem dX4_oneIf_8 : decode cX4_oneIf 8 = .ok (.iconst 0, 1) := by decide +kernel
theorem dX4_oneIf_9 : decode cX4_oneIf 9 = .ok (.ireturn, 1) := by decide +kernel
theorem dX5_init_0 : decode cX5_init 0 = .ok (.aload_n 0, 1) := by decide +kernel
theorem dX5_init_1 : decode cX5_init 1 = .ok (.invokespecial 1, 3) := by decide +kernel
theorem dX5_init_4 : decode cX5_init 4 = .ok (.aload_n 0, 1) := by decide +kernel
theorem dX5_init_5 : decode cX5_init 5 = .ok (.bipush 8, 2) := by decide +kernel
theorem dX5_init_7 : decode cX5_init 7 = .ok (.newarray .int, 2) := by decide +kernel
theorem dX5_init_9 : decode cX5_init 9 = .ok (.putfield 7, 3) := by decide +kernel
theorem dX5_init_12 : decode cX5_init 12 = .ok (.aload_n 0, 1) := by decide +kernel
theorem dX5_init_13 : decode cX5_init 13 = .ok (.bipush 8, 2) := by decide +kernel
theorem dX5_init_15 : decode cX5_init 15 = .ok (.newarray .int, 2) := by decide +kernel
theorem dX5_init_17 : decode cX5_init 17 = .ok (.putfield 13, 3) := by decide +kernel
theorem dX5_init_20 : decode cX5_init 20 = .ok (.aload_n 0, 1) := by decide +kernel
theorem dX5_init_21 : decode cX5_init 21 = .ok (.bipush 8, 2) := by decide +kernel
theorem dX5_init_23 : decode cX5_init 23 = .ok (.newarray .int, 2) := by decide +kernel
theorem dX5_init_25 : decode cX5_init 25 = .ok (.putfield 16, 3) := by decide +kernel
theorem dX5_init_28 : decode cX5_init 28 = .ok (.aload_n 0, 1) := by decide +kernel
theorem dX5_init_29 : decode cX5_init 29 = .ok (.bipush 8, 2) := by decide +kernel
theorem dX5_init_31 : decode cX5_init 31 = .ok (.newarray .int, 2) := by decide +kernel
theorem dX5_init_33 : decode cX5_init 33 = .ok (.putfield 19, 3) := by decide +kernel
theorem dX5_init_36 : decode cX5_init 36 = .ok (.aload_n 0, 1) := by decide +kernel
theorem dX5_init_37 : decode cX5_init 37 = .ok (.bipush 8, 2) := by decide +kernel
theorem dX5_init_39 : decode cX5_init 39 = .ok (.newarray .int, 2) := by decide +kernel
theorem dX5_init_41 : decode cX5_init 41 = .ok (.putfield 22, 3) := by decide +kernel
theorem dX5_init_44 : decode cX5_init 44 = .ok (.aload_n 0, 1) := by decide +kernel
theorem dX5_init_45 : decode cX5_init 45 = .ok (.bipush 8, 2) := by decide +kernel
theorem dX5_init_47 : decode cX5_init 47 = .ok (.newarray .int, 2) := by decide +kernel
theorem dX5_init_49 : decode cX5_init 49 = .ok (.putfield 25, 3) := by decide +kernel
theorem dX5_init_52 : decode cX5_init 52 = .ok (.aload_n 0, 1) := by decide +kernel
theorem dX5_init_53 : decode cX5_init 53 = .ok (.bipush 8, 2) := by decide +kernel
theorem dX5_init_55 : decode cX5_init 55 = .ok (.newarray .int, 2) := by decide +kernel
theorem dX5_init_57 : decode cX5_init 57 = .ok (.putfield 28, 3) := by decide +kernel
theorem dX5_init_60 : decode cX5_init 60 = .ok (.aload_n 0, 1) := by decide +kernel
theorem dX5_init_61 : decode cX5_init 61 = .ok (.bipush 8, 2) := by decide +kernel
theorem dX5_init_63 : decode cX5_init 63 = .ok (.newarray .int, 2) := by decide +kernel
theorem dX5_init_65 : decode cX5_init 65 = .ok (.putfield 31, 3) := by decide +kernel
theorem dX5_init_68 : decode cX5_init 68 = .ok (.aload_n 0, 1) := by decide +kernel
theorem dX5_init_69 : decode cX5_init 69 = .ok (.bipush 60, 2) := by decide +kernel
theorem dX5_init_71 : decode cX5_init 71 = .ok (.putfield 34, 3) := by decide +kernel
theorem dX5_init_74 : decode cX5_init 74 = .ok (.aload_n 0, 1) := by decide +kernel
theorem dX5_init_75 : decode cX5_init 75 = .ok (.bipush 60, 2) := by decide +kernel
theorem dX5_init_77 : decode cX5_init 77 = .ok (.putfield 38, 3) := by decide +kernel
theorem dX5_init_80 : decode cX5_init 80 = .ok (.aload_n 0, 1) := by decide +kernel
theorem dX5_init_81 : decode cX5_init 81 = .ok (.bipush 8, 2) := by decide +kernel
theorem dX5_init_83 : decode cX5_init 83 = .ok (.newarray .int, 2) := by decide +kernel
theorem dX5_init_85 : decode cX5_init 85 = .ok (.putfield 41, 3) := by decide +kernel
theorem dX5_init_88 : decode cX5_init 88 = .ok (.aload_n 0, 1) := by decide +kernel
theorem dX5_init_89 : decode cX5_init 89 = .ok (.bipush 8, 2) := by decide +kernel
theorem dX5_init_91 : decode cX5_init 91 = .ok (.newarray .int, 2) := by decide +kernel
theorem dX5_init_93 : decode cX5_init 93 = .ok (.putfield 44, 3) := by decide +kernel
theorem dX5_init_96 : decode cX5_init 96 = .ok (.aload_n 0, 1) := by decide +kernel
theorem dX5_init_97 : decode cX5_init 97 = .ok (.bipush 12, 2) := by decide +kernel
theorem dX5_init_99 : decode cX5_init 99 = .ok (.newarray .byte, 2) := by decide +kernel
theorem dX5_init_101 : decode cX5_init 101 = .ok (.putfield 47, 3) := by decide +kernel
theorem dX5_init_104 : decode cX5_init 104 = .ok (.aload_n 0, 1) := by decide +kernel
theorem dX5_init_105 : decode cX5_init 105 = .ok (.bipush 8, 2) := by decide +kernel
theorem dX5_init_107 : decode cX5_init 107 = .ok (.newarray .int, 2) := by decide +kernel
theorem dX5_init_109 : decode cX5_init 109 = .ok (.putfield 51, 3) := by decide +kernel
theorem dX5_init_112 : decode cX5_init 112 = .ok (.aload_n 0, 1) := by decide +kernel
theorem dX5_init_113 : decode cX5_init 113 = .ok (.bipush 8, 2) := by decide +kernel
theorem dX5_init_115 : decode cX5_init 115 = .ok (.newarray .int, 2) := by decide +kernel
theorem dX5_init_117 : decode cX5_init 117 = .ok (.putfield 54, 3) := by decide +kernel
theorem dX5_init_120 : decode cX5_init 120 = .ok (.aload_n 0, 1) := by decide +kernel
theorem dX5_init_121 : decode cX5_init 121 = .ok (.bipush 8, 2) := by decide +kernel
theorem dX5_init_123 : decode cX5_init 123 = .ok (.newarray .int, 2) := by decide +kernel
theorem dX5_init_125 : decode cX5_init 125 = .ok (.putfield 57, 3) := by decide +kernel
theorem dX5_init_128 : decode cX5_init 128 = .ok (.aload_n 0, 1) := by decide +kernel
theorem dX5_init_129 : decode cX5_init 129 = .ok (.bipush 8, 2) := by decide +kernel
theorem dX5_init_131 : decode cX5_init 131 = .ok (.newarray .int, 2) := by decide +kernel
theorem dX5_init_133 : decode cX5_init 133 = .ok (.putfield 60, 3) := by decide +kernel
theorem dX5_init_136 : decode cX5_init 136 = .ok (.aload_n 0, 1) := by decide +kernel
theorem dX5_init_137 : decode cX5_init 137 = .ok (.bipush 8, 2) := by decide +kernel
theorem dX5_init_139 : decode cX5_init 139 = .ok (.newarray .int, 2) := by decide +kernel
theorem dX5_init_141 : decode cX5_init 141 = .ok (.putfield 63, 3) := by decide +kernel
theorem dX5_init_144 : decode cX5_init 144 = .ok (.return_, 1) := by decide +kernel
theorem dX5_within_0 : decode cX5_within 0 = .ok (.iload_n 0, 1) := by decide +kernel
theorem dX5_within_1 : decode cX5_within 1 = .ok (.iload_n 1, 1) := by decide +kernel
theorem dX5_within_2 : decode cX5_within 2 = .ok (.if_icmp .lt 12, 3) := by decide +kernel
theorem dX5_within_5 : decode cX5_within 5 = .ok (.iload_n 0, 1) := by decide +kernel
theorem dX5_within_6 : decode cX5_within 6 = .ok (.iload_n 2, 1) := by decide +kernel
theorem dX5_within_7 : decode cX5_within 7 = .ok (.if_icmp .gt 7, 3) := by decide +kernel
theorem dX5_within_10 : decode cX5_within 10 = .ok (.iconst 1, 1) := by decide +kernel
theorem dX5_within_11 : decode cX5_within 11 = .ok (.goto 4, 3) := by decide +kernel
theorem dX5_within_14 : decode cX5_within 14 = .ok (.iconst 0, 1) := by decide +kernel
theorem dX5_within_15 : decode cX5_within 15 = .ok (.ireturn, 1) := by decide +kernel
theorem dX5_has_0 : decode cX5_has 0 = .ok (.iload_n 0, 1) := by decide +kernel
theorem dX5_has_1 : decode cX5_has 1 = .ok (.iload_n 1, 1) := by decide +kernel
theorem dX5_has_2 : decode cX5_has 2 = .ok (.ishr, 1) := by decide +kernel
theorem dX5_has_3 : decode cX5_has 3 = .ok (.iconst 1, 1) := by decide +kernel
theorem dX5_has_4 : decode cX5_has 4 = .ok (.iand, 1) := by decide +kernel
theorem dX5_has_5 : decode cX5_has 5 = .ok (.iconst 1, 1) := by decide +kernel
theorem dX5_has_6 : decode cX5_has 6 = .ok (.if_icmp .ne 7, 3) := by decide +kernel
theorem dX5_has_9 : decode cX5_has 9 = .ok (.iconst 1, 1) := by decide +kernel
theorem dX5_has_10 : decode cX5_has 10 = .ok (.goto 4, 3) := by decide +kernel
theorem dX5_has_13 : decode cX5_has 13 = .ok (.iconst 0, 1) := by decide +kernel
theorem dX5_has_14 : decode cX5_has 14 = .ok (.ireturn, 1) := by decide +kernel
theorem dX5_size_0 : decode cX5_size 0 = .ok (.iconst 0, 1) := by decide +kernel
theorem dX5_size_1 : decode cX5_size 1 = .ok (.istore_n 1, 1) := by decide +kernel
theorem dX5_size_2 : decode cX5_size 2 = .ok (.iconst 0, 1) := by decide +kernel
theorem dX5_size_3 : decode cX5_size 3 = .ok (.istore_n 2, 1) := by decide +kernel
theorem dX5_size_4 : decode cX5_size 4 = .ok (.iload_n 2, 1) := by decide +kernel
theorem dX5_size_5 : decode cX5_size 5 = .ok (.bipush 8, 2) := by decide +kernel
theorem dX5_size_7 : decode cX5_size 7 = .ok (.if_icmp .ge 17, 3) := by decide +kernel
theorem dX5_size_10 : decode cX5_size 10 = .ok (.iload_n 1, 1) := by decide +kernel
theorem dX5_size_11 : decode cX5_size 11 = .ok (.iload_n 0, 1) := by decide +kernel
theorem dX5_size_12 : decode cX5_size 12 = .ok (.iload_n 2, 1) := by decide +kernel
theorem dX5_size_13 : decode cX5_size 13 = .ok (.ishr, 1) := by decide +kernel
theorem dX5_size_14 : decode cX5_size 14 = .ok (.iconst 1, 1) := by decide +kernel
theorem dX5_size_15 : decode cX5_size 15 = .ok (.iand, 1) := by decide +kernel
theorem dX5_size_16 : decode cX5_size 16 = .ok (.iadd, 1) := by decide +kernel
theorem dX5_size_17 : decode cX5_size 17 = .ok (.istore_n 1, 1) := by decide +kernel
theorem dX5_size_18 : decode cX5_size 18 = .ok (.iinc 2 1, 3) := by decide +kernel
theorem dX5_size_21 : decode cX5_size 21 = .ok (.goto (-17), 3) := by decide +kernel
theorem dX5_size_24 : decode cX5_size 24 = .ok (.iload_n 1, 1) := by decide +kernel
theorem dX5_size_25 : decode cX5_size 25 = .ok (.ireturn, 1) := by decide +kernel
theorem dX5_letters_0 : decode cX5_letters 0 = .ok (.iconst 0, 1) := by decide +kernel
theorem dX5_letters_1 : decode cX5_letters 1 = .ok (.istore_n 3, 1) := by decide +kernel
theorem dX5_letters_2 : decode cX5_letters 2 = .ok (.iconst 0, 1) := by decide +kernel
theorem dX5_letters_3 : decode cX5_letters 3 = .ok (.istore 4, 2) := by decide +kernel
theorem dX5_letters_5 : decode cX5_letters 5 = .ok (.iconst 0, 1) := by decide +kernel
theorem dX5_letters_6 : decode cX5_letters 6 = .ok (.istore 5, 2) := by decide +kernel
theorem dX5_letters_8 : decode cX5_letters 8 = .ok (.iload 5, 2) := by decide +kernel
theorem dX5_letters_10 : decode cX5_letters 10 = .ok (.bipush 8, 2) := by decide +kernel
theorem dX5_letters_12 : decode cX5_letters 12 = .ok (.if_icmp .ge 73, 3) := by decide +kernel
theorem dX5_letters_15 : decode cX5_letters 15 = .ok (.lload_n 1, 1) := by decide +kernel
theorem dX5_letters_16 : decode cX5_letters 16 = .ok (.bipush 8, 2) := by decide +kernel
theorem dX5_letters_18 : decode cX5_letters 18 = .ok (.iload 5, 2) := by decide +kernel
theorem dX5_letters_20 : decode cX5_letters 20 = .ok (.imul, 1) := by decide +kernel
theorem dX5_letters_21 : decode cX5_letters 21 = .ok (.lshr, 1) := by decide +kernel
theorem dX5_letters_22 : decode cX5_letters 22 = .ok (.ldc2_w 66, 3) := by decide +kernel
theorem dX5_letters_25 : decode cX5_letters 25 = .ok (.land, 1) := by decide +kernel
theorem dX5_letters_26 : decode cX5_letters 26 = .ok (.l2i, 1) := by decide +kernel
theorem dX5_letters_27 : decode cX5_letters 27 = .ok (.istore 6, 2) := by decide +kernel
theorem dX5_letters_29 : decode cX5_letters 29 = .ok (.iload 6, 2) := by decide +kernel
theorem dX5_letters_31 : decode cX5_letters 31 = .ok (.bipush 126, 2) := by decide +kernel
theorem dX5_letters_33 : decode cX5_letters 33 = .ok (.if_icmp .gt 13, 3) := by decide +kernel
theorem dX5_letters_36 : decode cX5_letters 36 = .ok (.iload 4, 2) := by decide +kernel
theorem dX5_letters_38 : decode cX5_letters 38 = .ok (.ifCond .eq 11, 3) := by decide +kernel
theorem dX5_letters_41 : decode cX5_letters 41 = .ok (.iload 6, 2) := by decide +kernel
theorem dX5_letters_43 : decode cX5_letters 43 = .ok (.ifCond .eq 6, 3) := by decide +kernel
theorem dX5_letters_46 : decode cX5_letters 46 = .ok (.bipush (-102), 2) := by decide +kernel
theorem dX5_letters_48 : decode cX5_letters 48 = .ok (.ireturn, 1) := by decide +kernel
theorem dX5_letters_49 : decode cX5_letters 49 = .ok (.iload 4, 2) := by decide +kernel
theorem dX5_letters_51 : decode cX5_letters 51 = .ok (.ifCond .ne 8, 3) := by decide +kernel
theorem dX5_letters_54 : decode cX5_letters 54 = .ok (.iload 6, 2) := by decide +kernel
theorem dX5_letters_56 : decode cX5_letters 56 = .ok (.ifCond .ne 7, 3) := by decide +kernel
theorem dX5_letters_59 : decode cX5_letters 59 = .ok (.iconst 1, 1) := by decide +kernel
theorem dX5_letters_60 : decode cX5_letters 60 = .ok (.goto 4, 3) := by decide +kernel
theorem dX5_letters_63 : decode cX5_letters 63 = .ok (.iconst 0, 1) := by decide +kernel
theorem dX5_letters_64 : decode cX5_letters 64 = .ok (.istore 4, 2) := by decide +kernel
theorem dX5_letters_66 : decode cX5_letters 66 = .ok (.iload_n 3, 1) := by decide +kernel
theorem dX5_letters_67 : decode cX5_letters 67 = .ok (.iload 6, 2) := by decide +kernel
theorem dX5_letters_69 : decode cX5_letters 69 = .ok (.ifCond .ne 7, 3) := by decide +kernel
theorem dX5_letters_72 : decode cX5_letters 72 = .ok (.iconst 0, 1) := by decide +kernel
theorem dX5_letters_73 : decode cX5_letters 73 = .ok (.goto 4, 3) := by decide +kernel
theorem dX5_letters_76 : decode cX5_letters 76 = .ok (.iconst 1, 1) := by decide +kernel
theorem dX5_letters_77 : decode cX5_letters 77 = .ok (.iadd, 1) := by decide +kernel
theorem dX5_letters_78 : decode cX5_letters 78 = .ok (.istore_n 3, 1) := by decide +kernel
theorem dX5_letters_79 : decode cX5_letters 79 = .ok (.iinc 5 1, 3) := by decide +kernel
theorem dX5_letters_82 : decode cX5_letters 82 = .ok (.goto (-74), 3) := by decide +kernel
theorem dX5_letters_85 : decode cX5_letters 85 = .ok (.aload_n 0, 1) := by decide +kernel
theorem dX5_letters_86 : decode cX5_letters 86 = .ok (.getfield 68, 3) := by decide +kernel
theorem dX5_letters_89 : decode cX5_letters 89 = .ok (.iload_n 3, 1) := by decide +kernel
theorem dX5_letters_90 : decode cX5_letters 90 = .ok (.iadd, 1) := by decide +kernel
theorem dX5_letters_91 : decode cX5_letters 91 = .ok (.bipush 12, 2) := by decide +kernel
theorem dX5_letters_93 : decode cX5_letters 93 = .ok (.if_icmp .le 6, 3) := by decide +kernel
theorem dX5_letters_96 : decode cX5_letters 96 = .ok (.bipush (-104), 2) := by decide +kernel
theorem dX5_letters_98 : decode cX5_letters 98 = .ok (.ireturn, 1) := by decide +kernel
theorem dX5_letters_99 : decode cX5_letters 99 = .ok (.iconst 0, 1) := by decide +kernel
theorem dX5_letters_100 : decode cX5_letters 100 = .ok (.istore 5, 2) := by decide +kernel
theorem dX5_letters_102 : decode cX5_letters 102 = .ok (.iload 5, 2) := by decide +kernel
theorem dX5_letters_104 : decode cX5_letters 104 = .ok (.iload_n 3, 1) := by decide +kernel
theorem dX5_letters_105 : decode cX5_letters 105 = .ok (.if_icmp .ge 30, 3) := by decide +kernel
theorem dX5_letters_108 : decode cX5_letters 108 = .ok (.aload_n 0, 1) := by decide +kernel
theorem dX5_letters_109 : decode cX5_letters 109 = .ok (.getfield 47, 3) := by decide +kernel
theorem dX5_letters_112 : decode cX5_letters 112 = .ok (.aload_n 0, 1) := by decide +kernel
theorem dX5_letters_113 : decode cX5_letters 113 = .ok (.getfield 68, 3) := by decide +kernel
theorem dX5_letters_116 : decode cX5_letters 116 = .ok (.iload 5, 2) := by decide +kernel
theorem dX5_letters_118 : decode cX5_letters 118 = .ok (.iadd, 1) := by decide +kernel
theorem dX5_letters_119 : decode cX5_letters 119 = .ok (.lload_n 1, 1) := by decide +kernel
theorem dX5_letters_120 : decode cX5_letters 120 = .ok (.bipush 8, 2) := by decide +kernel
theorem dX5_letters_122 : decode cX5_letters 122 = .ok (.iload 5, 2) := by decide +kernel
theorem dX5_letters_124 : decode cX5_letters 124 = .ok (.imul, 1) := by decide +kernel
theorem dX5_letters_125 : decode cX5_letters 125 = .ok (.lshr, 1) := by decide +kernel
theorem dX5_letters_126 : decode cX5_letters 126 = .ok (.l2i, 1) := by decide +kernel
theorem dX5_letters_127 : decode cX5_letters 127 = .ok (.i2b, 1) := by decide +kernel
theorem dX5_letters_128 : decode cX5_letters 128 = .ok (.bastore, 1) := by decide +kernel
theorem dX5_letters_129 : decode cX5_letters 129 = .ok (.iinc 5 1, 3) := by decide +kernel
theorem dX5_letters_132 : decode cX5_letters 132 = .ok (.goto (-30), 3) := by decide +kernel
theorem dX5_letters_135 : decode cX5_letters 135 = .ok (.aload_n 0, 1) := by decide +kernel
theorem dX5_letters_136 : decode cX5_letters 136 = .ok (.dup, 1) := by decide +kernel
theorem dX5_letters_137 : decode cX5_letters 137 = .ok (.getfield 68, 3) := by decide +kernel
theorem dX5_letters_140 : decode cX5_letters 140 = .ok (.iload_n 3, 1) := by decide +kernel
theorem dX5_letters_141 : decode cX5_letters 141 = .ok (.iadd, 1) := by decide +kernel
theorem dX5_letters_142 : decode cX5_letters 142 = .ok (.putfield 68, 3) := by decide +kernel
theorem dX5_letters_145 : decode cX5_letters 145 = .ok (.aload_n 0, 1) := by decide +kernel
theorem dX5_letters_146 : decode cX5_letters 146 = .ok (.getfield 68, 3) := by decide +kernel
theorem dX5_letters_149 : decode cX5_letters 149 = .ok (.ireturn, 1) := by decide +kernel
theorem dX5_blank_0 : decode cX5_blank 0 = .ok (.aload_n 0, 1) := by decide +kernel
theorem dX5_blank_1 : decode cX5_blank 1 = .ok (.getfield 68, 3) := by decide +kernel
theorem dX5_blank_4 : decode cX5_blank 4 = .ok (.istore_n 1, 1) := by decide +kernel
theorem dX5_blank_5 : decode cX5_blank 5 = .ok (.aload_n 0, 1) := by decide +kernel
theorem dX5_blank_6 : decode cX5_blank 6 = .ok (.iconst 0, 1) := by decide +kernel
theorem dX5_blank_7 : decode cX5_blank 7 = .ok (.putfield 68, 3) := by decide +kernel
theorem dX5_blank_10 : decode cX5_blank 10 = .ok (.iload_n 1, 1) := by decide +kernel
theorem dX5_blank_11 : decode cX5_blank 11 = .ok (.ireturn, 1) := by decide +kernel
theorem dX5_kindBy_0 : decode cX5_kindBy 0 = .ok (.iload_n 0, 1) := by decide +kernel
theorem dX5_kindBy_1 : decode cX5_kindBy 1 = .ok (.bipush 104, 2) := by decide +kernel
theorem dX5_kindBy_3 : decode cX5_kindBy 3 = .ok (.if_icmp .ne 7, 3) := by decide +kernel
theorem dX5_kindBy_6 : decode cX5_kindBy 6 = .ok (.iconst 0, 1) := by decide +kernel
theorem dX5_kindBy_7 : decode cX5_kindBy 7 = .ok (.goto 44, 3) := by decide +kernel
theorem dX5_kindBy_10 : decode cX5_kindBy 10 = .ok (.iload_n 0, 1) := by decide +kernel
theorem dX5_kindBy_11 : decode cX5_kindBy 11 = .ok (.bipush 99, 2) := by decide +kernel
theorem dX5_kindBy_13 : decode cX5_kindBy 13 = .ok (.if_icmp .ne 7, 3) := by decide +kernel
theorem dX5_kindBy_16 : decode cX5_kindBy 16 = .ok (.iconst 1, 1) := by decide +kernel
theorem dX5_kindBy_17 : decode cX5_kindBy 17 = .ok (.goto 34, 3) := by decide +kernel
theorem dX5_kindBy_20 : decode cX5_kindBy 20 = .ok (.iload_n 0, 1) := by decide +kernel
theorem dX5_kindBy_21 : decode cX5_kindBy 21 = .ok (.bipush 117, 2) := by decide +kernel
theorem dX5_kindBy_23 : decode cX5_kindBy 23 = .ok (.if_icmp .ne 7, 3) := by decide +kernel
theorem dX5_kindBy_26 : decode cX5_kindBy 26 = .ok (.iconst 2, 1) := by decide +kernel
theorem dX5_kindBy_27 : decode cX5_kindBy 27 = .ok (.goto 24, 3) := by decide +kernel
theorem dX5_kindBy_30 : decode cX5_kindBy 30 = .ok (.iload_n 0, 1) := by decide +kernel
theorem dX5_kindBy_31 : decode cX5_kindBy 31 = .ok (.bipush 115, 2) := by decide +kernel
theorem dX5_kindBy_33 : decode cX5_kindBy 33 = .ok (.if_icmp .ne 7, 3) := by decide +kernel
theorem dX5_kindBy_36 : decode cX5_kindBy 36 = .ok (.iconst 3, 1) := by decide +kernel
theorem dX5_kindBy_37 : decode cX5_kindBy 37 = .ok (.goto 14, 3) := by decide +kernel
theorem dX5_kindBy_40 : decode cX5_kindBy 40 = .ok (.iload_n 0, 1) := by decide +kernel
theorem dX5_kindBy_41 : decode cX5_kindBy 41 = .ok (.bipush 120, 2) := by decide +kernel
theorem dX5_kindBy_43 : decode cX5_kindBy 43 = .ok (.if_icmp .ne 7, 3) := by decide +kernel
theorem dX5_kindBy_46 : decode cX5_kindBy 46 = .ok (.iconst 4, 1) := by decide +kernel
theorem dX5_kindBy_47 : decode cX5_kindBy 47 = .ok (.goto 4, 3) := by decide +kernel
theorem dX5_kindBy_50 : decode cX5_kindBy 50 = .ok (.iconst (-1), 1) := by decide +kernel
theorem dX5_kindBy_51 : decode cX5_kindBy 51 = .ok (.ireturn, 1) := by decide +kernel
theorem dX5_mayStand_0 : decode cX5_mayStand 0 = .ok (.iload_n 1, 1) := by decide +kernel
theorem dX5_mayStand_1 : decode cX5_mayStand 1 = .ok (.tableswitch 122 0 4 #[35, 49, 77, 86, 113], 35) := by decide +kernel
theorem dX5_mayStand_36 : decode cX5_mayStand 36 = .ok (.iload_n 2, 1) := by decide +kernel
theorem dX5_mayStand_37 : decode cX5_mayStand 37 = .ok (.invokestatic 71, 3) := by decide +kernel
theorem dX5_mayStand_40 : decode cX5_mayStand 40 = .ok (.iconst (-1), 1) := by decide +kernel
theorem dX5_mayStand_41 : decode cX5_mayStand 41 = .ok (.if_icmp .eq 7, 3) := by decide +kernel
theorem dX5_mayStand_44 : decode cX5_mayStand 44 = .ok (.iconst 1, 1) := by decide +kernel
theorem dX5_mayStand_45 : decode cX5_mayStand 45 = .ok (.goto 4, 3) := by decide +kernel
theorem dX5_mayStand_48 : decode cX5_mayStand 48 = .ok (.iconst 0, 1) := by decide +kernel
theorem dX5_mayStand_49 : decode cX5_mayStand 49 = .ok (.ireturn, 1) := by decide +kernel
theorem dX5_mayStand_50 : decode cX5_mayStand 50 = .ok (.iload_n 2, 1) := by decide +kernel
theorem dX5_mayStand_51 : decode cX5_mayStand 51 = .ok (.bipush 45, 2) := by decide +kernel
theorem dX5_mayStand_53 : decode cX5_mayStand 53 = .ok (.if_icmp .eq 19, 3) := by decide +kernel
theorem dX5_mayStand_56 : decode cX5_mayStand 56 = .ok (.iload_n 2, 1) := by decide +kernel
theorem dX5_mayStand_57 : decode cX5_mayStand 57 = .ok (.bipush 48, 2) := by decide +kernel
theorem dX5_mayStand_59 : decode cX5_mayStand 59 = .ok (.bipush 47, 2) := by decide +kernel
theorem dX5_mayStand_61 : decode cX5_mayStand 61 = .ok (.aload_n 0, 1) := by decide +kernel
theorem dX5_mayStand_62 : decode cX5_mayStand 62 = .ok (.getfield 75, 3) := by decide +kernel
theorem dX5_mayStand_65 : decode cX5_mayStand 65 = .ok (.iadd, 1) := by decide +kernel
theorem dX5_mayStand_66 : decode cX5_mayStand 66 = .ok (.invokestatic 78, 3) := by decide +kernel
theorem dX5_mayStand_69 : decode cX5_mayStand 69 = .ok (.ifCond .eq 7, 3) := by decide +kernel
theorem dX5_mayStand_72 : decode cX5_mayStand 72 = .ok (.iconst 1, 1) := by decide +kernel
theorem dX5_mayStand_73 : decode cX5_mayStand 73 = .ok (.goto 4, 3) := by decide +kernel
theorem dX5_mayStand_76 : decode cX5_mayStand 76 = .ok (.iconst 0, 1) := by decide +kernel
theorem dX5_mayStand_77 : decode cX5_mayStand 77 = .ok (.ireturn, 1) := by decide +kernel
theorem dX5_mayStand_78 : decode cX5_mayStand 78 = .ok (.iload_n 2, 1) := by decide +kernel
theorem dX5_mayStand_79 : decode cX5_mayStand 79 = .ok (.bipush 48, 2) := by decide +kernel
theorem dX5_mayStand_81 : decode cX5_mayStand 81 = .ok (.bipush 56, 2) := by decide +kernel
theorem dX5_mayStand_83 : decode cX5_mayStand 83 = .ok (.invokestatic 78, 3) := by decide +kernel
theorem dX5_mayStand_86 : decode cX5_mayStand 86 = .ok (.ireturn, 1) := by decide +kernel
theorem dX5_mayStand_87 : decode cX5_mayStand 87 = .ok (.iload_n 2, 1) := by decide +kernel
theorem dX5_mayStand_88 : decode cX5_mayStand 88 = .ok (.bipush 49, 2) := by decide +kernel
theorem dX5_mayStand_90 : decode cX5_mayStand 90 = .ok (.bipush 57, 2) := by decide +kernel
theorem dX5_mayStand_92 : decode cX5_mayStand 92 = .ok (.invokestatic 78, 3) := by decide +kernel
theorem dX5_mayStand_95 : decode cX5_mayStand 95 = .ok (.ifCond .eq 17, 3) := by decide +kernel
theorem dX5_mayStand_98 : decode cX5_mayStand 98 = .ok (.iload_n 2, 1) := by decide +kernel
theorem dX5_mayStand_99 : decode cX5_mayStand 99 = .ok (.aload_n 0, 1) := by decide +kernel
theorem dX5_mayStand_100 : decode cX5_mayStand 100 = .ok (.getfield 47, 3) := by decide +kernel
theorem dX5_mayStand_103 : decode cX5_mayStand 103 = .ok (.iconst 2, 1) := by decide +kernel
theorem dX5_mayStand_104 : decode cX5_mayStand 104 = .ok (.baload, 1) := by decide +kernel
theorem dX5_mayStand_105 : decode cX5_mayStand 105 = .ok (.if_icmp .le 7, 3) := by decide +kernel
theorem dX5_mayStand_108 : decode cX5_mayStand 108 = .ok (.iconst 1, 1) := by decide +kernel
theorem dX5_mayStand_109 : decode cX5_mayStand 109 = .ok (.goto 4, 3) := by decide +kernel
theorem dX5_mayStand_112 : decode cX5_mayStand 112 = .ok (.iconst 0, 1) := by decide +kernel
theorem dX5_mayStand_113 : decode cX5_mayStand 113 = .ok (.ireturn, 1) := by decide +kernel
theorem dX5_mayStand_114 : decode cX5_mayStand 114 = .ok (.iload_n 2, 1) := by decide +kernel
theorem dX5_mayStand_115 : decode cX5_mayStand 115 = .ok (.bipush 49, 2) := by decide +kernel
theorem dX5_mayStand_117 : decode cX5_mayStand 117 = .ok (.bipush 57, 2) := by decide +kernel
theorem dX5_mayStand_119 : decode cX5_mayStand 119 = .ok (.invokestatic 78, 3) := by decide +kernel
theorem dX5_mayStand_122 : decode cX5_mayStand 122 = .ok (.ireturn, 1) := by decide +kernel
theorem dX5_mayStand_123 : decode cX5_mayStand 123 = .ok (.iload_n 1, 1) := by decide +kernel
theorem dX5_mayStand_124 : decode cX5_mayStand 124 = .ok (.iconst 5, 1) := by decide +kernel
theorem dX5_mayStand_125 : decode cX5_mayStand 125 = .ok (.if_icmp .ne 18, 3) := by decide +kernel
theorem dX5_mayStand_128 : decode cX5_mayStand 128 = .ok (.iload_n 2, 1) := by decide +kernel
theorem dX5_mayStand_129 : decode cX5_mayStand 129 = .ok (.bipush 48, 2) := by decide +kernel
theorem dX5_mayStand_131 : decode cX5_mayStand 131 = .ok (.bipush 57, 2) := by decide +kernel
theorem dX5_mayStand_133 : decode cX5_mayStand 133 = .ok (.invokestatic 78, 3) := by decide +kernel
theorem dX5_mayStand_136 : decode cX5_mayStand 136 = .ok (.ifCond .eq 7, 3) := by decide +kernel
theorem dX5_mayStand_139 : decode cX5_mayStand 139 = .ok (.iconst 1, 1) := by decide +kernel
theorem dX5_mayStand_140 : decode cX5_mayStand 140 = .ok (.goto 4, 3) := by decide +kernel
theorem dX5_mayStand_143 : decode cX5_mayStand 143 = .ok (.iconst 0, 1) := by decide +kernel
theorem dX5_mayStand_144 : decode cX5_mayStand 144 = .ok (.ireturn, 1) := by decide +kernel
theorem dX5_faultNow_0 : decode cX5_faultNow 0 = .ok (.iconst 0, 1) := by decide +kernel
theorem dX5_faultNow_1 : decode cX5_faultNow 1 = .ok (.istore_n 1, 1) := by decide +kernel
theorem dX5_faultNow_2 : decode cX5_faultNow 2 = .ok (.iload_n 1, 1) := by decide +kernel
theorem dX5_faultNow_3 : decode cX5_faultNow 3 = .ok (.aload_n 0, 1) := by decide +kernel
theorem dX5_faultNow_4 : decode cX5_faultNow 4 = .ok (.getfield 68, 3) := by decide +kernel
theorem dX5_faultNow_7 : decode cX5_faultNow 7 = .ok (.if_icmp .ge 23, 3) := by decide +kernel
theorem dX5_faultNow_10 : decode cX5_faultNow 10 = .ok (.aload_n 0, 1) := by decide +kernel
theorem dX5_faultNow_11 : decode cX5_faultNow 11 = .ok (.iload_n 1, 1) := by decide +kernel
theorem dX5_faultNow_12 : decode cX5_faultNow 12 = .ok (.aload_n 0, 1) := by decide +kernel
theorem dX5_faultNow_13 : decode cX5_faultNow 13 = .ok (.getfield 47, 3) := by decide +kernel
theorem dX5_faultNow_16 : decode cX5_faultNow 16 = .ok (.iload_n 1, 1) := by decide +kernel
theorem dX5_faultNow_17 : decode cX5_faultNow 17 = .ok (.baload, 1) := by decide +kernel
theorem dX5_faultNow_18 : decode cX5_faultNow 18 = .ok (.invokevirtual 82, 3) := by decide +kernel
theorem dX5_faultNow_21 : decode cX5_faultNow 21 = .ok (.ifCond .eq 9, 3) := by decide +kernel
theorem dX5_faultNow_24 : decode cX5_faultNow 24 = .ok (.iinc 1 1, 3) := by decide +kernel
theorem dX5_faultNow_27 : decode cX5_faultNow 27 = .ok (.goto (-25), 3) := by decide +kernel
theorem dX5_faultNow_30 : decode cX5_faultNow 30 = .ok (.iload_n 1, 1) := by decide +kernel
theorem dX5_faultNow_31 : decode cX5_faultNow 31 = .ok (.ireturn, 1) := by decide +kernel
theorem dX5_fault_0 : decode cX5_fault 0 = .ok (.aload_n 0, 1) := by decide +kernel
theorem dX5_fault_1 : decode cX5_fault 1 = .ok (.invokevirtual 86, 3) := by decide +kernel
theorem dX5_fault_4 : decode cX5_fault 4 = .ok (.ireturn, 1) := by decide +kernel
theorem dX5_house_0 : decode cX5_house 0 = .ok (.aload_n 0, 1) := by decide +kernel
theorem dX5_house_1 : decode cX5_house 1 = .ok (.invokevirtual 86, 3) := by decide +kernel
theorem dX5_house_4 : decode cX5_house 4 = .ok (.aload_n 0, 1) := by decide +kernel
theorem dX5_house_5 : decode cX5_house 5 = .ok (.getfield 68, 3) := by decide +kernel
theorem dX5_house_8 : decode cX5_house 8 = .ok (.if_icmp .lt 19, 3) := by decide +kernel
theorem dX5_house_11 : decode cX5_house 11 = .ok (.aload_n 0, 1) := by decide +kernel
theorem dX5_house_12 : decode cX5_house 12 = .ok (.getfield 68, 3) := by decide +kernel
theorem dX5_house_15 : decode cX5_house 15 = .ok (.bipush 6, 2) := by decide +kernel
theorem dX5_house_17 : decode cX5_house 17 = .ok (.if_icmp .ne 10, 3) := by decide +kernel
theorem dX5_house_20 : decode cX5_house 20 = .ok (.aload_n 0, 1) := by decide +kernel
theorem dX5_house_21 : decode cX5_house 21 = .ok (.getfield 90, 3) := by decide +kernel
theorem dX5_house_24 : decode cX5_house 24 = .ok (.ifCond .le 6, 3) := by decide +kernel
theorem dX5_house_27 : decode cX5_house 27 = .ok (.bipush (-103), 2) := by decide +kernel
theorem dX5_house_29 : decode cX5_house 29 = .ok (.ireturn, 1) := by decide +kernel
theorem dX5_house_30 : decode cX5_house 30 = .ok (.aload_n 0, 1) := by decide +kernel
theorem dX5_house_31 : decode cX5_house 31 = .ok (.getfield 75, 3) := by decide +kernel
theorem dX5_house_34 : decode cX5_house 34 = .ok (.bipush 8, 2) := by decide +kernel
theorem dX5_house_36 : decode cX5_house 36 = .ok (.if_icmp .ne 6, 3) := by decide +kernel
theorem dX5_house_39 : decode cX5_house 39 = .ok (.bipush (-104), 2) := by decide +kernel
theorem dX5_house_41 : decode cX5_house 41 = .ok (.ireturn, 1) := by decide +kernel
theorem dX5_house_42 : decode cX5_house 42 = .ok (.aload_n 0, 1) := by decide +kernel
theorem dX5_house_43 : decode cX5_house 43 = .ok (.getfield 7, 3) := by decide +kernel
theorem dX5_house_46 : decode cX5_house 46 = .ok (.aload_n 0, 1) := by decide +kernel
theorem dX5_house_47 : decode cX5_house 47 = .ok (.getfield 75, 3) := by decide +kernel
theorem dX5_house_50 : decode cX5_house 50 = .ok (.aload_n 0, 1) := by decide +kernel
theorem dX5_house_51 : decode cX5_house 51 = .ok (.getfield 47, 3) := by decide +kernel
theorem dX5_house_54 : decode cX5_house 54 = .ok (.iconst 0, 1) := by decide +kernel
theorem dX5_house_55 : decode cX5_house 55 = .ok (.baload, 1) := by decide +kernel
theorem dX5_house_56 : decode cX5_house 56 = .ok (.invokestatic 71, 3) := by decide +kernel
theorem dX5_house_59 : decode cX5_house 59 = .ok (.iastore, 1) := by decide +kernel
theorem dX5_house_60 : decode cX5_house 60 = .ok (.aload_n 0, 1) := by decide +kernel
theorem dX5_house_61 : decode cX5_house 61 = .ok (.getfield 13, 3) := by decide +kernel
theorem dX5_house_64 : decode cX5_house 64 = .ok (.aload_n 0, 1) := by decide +kernel
theorem dX5_house_65 : decode cX5_house 65 = .ok (.getfield 75, 3) := by decide +kernel
theorem dX5_house_68 : decode cX5_house 68 = .ok (.aload_n 0, 1) := by decide +kernel
theorem dX5_house_69 : decode cX5_house 69 = .ok (.getfield 47, 3) := by decide +kernel
theorem dX5_house_72 : decode cX5_house 72 = .ok (.iconst 1, 1) := by decide +kernel
theorem dX5_house_73 : decode cX5_house 73 = .ok (.baload, 1) := by decide +kernel
theorem dX5_house_74 : decode cX5_house 74 = .ok (.bipush 45, 2) := by decide +kernel
theorem dX5_house_76 : decode cX5_house 76 = .ok (.if_icmp .ne 7, 3) := by decide +kernel
theorem dX5_house_79 : decode cX5_house 79 = .ok (.iconst (-1), 1) := by decide +kernel
theorem dX5_house_80 : decode cX5_house 80 = .ok (.goto 12, 3) := by decide +kernel
theorem dX5_house_83 : decode cX5_house 83 = .ok (.aload_n 0, 1) := by decide +kernel
theorem dX5_house_84 : decode cX5_house 84 = .ok (.getfield 47, 3) := by decide +kernel
theorem dX5_house_87 : decode cX5_house 87 = .ok (.iconst 1, 1) := by decide +kernel
theorem dX5_house_88 : decode cX5_house 88 = .ok (.baload, 1) := by decide +kernel
theorem dX5_house_89 : decode cX5_house 89 = .ok (.bipush 48, 2) := by decide +kernel
theorem dX5_house_91 : decode cX5_house 91 = .ok (.isub, 1) := by decide +kernel
theorem dX5_house_92 : decode cX5_house 92 = .ok (.iastore, 1) := by decide +kernel
theorem dX5_house_93 : decode cX5_house 93 = .ok (.aload_n 0, 1) := by decide +kernel
theorem dX5_house_94 : decode cX5_house 94 = .ok (.getfield 16, 3) := by decide +kernel
theorem dX5_house_97 : decode cX5_house 97 = .ok (.aload_n 0, 1) := by decide +kernel
theorem dX5_house_98 : decode cX5_house 98 = .ok (.getfield 75, 3) := by decide +kernel
theorem dX5_house_101 : decode cX5_house 101 = .ok (.aload_n 0, 1) := by decide +kernel
theorem dX5_house_102 : decode cX5_house 102 = .ok (.getfield 47, 3) := by decide +kernel
theorem dX5_house_105 : decode cX5_house 105 = .ok (.iconst 2, 1) := by decide +kernel
theorem dX5_house_106 : decode cX5_house 106 = .ok (.baload, 1) := by decide +kernel
theorem dX5_house_107 : decode cX5_house 107 = .ok (.bipush 48, 2) := by decide +kernel
theorem dX5_house_109 : decode cX5_house 109 = .ok (.isub, 1) := by decide +kernel
theorem dX5_house_110 : decode cX5_house 110 = .ok (.iastore, 1) := by decide +kernel
theorem dX5_house_111 : decode cX5_house 111 = .ok (.aload_n 0, 1) := by decide +kernel
theorem dX5_house_112 : decode cX5_house 112 = .ok (.getfield 19, 3) := by decide +kernel
theorem dX5_house_115 : decode cX5_house 115 = .ok (.aload_n 0, 1) := by decide +kernel
theorem dX5_house_116 : decode cX5_house 116 = .ok (.getfield 75, 3) := by decide +kernel
theorem dX5_house_119 : decode cX5_house 119 = .ok (.aload_n 0, 1) := by decide +kernel
theorem dX5_house_120 : decode cX5_house 120 = .ok (.getfield 47, 3) := by decide +kernel
theorem dX5_house_123 : decode cX5_house 123 = .ok (.iconst 3, 1) := by decide +kernel
theorem dX5_house_124 : decode cX5_house 124 = .ok (.baload, 1) := by decide +kernel
theorem dX5_house_125 : decode cX5_house 125 = .ok (.bipush 48, 2) := by decide +kernel
theorem dX5_house_127 : decode cX5_house 127 = .ok (.isub, 1) := by decide +kernel
theorem dX5_house_128 : decode cX5_house 128 = .ok (.iastore, 1) := by decide +kernel
theorem dX5_house_129 : decode cX5_house 129 = .ok (.aload_n 0, 1) := by decide +kernel
theorem dX5_house_130 : decode cX5_house 130 = .ok (.getfield 22, 3) := by decide +kernel
theorem dX5_house_133 : decode cX5_house 133 = .ok (.aload_n 0, 1) := by decide +kernel
theorem dX5_house_134 : decode cX5_house 134 = .ok (.getfield 75, 3) := by decide +kernel
theorem dX5_house_137 : decode cX5_house 137 = .ok (.aload_n 0, 1) := by decide +kernel
theorem dX5_house_138 : decode cX5_house 138 = .ok (.getfield 47, 3) := by decide +kernel
theorem dX5_house_141 : decode cX5_house 141 = .ok (.iconst 4, 1) := by decide +kernel
theorem dX5_house_142 : decode cX5_house 142 = .ok (.baload, 1) := by decide +kernel
theorem dX5_house_143 : decode cX5_house 143 = .ok (.bipush 48, 2) := by decide +kernel
theorem dX5_house_145 : decode cX5_house 145 = .ok (.isub, 1) := by decide +kernel
theorem dX5_house_146 : decode cX5_house 146 = .ok (.iastore, 1) := by decide +kernel
theorem dX5_house_147 : decode cX5_house 147 = .ok (.aload_n 0, 1) := by decide +kernel
theorem dX5_house_148 : decode cX5_house 148 = .ok (.getfield 25, 3) := by decide +kernel
theorem dX5_house_151 : decode cX5_house 151 = .ok (.aload_n 0, 1) := by decide +kernel
theorem dX5_house_152 : decode cX5_house 152 = .ok (.getfield 75, 3) := by decide +kernel
theorem dX5_house_155 : decode cX5_house 155 = .ok (.aload_n 0, 1) := by decide +kernel
theorem dX5_house_156 : decode cX5_house 156 = .ok (.getfield 47, 3) := by decide +kernel
theorem dX5_house_159 : decode cX5_house 159 = .ok (.iconst 5, 1) := by decide +kernel
theorem dX5_house_160 : decode cX5_house 160 = .ok (.baload, 1) := by decide +kernel
theorem dX5_house_161 : decode cX5_house 161 = .ok (.bipush 48, 2) := by decide +kernel
theorem dX5_house_163 : decode cX5_house 163 = .ok (.isub, 1) := by decide +kernel
theorem dX5_house_164 : decode cX5_house 164 = .ok (.iastore, 1) := by decide +kernel
theorem dX5_house_165 : decode cX5_house 165 = .ok (.aload_n 0, 1) := by decide +kernel
theorem dX5_house_166 : decode cX5_house 166 = .ok (.getfield 28, 3) := by decide +kernel
theorem dX5_house_169 : decode cX5_house 169 = .ok (.aload_n 0, 1) := by decide +kernel
theorem dX5_house_170 : decode cX5_house 170 = .ok (.getfield 75, 3) := by decide +kernel
theorem dX5_house_173 : decode cX5_house 173 = .ok (.iconst 0, 1) := by decide +kernel
theorem dX5_house_174 : decode cX5_house 174 = .ok (.iastore, 1) := by decide +kernel
theorem dX5_house_175 : decode cX5_house 175 = .ok (.aload_n 0, 1) := by decide +kernel
theorem dX5_house_176 : decode cX5_house 176 = .ok (.getfield 31, 3) := by decide +kernel
theorem dX5_house_179 : decode cX5_house 179 = .ok (.aload_n 0, 1) := by decide +kernel
theorem dX5_house_180 : decode cX5_house 180 = .ok (.getfield 75, 3) := by decide +kernel
theorem dX5_house_183 : decode cX5_house 183 = .ok (.iconst 0, 1) := by decide +kernel
theorem dX5_house_184 : decode cX5_house 184 = .ok (.iastore, 1) := by decide +kernel
theorem dX5_house_185 : decode cX5_house 185 = .ok (.aload_n 0, 1) := by decide +kernel
theorem dX5_house_186 : decode cX5_house 186 = .ok (.dup, 1) := by decide +kernel
theorem dX5_house_187 : decode cX5_house 187 = .ok (.getfield 93, 3) := by decide +kernel
theorem dX5_house_190 : decode cX5_house 190 = .ok (.iconst 1, 1) := by decide +kernel
theorem dX5_house_191 : decode cX5_house 191 = .ok (.aload_n 0, 1) := by decide +kernel
theorem dX5_house_192 : decode cX5_house 192 = .ok (.getfield 75, 3) := by decide +kernel
theorem dX5_house_195 : decode cX5_house 195 = .ok (.ishl, 1) := by decide +kernel
theorem dX5_house_196 : decode cX5_house 196 = .ok (.iconst (-1), 1) := by decide +kernel
theorem dX5_house_197 : decode cX5_house 197 = .ok (.ixor, 1) := by decide +kernel
theorem dX5_house_198 : decode cX5_house 198 = .ok (.iand, 1) := by decide +kernel
theorem dX5_house_199 : decode cX5_house 199 = .ok (.putfield 93, 3) := by decide +kernel
theorem dX5_house_202 : decode cX5_house 202 = .ok (.aload_n 0, 1) := by decide +kernel
theorem dX5_house_203 : decode cX5_house 203 = .ok (.dup, 1) := by decide +kernel
theorem dX5_house_204 : decode cX5_house 204 = .ok (.getfield 75, 3) := by decide +kernel
theorem dX5_house_207 : decode cX5_house 207 = .ok (.iconst 1, 1) := by decide +kernel
theorem dX5_house_208 : decode cX5_house 208 = .ok (.iadd, 1) := by decide +kernel
theorem dX5_house_209 : decode cX5_house 209 = .ok (.putfield 75, 3) := by decide +kernel
theorem dX5_house_212 : decode cX5_house 212 = .ok (.aload_n 0, 1) := by decide +kernel
theorem dX5_house_213 : decode cX5_house 213 = .ok (.iconst 0, 1) := by decide +kernel
theorem dX5_house_214 : decode cX5_house 214 = .ok (.putfield 68, 3) := by decide +kernel
theorem dX5_house_217 : decode cX5_house 217 = .ok (.aload_n 0, 1) := by decide +kernel
theorem dX5_house_218 : decode cX5_house 218 = .ok (.getfield 75, 3) := by decide +kernel
theorem dX5_house_221 : decode cX5_house 221 = .ok (.iconst 1, 1) := by decide +kernel
theorem dX5_house_222 : decode cX5_house 222 = .ok (.isub, 1) := by decide +kernel
theorem dX5_house_223 : decode cX5_house 223 = .ok (.ireturn, 1) := by decide +kernel
theorem dX5_isHouse_0 : decode cX5_isHouse 0 = .ok (.iload_n 1, 1) := by decide +kernel
theorem dX5_isHouse_1 : decode cX5_isHouse 1 = .ok (.iconst 0, 1) := by decide +kernel
theorem dX5_isHouse_2 : decode cX5_isHouse 2 = .ok (.aload_n 0, 1) := by decide +kernel
theorem dX5_isHouse_3 : decode cX5_isHouse 3 = .ok (.getfield 75, 3) := by decide +kernel
theorem dX5_isHouse_6 : decode cX5_isHouse 6 = .ok (.iconst 1, 1) := by decide +kernel
theorem dX5_isHouse_7 : decode cX5_isHouse 7 = .ok (.isub, 1) := by decide +kernel
theorem dX5_isHouse_8 : decode cX5_isHouse 8 = .ok (.invokestatic 78, 3) := by decide +kernel
theorem dX5_isHouse_11 : decode cX5_isHouse 11 = .ok (.ireturn, 1) := by decide +kernel
theorem dX5_houseNow_0 : decode cX5_houseNow 0 = .ok (.iload_n 2, 1) := by decide +kernel
theorem dX5_houseNow_1 : decode cX5_houseNow 1 = .ok (.tableswitch 103 0 7 #[47, 54, 61, 68, 75, 82, 89, 96], 47) := by decide +kernel
theorem dX5_houseNow_48 : decode cX5_houseNow 48 = .ok (.aload_n 0, 1) := by decide +kernel
theorem dX5_houseNow_49 : decode cX5_houseNow 49 = .ok (.getfield 7, 3) := by decide +kernel
theorem dX5_houseNow_52 : decode cX5_houseNow 52 = .ok (.iload_n 1, 1) := by decide +kernel
theorem dX5_houseNow_53 : decode cX5_houseNow 53 = .ok (.iaload, 1) := by decide +kernel
theorem dX5_houseNow_54 : decode cX5_houseNow 54 = .ok (.ireturn, 1) := by decide +kernel
theorem dX5_houseNow_55 : decode cX5_houseNow 55 = .ok (.aload_n 0, 1) := by decide +kernel
theorem dX5_houseNow_56 : decode cX5_houseNow 56 = .ok (.getfield 13, 3) := by decide +kernel
theorem dX5_houseNow_59 : decode cX5_houseNow 59 = .ok (.iload_n 1, 1) := by decide +kernel
theorem dX5_houseNow_60 : decode cX5_houseNow 60 = .ok (.iaload, 1) := by decide +kernel
theorem dX5_houseNow_61 : decode cX5_houseNow 61 = .ok (.ireturn, 1) := by decide +kernel
theorem dX5_houseNow_62 : decode cX5_houseNow 62 = .ok (.aload_n 0, 1) := by decide +kernel
theorem dX5_houseNow_63 : decode cX5_houseNow 63 = .ok (.getfield 16, 3) := by decide +kernel
theorem dX5_houseNow_66 : decode cX5_houseNow 66 = .ok (.iload_n 1, 1) := by decide +kernel
theorem dX5_houseNow_67 : decode cX5_houseNow 67 = .ok (.iaload, 1) := by decide +kernel
theorem dX5_houseNow_68 : decode cX5_houseNow 68 = .ok (.ireturn, 1) := by decide +kernel
theorem dX5_houseNow_69 : decode cX5_houseNow 69 = .ok (.aload_n 0, 1) := by decide +kernel
theorem dX5_houseNow_70 : decode cX5_houseNow 70 = .ok (.getfield 19, 3) := by decide +kernel
theorem dX5_houseNow_73 : decode cX5_houseNow 73 = .ok (.iload_n 1, 1) := by decide +kernel
theorem dX5_houseNow_74 : decode cX5_houseNow 74 = .ok (.iaload, 1) := by decide +kernel
theorem dX5_houseNow_75 : decode cX5_houseNow 75 = .ok (.ireturn, 1) := by decide +kernel
theorem dX5_houseNow_76 : decode cX5_houseNow 76 = .ok (.aload_n 0, 1) := by decide +kernel
theorem dX5_houseNow_77 : decode cX5_houseNow 77 = .ok (.getfield 22, 3) := by decide +kernel
theorem dX5_houseNow_80 : decode cX5_houseNow 80 = .ok (.iload_n 1, 1) := by decide +kernel
theorem dX5_houseNow_81 : decode cX5_houseNow 81 = .ok (.iaload, 1) := by decide +kernel
theorem dX5_houseNow_82 : decode cX5_houseNow 82 = .ok (.ireturn, 1) := by decide +kernel
theorem dX5_houseNow_83 : decode cX5_houseNow 83 = .ok (.aload_n 0, 1) := by decide +kernel
theorem dX5_houseNow_84 : decode cX5_houseNow 84 = .ok (.getfield 25, 3) := by decide +kernel
theorem dX5_houseNow_87 : decode cX5_houseNow 87 = .ok (.iload_n 1, 1) := by decide +kernel
theorem dX5_houseNow_88 : decode cX5_houseNow 88 = .ok (.iaload, 1) := by decide +kernel
theorem dX5_houseNow_89 : decode cX5_houseNow 89 = .ok (.ireturn, 1) := by decide +kernel
theorem dX5_houseNow_90 : decode cX5_houseNow 90 = .ok (.aload_n 0, 1) := by decide +kernel
theorem dX5_houseNow_91 : decode cX5_houseNow 91 = .ok (.getfield 28, 3) := by decide +kernel
theorem dX5_houseNow_94 : decode cX5_houseNow 94 = .ok (.iload_n 1, 1) := by decide +kernel
theorem dX5_houseNow_95 : decode cX5_houseNow 95 = .ok (.iaload, 1) := by decide +kernel
theorem dX5_houseNow_96 : decode cX5_houseNow 96 = .ok (.ireturn, 1) := by decide +kernel
theorem dX5_houseNow_97 : decode cX5_houseNow 97 = .ok (.aload_n 0, 1) := by decide +kernel
theorem dX5_houseNow_98 : decode cX5_houseNow 98 = .ok (.getfield 31, 3) := by decide +kernel
theorem dX5_houseNow_101 : decode cX5_houseNow 101 = .ok (.iload_n 1, 1) := by decide +kernel
theorem dX5_houseNow_102 : decode cX5_houseNow 102 = .ok (.iaload, 1) := by decide +kernel
theorem dX5_houseNow_103 : decode cX5_houseNow 103 = .ok (.ireturn, 1) := by decide +kernel
theorem dX5_houseNow_104 : decode cX5_houseNow 104 = .ok (.aload_n 0, 1) := by decide +kernel
theorem dX5_houseNow_105 : decode cX5_houseNow 105 = .ok (.getfield 93, 3) := by decide +kernel
theorem dX5_houseNow_108 : decode cX5_houseNow 108 = .ok (.iload_n 1, 1) := by decide +kernel
theorem dX5_houseNow_109 : decode cX5_houseNow 109 = .ok (.invokestatic 96, 3) := by decide +kernel
theorem dX5_houseNow_112 : decode cX5_houseNow 112 = .ok (.ifCond .eq 7, 3) := by decide +kernel
theorem dX5_houseNow_115 : decode cX5_houseNow 115 = .ok (.iconst 1, 1) := by decide +kernel
theorem dX5_houseNow_116 : decode cX5_houseNow 116 = .ok (.goto 4, 3) := by decide +kernel
theorem dX5_houseNow_119 : decode cX5_houseNow 119 = .ok (.iconst 0, 1) := by decide +kernel
theorem dX5_houseNow_120 : decode cX5_houseNow 120 = .ok (.ireturn, 1) := by decide +kernel
theorem dX5_about_0 : decode cX5_about 0 = .ok (.aload_n 0, 1) := by decide +kernel
theorem dX5_about_1 : decode cX5_about 1 = .ok (.iload_n 1, 1) := by decide +kernel
theorem dX5_about_2 : decode cX5_about 2 = .ok (.invokevirtual 99, 3) := by decide +kernel
theorem dX5_about_5 : decode cX5_about 5 = .ok (.ifCond .ne 8, 3) := by decide +kernel
theorem dX5_about_8 : decode cX5_about 8 = .ok (.bipush (-101), 2) := by decide +kernel
theorem dX5_about_10 : decode cX5_about 10 = .ok (.goto 24, 3) := by decide +kernel
theorem dX5_about_13 : decode cX5_about 13 = .ok (.iload_n 2, 1) := by decide +kernel
theorem dX5_about_14 : decode cX5_about 14 = .ok (.iconst 0, 1) := by decide +kernel
theorem dX5_about_15 : decode cX5_about 15 = .ok (.bipush 8, 2) := by decide +kernel
theorem dX5_about_17 : decode cX5_about 17 = .ok (.invokestatic 78, 3) := by decide +kernel
theorem dX5_about_20 : decode cX5_about 20 = .ok (.ifCond .eq 12, 3) := by decide +kernel
theorem dX5_about_23 : decode cX5_about 23 = .ok (.aload_n 0, 1) := by decide +kernel
theorem dX5_about_24 : decode cX5_about 24 = .ok (.iload_n 1, 1) := by decide +kernel
theorem dX5_about_25 : decode cX5_about 25 = .ok (.iload_n 2, 1) := by decide +kernel
theorem dX5_about_26 : decode cX5_about 26 = .ok (.invokevirtual 103, 3) := by decide +kernel
theorem dX5_about_29 : decode cX5_about 29 = .ok (.goto 5, 3) := by decide +kernel
theorem dX5_about_32 : decode cX5_about 32 = .ok (.bipush (-102), 2) := by decide +kernel
theorem dX5_about_34 : decode cX5_about 34 = .ok (.ireturn, 1) := by decide +kernel
theorem dX5_as_0 : decode cX5_as 0 = .ok (.aload_n 0, 1) := by decide +kernel
theorem dX5_as_1 : decode cX5_as 1 = .ok (.iload_n 1, 1) := by decide +kernel
