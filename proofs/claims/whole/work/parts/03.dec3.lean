theorem dX10_divisor_10 : decode cX10_divisor 10 = .ok (.istore_n 2, 1) := by decide +kernel
theorem dX10_divisor_11 : decode cX10_divisor 11 = .ok (.iload_n 1, 1) := by decide +kernel
theorem dX10_divisor_12 : decode cX10_divisor 12 = .ok (.istore_n 3, 1) := by decide +kernel
theorem dX10_divisor_13 : decode cX10_divisor 13 = .ok (.iload_n 3, 1) := by decide +kernel
theorem dX10_divisor_14 : decode cX10_divisor 14 = .ok (.ifCond .eq 16, 3) := by decide +kernel
theorem dX10_divisor_17 : decode cX10_divisor 17 = .ok (.iload_n 2, 1) := by decide +kernel
theorem dX10_divisor_18 : decode cX10_divisor 18 = .ok (.iload_n 3, 1) := by decide +kernel
theorem dX10_divisor_19 : decode cX10_divisor 19 = .ok (.irem, 1) := by decide +kernel
theorem dX10_divisor_20 : decode cX10_divisor 20 = .ok (.istore 4, 2) := by decide +kernel
theorem dX10_divisor_22 : decode cX10_divisor 22 = .ok (.iload_n 3, 1) := by decide +kernel
theorem dX10_divisor_23 : decode cX10_divisor 23 = .ok (.istore_n 2, 1) := by decide +kernel
theorem dX10_divisor_24 : decode cX10_divisor 24 = .ok (.iload 4, 2) := by decide +kernel
theorem dX10_divisor_26 : decode cX10_divisor 26 = .ok (.istore_n 3, 1) := by decide +kernel
theorem dX10_divisor_27 : decode cX10_divisor 27 = .ok (.goto (-14), 3) := by decide +kernel
theorem dX10_divisor_30 : decode cX10_divisor 30 = .ok (.iload_n 2, 1) := by decide +kernel
theorem dX10_divisor_31 : decode cX10_divisor 31 = .ok (.ireturn, 1) := by decide +kernel
theorem dX10_fraction_0 : decode cX10_fraction 0 = .ok (.iload_n 0, 1) := by decide +kernel
theorem dX10_fraction_1 : decode cX10_fraction 1 = .ok (.iload_n 1, 1) := by decide +kernel
theorem dX10_fraction_2 : decode cX10_fraction 2 = .ok (.invokestatic 199, 3) := by decide +kernel
theorem dX10_fraction_5 : decode cX10_fraction 5 = .ok (.istore_n 3, 1) := by decide +kernel
theorem dX10_fraction_6 : decode cX10_fraction 6 = .ok (.iload_n 2, 1) := by decide +kernel
theorem dX10_fraction_7 : decode cX10_fraction 7 = .ok (.ifCond .eq 9, 3) := by decide +kernel
theorem dX10_fraction_10 : decode cX10_fraction 10 = .ok (.iload_n 0, 1) := by decide +kernel
theorem dX10_fraction_11 : decode cX10_fraction 11 = .ok (.iload_n 3, 1) := by decide +kernel
theorem dX10_fraction_12 : decode cX10_fraction 12 = .ok (.idiv, 1) := by decide +kernel
theorem dX10_fraction_13 : decode cX10_fraction 13 = .ok (.goto 6, 3) := by decide +kernel
theorem dX10_fraction_16 : decode cX10_fraction 16 = .ok (.iload_n 1, 1) := by decide +kernel
theorem dX10_fraction_17 : decode cX10_fraction 17 = .ok (.iload_n 3, 1) := by decide +kernel
theorem dX10_fraction_18 : decode cX10_fraction 18 = .ok (.idiv, 1) := by decide +kernel
theorem dX10_fraction_19 : decode cX10_fraction 19 = .ok (.ireturn, 1) := by decide +kernel
theorem dX10_share_0 : decode cX10_share 0 = .ok (.aload_n 0, 1) := by decide +kernel
theorem dX10_share_1 : decode cX10_share 1 = .ok (.iconst 0, 1) := by decide +kernel
theorem dX10_share_2 : decode cX10_share 2 = .ok (.putfield 56, 3) := by decide +kernel
theorem dX10_share_5 : decode cX10_share 5 = .ok (.aload_n 0, 1) := by decide +kernel
theorem dX10_share_6 : decode cX10_share 6 = .ok (.iload_n 1, 1) := by decide +kernel
theorem dX10_share_7 : decode cX10_share 7 = .ok (.invokevirtual 129, 3) := by decide +kernel
theorem dX10_share_10 : decode cX10_share 10 = .ok (.ifCond .eq 5, 3) := by decide +kernel
theorem dX10_share_13 : decode cX10_share 13 = .ok (.iconst (-1), 1) := by decide +kernel
theorem dX10_share_14 : decode cX10_share 14 = .ok (.ireturn, 1) := by decide +kernel
theorem dX10_share_15 : decode cX10_share 15 = .ok (.iconst 0, 1) := by decide +kernel
theorem dX10_share_16 : decode cX10_share 16 = .ok (.istore_n 3, 1) := by decide +kernel
theorem dX10_share_17 : decode cX10_share 17 = .ok (.iload_n 3, 1) := by decide +kernel
theorem dX10_share_18 : decode cX10_share 18 = .ok (.iconst 1, 1) := by decide +kernel
theorem dX10_share_19 : decode cX10_share 19 = .ok (.aload_n 0, 1) := by decide +kernel
theorem dX10_share_20 : decode cX10_share 20 = .ok (.getfield 60, 3) := by decide +kernel
theorem dX10_share_23 : decode cX10_share 23 = .ok (.ishl, 1) := by decide +kernel
theorem dX10_share_24 : decode cX10_share 24 = .ok (.if_icmp .ge 80, 3) := by decide +kernel
theorem dX10_share_27 : decode cX10_share 27 = .ok (.aload_n 0, 1) := by decide +kernel
theorem dX10_share_28 : decode cX10_share 28 = .ok (.invokevirtual 155, 3) := by decide +kernel
theorem dX10_share_31 : decode cX10_share 31 = .ok (.iconst 0, 1) := by decide +kernel
theorem dX10_share_32 : decode cX10_share 32 = .ok (.istore 4, 2) := by decide +kernel
theorem dX10_share_34 : decode cX10_share 34 = .ok (.iload 4, 2) := by decide +kernel
theorem dX10_share_36 : decode cX10_share 36 = .ok (.aload_n 0, 1) := by decide +kernel
theorem dX10_share_37 : decode cX10_share 37 = .ok (.getfield 60, 3) := by decide +kernel
theorem dX10_share_40 : decode cX10_share 40 = .ok (.if_icmp .ge 40, 3) := by decide +kernel
theorem dX10_share_43 : decode cX10_share 43 = .ok (.aload_n 0, 1) := by decide +kernel
theorem dX10_share_44 : decode cX10_share 44 = .ok (.getfield 31, 3) := by decide +kernel
theorem dX10_share_47 : decode cX10_share 47 = .ok (.iconst 0, 1) := by decide +kernel
theorem dX10_share_48 : decode cX10_share 48 = .ok (.iload 4, 2) := by decide +kernel
theorem dX10_share_50 : decode cX10_share 50 = .ok (.iadd, 1) := by decide +kernel
theorem dX10_share_51 : decode cX10_share 51 = .ok (.iload_n 3, 1) := by decide +kernel
theorem dX10_share_52 : decode cX10_share 52 = .ok (.iload 4, 2) := by decide +kernel
theorem dX10_share_54 : decode cX10_share 54 = .ok (.invokestatic 148, 3) := by decide +kernel
theorem dX10_share_57 : decode cX10_share 57 = .ok (.ifCond .eq 15, 3) := by decide +kernel
theorem dX10_share_60 : decode cX10_share 60 = .ok (.aload_n 0, 1) := by decide +kernel
theorem dX10_share_61 : decode cX10_share 61 = .ok (.getfield 31, 3) := by decide +kernel
theorem dX10_share_64 : decode cX10_share 64 = .ok (.iconst 0, 1) := by decide +kernel
theorem dX10_share_65 : decode cX10_share 65 = .ok (.iload 4, 2) := by decide +kernel
theorem dX10_share_67 : decode cX10_share 67 = .ok (.iadd, 1) := by decide +kernel
theorem dX10_share_68 : decode cX10_share 68 = .ok (.iaload, 1) := by decide +kernel
theorem dX10_share_69 : decode cX10_share 69 = .ok (.goto 4, 3) := by decide +kernel
theorem dX10_share_72 : decode cX10_share 72 = .ok (.iconst 0, 1) := by decide +kernel
theorem dX10_share_73 : decode cX10_share 73 = .ok (.iastore, 1) := by decide +kernel
theorem dX10_share_74 : decode cX10_share 74 = .ok (.iinc 4 1, 3) := by decide +kernel
theorem dX10_share_77 : decode cX10_share 77 = .ok (.goto (-43), 3) := by decide +kernel
theorem dX10_share_80 : decode cX10_share 80 = .ok (.aload_n 0, 1) := by decide +kernel
theorem dX10_share_81 : decode cX10_share 81 = .ok (.aload_n 0, 1) := by decide +kernel
theorem dX10_share_82 : decode cX10_share 82 = .ok (.getfield 31, 3) := by decide +kernel
theorem dX10_share_85 : decode cX10_share 85 = .ok (.invokevirtual 122, 3) := by decide +kernel
theorem dX10_share_88 : decode cX10_share 88 = .ok (.aload_n 0, 1) := by decide +kernel
theorem dX10_share_89 : decode cX10_share 89 = .ok (.getfield 53, 3) := by decide +kernel
theorem dX10_share_92 : decode cX10_share 92 = .ok (.iload_n 3, 1) := by decide +kernel
theorem dX10_share_93 : decode cX10_share 93 = .ok (.aload_n 0, 1) := by decide +kernel
theorem dX10_share_94 : decode cX10_share 94 = .ok (.getfield 119, 3) := by decide +kernel
theorem dX10_share_97 : decode cX10_share 97 = .ok (.iastore, 1) := by decide +kernel
theorem dX10_share_98 : decode cX10_share 98 = .ok (.iinc 3 1, 3) := by decide +kernel
theorem dX10_share_101 : decode cX10_share 101 = .ok (.goto (-84), 3) := by decide +kernel
theorem dX10_share_104 : decode cX10_share 104 = .ok (.iconst 0, 1) := by decide +kernel
theorem dX10_share_105 : decode cX10_share 105 = .ok (.istore_n 3, 1) := by decide +kernel
theorem dX10_share_106 : decode cX10_share 106 = .ok (.iconst 0, 1) := by decide +kernel
theorem dX10_share_107 : decode cX10_share 107 = .ok (.istore 4, 2) := by decide +kernel
theorem dX10_share_109 : decode cX10_share 109 = .ok (.iload 4, 2) := by decide +kernel
theorem dX10_share_111 : decode cX10_share 111 = .ok (.iconst 1, 1) := by decide +kernel
theorem dX10_share_112 : decode cX10_share 112 = .ok (.aload_n 0, 1) := by decide +kernel
theorem dX10_share_113 : decode cX10_share 113 = .ok (.getfield 60, 3) := by decide +kernel
theorem dX10_share_116 : decode cX10_share 116 = .ok (.ishl, 1) := by decide +kernel
theorem dX10_share_117 : decode cX10_share 117 = .ok (.if_icmp .ge 66, 3) := by decide +kernel
theorem dX10_share_120 : decode cX10_share 120 = .ok (.iload 4, 2) := by decide +kernel
theorem dX10_share_122 : decode cX10_share 122 = .ok (.iload_n 1, 1) := by decide +kernel
theorem dX10_share_123 : decode cX10_share 123 = .ok (.invokestatic 148, 3) := by decide +kernel
theorem dX10_share_126 : decode cX10_share 126 = .ok (.ifCond .ne 51, 3) := by decide +kernel
theorem dX10_share_129 : decode cX10_share 129 = .ok (.iload 4, 2) := by decide +kernel
theorem dX10_share_131 : decode cX10_share 131 = .ok (.invokestatic 189, 3) := by decide +kernel
theorem dX10_share_134 : decode cX10_share 134 = .ok (.istore 5, 2) := by decide +kernel
theorem dX10_share_136 : decode cX10_share 136 = .ok (.iload_n 3, 1) := by decide +kernel
theorem dX10_share_137 : decode cX10_share 137 = .ok (.iload 5, 2) := by decide +kernel
theorem dX10_share_139 : decode cX10_share 139 = .ok (.invokestatic 202, 3) := by decide +kernel
theorem dX10_share_142 : decode cX10_share 142 = .ok (.aload_n 0, 1) := by decide +kernel
theorem dX10_share_143 : decode cX10_share 143 = .ok (.getfield 60, 3) := by decide +kernel
theorem dX10_share_146 : decode cX10_share 146 = .ok (.iconst 1, 1) := by decide +kernel
theorem dX10_share_147 : decode cX10_share 147 = .ok (.isub, 1) := by decide +kernel
theorem dX10_share_148 : decode cX10_share 148 = .ok (.iload 5, 2) := by decide +kernel
theorem dX10_share_150 : decode cX10_share 150 = .ok (.isub, 1) := by decide +kernel
theorem dX10_share_151 : decode cX10_share 151 = .ok (.invokestatic 202, 3) := by decide +kernel
theorem dX10_share_154 : decode cX10_share 154 = .ok (.imul, 1) := by decide +kernel
theorem dX10_share_155 : decode cX10_share 155 = .ok (.aload_n 0, 1) := by decide +kernel
theorem dX10_share_156 : decode cX10_share 156 = .ok (.getfield 53, 3) := by decide +kernel
theorem dX10_share_159 : decode cX10_share 159 = .ok (.iload 4, 2) := by decide +kernel
theorem dX10_share_161 : decode cX10_share 161 = .ok (.iconst 1, 1) := by decide +kernel
theorem dX10_share_162 : decode cX10_share 162 = .ok (.iload_n 1, 1) := by decide +kernel
theorem dX10_share_163 : decode cX10_share 163 = .ok (.ishl, 1) := by decide +kernel
theorem dX10_share_164 : decode cX10_share 164 = .ok (.ior, 1) := by decide +kernel
theorem dX10_share_165 : decode cX10_share 165 = .ok (.iaload, 1) := by decide +kernel
theorem dX10_share_166 : decode cX10_share 166 = .ok (.aload_n 0, 1) := by decide +kernel
theorem dX10_share_167 : decode cX10_share 167 = .ok (.getfield 53, 3) := by decide +kernel
theorem dX10_share_170 : decode cX10_share 170 = .ok (.iload 4, 2) := by decide +kernel
theorem dX10_share_172 : decode cX10_share 172 = .ok (.iaload, 1) := by decide +kernel
theorem dX10_share_173 : decode cX10_share 173 = .ok (.isub, 1) := by decide +kernel
theorem dX10_share_174 : decode cX10_share 174 = .ok (.imul, 1) := by decide +kernel
theorem dX10_share_175 : decode cX10_share 175 = .ok (.iadd, 1) := by decide +kernel
theorem dX10_share_176 : decode cX10_share 176 = .ok (.istore_n 3, 1) := by decide +kernel
theorem dX10_share_177 : decode cX10_share 177 = .ok (.iinc 4 1, 3) := by decide +kernel
theorem dX10_share_180 : decode cX10_share 180 = .ok (.goto (-71), 3) := by decide +kernel
theorem dX10_share_183 : decode cX10_share 183 = .ok (.iload_n 3, 1) := by decide +kernel
theorem dX10_share_184 : decode cX10_share 184 = .ok (.aload_n 0, 1) := by decide +kernel
theorem dX10_share_185 : decode cX10_share 185 = .ok (.getfield 60, 3) := by decide +kernel
theorem dX10_share_188 : decode cX10_share 188 = .ok (.invokestatic 202, 3) := by decide +kernel
theorem dX10_share_191 : decode cX10_share 191 = .ok (.iload_n 2, 1) := by decide +kernel
theorem dX10_share_192 : decode cX10_share 192 = .ok (.invokestatic 205, 3) := by decide +kernel
theorem dX10_share_195 : decode cX10_share 195 = .ok (.ireturn, 1) := by decide +kernel
theorem dX10_see_0 : decode cX10_see 0 = .ok (.aload_n 0, 1) := by decide +kernel
theorem dX10_see_1 : decode cX10_see 1 = .ok (.iconst 0, 1) := by decide +kernel
theorem dX10_see_2 : decode cX10_see 2 = .ok (.putfield 56, 3) := by decide +kernel
theorem dX10_see_5 : decode cX10_see 5 = .ok (.iload_n 1, 1) := by decide +kernel
theorem dX10_see_6 : decode cX10_see 6 = .ok (.i2l, 1) := by decide +kernel
theorem dX10_see_7 : decode cX10_see 7 = .ok (.lconst 0, 1) := by decide +kernel
theorem dX10_see_8 : decode cX10_see 8 = .ok (.ldc2_w 194, 3) := by decide +kernel
theorem dX10_see_11 : decode cX10_see 11 = .ok (.invokestatic 63, 3) := by decide +kernel
theorem dX10_see_14 : decode cX10_see 14 = .ok (.ifCond .eq 27, 3) := by decide +kernel
theorem dX10_see_17 : decode cX10_see 17 = .ok (.iload_n 2, 1) := by decide +kernel
theorem dX10_see_18 : decode cX10_see 18 = .ok (.i2l, 1) := by decide +kernel
theorem dX10_see_19 : decode cX10_see 19 = .ok (.lconst 0, 1) := by decide +kernel
theorem dX10_see_20 : decode cX10_see 20 = .ok (.ldc2_w 209, 3) := by decide +kernel
theorem dX10_see_23 : decode cX10_see 23 = .ok (.invokestatic 63, 3) := by decide +kernel
theorem dX10_see_26 : decode cX10_see 26 = .ok (.ifCond .eq 15, 3) := by decide +kernel
theorem dX10_see_29 : decode cX10_see 29 = .ok (.iload_n 3, 1) := by decide +kernel
theorem dX10_see_30 : decode cX10_see 30 = .ok (.i2l, 1) := by decide +kernel
theorem dX10_see_31 : decode cX10_see 31 = .ok (.lconst 0, 1) := by decide +kernel
theorem dX10_see_32 : decode cX10_see 32 = .ok (.ldc2_w 211, 3) := by decide +kernel
theorem dX10_see_35 : decode cX10_see 35 = .ok (.invokestatic 63, 3) := by decide +kernel
theorem dX10_see_38 : decode cX10_see 38 = .ok (.ifCond .ne 6, 3) := by decide +kernel
theorem dX10_see_41 : decode cX10_see 41 = .ok (.bipush (-2), 2) := by decide +kernel
theorem dX10_see_43 : decode cX10_see 43 = .ok (.ireturn, 1) := by decide +kernel
theorem dX10_see_44 : decode cX10_see 44 = .ok (.aload_n 0, 1) := by decide +kernel
theorem dX10_see_45 : decode cX10_see 45 = .ok (.getfield 126, 3) := by decide +kernel
theorem dX10_see_48 : decode cX10_see 48 = .ok (.bipush 6, 2) := by decide +kernel
theorem dX10_see_50 : decode cX10_see 50 = .ok (.if_icmp .ne 6, 3) := by decide +kernel
theorem dX10_see_53 : decode cX10_see 53 = .ok (.bipush (-4), 2) := by decide +kernel
theorem dX10_see_55 : decode cX10_see 55 = .ok (.ireturn, 1) := by decide +kernel
theorem dX10_see_56 : decode cX10_see 56 = .ok (.aload_n 0, 1) := by decide +kernel
theorem dX10_see_57 : decode cX10_see 57 = .ok (.getfield 44, 3) := by decide +kernel
theorem dX10_see_60 : decode cX10_see 60 = .ok (.aload_n 0, 1) := by decide +kernel
theorem dX10_see_61 : decode cX10_see 61 = .ok (.getfield 126, 3) := by decide +kernel
theorem dX10_see_64 : decode cX10_see 64 = .ok (.iload_n 1, 1) := by decide +kernel
theorem dX10_see_65 : decode cX10_see 65 = .ok (.iastore, 1) := by decide +kernel
theorem dX10_see_66 : decode cX10_see 66 = .ok (.aload_n 0, 1) := by decide +kernel
theorem dX10_see_67 : decode cX10_see 67 = .ok (.getfield 47, 3) := by decide +kernel
theorem dX10_see_70 : decode cX10_see 70 = .ok (.aload_n 0, 1) := by decide +kernel
theorem dX10_see_71 : decode cX10_see 71 = .ok (.getfield 126, 3) := by decide +kernel
theorem dX10_see_74 : decode cX10_see 74 = .ok (.iload_n 2, 1) := by decide +kernel
theorem dX10_see_75 : decode cX10_see 75 = .ok (.iastore, 1) := by decide +kernel
theorem dX10_see_76 : decode cX10_see 76 = .ok (.aload_n 0, 1) := by decide +kernel
theorem dX10_see_77 : decode cX10_see 77 = .ok (.getfield 50, 3) := by decide +kernel
theorem dX10_see_80 : decode cX10_see 80 = .ok (.aload_n 0, 1) := by decide +kernel
theorem dX10_see_81 : decode cX10_see 81 = .ok (.getfield 126, 3) := by decide +kernel
theorem dX10_see_84 : decode cX10_see 84 = .ok (.iload_n 3, 1) := by decide +kernel
theorem dX10_see_85 : decode cX10_see 85 = .ok (.iastore, 1) := by decide +kernel
theorem dX10_see_86 : decode cX10_see 86 = .ok (.aload_n 0, 1) := by decide +kernel
theorem dX10_see_87 : decode cX10_see 87 = .ok (.dup, 1) := by decide +kernel
theorem dX10_see_88 : decode cX10_see 88 = .ok (.getfield 126, 3) := by decide +kernel
theorem dX10_see_91 : decode cX10_see 91 = .ok (.iconst 1, 1) := by decide +kernel
theorem dX10_see_92 : decode cX10_see 92 = .ok (.iadd, 1) := by decide +kernel
theorem dX10_see_93 : decode cX10_see 93 = .ok (.putfield 126, 3) := by decide +kernel
theorem dX10_see_96 : decode cX10_see 96 = .ok (.aload_n 0, 1) := by decide +kernel
theorem dX10_see_97 : decode cX10_see 97 = .ok (.getfield 126, 3) := by decide +kernel
theorem dX10_see_100 : decode cX10_see 100 = .ok (.ireturn, 1) := by decide +kernel
theorem dX10_unsee_0 : decode cX10_unsee 0 = .ok (.aload_n 0, 1) := by decide +kernel
theorem dX10_unsee_1 : decode cX10_unsee 1 = .ok (.iconst 0, 1) := by decide +kernel
theorem dX10_unsee_2 : decode cX10_unsee 2 = .ok (.putfield 56, 3) := by decide +kernel
theorem dX10_unsee_5 : decode cX10_unsee 5 = .ok (.aload_n 0, 1) := by decide +kernel
theorem dX10_unsee_6 : decode cX10_unsee 6 = .ok (.getfield 126, 3) := by decide +kernel
theorem dX10_unsee_9 : decode cX10_unsee 9 = .ok (.istore_n 1, 1) := by decide +kernel
theorem dX10_unsee_10 : decode cX10_unsee 10 = .ok (.aload_n 0, 1) := by decide +kernel
theorem dX10_unsee_11 : decode cX10_unsee 11 = .ok (.iconst 0, 1) := by decide +kernel
theorem dX10_unsee_12 : decode cX10_unsee 12 = .ok (.putfield 126, 3) := by decide +kernel
theorem dX10_unsee_15 : decode cX10_unsee 15 = .ok (.iload_n 1, 1) := by decide +kernel
theorem dX10_unsee_16 : decode cX10_unsee 16 = .ok (.ireturn, 1) := by decide +kernel
theorem dX10_isSeen_0 : decode cX10_isSeen 0 = .ok (.iconst 1, 1) := by decide +kernel
theorem dX10_isSeen_1 : decode cX10_isSeen 1 = .ok (.istore_n 3, 1) := by decide +kernel
theorem dX10_isSeen_2 : decode cX10_isSeen 2 = .ok (.iconst 0, 1) := by decide +kernel
theorem dX10_isSeen_3 : decode cX10_isSeen 3 = .ok (.istore 4, 2) := by decide +kernel
theorem dX10_isSeen_5 : decode cX10_isSeen 5 = .ok (.iload 4, 2) := by decide +kernel
theorem dX10_isSeen_7 : decode cX10_isSeen 7 = .ok (.aload_n 0, 1) := by decide +kernel
theorem dX10_isSeen_8 : decode cX10_isSeen 8 = .ok (.getfield 126, 3) := by decide +kernel
theorem dX10_isSeen_11 : decode cX10_isSeen 11 = .ok (.if_icmp .ge 78, 3) := by decide +kernel
theorem dX10_isSeen_14 : decode cX10_isSeen 14 = .ok (.iload_n 3, 1) := by decide +kernel
theorem dX10_isSeen_15 : decode cX10_isSeen 15 = .ok (.ifCond .eq 74, 3) := by decide +kernel
theorem dX10_isSeen_18 : decode cX10_isSeen 18 = .ok (.aload_n 0, 1) := by decide +kernel
theorem dX10_isSeen_19 : decode cX10_isSeen 19 = .ok (.iload_n 1, 1) := by decide +kernel
theorem dX10_isSeen_20 : decode cX10_isSeen 20 = .ok (.iload_n 2, 1) := by decide +kernel
theorem dX10_isSeen_21 : decode cX10_isSeen 21 = .ok (.aload_n 0, 1) := by decide +kernel
theorem dX10_isSeen_22 : decode cX10_isSeen 22 = .ok (.getfield 44, 3) := by decide +kernel
theorem dX10_isSeen_25 : decode cX10_isSeen 25 = .ok (.iload 4, 2) := by decide +kernel
theorem dX10_isSeen_27 : decode cX10_isSeen 27 = .ok (.iaload, 1) := by decide +kernel
theorem dX10_isSeen_28 : decode cX10_isSeen 28 = .ok (.invokevirtual 185, 3) := by decide +kernel
theorem dX10_isSeen_31 : decode cX10_isSeen 31 = .ok (.aload_n 0, 1) := by decide +kernel
theorem dX10_isSeen_32 : decode cX10_isSeen 32 = .ok (.getfield 47, 3) := by decide +kernel
theorem dX10_isSeen_35 : decode cX10_isSeen 35 = .ok (.iload 4, 2) := by decide +kernel
theorem dX10_isSeen_37 : decode cX10_isSeen 37 = .ok (.iaload, 1) := by decide +kernel
theorem dX10_isSeen_38 : decode cX10_isSeen 38 = .ok (.aload_n 0, 1) := by decide +kernel
theorem dX10_isSeen_39 : decode cX10_isSeen 39 = .ok (.getfield 142, 3) := by decide +kernel
theorem dX10_isSeen_42 : decode cX10_isSeen 42 = .ok (.if_icmp .lt 7, 3) := by decide +kernel
theorem dX10_isSeen_45 : decode cX10_isSeen 45 = .ok (.iconst 2, 1) := by decide +kernel
theorem dX10_isSeen_46 : decode cX10_isSeen 46 = .ok (.goto 17, 3) := by decide +kernel
theorem dX10_isSeen_49 : decode cX10_isSeen 49 = .ok (.aload_n 0, 1) := by decide +kernel
theorem dX10_isSeen_50 : decode cX10_isSeen 50 = .ok (.getfield 145, 3) := by decide +kernel
theorem dX10_isSeen_53 : decode cX10_isSeen 53 = .ok (.aload_n 0, 1) := by decide +kernel
theorem dX10_isSeen_54 : decode cX10_isSeen 54 = .ok (.getfield 47, 3) := by decide +kernel
theorem dX10_isSeen_57 : decode cX10_isSeen 57 = .ok (.iload 4, 2) := by decide +kernel
theorem dX10_isSeen_59 : decode cX10_isSeen 59 = .ok (.iaload, 1) := by decide +kernel
theorem dX10_isSeen_60 : decode cX10_isSeen 60 = .ok (.ishr, 1) := by decide +kernel
theorem dX10_isSeen_61 : decode cX10_isSeen 61 = .ok (.iconst 1, 1) := by decide +kernel
theorem dX10_isSeen_62 : decode cX10_isSeen 62 = .ok (.iand, 1) := by decide +kernel
theorem dX10_isSeen_63 : decode cX10_isSeen 63 = .ok (.istore 5, 2) := by decide +kernel
theorem dX10_isSeen_65 : decode cX10_isSeen 65 = .ok (.iload 5, 2) := by decide +kernel
theorem dX10_isSeen_67 : decode cX10_isSeen 67 = .ok (.aload_n 0, 1) := by decide +kernel
theorem dX10_isSeen_68 : decode cX10_isSeen 68 = .ok (.getfield 50, 3) := by decide +kernel
theorem dX10_isSeen_71 : decode cX10_isSeen 71 = .ok (.iload 4, 2) := by decide +kernel
theorem dX10_isSeen_73 : decode cX10_isSeen 73 = .ok (.iaload, 1) := by decide +kernel
theorem dX10_isSeen_74 : decode cX10_isSeen 74 = .ok (.if_icmp .ne 7, 3) := by decide +kernel
theorem dX10_isSeen_77 : decode cX10_isSeen 77 = .ok (.iconst 1, 1) := by decide +kernel
theorem dX10_isSeen_78 : decode cX10_isSeen 78 = .ok (.goto 4, 3) := by decide +kernel
theorem dX10_isSeen_81 : decode cX10_isSeen 81 = .ok (.iconst 0, 1) := by decide +kernel
theorem dX10_isSeen_82 : decode cX10_isSeen 82 = .ok (.istore_n 3, 1) := by decide +kernel
theorem dX10_isSeen_83 : decode cX10_isSeen 83 = .ok (.iinc 4 1, 3) := by decide +kernel
theorem dX10_isSeen_86 : decode cX10_isSeen 86 = .ok (.goto (-81), 3) := by decide +kernel
theorem dX10_isSeen_89 : decode cX10_isSeen 89 = .ok (.iload_n 3, 1) := by decide +kernel
theorem dX10_isSeen_90 : decode cX10_isSeen 90 = .ok (.ireturn, 1) := by decide +kernel
theorem dX10_courses_0 : decode cX10_courses 0 = .ok (.aload_n 0, 1) := by decide +kernel
theorem dX10_courses_1 : decode cX10_courses 1 = .ok (.iconst 0, 1) := by decide +kernel
theorem dX10_courses_2 : decode cX10_courses 2 = .ok (.putfield 56, 3) := by decide +kernel
theorem dX10_courses_5 : decode cX10_courses 5 = .ok (.iload_n 1, 1) := by decide +kernel
theorem dX10_courses_6 : decode cX10_courses 6 = .ok (.i2l, 1) := by decide +kernel
theorem dX10_courses_7 : decode cX10_courses 7 = .ok (.lconst 1, 1) := by decide +kernel
theorem dX10_courses_8 : decode cX10_courses 8 = .ok (.ldc2_w 192, 3) := by decide +kernel
theorem dX10_courses_11 : decode cX10_courses 11 = .ok (.invokestatic 63, 3) := by decide +kernel
theorem dX10_courses_14 : decode cX10_courses 14 = .ok (.ifCond .eq 15, 3) := by decide +kernel
theorem dX10_courses_17 : decode cX10_courses 17 = .ok (.iload_n 2, 1) := by decide +kernel
theorem dX10_courses_18 : decode cX10_courses 18 = .ok (.i2l, 1) := by decide +kernel
theorem dX10_courses_19 : decode cX10_courses 19 = .ok (.lconst 0, 1) := by decide +kernel
theorem dX10_courses_20 : decode cX10_courses 20 = .ok (.ldc2_w 211, 3) := by decide +kernel
theorem dX10_courses_23 : decode cX10_courses 23 = .ok (.invokestatic 63, 3) := by decide +kernel
theorem dX10_courses_26 : decode cX10_courses 26 = .ok (.ifCond .ne 6, 3) := by decide +kernel
theorem dX10_courses_29 : decode cX10_courses 29 = .ok (.bipush (-2), 2) := by decide +kernel
theorem dX10_courses_31 : decode cX10_courses 31 = .ok (.ireturn, 1) := by decide +kernel
theorem dX10_courses_32 : decode cX10_courses 32 = .ok (.iconst 1, 1) := by decide +kernel
theorem dX10_courses_33 : decode cX10_courses 33 = .ok (.iload_n 1, 1) := by decide +kernel
theorem dX10_courses_34 : decode cX10_courses 34 = .ok (.ishl, 1) := by decide +kernel
theorem dX10_courses_35 : decode cX10_courses 35 = .ok (.iconst 1, 1) := by decide +kernel
theorem dX10_courses_36 : decode cX10_courses 36 = .ok (.isub, 1) := by decide +kernel
theorem dX10_courses_37 : decode cX10_courses 37 = .ok (.istore_n 3, 1) := by decide +kernel
theorem dX10_courses_38 : decode cX10_courses 38 = .ok (.iload_n 3, 1) := by decide +kernel
theorem dX10_courses_39 : decode cX10_courses 39 = .ok (.istore 4, 2) := by decide +kernel
theorem dX10_courses_41 : decode cX10_courses 41 = .ok (.iload_n 3, 1) := by decide +kernel
theorem dX10_courses_42 : decode cX10_courses 42 = .ok (.istore 5, 2) := by decide +kernel
theorem dX10_courses_44 : decode cX10_courses 44 = .ok (.iconst 0, 1) := by decide +kernel
theorem dX10_courses_45 : decode cX10_courses 45 = .ok (.istore 6, 2) := by decide +kernel
theorem dX10_courses_47 : decode cX10_courses 47 = .ok (.iconst 0, 1) := by decide +kernel
theorem dX10_courses_48 : decode cX10_courses 48 = .ok (.istore 7, 2) := by decide +kernel
theorem dX10_courses_50 : decode cX10_courses 50 = .ok (.iload 7, 2) := by decide +kernel
theorem dX10_courses_52 : decode cX10_courses 52 = .ok (.iload_n 3, 1) := by decide +kernel
theorem dX10_courses_53 : decode cX10_courses 53 = .ok (.if_icmp .gt 38, 3) := by decide +kernel
theorem dX10_courses_56 : decode cX10_courses 56 = .ok (.aload_n 0, 1) := by decide +kernel
theorem dX10_courses_57 : decode cX10_courses 57 = .ok (.iload_n 1, 1) := by decide +kernel
theorem dX10_courses_58 : decode cX10_courses 58 = .ok (.iload 7, 2) := by decide +kernel
theorem dX10_courses_60 : decode cX10_courses 60 = .ok (.invokevirtual 213, 3) := by decide +kernel
theorem dX10_courses_63 : decode cX10_courses 63 = .ok (.ifCond .eq 22, 3) := by decide +kernel
theorem dX10_courses_66 : decode cX10_courses 66 = .ok (.iinc 6 1, 3) := by decide +kernel
theorem dX10_courses_69 : decode cX10_courses 69 = .ok (.iload 4, 2) := by decide +kernel
theorem dX10_courses_71 : decode cX10_courses 71 = .ok (.iload 7, 2) := by decide +kernel
theorem dX10_courses_73 : decode cX10_courses 73 = .ok (.iand, 1) := by decide +kernel
theorem dX10_courses_74 : decode cX10_courses 74 = .ok (.istore 4, 2) := by decide +kernel
theorem dX10_courses_76 : decode cX10_courses 76 = .ok (.iload 5, 2) := by decide +kernel
theorem dX10_courses_78 : decode cX10_courses 78 = .ok (.iload 7, 2) := by decide +kernel
theorem dX10_courses_80 : decode cX10_courses 80 = .ok (.iconst (-1), 1) := by decide +kernel
theorem dX10_courses_81 : decode cX10_courses 81 = .ok (.ixor, 1) := by decide +kernel
theorem dX10_courses_82 : decode cX10_courses 82 = .ok (.iand, 1) := by decide +kernel
theorem dX10_courses_83 : decode cX10_courses 83 = .ok (.istore 5, 2) := by decide +kernel
theorem dX10_courses_85 : decode cX10_courses 85 = .ok (.iinc 7 1, 3) := by decide +kernel
theorem dX10_courses_88 : decode cX10_courses 88 = .ok (.goto (-38), 3) := by decide +kernel
theorem dX10_courses_91 : decode cX10_courses 91 = .ok (.iload_n 2, 1) := by decide +kernel
theorem dX10_courses_92 : decode cX10_courses 92 = .ok (.ifCond .ne 8, 3) := by decide +kernel
theorem dX10_courses_95 : decode cX10_courses 95 = .ok (.iload 6, 2) := by decide +kernel
theorem dX10_courses_97 : decode cX10_courses 97 = .ok (.goto 25, 3) := by decide +kernel
theorem dX10_courses_100 : decode cX10_courses 100 = .ok (.iload 6, 2) := by decide +kernel
theorem dX10_courses_102 : decode cX10_courses 102 = .ok (.ifCond .ne 8, 3) := by decide +kernel
theorem dX10_courses_105 : decode cX10_courses 105 = .ok (.bipush (-9), 2) := by decide +kernel
theorem dX10_courses_107 : decode cX10_courses 107 = .ok (.goto 15, 3) := by decide +kernel
theorem dX10_courses_110 : decode cX10_courses 110 = .ok (.iload_n 2, 1) := by decide +kernel
theorem dX10_courses_111 : decode cX10_courses 111 = .ok (.iconst 1, 1) := by decide +kernel
theorem dX10_courses_112 : decode cX10_courses 112 = .ok (.if_icmp .ne 8, 3) := by decide +kernel
theorem dX10_courses_115 : decode cX10_courses 115 = .ok (.iload 4, 2) := by decide +kernel
theorem dX10_courses_117 : decode cX10_courses 117 = .ok (.goto 5, 3) := by decide +kernel
theorem dX10_courses_120 : decode cX10_courses 120 = .ok (.iload 5, 2) := by decide +kernel
theorem dX10_courses_122 : decode cX10_courses 122 = .ok (.ireturn, 1) := by decide +kernel
theorem dX10_missing_0 : decode cX10_missing 0 = .ok (.iload_n 0, 1) := by decide +kernel
theorem dX10_missing_1 : decode cX10_missing 1 = .ok (.iload_n 1, 1) := by decide +kernel
theorem dX10_missing_2 : decode cX10_missing 2 = .ok (.if_icmp .le 9, 3) := by decide +kernel
theorem dX10_missing_5 : decode cX10_missing 5 = .ok (.iload_n 0, 1) := by decide +kernel
theorem dX10_missing_6 : decode cX10_missing 6 = .ok (.iload_n 1, 1) := by decide +kernel
theorem dX10_missing_7 : decode cX10_missing 7 = .ok (.isub, 1) := by decide +kernel
theorem dX10_missing_8 : decode cX10_missing 8 = .ok (.goto 4, 3) := by decide +kernel
theorem dX10_missing_11 : decode cX10_missing 11 = .ok (.iconst 0, 1) := by decide +kernel
theorem dX10_missing_12 : decode cX10_missing 12 = .ok (.ireturn, 1) := by decide +kernel
theorem dX10_findRests_0 : decode cX10_findRests 0 = .ok (.aload_n 0, 1) := by decide +kernel
theorem dX10_findRests_1 : decode cX10_findRests 1 = .ok (.iconst 0, 1) := by decide +kernel
theorem dX10_findRests_2 : decode cX10_findRests 2 = .ok (.putfield 216, 3) := by decide +kernel
theorem dX10_findRests_5 : decode cX10_findRests 5 = .ok (.aload_n 0, 1) := by decide +kernel
theorem dX10_findRests_6 : decode cX10_findRests 6 = .ok (.bipush (-9), 2) := by decide +kernel
theorem dX10_findRests_8 : decode cX10_findRests 8 = .ok (.putfield 219, 3) := by decide +kernel
theorem dX10_findRests_11 : decode cX10_findRests 11 = .ok (.iconst 0, 1) := by decide +kernel
theorem dX10_findRests_12 : decode cX10_findRests 12 = .ok (.istore_n 2, 1) := by decide +kernel
theorem dX10_findRests_13 : decode cX10_findRests 13 = .ok (.iload_n 2, 1) := by decide +kernel
theorem dX10_findRests_14 : decode cX10_findRests 14 = .ok (.bipush 10, 2) := by decide +kernel
theorem dX10_findRests_16 : decode cX10_findRests 16 = .ok (.if_icmp .ge 175, 3) := by decide +kernel
theorem dX10_findRests_19 : decode cX10_findRests 19 = .ok (.iconst 0, 1) := by decide +kernel
theorem dX10_findRests_20 : decode cX10_findRests 20 = .ok (.istore_n 3, 1) := by decide +kernel
theorem dX10_findRests_21 : decode cX10_findRests 21 = .ok (.iload_n 3, 1) := by decide +kernel
theorem dX10_findRests_22 : decode cX10_findRests 22 = .ok (.iload_n 1, 1) := by decide +kernel
theorem dX10_findRests_23 : decode cX10_findRests 23 = .ok (.if_icmp .gt 162, 3) := by decide +kernel
theorem dX10_findRests_26 : decode cX10_findRests 26 = .ok (.iconst 1, 1) := by decide +kernel
theorem dX10_findRests_27 : decode cX10_findRests 27 = .ok (.istore 4, 2) := by decide +kernel
theorem dX10_findRests_29 : decode cX10_findRests 29 = .ok (.iconst 0, 1) := by decide +kernel
theorem dX10_findRests_30 : decode cX10_findRests 30 = .ok (.istore 5, 2) := by decide +kernel
theorem dX10_findRests_32 : decode cX10_findRests 32 = .ok (.iload 5, 2) := by decide +kernel
theorem dX10_findRests_34 : decode cX10_findRests 34 = .ok (.bipush 10, 2) := by decide +kernel
theorem dX10_findRests_36 : decode cX10_findRests 36 = .ok (.if_icmp .ge 95, 3) := by decide +kernel
theorem dX10_findRests_39 : decode cX10_findRests 39 = .ok (.iload 4, 2) := by decide +kernel
theorem dX10_findRests_41 : decode cX10_findRests 41 = .ok (.ifCond .eq 34, 3) := by decide +kernel
theorem dX10_findRests_44 : decode cX10_findRests 44 = .ok (.iload 5, 2) := by decide +kernel
theorem dX10_findRests_46 : decode cX10_findRests 46 = .ok (.iload_n 3, 1) := by decide +kernel
theorem dX10_findRests_47 : decode cX10_findRests 47 = .ok (.iadd, 1) := by decide +kernel
theorem dX10_findRests_48 : decode cX10_findRests 48 = .ok (.iconst 3, 1) := by decide +kernel
theorem dX10_findRests_49 : decode cX10_findRests 49 = .ok (.iload 5, 2) := by decide +kernel
theorem dX10_findRests_51 : decode cX10_findRests 51 = .ok (.iload_n 3, 1) := by decide +kernel
theorem dX10_findRests_52 : decode cX10_findRests 52 = .ok (.invokestatic 222, 3) := by decide +kernel
theorem dX10_findRests_55 : decode cX10_findRests 55 = .ok (.imul, 1) := by decide +kernel
theorem dX10_findRests_56 : decode cX10_findRests 56 = .ok (.isub, 1) := by decide +kernel
theorem dX10_findRests_57 : decode cX10_findRests 57 = .ok (.iload_n 2, 1) := by decide +kernel
theorem dX10_findRests_58 : decode cX10_findRests 58 = .ok (.iload_n 3, 1) := by decide +kernel
theorem dX10_findRests_59 : decode cX10_findRests 59 = .ok (.iadd, 1) := by decide +kernel
theorem dX10_findRests_60 : decode cX10_findRests 60 = .ok (.iconst 3, 1) := by decide +kernel
theorem dX10_findRests_61 : decode cX10_findRests 61 = .ok (.iload_n 2, 1) := by decide +kernel
theorem dX10_findRests_62 : decode cX10_findRests 62 = .ok (.iload_n 3, 1) := by decide +kernel
theorem dX10_findRests_63 : decode cX10_findRests 63 = .ok (.invokestatic 222, 3) := by decide +kernel
theorem dX10_findRests_66 : decode cX10_findRests 66 = .ok (.imul, 1) := by decide +kernel
theorem dX10_findRests_67 : decode cX10_findRests 67 = .ok (.isub, 1) := by decide +kernel
theorem dX10_findRests_68 : decode cX10_findRests 68 = .ok (.if_icmp .gt 7, 3) := by decide +kernel
theorem dX10_findRests_71 : decode cX10_findRests 71 = .ok (.iconst 1, 1) := by decide +kernel
theorem dX10_findRests_72 : decode cX10_findRests 72 = .ok (.goto 4, 3) := by decide +kernel
theorem dX10_findRests_75 : decode cX10_findRests 75 = .ok (.iconst 0, 1) := by decide +kernel
theorem dX10_findRests_76 : decode cX10_findRests 76 = .ok (.istore 4, 2) := by decide +kernel
theorem dX10_findRests_78 : decode cX10_findRests 78 = .ok (.iload 4, 2) := by decide +kernel
theorem dX10_findRests_80 : decode cX10_findRests 80 = .ok (.ifCond .eq 42, 3) := by decide +kernel
theorem dX10_findRests_83 : decode cX10_findRests 83 = .ok (.iload 5, 2) := by decide +kernel
theorem dX10_findRests_85 : decode cX10_findRests 85 = .ok (.iload_n 1, 1) := by decide +kernel
theorem dX10_findRests_86 : decode cX10_findRests 86 = .ok (.if_icmp .gt 32, 3) := by decide +kernel
theorem dX10_findRests_89 : decode cX10_findRests 89 = .ok (.bipush 9, 2) := by decide +kernel
theorem dX10_findRests_91 : decode cX10_findRests 91 = .ok (.iload 5, 2) := by decide +kernel
theorem dX10_findRests_93 : decode cX10_findRests 93 = .ok (.isub, 1) := by decide +kernel
theorem dX10_findRests_94 : decode cX10_findRests 94 = .ok (.iconst 2, 1) := by decide +kernel
theorem dX10_findRests_95 : decode cX10_findRests 95 = .ok (.iload_n 2, 1) := by decide +kernel
theorem dX10_findRests_96 : decode cX10_findRests 96 = .ok (.iload 5, 2) := by decide +kernel
theorem dX10_findRests_98 : decode cX10_findRests 98 = .ok (.invokestatic 222, 3) := by decide +kernel
theorem dX10_findRests_101 : decode cX10_findRests 101 = .ok (.imul, 1) := by decide +kernel
theorem dX10_findRests_102 : decode cX10_findRests 102 = .ok (.isub, 1) := by decide +kernel
theorem dX10_findRests_103 : decode cX10_findRests 103 = .ok (.bipush 9, 2) := by decide +kernel
theorem dX10_findRests_105 : decode cX10_findRests 105 = .ok (.iload_n 3, 1) := by decide +kernel
theorem dX10_findRests_106 : decode cX10_findRests 106 = .ok (.isub, 1) := by decide +kernel
theorem dX10_findRests_107 : decode cX10_findRests 107 = .ok (.iconst 2, 1) := by decide +kernel
theorem dX10_findRests_108 : decode cX10_findRests 108 = .ok (.iload_n 2, 1) := by decide +kernel
theorem dX10_findRests_109 : decode cX10_findRests 109 = .ok (.iload_n 3, 1) := by decide +kernel
theorem dX10_findRests_110 : decode cX10_findRests 110 = .ok (.invokestatic 222, 3) := by decide +kernel
theorem dX10_findRests_113 : decode cX10_findRests 113 = .ok (.imul, 1) := by decide +kernel
theorem dX10_findRests_114 : decode cX10_findRests 114 = .ok (.isub, 1) := by decide +kernel
theorem dX10_findRests_115 : decode cX10_findRests 115 = .ok (.if_icmp .gt 7, 3) := by decide +kernel
theorem dX10_findRests_118 : decode cX10_findRests 118 = .ok (.iconst 1, 1) := by decide +kernel
theorem dX10_findRests_119 : decode cX10_findRests 119 = .ok (.goto 4, 3) := by decide +kernel
theorem dX10_findRests_122 : decode cX10_findRests 122 = .ok (.iconst 0, 1) := by decide +kernel
theorem dX10_findRests_123 : decode cX10_findRests 123 = .ok (.istore 4, 2) := by decide +kernel
theorem dX10_findRests_125 : decode cX10_findRests 125 = .ok (.iinc 5 1, 3) := by decide +kernel
theorem dX10_findRests_128 : decode cX10_findRests 128 = .ok (.goto (-96), 3) := by decide +kernel
theorem dX10_findRests_131 : decode cX10_findRests 131 = .ok (.aload_n 0, 1) := by decide +kernel
theorem dX10_findRests_132 : decode cX10_findRests 132 = .ok (.iload 4, 2) := by decide +kernel
theorem dX10_findRests_134 : decode cX10_findRests 134 = .ok (.ifCond .eq 19, 3) := by decide +kernel
theorem dX10_findRests_137 : decode cX10_findRests 137 = .ok (.aload_n 0, 1) := by decide +kernel
theorem dX10_findRests_138 : decode cX10_findRests 138 = .ok (.getfield 216, 3) := by decide +kernel
theorem dX10_findRests_141 : decode cX10_findRests 141 = .ok (.ifCond .ne 12, 3) := by decide +kernel
theorem dX10_findRests_144 : decode cX10_findRests 144 = .ok (.bipush 10, 2) := by decide +kernel
theorem dX10_findRests_146 : decode cX10_findRests 146 = .ok (.iload_n 2, 1) := by decide +kernel
theorem dX10_findRests_147 : decode cX10_findRests 147 = .ok (.imul, 1) := by decide +kernel
theorem dX10_findRests_148 : decode cX10_findRests 148 = .ok (.iload_n 3, 1) := by decide +kernel
theorem dX10_findRests_149 : decode cX10_findRests 149 = .ok (.iadd, 1) := by decide +kernel
theorem dX10_findRests_150 : decode cX10_findRests 150 = .ok (.goto 7, 3) := by decide +kernel
theorem dX10_findRests_153 : decode cX10_findRests 153 = .ok (.aload_n 0, 1) := by decide +kernel
theorem dX10_findRests_154 : decode cX10_findRests 154 = .ok (.getfield 219, 3) := by decide +kernel
theorem dX10_findRests_157 : decode cX10_findRests 157 = .ok (.putfield 219, 3) := by decide +kernel
theorem dX10_findRests_160 : decode cX10_findRests 160 = .ok (.aload_n 0, 1) := by decide +kernel
theorem dX10_findRests_161 : decode cX10_findRests 161 = .ok (.dup, 1) := by decide +kernel
theorem dX10_findRests_162 : decode cX10_findRests 162 = .ok (.getfield 216, 3) := by decide +kernel
theorem dX10_findRests_165 : decode cX10_findRests 165 = .ok (.iload 4, 2) := by decide +kernel
theorem dX10_findRests_167 : decode cX10_findRests 167 = .ok (.ifCond .eq 7, 3) := by decide +kernel
theorem dX10_findRests_170 : decode cX10_findRests 170 = .ok (.iconst 1, 1) := by decide +kernel
theorem dX10_findRests_171 : decode cX10_findRests 171 = .ok (.goto 4, 3) := by decide +kernel
theorem dX10_findRests_174 : decode cX10_findRests 174 = .ok (.iconst 0, 1) := by decide +kernel
theorem dX10_findRests_175 : decode cX10_findRests 175 = .ok (.iadd, 1) := by decide +kernel
theorem dX10_findRests_176 : decode cX10_findRests 176 = .ok (.putfield 216, 3) := by decide +kernel
theorem dX10_findRests_179 : decode cX10_findRests 179 = .ok (.iinc 3 1, 3) := by decide +kernel
theorem dX10_findRests_182 : decode cX10_findRests 182 = .ok (.goto (-161), 3) := by decide +kernel
theorem dX10_findRests_185 : decode cX10_findRests 185 = .ok (.iinc 2 1, 3) := by decide +kernel
theorem dX10_findRests_188 : decode cX10_findRests 188 = .ok (.goto (-175), 3) := by decide +kernel
theorem dX10_findRests_191 : decode cX10_findRests 191 = .ok (.return_, 1) := by decide +kernel
theorem dX10_rests_0 : decode cX10_rests 0 = .ok (.aload_n 0, 1) := by decide +kernel
theorem dX10_rests_1 : decode cX10_rests 1 = .ok (.iconst 0, 1) := by decide +kernel
theorem dX10_rests_2 : decode cX10_rests 2 = .ok (.putfield 56, 3) := by decide +kernel
theorem dX10_rests_5 : decode cX10_rests 5 = .ok (.iload_n 1, 1) := by decide +kernel
theorem dX10_rests_6 : decode cX10_rests 6 = .ok (.i2l, 1) := by decide +kernel
theorem dX10_rests_7 : decode cX10_rests 7 = .ok (.lconst 0, 1) := by decide +kernel
theorem dX10_rests_8 : decode cX10_rests 8 = .ok (.lconst 1, 1) := by decide +kernel
theorem dX10_rests_9 : decode cX10_rests 9 = .ok (.invokestatic 63, 3) := by decide +kernel
theorem dX10_rests_12 : decode cX10_rests 12 = .ok (.ifCond .ne 6, 3) := by decide +kernel
theorem dX10_rests_15 : decode cX10_rests 15 = .ok (.bipush (-2), 2) := by decide +kernel
theorem dX10_rests_17 : decode cX10_rests 17 = .ok (.ireturn, 1) := by decide +kernel
theorem dX10_rests_18 : decode cX10_rests 18 = .ok (.aload_n 0, 1) := by decide +kernel
theorem dX10_rests_19 : decode cX10_rests 19 = .ok (.invokevirtual 155, 3) := by decide +kernel
theorem dX10_rests_22 : decode cX10_rests 22 = .ok (.aload_n 0, 1) := by decide +kernel
theorem dX10_rests_23 : decode cX10_rests 23 = .ok (.aload_n 0, 1) := by decide +kernel
theorem dX10_rests_24 : decode cX10_rests 24 = .ok (.getfield 31, 3) := by decide +kernel
theorem dX10_rests_27 : decode cX10_rests 27 = .ok (.invokevirtual 122, 3) := by decide +kernel
theorem dX10_rests_30 : decode cX10_rests 30 = .ok (.aload_n 0, 1) := by decide +kernel
theorem dX10_rests_31 : decode cX10_rests 31 = .ok (.aload_n 0, 1) := by decide +kernel
theorem dX10_rests_32 : decode cX10_rests 32 = .ok (.getfield 116, 3) := by decide +kernel
theorem dX10_rests_35 : decode cX10_rests 35 = .ok (.invokevirtual 225, 3) := by decide +kernel
theorem dX10_rests_38 : decode cX10_rests 38 = .ok (.iload_n 1, 1) := by decide +kernel
theorem dX10_rests_39 : decode cX10_rests 39 = .ok (.ifCond .ne 10, 3) := by decide +kernel
theorem dX10_rests_42 : decode cX10_rests 42 = .ok (.aload_n 0, 1) := by decide +kernel
theorem dX10_rests_43 : decode cX10_rests 43 = .ok (.getfield 216, 3) := by decide +kernel
theorem dX10_rests_46 : decode cX10_rests 46 = .ok (.goto 7, 3) := by decide +kernel
theorem dX10_rests_49 : decode cX10_rests 49 = .ok (.aload_n 0, 1) := by decide +kernel
theorem dX10_rests_50 : decode cX10_rests 50 = .ok (.getfield 219, 3) := by decide +kernel
theorem dX10_rests_53 : decode cX10_rests 53 = .ok (.ireturn, 1) := by decide +kernel
theorem dX10_chance_0 : decode cX10_chance 0 = .ok (.aload_n 0, 1) := by decide +kernel
theorem dX10_chance_1 : decode cX10_chance 1 = .ok (.iconst 0, 1) := by decide +kernel
theorem dX10_chance_2 : decode cX10_chance 2 = .ok (.putfield 56, 3) := by decide +kernel
theorem dX10_chance_5 : decode cX10_chance 5 = .ok (.iload_n 1, 1) := by decide +kernel
theorem dX10_chance_6 : decode cX10_chance 6 = .ok (.i2l, 1) := by decide +kernel
theorem dX10_chance_7 : decode cX10_chance 7 = .ok (.lconst 1, 1) := by decide +kernel
theorem dX10_chance_8 : decode cX10_chance 8 = .ok (.ldc2_w 229, 3) := by decide +kernel
theorem dX10_chance_11 : decode cX10_chance 11 = .ok (.invokestatic 63, 3) := by decide +kernel
theorem dX10_chance_14 : decode cX10_chance 14 = .ok (.ifCond .eq 27, 3) := by decide +kernel
theorem dX10_chance_17 : decode cX10_chance 17 = .ok (.iload_n 2, 1) := by decide +kernel
theorem dX10_chance_18 : decode cX10_chance 18 = .ok (.i2l, 1) := by decide +kernel
theorem dX10_chance_19 : decode cX10_chance 19 = .ok (.lconst 0, 1) := by decide +kernel
theorem dX10_chance_20 : decode cX10_chance 20 = .ok (.ldc2_w 192, 3) := by decide +kernel
theorem dX10_chance_23 : decode cX10_chance 23 = .ok (.invokestatic 63, 3) := by decide +kernel
theorem dX10_chance_26 : decode cX10_chance 26 = .ok (.ifCond .eq 15, 3) := by decide +kernel
theorem dX10_chance_29 : decode cX10_chance 29 = .ok (.iload_n 3, 1) := by decide +kernel
theorem dX10_chance_30 : decode cX10_chance 30 = .ok (.i2l, 1) := by decide +kernel
theorem dX10_chance_31 : decode cX10_chance 31 = .ok (.lconst 0, 1) := by decide +kernel
theorem dX10_chance_32 : decode cX10_chance 32 = .ok (.ldc2_w 231, 3) := by decide +kernel
theorem dX10_chance_35 : decode cX10_chance 35 = .ok (.invokestatic 63, 3) := by decide +kernel
theorem dX10_chance_38 : decode cX10_chance 38 = .ok (.ifCond .ne 6, 3) := by decide +kernel
theorem dX10_chance_41 : decode cX10_chance 41 = .ok (.bipush (-2), 2) := by decide +kernel
theorem dX10_chance_43 : decode cX10_chance 43 = .ok (.ireturn, 1) := by decide +kernel
theorem dX10_chance_44 : decode cX10_chance 44 = .ok (.iconst 0, 1) := by decide +kernel
theorem dX10_chance_45 : decode cX10_chance 45 = .ok (.istore 5, 2) := by decide +kernel
theorem dX10_chance_47 : decode cX10_chance 47 = .ok (.iconst 0, 1) := by decide +kernel
theorem dX10_chance_48 : decode cX10_chance 48 = .ok (.istore 6, 2) := by decide +kernel
theorem dX10_chance_50 : decode cX10_chance 50 = .ok (.iload 6, 2) := by decide +kernel
theorem dX10_chance_52 : decode cX10_chance 52 = .ok (.iconst 1, 1) := by decide +kernel
theorem dX10_chance_53 : decode cX10_chance 53 = .ok (.iload_n 1, 1) := by decide +kernel
theorem dX10_chance_54 : decode cX10_chance 54 = .ok (.ishl, 1) := by decide +kernel
theorem dX10_chance_55 : decode cX10_chance 55 = .ok (.if_icmp .ge 71, 3) := by decide +kernel
theorem dX10_chance_58 : decode cX10_chance 58 = .ok (.iload 6, 2) := by decide +kernel
theorem dX10_chance_60 : decode cX10_chance 60 = .ok (.invokestatic 189, 3) := by decide +kernel
theorem dX10_chance_63 : decode cX10_chance 63 = .ok (.istore 7, 2) := by decide +kernel
theorem dX10_chance_65 : decode cX10_chance 65 = .ok (.aload_n 0, 1) := by decide +kernel
theorem dX10_chance_66 : decode cX10_chance 66 = .ok (.aload_n 0, 1) := by decide +kernel
theorem dX10_chance_67 : decode cX10_chance 67 = .ok (.getfield 28, 3) := by decide +kernel
theorem dX10_chance_70 : decode cX10_chance 70 = .ok (.bipush 12, 2) := by decide +kernel
theorem dX10_chance_72 : decode cX10_chance 72 = .ok (.iaload, 1) := by decide +kernel
theorem dX10_chance_73 : decode cX10_chance 73 = .ok (.aload_n 0, 1) := by decide +kernel
theorem dX10_chance_74 : decode cX10_chance 74 = .ok (.getfield 28, 3) := by decide +kernel
theorem dX10_chance_77 : decode cX10_chance 77 = .ok (.bipush 13, 2) := by decide +kernel
theorem dX10_chance_79 : decode cX10_chance 79 = .ok (.iaload, 1) := by decide +kernel
theorem dX10_chance_80 : decode cX10_chance 80 = .ok (.iload 7, 2) := by decide +kernel
theorem dX10_chance_82 : decode cX10_chance 82 = .ok (.invokevirtual 185, 3) := by decide +kernel
theorem dX10_chance_85 : decode cX10_chance 85 = .ok (.iload 5, 2) := by decide +kernel
theorem dX10_chance_87 : decode cX10_chance 87 = .ok (.aload_n 0, 1) := by decide +kernel
theorem dX10_chance_88 : decode cX10_chance 88 = .ok (.getfield 142, 3) := by decide +kernel
theorem dX10_chance_91 : decode cX10_chance 91 = .ok (.iload_n 2, 1) := by decide +kernel
theorem dX10_chance_92 : decode cX10_chance 92 = .ok (.if_icmp .lt 24, 3) := by decide +kernel
theorem dX10_chance_95 : decode cX10_chance 95 = .ok (.iload_n 3, 1) := by decide +kernel
theorem dX10_chance_96 : decode cX10_chance 96 = .ok (.iload 7, 2) := by decide +kernel
theorem dX10_chance_98 : decode cX10_chance 98 = .ok (.invokestatic 158, 3) := by decide +kernel
theorem dX10_chance_101 : decode cX10_chance 101 = .ok (.bipush 10, 2) := by decide +kernel
theorem dX10_chance_103 : decode cX10_chance 103 = .ok (.iload_n 3, 1) := by decide +kernel
theorem dX10_chance_104 : decode cX10_chance 104 = .ok (.isub, 1) := by decide +kernel
theorem dX10_chance_105 : decode cX10_chance 105 = .ok (.iload_n 1, 1) := by decide +kernel
theorem dX10_chance_106 : decode cX10_chance 106 = .ok (.iload 7, 2) := by decide +kernel
theorem dX10_chance_108 : decode cX10_chance 108 = .ok (.isub, 1) := by decide +kernel
theorem dX10_chance_109 : decode cX10_chance 109 = .ok (.invokestatic 158, 3) := by decide +kernel
theorem dX10_chance_112 : decode cX10_chance 112 = .ok (.imul, 1) := by decide +kernel
theorem dX10_chance_113 : decode cX10_chance 113 = .ok (.goto 4, 3) := by decide +kernel
theorem dX10_chance_116 : decode cX10_chance 116 = .ok (.iconst 0, 1) := by decide +kernel
theorem dX10_chance_117 : decode cX10_chance 117 = .ok (.iadd, 1) := by decide +kernel
theorem dX10_chance_118 : decode cX10_chance 118 = .ok (.istore 5, 2) := by decide +kernel
theorem dX10_chance_120 : decode cX10_chance 120 = .ok (.iinc 6 1, 3) := by decide +kernel
theorem dX10_chance_123 : decode cX10_chance 123 = .ok (.goto (-73), 3) := by decide +kernel
theorem dX10_chance_126 : decode cX10_chance 126 = .ok (.iload 5, 2) := by decide +kernel
theorem dX10_chance_128 : decode cX10_chance 128 = .ok (.bipush 10, 2) := by decide +kernel
theorem dX10_chance_130 : decode cX10_chance 130 = .ok (.iload_n 1, 1) := by decide +kernel
theorem dX10_chance_131 : decode cX10_chance 131 = .ok (.invokestatic 158, 3) := by decide +kernel
theorem dX10_chance_134 : decode cX10_chance 134 = .ok (.iload 4, 2) := by decide +kernel
theorem dX10_chance_136 : decode cX10_chance 136 = .ok (.invokestatic 205, 3) := by decide +kernel
theorem dX10_chance_139 : decode cX10_chance 139 = .ok (.ireturn, 1) := by decide +kernel
theorem dX10_seed_0 : decode cX10_seed 0 = .ok (.aload_n 0, 1) := by decide +kernel
theorem dX10_seed_1 : decode cX10_seed 1 = .ok (.iconst 0, 1) := by decide +kernel
theorem dX10_seed_2 : decode cX10_seed 2 = .ok (.putfield 56, 3) := by decide +kernel
theorem dX10_seed_5 : decode cX10_seed 5 = .ok (.aload_n 0, 1) := by decide +kernel
theorem dX10_seed_6 : decode cX10_seed 6 = .ok (.getfield 233, 3) := by decide +kernel
theorem dX10_seed_9 : decode cX10_seed 9 = .ok (.lstore_n 3, 1) := by decide +kernel
theorem dX10_seed_10 : decode cX10_seed 10 = .ok (.aload_n 0, 1) := by decide +kernel
theorem dX10_seed_11 : decode cX10_seed 11 = .ok (.lload_n 1, 1) := by decide +kernel
theorem dX10_seed_12 : decode cX10_seed 12 = .ok (.putfield 233, 3) := by decide +kernel
theorem dX10_seed_15 : decode cX10_seed 15 = .ok (.lload_n 3, 1) := by decide +kernel
theorem dX10_seed_16 : decode cX10_seed 16 = .ok (.lreturn, 1) := by decide +kernel
theorem dX10_years_0 : decode cX10_years 0 = .ok (.aload_n 0, 1) := by decide +kernel
theorem dX10_years_1 : decode cX10_years 1 = .ok (.iconst 0, 1) := by decide +kernel
theorem dX10_years_2 : decode cX10_years 2 = .ok (.putfield 56, 3) := by decide +kernel
theorem dX10_years_5 : decode cX10_years 5 = .ok (.iload_n 1, 1) := by decide +kernel
theorem dX10_years_6 : decode cX10_years 6 = .ok (.i2l, 1) := by decide +kernel
theorem dX10_years_7 : decode cX10_years 7 = .ok (.lconst 1, 1) := by decide +kernel
theorem dX10_years_8 : decode cX10_years 8 = .ok (.ldc2_w 237, 3) := by decide +kernel
theorem dX10_years_11 : decode cX10_years 11 = .ok (.invokestatic 63, 3) := by decide +kernel
theorem dX10_years_14 : decode cX10_years 14 = .ok (.ifCond .ne 6, 3) := by decide +kernel
theorem dX10_years_17 : decode cX10_years 17 = .ok (.bipush (-2), 2) := by decide +kernel
theorem dX10_years_19 : decode cX10_years 19 = .ok (.ireturn, 1) := by decide +kernel
theorem dX10_years_20 : decode cX10_years 20 = .ok (.aload_n 0, 1) := by decide +kernel
theorem dX10_years_21 : decode cX10_years 21 = .ok (.invokevirtual 155, 3) := by decide +kernel
theorem dX10_years_24 : decode cX10_years 24 = .ok (.iconst 0, 1) := by decide +kernel
theorem dX10_years_25 : decode cX10_years 25 = .ok (.istore_n 2, 1) := by decide +kernel
theorem dX10_years_26 : decode cX10_years 26 = .ok (.iconst 0, 1) := by decide +kernel
theorem dX10_years_27 : decode cX10_years 27 = .ok (.istore_n 3, 1) := by decide +kernel
theorem dX10_years_28 : decode cX10_years 28 = .ok (.iload_n 3, 1) := by decide +kernel
theorem dX10_years_29 : decode cX10_years 29 = .ok (.iload_n 1, 1) := by decide +kernel
theorem dX10_years_30 : decode cX10_years 30 = .ok (.if_icmp .ge 93, 3) := by decide +kernel
theorem dX10_years_33 : decode cX10_years 33 = .ok (.aload_n 0, 1) := by decide +kernel
theorem dX10_years_34 : decode cX10_years 34 = .ok (.aload_n 0, 1) := by decide +kernel
theorem dX10_years_35 : decode cX10_years 35 = .ok (.getfield 233, 3) := by decide +kernel
theorem dX10_years_38 : decode cX10_years 38 = .ok (.ldc2_w 239, 3) := by decide +kernel
theorem dX10_years_41 : decode cX10_years 41 = .ok (.lmul, 1) := by decide +kernel
theorem dX10_years_42 : decode cX10_years 42 = .ok (.ldc2_w 241, 3) := by decide +kernel
theorem dX10_years_45 : decode cX10_years 45 = .ok (.ladd, 1) := by decide +kernel
theorem dX10_years_46 : decode cX10_years 46 = .ok (.putfield 233, 3) := by decide +kernel
theorem dX10_years_49 : decode cX10_years 49 = .ok (.aload_n 0, 1) := by decide +kernel
theorem dX10_years_50 : decode cX10_years 50 = .ok (.getfield 233, 3) := by decide +kernel
theorem dX10_years_53 : decode cX10_years 53 = .ok (.bipush 33, 2) := by decide +kernel
theorem dX10_years_55 : decode cX10_years 55 = .ok (.lushr, 1) := by decide +kernel
theorem dX10_years_56 : decode cX10_years 56 = .ok (.ldc2_w 243, 3) := by decide +kernel
theorem dX10_years_59 : decode cX10_years 59 = .ok (.lrem, 1) := by decide +kernel
theorem dX10_years_60 : decode cX10_years 60 = .ok (.l2i, 1) := by decide +kernel
theorem dX10_years_61 : decode cX10_years 61 = .ok (.istore 4, 2) := by decide +kernel
theorem dX10_years_63 : decode cX10_years 63 = .ok (.aload_n 0, 1) := by decide +kernel
theorem dX10_years_64 : decode cX10_years 64 = .ok (.iload 4, 2) := by decide +kernel
theorem dX10_years_66 : decode cX10_years 66 = .ok (.bipush 6, 2) := by decide +kernel
theorem dX10_years_68 : decode cX10_years 68 = .ok (.idiv, 1) := by decide +kernel
theorem dX10_years_69 : decode cX10_years 69 = .ok (.invokevirtual 129, 3) := by decide +kernel
theorem dX10_years_72 : decode cX10_years 72 = .ok (.ifCond .ne 34, 3) := by decide +kernel
theorem dX10_years_75 : decode cX10_years 75 = .ok (.iload 4, 2) := by decide +kernel
theorem dX10_years_77 : decode cX10_years 77 = .ok (.bipush 6, 2) := by decide +kernel
theorem dX10_years_79 : decode cX10_years 79 = .ok (.irem, 1) := by decide +kernel
theorem dX10_years_80 : decode cX10_years 80 = .ok (.iconst 1, 1) := by decide +kernel
theorem dX10_years_81 : decode cX10_years 81 = .ok (.aload_n 0, 1) := by decide +kernel
theorem dX10_years_82 : decode cX10_years 82 = .ok (.getfield 103, 3) := by decide +kernel
theorem dX10_years_85 : decode cX10_years 85 = .ok (.iadd, 1) := by decide +kernel
theorem dX10_years_86 : decode cX10_years 86 = .ok (.if_icmp .gt 20, 3) := by decide +kernel
theorem dX10_years_89 : decode cX10_years 89 = .ok (.aload_n 0, 1) := by decide +kernel
theorem dX10_years_90 : decode cX10_years 90 = .ok (.getfield 31, 3) := by decide +kernel
theorem dX10_years_93 : decode cX10_years 93 = .ok (.iconst 0, 1) := by decide +kernel
theorem dX10_years_94 : decode cX10_years 94 = .ok (.iload 4, 2) := by decide +kernel
theorem dX10_years_96 : decode cX10_years 96 = .ok (.bipush 6, 2) := by decide +kernel
theorem dX10_years_98 : decode cX10_years 98 = .ok (.idiv, 1) := by decide +kernel
theorem dX10_years_99 : decode cX10_years 99 = .ok (.iadd, 1) := by decide +kernel
theorem dX10_years_100 : decode cX10_years 100 = .ok (.iload 4, 2) := by decide +kernel
theorem dX10_years_102 : decode cX10_years 102 = .ok (.bipush 6, 2) := by decide +kernel
theorem dX10_years_104 : decode cX10_years 104 = .ok (.irem, 1) := by decide +kernel
theorem dX10_years_105 : decode cX10_years 105 = .ok (.iastore, 1) := by decide +kernel
theorem dX10_years_106 : decode cX10_years 106 = .ok (.iload_n 2, 1) := by decide +kernel
theorem dX10_years_107 : decode cX10_years 107 = .ok (.aload_n 0, 1) := by decide +kernel
theorem dX10_years_108 : decode cX10_years 108 = .ok (.aload_n 0, 1) := by decide +kernel
theorem dX10_years_109 : decode cX10_years 109 = .ok (.getfield 31, 3) := by decide +kernel
theorem dX10_years_112 : decode cX10_years 112 = .ok (.invokevirtual 136, 3) := by decide +kernel
theorem dX10_years_115 : decode cX10_years 115 = .ok (.iadd, 1) := by decide +kernel
theorem dX10_years_116 : decode cX10_years 116 = .ok (.istore_n 2, 1) := by decide +kernel
theorem dX10_years_117 : decode cX10_years 117 = .ok (.iinc 3 1, 3) := by decide +kernel
theorem dX10_years_120 : decode cX10_years 120 = .ok (.goto (-92), 3) := by decide +kernel
theorem dX10_years_123 : decode cX10_years 123 = .ok (.iload_n 2, 1) := by decide +kernel
theorem dX10_years_124 : decode cX10_years 124 = .ok (.ireturn, 1) := by decide +kernel
theorem dX10_keep_0 : decode cX10_keep 0 = .ok (.aload_n 0, 1) := by decide +kernel
theorem dX10_keep_1 : decode cX10_keep 1 = .ok (.iconst 0, 1) := by decide +kernel
theorem dX10_keep_2 : decode cX10_keep 2 = .ok (.putfield 56, 3) := by decide +kernel
theorem dX10_keep_5 : decode cX10_keep 5 = .ok (.iload_n 1, 1) := by decide +kernel
theorem dX10_keep_6 : decode cX10_keep 6 = .ok (.i2l, 1) := by decide +kernel
theorem dX10_keep_7 : decode cX10_keep 7 = .ok (.lconst 0, 1) := by decide +kernel
theorem dX10_keep_8 : decode cX10_keep 8 = .ok (.lconst 1, 1) := by decide +kernel
theorem dX10_keep_9 : decode cX10_keep 9 = .ok (.invokestatic 63, 3) := by decide +kernel
theorem dX10_keep_12 : decode cX10_keep 12 = .ok (.ifCond .ne 5, 3) := by decide +kernel
theorem dX10_keep_15 : decode cX10_keep 15 = .ok (.iconst (-1), 1) := by decide +kernel
theorem dX10_keep_16 : decode cX10_keep 16 = .ok (.ireturn, 1) := by decide +kernel
theorem dX10_keep_17 : decode cX10_keep 17 = .ok (.aload_n 0, 1) := by decide +kernel
theorem dX10_keep_18 : decode cX10_keep 18 = .ok (.getfield 40, 3) := by decide +kernel
theorem dX10_keep_21 : decode cX10_keep 21 = .ok (.iload_n 1, 1) := by decide +kernel
theorem dX10_keep_22 : decode cX10_keep 22 = .ok (.iconst 1, 1) := by decide +kernel
theorem dX10_keep_23 : decode cX10_keep 23 = .ok (.bastore, 1) := by decide +kernel
theorem dX10_keep_24 : decode cX10_keep 24 = .ok (.iconst 0, 1) := by decide +kernel
theorem dX10_keep_25 : decode cX10_keep 25 = .ok (.istore_n 2, 1) := by decide +kernel
theorem dX10_keep_26 : decode cX10_keep 26 = .ok (.iload_n 2, 1) := by decide +kernel
theorem dX10_keep_27 : decode cX10_keep 27 = .ok (.bipush 16, 2) := by decide +kernel
theorem dX10_keep_29 : decode cX10_keep 29 = .ok (.if_icmp .ge 26, 3) := by decide +kernel
theorem dX10_keep_32 : decode cX10_keep 32 = .ok (.aload_n 0, 1) := by decide +kernel
theorem dX10_keep_33 : decode cX10_keep 33 = .ok (.getfield 37, 3) := by decide +kernel
theorem dX10_keep_36 : decode cX10_keep 36 = .ok (.bipush 16, 2) := by decide +kernel
theorem dX10_keep_38 : decode cX10_keep 38 = .ok (.iload_n 1, 1) := by decide +kernel
theorem dX10_keep_39 : decode cX10_keep 39 = .ok (.imul, 1) := by decide +kernel
theorem dX10_keep_40 : decode cX10_keep 40 = .ok (.iload_n 2, 1) := by decide +kernel
theorem dX10_keep_41 : decode cX10_keep 41 = .ok (.iadd, 1) := by decide +kernel
theorem dX10_keep_42 : decode cX10_keep 42 = .ok (.aload_n 0, 1) := by decide +kernel
theorem dX10_keep_43 : decode cX10_keep 43 = .ok (.getfield 28, 3) := by decide +kernel
theorem dX10_keep_46 : decode cX10_keep 46 = .ok (.iload_n 2, 1) := by decide +kernel
theorem dX10_keep_47 : decode cX10_keep 47 = .ok (.iaload, 1) := by decide +kernel
theorem dX10_keep_48 : decode cX10_keep 48 = .ok (.iastore, 1) := by decide +kernel
theorem dX10_keep_49 : decode cX10_keep 49 = .ok (.iinc 2 1, 3) := by decide +kernel
theorem dX10_keep_52 : decode cX10_keep 52 = .ok (.goto (-26), 3) := by decide +kernel
theorem dX10_keep_55 : decode cX10_keep 55 = .ok (.aload_n 0, 1) := by decide +kernel
theorem dX10_keep_56 : decode cX10_keep 56 = .ok (.getfield 28, 3) := by decide +kernel
theorem dX10_keep_59 : decode cX10_keep 59 = .ok (.bipush 15, 2) := by decide +kernel
theorem dX10_keep_61 : decode cX10_keep 61 = .ok (.iaload, 1) := by decide +kernel
theorem dX10_keep_62 : decode cX10_keep 62 = .ok (.ireturn, 1) := by decide +kernel
theorem dX10_again_0 : decode cX10_again 0 = .ok (.aload_n 0, 1) := by decide +kernel
theorem dX10_again_1 : decode cX10_again 1 = .ok (.iconst 0, 1) := by decide +kernel
theorem dX10_again_2 : decode cX10_again 2 = .ok (.putfield 56, 3) := by decide +kernel
theorem dX10_again_5 : decode cX10_again 5 = .ok (.iload_n 1, 1) := by decide +kernel
theorem dX10_again_6 : decode cX10_again 6 = .ok (.i2l, 1) := by decide +kernel
theorem dX10_again_7 : decode cX10_again 7 = .ok (.lconst 0, 1) := by decide +kernel
theorem dX10_again_8 : decode cX10_again 8 = .ok (.lconst 1, 1) := by decide +kernel
theorem dX10_again_9 : decode cX10_again 9 = .ok (.invokestatic 63, 3) := by decide +kernel
theorem dX10_again_12 : decode cX10_again 12 = .ok (.ifCond .ne 5, 3) := by decide +kernel
theorem dX10_again_15 : decode cX10_again 15 = .ok (.iconst (-1), 1) := by decide +kernel
theorem dX10_again_16 : decode cX10_again 16 = .ok (.ireturn, 1) := by decide +kernel
theorem dX10_again_17 : decode cX10_again 17 = .ok (.aload_n 0, 1) := by decide +kernel
theorem dX10_again_18 : decode cX10_again 18 = .ok (.getfield 40, 3) := by decide +kernel
theorem dX10_again_21 : decode cX10_again 21 = .ok (.iload_n 1, 1) := by decide +kernel
theorem dX10_again_22 : decode cX10_again 22 = .ok (.baload, 1) := by decide +kernel
theorem dX10_again_23 : decode cX10_again 23 = .ok (.ifCond .ne 6, 3) := by decide +kernel
theorem dX10_again_26 : decode cX10_again 26 = .ok (.bipush (-3), 2) := by decide +kernel
theorem dX10_again_28 : decode cX10_again 28 = .ok (.ireturn, 1) := by decide +kernel
theorem dX10_again_29 : decode cX10_again 29 = .ok (.iconst 0, 1) := by decide +kernel
theorem dX10_again_30 : decode cX10_again 30 = .ok (.istore_n 2, 1) := by decide +kernel
theorem dX10_again_31 : decode cX10_again 31 = .ok (.iload_n 2, 1) := by decide +kernel
theorem dX10_again_32 : decode cX10_again 32 = .ok (.bipush 16, 2) := by decide +kernel
theorem dX10_again_34 : decode cX10_again 34 = .ok (.if_icmp .ge 26, 3) := by decide +kernel
theorem dX10_again_37 : decode cX10_again 37 = .ok (.aload_n 0, 1) := by decide +kernel
theorem dX10_again_38 : decode cX10_again 38 = .ok (.getfield 28, 3) := by decide +kernel
theorem dX10_again_41 : decode cX10_again 41 = .ok (.iload_n 2, 1) := by decide +kernel
theorem dX10_again_42 : decode cX10_again 42 = .ok (.aload_n 0, 1) := by decide +kernel
theorem dX10_again_43 : decode cX10_again 43 = .ok (.getfield 37, 3) := by decide +kernel
theorem dX10_again_46 : decode cX10_again 46 = .ok (.bipush 16, 2) := by decide +kernel
theorem dX10_again_48 : decode cX10_again 48 = .ok (.iload_n 1, 1) := by decide +kernel
theorem dX10_again_49 : decode cX10_again 49 = .ok (.imul, 1) := by decide +kernel
theorem dX10_again_50 : decode cX10_again 50 = .ok (.iload_n 2, 1) := by decide +kernel
theorem dX10_again_51 : decode cX10_again 51 = .ok (.iadd, 1) := by decide +kernel
theorem dX10_again_52 : decode cX10_again 52 = .ok (.iaload, 1) := by decide +kernel
theorem dX10_again_53 : decode cX10_again 53 = .ok (.iastore, 1) := by decide +kernel
theorem dX10_again_54 : decode cX10_again 54 = .ok (.iinc 2 1, 3) := by decide +kernel
theorem dX10_again_57 : decode cX10_again 57 = .ok (.goto (-26), 3) := by decide +kernel
theorem dX10_again_60 : decode cX10_again 60 = .ok (.aload_n 0, 1) := by decide +kernel
theorem dX10_again_61 : decode cX10_again 61 = .ok (.iconst 0, 1) := by decide +kernel
theorem dX10_again_62 : decode cX10_again 62 = .ok (.putfield 106, 3) := by decide +kernel
theorem dX10_again_65 : decode cX10_again 65 = .ok (.aload_n 0, 1) := by decide +kernel
theorem dX10_again_66 : decode cX10_again 66 = .ok (.getfield 28, 3) := by decide +kernel
theorem dX10_again_69 : decode cX10_again 69 = .ok (.bipush 15, 2) := by decide +kernel
theorem dX10_again_71 : decode cX10_again 71 = .ok (.iaload, 1) := by decide +kernel
theorem dX10_again_72 : decode cX10_again 72 = .ok (.ireturn, 1) := by decide +kernel
theorem dJ6_bitCount_0f7a4_0 : decode cJ6_bitCount_0f7a4 0 = .ok (.iload_n 0, 1) := by decide +kernel
theorem dJ6_bitCount_0f7a4_1 : decode cJ6_bitCount_0f7a4 1 = .ok (.iload_n 0, 1) := by decide +kernel
theorem dJ6_bitCount_0f7a4_2 : decode cJ6_bitCount_0f7a4 2 = .ok (.iconst 1, 1) := by decide +kernel
theorem dJ6_bitCount_0f7a4_3 : decode cJ6_bitCount_0f7a4 3 = .ok (.iushr, 1) := by decide +kernel
theorem dJ6_bitCount_0f7a4_4 : decode cJ6_bitCount_0f7a4 4 = .ok (.ldc_w 265, 3) := by decide +kernel
theorem dJ6_bitCount_0f7a4_7 : decode cJ6_bitCount_0f7a4 7 = .ok (.iand, 1) := by decide +kernel
theorem dJ6_bitCount_0f7a4_8 : decode cJ6_bitCount_0f7a4 8 = .ok (.isub, 1) := by decide +kernel
theorem dJ6_bitCount_0f7a4_9 : decode cJ6_bitCount_0f7a4 9 = .ok (.istore_n 0, 1) := by decide +kernel
theorem dJ6_bitCount_0f7a4_10 : decode cJ6_bitCount_0f7a4 10 = .ok (.iload_n 0, 1) := by decide +kernel
theorem dJ6_bitCount_0f7a4_11 : decode cJ6_bitCount_0f7a4 11 = .ok (.ldc_w 266, 3) := by decide +kernel
theorem dJ6_bitCount_0f7a4_14 : decode cJ6_bitCount_0f7a4 14 = .ok (.iand, 1) := by decide +kernel
theorem dJ6_bitCount_0f7a4_15 : decode cJ6_bitCount_0f7a4 15 = .ok (.iload_n 0, 1) := by decide +kernel
theorem dJ6_bitCount_0f7a4_16 : decode cJ6_bitCount_0f7a4 16 = .ok (.iconst 2, 1) := by decide +kernel
theorem dJ6_bitCount_0f7a4_17 : decode cJ6_bitCount_0f7a4 17 = .ok (.iushr, 1) := by decide +kernel
theorem dJ6_bitCount_0f7a4_18 : decode cJ6_bitCount_0f7a4 18 = .ok (.ldc_w 266, 3) := by decide +kernel
theorem dJ6_bitCount_0f7a4_21 : decode cJ6_bitCount_0f7a4 21 = .ok (.iand, 1) := by decide +kernel
theorem dJ6_bitCount_0f7a4_22 : decode cJ6_bitCount_0f7a4 22 = .ok (.iadd, 1) := by decide +kernel
theorem dJ6_bitCount_0f7a4_23 : decode cJ6_bitCount_0f7a4 23 = .ok (.istore_n 0, 1) := by decide +kernel
theorem dJ6_bitCount_0f7a4_24 : decode cJ6_bitCount_0f7a4 24 = .ok (.iload_n 0, 1) := by decide +kernel
theorem dJ6_bitCount_0f7a4_25 : decode cJ6_bitCount_0f7a4 25 = .ok (.iload_n 0, 1) := by decide +kernel
theorem dJ6_bitCount_0f7a4_26 : decode cJ6_bitCount_0f7a4 26 = .ok (.iconst 4, 1) := by decide +kernel
theorem dJ6_bitCount_0f7a4_27 : decode cJ6_bitCount_0f7a4 27 = .ok (.iushr, 1) := by decide +kernel
theorem dJ6_bitCount_0f7a4_28 : decode cJ6_bitCount_0f7a4 28 = .ok (.iadd, 1) := by decide +kernel
theorem dJ6_bitCount_0f7a4_29 : decode cJ6_bitCount_0f7a4 29 = .ok (.ldc_w 267, 3) := by decide +kernel
theorem dJ6_bitCount_0f7a4_32 : decode cJ6_bitCount_0f7a4 32 = .ok (.iand, 1) := by decide +kernel
theorem dJ6_bitCount_0f7a4_33 : decode cJ6_bitCount_0f7a4 33 = .ok (.istore_n 0, 1) := by decide +kernel
theorem dJ6_bitCount_0f7a4_34 : decode cJ6_bitCount_0f7a4 34 = .ok (.iload_n 0, 1) := by decide +kernel
theorem dJ6_bitCount_0f7a4_35 : decode cJ6_bitCount_0f7a4 35 = .ok (.iload_n 0, 1) := by decide +kernel
theorem dJ6_bitCount_0f7a4_36 : decode cJ6_bitCount_0f7a4 36 = .ok (.bipush 8, 2) := by decide +kernel
theorem dJ6_bitCount_0f7a4_38 : decode cJ6_bitCount_0f7a4 38 = .ok (.iushr, 1) := by decide +kernel
theorem dJ6_bitCount_0f7a4_39 : decode cJ6_bitCount_0f7a4 39 = .ok (.iadd, 1) := by decide +kernel
theorem dJ6_bitCount_0f7a4_40 : decode cJ6_bitCount_0f7a4 40 = .ok (.istore_n 0, 1) := by decide +kernel
theorem dJ6_bitCount_0f7a4_41 : decode cJ6_bitCount_0f7a4 41 = .ok (.iload_n 0, 1) := by decide +kernel
theorem dJ6_bitCount_0f7a4_42 : decode cJ6_bitCount_0f7a4 42 = .ok (.iload_n 0, 1) := by decide +kernel
theorem dJ6_bitCount_0f7a4_43 : decode cJ6_bitCount_0f7a4 43 = .ok (.bipush 16, 2) := by decide +kernel
theorem dJ6_bitCount_0f7a4_45 : decode cJ6_bitCount_0f7a4 45 = .ok (.iushr, 1) := by decide +kernel
theorem dJ6_bitCount_0f7a4_46 : decode cJ6_bitCount_0f7a4 46 = .ok (.iadd, 1) := by decide +kernel
theorem dJ6_bitCount_0f7a4_47 : decode cJ6_bitCount_0f7a4 47 = .ok (.istore_n 0, 1) := by decide +kernel
theorem dJ6_bitCount_0f7a4_48 : decode cJ6_bitCount_0f7a4 48 = .ok (.iload_n 0, 1) := by decide +kernel
theorem dJ6_bitCount_0f7a4_49 : decode cJ6_bitCount_0f7a4 49 = .ok (.bipush 63, 2) := by decide +kernel
theorem dJ6_bitCount_0f7a4_51 : decode cJ6_bitCount_0f7a4 51 = .ok (.iand, 1) := by decide +kernel
theorem dJ6_bitCount_0f7a4_52 : decode cJ6_bitCount_0f7a4 52 = .ok (.ireturn, 1) := by decide +kernel
theorem dJ9_abs_0f7a4_0 : decode cJ9_abs_0f7a4 0 = .ok (.iload_n 0, 1) := by decide +kernel
theorem dJ9_abs_0f7a4_1 : decode cJ9_abs_0f7a4 1 = .ok (.ifCond .ge 8, 3) := by decide +kernel
theorem dJ9_abs_0f7a4_4 : decode cJ9_abs_0f7a4 4 = .ok (.iload_n 0, 1) := by decide +kernel
theorem dJ9_abs_0f7a4_5 : decode cJ9_abs_0f7a4 5 = .ok (.ineg, 1) := by decide +kernel
theorem dJ9_abs_0f7a4_6 : decode cJ9_abs_0f7a4 6 = .ok (.goto 4, 3) := by decide +kernel
theorem dJ9_abs_0f7a4_9 : decode cJ9_abs_0f7a4 9 = .ok (.iload_n 0, 1) := by decide +kernel
theorem dJ9_abs_0f7a4_10 : decode cJ9_abs_0f7a4 10 = .ok (.ireturn, 1) := by decide +kernel
theorem dJ9_max_7cf53_0 : decode cJ9_max_7cf53 0 = .ok (.iload_n 0, 1) := by decide +kernel
theorem dJ9_max_7cf53_1 : decode cJ9_max_7cf53 1 = .ok (.iload_n 1, 1) := by decide +kernel
theorem dJ9_max_7cf53_2 : decode cJ9_max_7cf53 2 = .ok (.if_icmp .lt 7, 3) := by decide +kernel
theorem dJ9_max_7cf53_5 : decode cJ9_max_7cf53 5 = .ok (.iload_n 0, 1) := by decide +kernel
theorem dJ9_max_7cf53_6 : decode cJ9_max_7cf53 6 = .ok (.goto 4, 3) := by decide +kernel
theorem dJ9_max_7cf53_9 : decode cJ9_max_7cf53 9 = .ok (.iload_n 1, 1) := by decide +kernel
theorem dJ9_max_7cf53_10 : decode cJ9_max_7cf53 10 = .ok (.ireturn, 1) := by decide +kernel
theorem dJ9_min_7cf53_0 : decode cJ9_min_7cf53 0 = .ok (.iload_n 0, 1) := by decide +kernel
theorem dJ9_min_7cf53_1 : decode cJ9_min_7cf53 1 = .ok (.iload_n 1, 1) := by decide +kernel
theorem dJ9_min_7cf53_2 : decode cJ9_min_7cf53 2 = .ok (.if_icmp .gt 7, 3) := by decide +kernel
theorem dJ9_min_7cf53_5 : decode cJ9_min_7cf53 5 = .ok (.iload_n 0, 1) := by decide +kernel
theorem dJ9_min_7cf53_6 : decode cJ9_min_7cf53 6 = .ok (.goto 4, 3) := by decide +kernel
theorem dJ9_min_7cf53_9 : decode cJ9_min_7cf53 9 = .ok (.iload_n 1, 1) := by decide +kernel
theorem dJ9_min_7cf53_10 : decode cJ9_min_7cf53 10 = .ok (.ireturn, 1) := by decide +kernel
theorem dJ7_fill_53178_0 : decode cJ7_fill_53178 0 = .ok (.iconst 0, 1) := by decide +kernel
theorem dJ7_fill_53178_1 : decode cJ7_fill_53178 1 = .ok (.istore_n 2, 1) := by decide +kernel
theorem dJ7_fill_53178_2 : decode cJ7_fill_53178 2 = .ok (.aload_n 0, 1) := by decide +kernel
theorem dJ7_fill_53178_3 : decode cJ7_fill_53178 3 = .ok (.arraylength, 1) := by decide +kernel
theorem dJ7_fill_53178_4 : decode cJ7_fill_53178 4 = .ok (.istore_n 3, 1) := by decide +kernel
theorem dJ7_fill_53178_5 : decode cJ7_fill_53178 5 = .ok (.iload_n 2, 1) := by decide +kernel
theorem dJ7_fill_53178_6 : decode cJ7_fill_53178 6 = .ok (.iload_n 3, 1) := by decide +kernel
theorem dJ7_fill_53178_7 : decode cJ7_fill_53178 7 = .ok (.if_icmp .ge 13, 3) := by decide +kernel
theorem dJ7_fill_53178_10 : decode cJ7_fill_53178 10 = .ok (.aload_n 0, 1) := by decide +kernel
theorem dJ7_fill_53178_11 : decode cJ7_fill_53178 11 = .ok (.iload_n 2, 1) := by decide +kernel
theorem dJ7_fill_53178_12 : decode cJ7_fill_53178 12 = .ok (.iload_n 1, 1) := by decide +kernel
theorem dJ7_fill_53178_13 : decode cJ7_fill_53178 13 = .ok (.iastore, 1) := by decide +kernel
theorem dJ7_fill_53178_14 : decode cJ7_fill_53178 14 = .ok (.iinc 2 1, 3) := by decide +kernel
theorem dJ7_fill_53178_17 : decode cJ7_fill_53178 17 = .ok (.goto (-12), 3) := by decide +kernel
theorem dJ7_fill_53178_20 : decode cJ7_fill_53178 20 = .ok (.return_, 1) := by decide +kernel
theorem dL_law_0 : decode cL_law 0 = .ok (.new 7, 3) := by decide +kernel
theorem dL_law_3 : decode cL_law 3 = .ok (.dup, 1) := by decide +kernel
theorem dL_law_4 : decode cL_law 4 = .ok (.invokespecial 9, 3) := by decide +kernel
theorem dL_law_7 : decode cL_law 7 = .ok (.astore_n 1, 1) := by decide +kernel
theorem dL_law_8 : decode cL_law 8 = .ok (.new 10, 3) := by decide +kernel
theorem dL_law_11 : decode cL_law 11 = .ok (.dup, 1) := by decide +kernel
theorem dL_law_12 : decode cL_law 12 = .ok (.invokespecial 12, 3) := by decide +kernel
theorem dL_law_15 : decode cL_law 15 = .ok (.astore_n 2, 1) := by decide +kernel
theorem dL_law_16 : decode cL_law 16 = .ok (.iconst 0, 1) := by decide +kernel
theorem dL_law_17 : decode cL_law 17 = .ok (.istore_n 3, 1) := by decide +kernel
theorem dL_law_18 : decode cL_law 18 = .ok (.iload_n 3, 1) := by decide +kernel
theorem dL_law_19 : decode cL_law 19 = .ok (.aload_n 0, 1) := by decide +kernel
theorem dL_law_20 : decode cL_law 20 = .ok (.arraylength, 1) := by decide +kernel
theorem dL_law_21 : decode cL_law 21 = .ok (.iconst 5, 1) := by decide +kernel
theorem dL_law_22 : decode cL_law 22 = .ok (.isub, 1) := by decide +kernel
theorem dL_law_23 : decode cL_law 23 = .ok (.if_icmp .gt 917, 3) := by decide +kernel
theorem dL_law_26 : decode cL_law 26 = .ok (.aload_n 0, 1) := by decide +kernel
theorem dL_law_27 : decode cL_law 27 = .ok (.iload_n 3, 1) := by decide +kernel
theorem dL_law_28 : decode cL_law 28 = .ok (.iaload, 1) := by decide +kernel
theorem dL_law_29 : decode cL_law 29 = .ok (.bipush 31, 2) := by decide +kernel
theorem dL_law_31 : decode cL_law 31 = .ok (.iand, 1) := by decide +kernel
theorem dL_law_32 : decode cL_law 32 = .ok (.tableswitch 902 0 28 #[132, 155, 168, 181, 194, 217, 250, 283, 296, 329, 352, 375, 388, 401, 434, 457, 470, 483, 496, 549, 598, 641, 654, 687, 710, 779, 833, 856, 879], 132) := by decide +kernel
theorem dL_law_164 : decode cL_law 164 = .ok (.aload_n 1, 1) := by decide +kernel
theorem dL_law_165 : decode cL_law 165 = .ok (.aload_n 0, 1) := by decide +kernel
theorem dL_law_166 : decode cL_law 166 = .ok (.iload_n 3, 1) := by decide +kernel
theorem dL_law_167 : decode cL_law 167 = .ok (.iconst 1, 1) := by decide +kernel
theorem dL_law_168 : decode cL_law 168 = .ok (.iadd, 1) := by decide +kernel
theorem dL_law_169 : decode cL_law 169 = .ok (.iaload, 1) := by decide +kernel
theorem dL_law_170 : decode cL_law 170 = .ok (.invokevirtual 13, 3) := by decide +kernel
theorem dL_law_173 : decode cL_law 173 = .ok (.aload_n 2, 1) := by decide +kernel
theorem dL_law_174 : decode cL_law 174 = .ok (.aload_n 0, 1) := by decide +kernel
theorem dL_law_175 : decode cL_law 175 = .ok (.iload_n 3, 1) := by decide +kernel
theorem dL_law_176 : decode cL_law 176 = .ok (.iconst 1, 1) := by decide +kernel
theorem dL_law_177 : decode cL_law 177 = .ok (.iadd, 1) := by decide +kernel
theorem dL_law_178 : decode cL_law 178 = .ok (.iaload, 1) := by decide +kernel
theorem dL_law_179 : decode cL_law 179 = .ok (.invokevirtual 17, 3) := by decide +kernel
theorem dL_law_182 : decode cL_law 182 = .ok (.if_icmp .eq 752, 3) := by decide +kernel
theorem dL_law_185 : decode cL_law 185 = .ok (.iconst 0, 1) := by decide +kernel
theorem dL_law_186 : decode cL_law 186 = .ok (.ireturn, 1) := by decide +kernel
theorem dL_law_187 : decode cL_law 187 = .ok (.aload_n 1, 1) := by decide +kernel
theorem dL_law_188 : decode cL_law 188 = .ok (.invokevirtual 18, 3) := by decide +kernel
theorem dL_law_191 : decode cL_law 191 = .ok (.aload_n 2, 1) := by decide +kernel
theorem dL_law_192 : decode cL_law 192 = .ok (.invokevirtual 22, 3) := by decide +kernel
theorem dL_law_195 : decode cL_law 195 = .ok (.if_icmp .eq 739, 3) := by decide +kernel
theorem dL_law_198 : decode cL_law 198 = .ok (.iconst 0, 1) := by decide +kernel
theorem dL_law_199 : decode cL_law 199 = .ok (.ireturn, 1) := by decide +kernel
theorem dL_law_200 : decode cL_law 200 = .ok (.aload_n 1, 1) := by decide +kernel
theorem dL_law_201 : decode cL_law 201 = .ok (.invokevirtual 23, 3) := by decide +kernel
theorem dL_law_204 : decode cL_law 204 = .ok (.aload_n 2, 1) := by decide +kernel
theorem dL_law_205 : decode cL_law 205 = .ok (.invokevirtual 26, 3) := by decide +kernel
theorem dL_law_208 : decode cL_law 208 = .ok (.if_icmp .eq 726, 3) := by decide +kernel
theorem dL_law_211 : decode cL_law 211 = .ok (.iconst 0, 1) := by decide +kernel
theorem dL_law_212 : decode cL_law 212 = .ok (.ireturn, 1) := by decide +kernel
theorem dL_law_213 : decode cL_law 213 = .ok (.aload_n 1, 1) := by decide +kernel
theorem dL_law_214 : decode cL_law 214 = .ok (.invokevirtual 27, 3) := by decide +kernel
theorem dL_law_217 : decode cL_law 217 = .ok (.aload_n 2, 1) := by decide +kernel
theorem dL_law_218 : decode cL_law 218 = .ok (.invokevirtual 30, 3) := by decide +kernel
theorem dL_law_221 : decode cL_law 221 = .ok (.if_icmp .eq 713, 3) := by decide +kernel
theorem dL_law_224 : decode cL_law 224 = .ok (.iconst 0, 1) := by decide +kernel
theorem dL_law_225 : decode cL_law 225 = .ok (.ireturn, 1) := by decide +kernel
theorem dL_law_226 : decode cL_law 226 = .ok (.aload_n 1, 1) := by decide +kernel
theorem dL_law_227 : decode cL_law 227 = .ok (.aload_n 0, 1) := by decide +kernel
theorem dL_law_228 : decode cL_law 228 = .ok (.iload_n 3, 1) := by decide +kernel
theorem dL_law_229 : decode cL_law 229 = .ok (.iconst 1, 1) := by decide +kernel
theorem dL_law_230 : decode cL_law 230 = .ok (.iadd, 1) := by decide +kernel
theorem dL_law_231 : decode cL_law 231 = .ok (.iaload, 1) := by decide +kernel
theorem dL_law_232 : decode cL_law 232 = .ok (.invokevirtual 31, 3) := by decide +kernel
theorem dL_law_235 : decode cL_law 235 = .ok (.aload_n 2, 1) := by decide +kernel
theorem dL_law_236 : decode cL_law 236 = .ok (.aload_n 0, 1) := by decide +kernel
theorem dL_law_237 : decode cL_law 237 = .ok (.iload_n 3, 1) := by decide +kernel
theorem dL_law_238 : decode cL_law 238 = .ok (.iconst 1, 1) := by decide +kernel
theorem dL_law_239 : decode cL_law 239 = .ok (.iadd, 1) := by decide +kernel
theorem dL_law_240 : decode cL_law 240 = .ok (.iaload, 1) := by decide +kernel
theorem dL_law_241 : decode cL_law 241 = .ok (.invokevirtual 34, 3) := by decide +kernel
theorem dL_law_244 : decode cL_law 244 = .ok (.if_icmp .eq 690, 3) := by decide +kernel
theorem dL_law_247 : decode cL_law 247 = .ok (.iconst 0, 1) := by decide +kernel
theorem dL_law_248 : decode cL_law 248 = .ok (.ireturn, 1) := by decide +kernel
theorem dL_law_249 : decode cL_law 249 = .ok (.aload_n 1, 1) := by decide +kernel
theorem dL_law_250 : decode cL_law 250 = .ok (.aload_n 0, 1) := by decide +kernel
theorem dL_law_251 : decode cL_law 251 = .ok (.iload_n 3, 1) := by decide +kernel
theorem dL_law_252 : decode cL_law 252 = .ok (.iconst 1, 1) := by decide +kernel
theorem dL_law_253 : decode cL_law 253 = .ok (.iadd, 1) := by decide +kernel
theorem dL_law_254 : decode cL_law 254 = .ok (.iaload, 1) := by decide +kernel
theorem dL_law_255 : decode cL_law 255 = .ok (.aload_n 0, 1) := by decide +kernel
theorem dL_law_256 : decode cL_law 256 = .ok (.iload_n 3, 1) := by decide +kernel
theorem dL_law_257 : decode cL_law 257 = .ok (.iconst 2, 1) := by decide +kernel
theorem dL_law_258 : decode cL_law 258 = .ok (.iadd, 1) := by decide +kernel
theorem dL_law_259 : decode cL_law 259 = .ok (.iaload, 1) := by decide +kernel
theorem dL_law_260 : decode cL_law 260 = .ok (.invokevirtual 35, 3) := by decide +kernel
theorem dL_law_263 : decode cL_law 263 = .ok (.aload_n 2, 1) := by decide +kernel
theorem dL_law_264 : decode cL_law 264 = .ok (.aload_n 0, 1) := by decide +kernel
theorem dL_law_265 : decode cL_law 265 = .ok (.iload_n 3, 1) := by decide +kernel
theorem dL_law_266 : decode cL_law 266 = .ok (.iconst 1, 1) := by decide +kernel
theorem dL_law_267 : decode cL_law 267 = .ok (.iadd, 1) := by decide +kernel
theorem dL_law_268 : decode cL_law 268 = .ok (.iaload, 1) := by decide +kernel
theorem dL_law_269 : decode cL_law 269 = .ok (.aload_n 0, 1) := by decide +kernel
theorem dL_law_270 : decode cL_law 270 = .ok (.iload_n 3, 1) := by decide +kernel
theorem dL_law_271 : decode cL_law 271 = .ok (.iconst 2, 1) := by decide +kernel
theorem dL_law_272 : decode cL_law 272 = .ok (.iadd, 1) := by decide +kernel
theorem dL_law_273 : decode cL_law 273 = .ok (.iaload, 1) := by decide +kernel
theorem dL_law_274 : decode cL_law 274 = .ok (.invokevirtual 39, 3) := by decide +kernel
theorem dL_law_277 : decode cL_law 277 = .ok (.if_icmp .eq 657, 3) := by decide +kernel
theorem dL_law_280 : decode cL_law 280 = .ok (.iconst 0, 1) := by decide +kernel
theorem dL_law_281 : decode cL_law 281 = .ok (.ireturn, 1) := by decide +kernel
theorem dL_law_282 : decode cL_law 282 = .ok (.aload_n 1, 1) := by decide +kernel
theorem dL_law_283 : decode cL_law 283 = .ok (.aload_n 0, 1) := by decide +kernel
theorem dL_law_284 : decode cL_law 284 = .ok (.iload_n 3, 1) := by decide +kernel
theorem dL_law_285 : decode cL_law 285 = .ok (.iconst 1, 1) := by decide +kernel
theorem dL_law_286 : decode cL_law 286 = .ok (.iadd, 1) := by decide +kernel
theorem dL_law_287 : decode cL_law 287 = .ok (.iaload, 1) := by decide +kernel
theorem dL_law_288 : decode cL_law 288 = .ok (.aload_n 0, 1) := by decide +kernel
theorem dL_law_289 : decode cL_law 289 = .ok (.iload_n 3, 1) := by decide +kernel
theorem dL_law_290 : decode cL_law 290 = .ok (.iconst 2, 1) := by decide +kernel
theorem dL_law_291 : decode cL_law 291 = .ok (.iadd, 1) := by decide +kernel
theorem dL_law_292 : decode cL_law 292 = .ok (.iaload, 1) := by decide +kernel
theorem dL_law_293 : decode cL_law 293 = .ok (.invokevirtual 40, 3) := by decide +kernel
theorem dL_law_296 : decode cL_law 296 = .ok (.aload_n 2, 1) := by decide +kernel
theorem dL_law_297 : decode cL_law 297 = .ok (.aload_n 0, 1) := by decide +kernel
theorem dL_law_298 : decode cL_law 298 = .ok (.iload_n 3, 1) := by decide +kernel
theorem dL_law_299 : decode cL_law 299 = .ok (.iconst 1, 1) := by decide +kernel
theorem dL_law_300 : decode cL_law 300 = .ok (.iadd, 1) := by decide +kernel
theorem dL_law_301 : decode cL_law 301 = .ok (.iaload, 1) := by decide +kernel
theorem dL_law_302 : decode cL_law 302 = .ok (.aload_n 0, 1) := by decide +kernel
theorem dL_law_303 : decode cL_law 303 = .ok (.iload_n 3, 1) := by decide +kernel
theorem dL_law_304 : decode cL_law 304 = .ok (.iconst 2, 1) := by decide +kernel
theorem dL_law_305 : decode cL_law 305 = .ok (.iadd, 1) := by decide +kernel
theorem dL_law_306 : decode cL_law 306 = .ok (.iaload, 1) := by decide +kernel
theorem dL_law_307 : decode cL_law 307 = .ok (.invokevirtual 43, 3) := by decide +kernel
theorem dL_law_310 : decode cL_law 310 = .ok (.if_icmp .eq 624, 3) := by decide +kernel
theorem dL_law_313 : decode cL_law 313 = .ok (.iconst 0, 1) := by decide +kernel
theorem dL_law_314 : decode cL_law 314 = .ok (.ireturn, 1) := by decide +kernel
theorem dL_law_315 : decode cL_law 315 = .ok (.aload_n 1, 1) := by decide +kernel
theorem dL_law_316 : decode cL_law 316 = .ok (.invokevirtual 44, 3) := by decide +kernel
theorem dL_law_319 : decode cL_law 319 = .ok (.aload_n 2, 1) := by decide +kernel
theorem dL_law_320 : decode cL_law 320 = .ok (.invokevirtual 47, 3) := by decide +kernel
theorem dL_law_323 : decode cL_law 323 = .ok (.if_icmp .eq 611, 3) := by decide +kernel
theorem dL_law_326 : decode cL_law 326 = .ok (.iconst 0, 1) := by decide +kernel
theorem dL_law_327 : decode cL_law 327 = .ok (.ireturn, 1) := by decide +kernel
theorem dL_law_328 : decode cL_law 328 = .ok (.aload_n 1, 1) := by decide +kernel
theorem dL_law_329 : decode cL_law 329 = .ok (.aload_n 0, 1) := by decide +kernel
theorem dL_law_330 : decode cL_law 330 = .ok (.iload_n 3, 1) := by decide +kernel
theorem dL_law_331 : decode cL_law 331 = .ok (.iconst 1, 1) := by decide +kernel
theorem dL_law_332 : decode cL_law 332 = .ok (.iadd, 1) := by decide +kernel
theorem dL_law_333 : decode cL_law 333 = .ok (.iaload, 1) := by decide +kernel
theorem dL_law_334 : decode cL_law 334 = .ok (.aload_n 0, 1) := by decide +kernel
theorem dL_law_335 : decode cL_law 335 = .ok (.iload_n 3, 1) := by decide +kernel
theorem dL_law_336 : decode cL_law 336 = .ok (.iconst 2, 1) := by decide +kernel
theorem dL_law_337 : decode cL_law 337 = .ok (.iadd, 1) := by decide +kernel
theorem dL_law_338 : decode cL_law 338 = .ok (.iaload, 1) := by decide +kernel
theorem dL_law_339 : decode cL_law 339 = .ok (.invokevirtual 48, 3) := by decide +kernel
theorem dL_law_342 : decode cL_law 342 = .ok (.aload_n 2, 1) := by decide +kernel
theorem dL_law_343 : decode cL_law 343 = .ok (.aload_n 0, 1) := by decide +kernel
theorem dL_law_344 : decode cL_law 344 = .ok (.iload_n 3, 1) := by decide +kernel
theorem dL_law_345 : decode cL_law 345 = .ok (.iconst 1, 1) := by decide +kernel
theorem dL_law_346 : decode cL_law 346 = .ok (.iadd, 1) := by decide +kernel
theorem dL_law_347 : decode cL_law 347 = .ok (.iaload, 1) := by decide +kernel
theorem dL_law_348 : decode cL_law 348 = .ok (.aload_n 0, 1) := by decide +kernel
theorem dL_law_349 : decode cL_law 349 = .ok (.iload_n 3, 1) := by decide +kernel
theorem dL_law_350 : decode cL_law 350 = .ok (.iconst 2, 1) := by decide +kernel
theorem dL_law_351 : decode cL_law 351 = .ok (.iadd, 1) := by decide +kernel
theorem dL_law_352 : decode cL_law 352 = .ok (.iaload, 1) := by decide +kernel
theorem dL_law_353 : decode cL_law 353 = .ok (.invokevirtual 51, 3) := by decide +kernel
theorem dL_law_356 : decode cL_law 356 = .ok (.if_icmp .eq 578, 3) := by decide +kernel
theorem dL_law_359 : decode cL_law 359 = .ok (.iconst 0, 1) := by decide +kernel
theorem dL_law_360 : decode cL_law 360 = .ok (.ireturn, 1) := by decide +kernel
theorem dL_law_361 : decode cL_law 361 = .ok (.aload_n 1, 1) := by decide +kernel
theorem dL_law_362 : decode cL_law 362 = .ok (.aload_n 0, 1) := by decide +kernel
theorem dL_law_363 : decode cL_law 363 = .ok (.iload_n 3, 1) := by decide +kernel
theorem dL_law_364 : decode cL_law 364 = .ok (.iconst 1, 1) := by decide +kernel
theorem dL_law_365 : decode cL_law 365 = .ok (.iadd, 1) := by decide +kernel
theorem dL_law_366 : decode cL_law 366 = .ok (.iaload, 1) := by decide +kernel
theorem dL_law_367 : decode cL_law 367 = .ok (.invokevirtual 52, 3) := by decide +kernel
theorem dL_law_370 : decode cL_law 370 = .ok (.aload_n 2, 1) := by decide +kernel
theorem dL_law_371 : decode cL_law 371 = .ok (.aload_n 0, 1) := by decide +kernel
theorem dL_law_372 : decode cL_law 372 = .ok (.iload_n 3, 1) := by decide +kernel
theorem dL_law_373 : decode cL_law 373 = .ok (.iconst 1, 1) := by decide +kernel
theorem dL_law_374 : decode cL_law 374 = .ok (.iadd, 1) := by decide +kernel
theorem dL_law_375 : decode cL_law 375 = .ok (.iaload, 1) := by decide +kernel
theorem dL_law_376 : decode cL_law 376 = .ok (.invokevirtual 55, 3) := by decide +kernel
theorem dL_law_379 : decode cL_law 379 = .ok (.if_icmp .eq 555, 3) := by decide +kernel
theorem dL_law_382 : decode cL_law 382 = .ok (.iconst 0, 1) := by decide +kernel
theorem dL_law_383 : decode cL_law 383 = .ok (.ireturn, 1) := by decide +kernel
theorem dL_law_384 : decode cL_law 384 = .ok (.aload_n 1, 1) := by decide +kernel
theorem dL_law_385 : decode cL_law 385 = .ok (.aload_n 0, 1) := by decide +kernel
theorem dL_law_386 : decode cL_law 386 = .ok (.iload_n 3, 1) := by decide +kernel
theorem dL_law_387 : decode cL_law 387 = .ok (.iconst 1, 1) := by decide +kernel
theorem dL_law_388 : decode cL_law 388 = .ok (.iadd, 1) := by decide +kernel
theorem dL_law_389 : decode cL_law 389 = .ok (.iaload, 1) := by decide +kernel
theorem dL_law_390 : decode cL_law 390 = .ok (.invokevirtual 56, 3) := by decide +kernel
theorem dL_law_393 : decode cL_law 393 = .ok (.aload_n 2, 1) := by decide +kernel
theorem dL_law_394 : decode cL_law 394 = .ok (.aload_n 0, 1) := by decide +kernel
theorem dL_law_395 : decode cL_law 395 = .ok (.iload_n 3, 1) := by decide +kernel
theorem dL_law_396 : decode cL_law 396 = .ok (.iconst 1, 1) := by decide +kernel
theorem dL_law_397 : decode cL_law 397 = .ok (.iadd, 1) := by decide +kernel
theorem dL_law_398 : decode cL_law 398 = .ok (.iaload, 1) := by decide +kernel
theorem dL_law_399 : decode cL_law 399 = .ok (.invokevirtual 59, 3) := by decide +kernel
theorem dL_law_402 : decode cL_law 402 = .ok (.if_icmp .eq 532, 3) := by decide +kernel
theorem dL_law_405 : decode cL_law 405 = .ok (.iconst 0, 1) := by decide +kernel
theorem dL_law_406 : decode cL_law 406 = .ok (.ireturn, 1) := by decide +kernel
theorem dL_law_407 : decode cL_law 407 = .ok (.aload_n 1, 1) := by decide +kernel
theorem dL_law_408 : decode cL_law 408 = .ok (.invokevirtual 60, 3) := by decide +kernel
theorem dL_law_411 : decode cL_law 411 = .ok (.aload_n 2, 1) := by decide +kernel
theorem dL_law_412 : decode cL_law 412 = .ok (.invokevirtual 63, 3) := by decide +kernel
theorem dL_law_415 : decode cL_law 415 = .ok (.if_icmp .eq 519, 3) := by decide +kernel
theorem dL_law_418 : decode cL_law 418 = .ok (.iconst 0, 1) := by decide +kernel
theorem dL_law_419 : decode cL_law 419 = .ok (.ireturn, 1) := by decide +kernel
theorem dL_law_420 : decode cL_law 420 = .ok (.aload_n 1, 1) := by decide +kernel
theorem dL_law_421 : decode cL_law 421 = .ok (.invokevirtual 64, 3) := by decide +kernel
theorem dL_law_424 : decode cL_law 424 = .ok (.aload_n 2, 1) := by decide +kernel
theorem dL_law_425 : decode cL_law 425 = .ok (.invokevirtual 67, 3) := by decide +kernel
theorem dL_law_428 : decode cL_law 428 = .ok (.if_icmp .eq 506, 3) := by decide +kernel
theorem dL_law_431 : decode cL_law 431 = .ok (.iconst 0, 1) := by decide +kernel
theorem dL_law_432 : decode cL_law 432 = .ok (.ireturn, 1) := by decide +kernel
theorem dL_law_433 : decode cL_law 433 = .ok (.aload_n 1, 1) := by decide +kernel
theorem dL_law_434 : decode cL_law 434 = .ok (.aload_n 0, 1) := by decide +kernel
theorem dL_law_435 : decode cL_law 435 = .ok (.iload_n 3, 1) := by decide +kernel
theorem dL_law_436 : decode cL_law 436 = .ok (.iconst 1, 1) := by decide +kernel
theorem dL_law_437 : decode cL_law 437 = .ok (.iadd, 1) := by decide +kernel
theorem dL_law_438 : decode cL_law 438 = .ok (.iaload, 1) := by decide +kernel
theorem dL_law_439 : decode cL_law 439 = .ok (.aload_n 0, 1) := by decide +kernel
theorem dL_law_440 : decode cL_law 440 = .ok (.iload_n 3, 1) := by decide +kernel
theorem dL_law_441 : decode cL_law 441 = .ok (.iconst 2, 1) := by decide +kernel
theorem dL_law_442 : decode cL_law 442 = .ok (.iadd, 1) := by decide +kernel
theorem dL_law_443 : decode cL_law 443 = .ok (.iaload, 1) := by decide +kernel
theorem dL_law_444 : decode cL_law 444 = .ok (.invokevirtual 68, 3) := by decide +kernel
theorem dL_law_447 : decode cL_law 447 = .ok (.aload_n 2, 1) := by decide +kernel
theorem dL_law_448 : decode cL_law 448 = .ok (.aload_n 0, 1) := by decide +kernel
theorem dL_law_449 : decode cL_law 449 = .ok (.iload_n 3, 1) := by decide +kernel
theorem dL_law_450 : decode cL_law 450 = .ok (.iconst 1, 1) := by decide +kernel
theorem dL_law_451 : decode cL_law 451 = .ok (.iadd, 1) := by decide +kernel
theorem dL_law_452 : decode cL_law 452 = .ok (.iaload, 1) := by decide +kernel
theorem dL_law_453 : decode cL_law 453 = .ok (.aload_n 0, 1) := by decide +kernel
theorem dL_law_454 : decode cL_law 454 = .ok (.iload_n 3, 1) := by decide +kernel
theorem dL_law_455 : decode cL_law 455 = .ok (.iconst 2, 1) := by decide +kernel
theorem dL_law_456 : decode cL_law 456 = .ok (.iadd, 1) := by decide +kernel
theorem dL_law_457 : decode cL_law 457 = .ok (.iaload, 1) := by decide +kernel
theorem dL_law_458 : decode cL_law 458 = .ok (.invokevirtual 71, 3) := by decide +kernel
theorem dL_law_461 : decode cL_law 461 = .ok (.if_icmp .eq 473, 3) := by decide +kernel
theorem dL_law_464 : decode cL_law 464 = .ok (.iconst 0, 1) := by decide +kernel
theorem dL_law_465 : decode cL_law 465 = .ok (.ireturn, 1) := by decide +kernel
theorem dL_law_466 : decode cL_law 466 = .ok (.aload_n 1, 1) := by decide +kernel
theorem dL_law_467 : decode cL_law 467 = .ok (.aload_n 0, 1) := by decide +kernel
theorem dL_law_468 : decode cL_law 468 = .ok (.iload_n 3, 1) := by decide +kernel
theorem dL_law_469 : decode cL_law 469 = .ok (.iconst 1, 1) := by decide +kernel
theorem dL_law_470 : decode cL_law 470 = .ok (.iadd, 1) := by decide +kernel
theorem dL_law_471 : decode cL_law 471 = .ok (.iaload, 1) := by decide +kernel
theorem dL_law_472 : decode cL_law 472 = .ok (.invokevirtual 72, 3) := by decide +kernel
theorem dL_law_475 : decode cL_law 475 = .ok (.aload_n 2, 1) := by decide +kernel
theorem dL_law_476 : decode cL_law 476 = .ok (.aload_n 0, 1) := by decide +kernel
theorem dL_law_477 : decode cL_law 477 = .ok (.iload_n 3, 1) := by decide +kernel
theorem dL_law_478 : decode cL_law 478 = .ok (.iconst 1, 1) := by decide +kernel
theorem dL_law_479 : decode cL_law 479 = .ok (.iadd, 1) := by decide +kernel
theorem dL_law_480 : decode cL_law 480 = .ok (.iaload, 1) := by decide +kernel
theorem dL_law_481 : decode cL_law 481 = .ok (.invokevirtual 75, 3) := by decide +kernel
theorem dL_law_484 : decode cL_law 484 = .ok (.if_icmp .eq 450, 3) := by decide +kernel
theorem dL_law_487 : decode cL_law 487 = .ok (.iconst 0, 1) := by decide +kernel
theorem dL_law_488 : decode cL_law 488 = .ok (.ireturn, 1) := by decide +kernel
theorem dL_law_489 : decode cL_law 489 = .ok (.aload_n 1, 1) := by decide +kernel
theorem dL_law_490 : decode cL_law 490 = .ok (.invokevirtual 76, 3) := by decide +kernel
theorem dL_law_493 : decode cL_law 493 = .ok (.aload_n 2, 1) := by decide +kernel
theorem dL_law_494 : decode cL_law 494 = .ok (.invokevirtual 79, 3) := by decide +kernel
theorem dL_law_497 : decode cL_law 497 = .ok (.if_icmp .eq 437, 3) := by decide +kernel
theorem dL_law_500 : decode cL_law 500 = .ok (.iconst 0, 1) := by decide +kernel
theorem dL_law_501 : decode cL_law 501 = .ok (.ireturn, 1) := by decide +kernel
theorem dL_law_502 : decode cL_law 502 = .ok (.aload_n 1, 1) := by decide +kernel
theorem dL_law_503 : decode cL_law 503 = .ok (.invokevirtual 80, 3) := by decide +kernel
theorem dL_law_506 : decode cL_law 506 = .ok (.aload_n 2, 1) := by decide +kernel
theorem dL_law_507 : decode cL_law 507 = .ok (.invokevirtual 83, 3) := by decide +kernel
theorem dL_law_510 : decode cL_law 510 = .ok (.if_icmp .eq 424, 3) := by decide +kernel
theorem dL_law_513 : decode cL_law 513 = .ok (.iconst 0, 1) := by decide +kernel
theorem dL_law_514 : decode cL_law 514 = .ok (.ireturn, 1) := by decide +kernel
theorem dL_law_515 : decode cL_law 515 = .ok (.aload_n 1, 1) := by decide +kernel
theorem dL_law_516 : decode cL_law 516 = .ok (.invokevirtual 84, 3) := by decide +kernel
theorem dL_law_519 : decode cL_law 519 = .ok (.aload_n 2, 1) := by decide +kernel
theorem dL_law_520 : decode cL_law 520 = .ok (.invokevirtual 87, 3) := by decide +kernel
theorem dL_law_523 : decode cL_law 523 = .ok (.if_icmp .eq 411, 3) := by decide +kernel
theorem dL_law_526 : decode cL_law 526 = .ok (.iconst 0, 1) := by decide +kernel
theorem dL_law_527 : decode cL_law 527 = .ok (.ireturn, 1) := by decide +kernel
theorem dL_law_528 : decode cL_law 528 = .ok (.aload_n 1, 1) := by decide +kernel
theorem dL_law_529 : decode cL_law 529 = .ok (.aload_n 0, 1) := by decide +kernel
theorem dL_law_530 : decode cL_law 530 = .ok (.iload_n 3, 1) := by decide +kernel
theorem dL_law_531 : decode cL_law 531 = .ok (.iconst 1, 1) := by decide +kernel
theorem dL_law_532 : decode cL_law 532 = .ok (.iadd, 1) := by decide +kernel
theorem dL_law_533 : decode cL_law 533 = .ok (.iaload, 1) := by decide +kernel
theorem dL_law_534 : decode cL_law 534 = .ok (.aload_n 0, 1) := by decide +kernel
theorem dL_law_535 : decode cL_law 535 = .ok (.iload_n 3, 1) := by decide +kernel
theorem dL_law_536 : decode cL_law 536 = .ok (.iconst 2, 1) := by decide +kernel
theorem dL_law_537 : decode cL_law 537 = .ok (.iadd, 1) := by decide +kernel
theorem dL_law_538 : decode cL_law 538 = .ok (.iaload, 1) := by decide +kernel
theorem dL_law_539 : decode cL_law 539 = .ok (.aload_n 0, 1) := by decide +kernel
theorem dL_law_540 : decode cL_law 540 = .ok (.iload_n 3, 1) := by decide +kernel
theorem dL_law_541 : decode cL_law 541 = .ok (.iconst 3, 1) := by decide +kernel
theorem dL_law_542 : decode cL_law 542 = .ok (.iadd, 1) := by decide +kernel
theorem dL_law_543 : decode cL_law 543 = .ok (.iaload, 1) := by decide +kernel
theorem dL_law_544 : decode cL_law 544 = .ok (.aload_n 0, 1) := by decide +kernel
theorem dL_law_545 : decode cL_law 545 = .ok (.iload_n 3, 1) := by decide +kernel
theorem dL_law_546 : decode cL_law 546 = .ok (.iconst 4, 1) := by decide +kernel
theorem dL_law_547 : decode cL_law 547 = .ok (.iadd, 1) := by decide +kernel
theorem dL_law_548 : decode cL_law 548 = .ok (.iaload, 1) := by decide +kernel
theorem dL_law_549 : decode cL_law 549 = .ok (.invokevirtual 88, 3) := by decide +kernel
theorem dL_law_552 : decode cL_law 552 = .ok (.aload_n 2, 1) := by decide +kernel
theorem dL_law_553 : decode cL_law 553 = .ok (.aload_n 0, 1) := by decide +kernel
theorem dL_law_554 : decode cL_law 554 = .ok (.iload_n 3, 1) := by decide +kernel
theorem dL_law_555 : decode cL_law 555 = .ok (.iconst 1, 1) := by decide +kernel
theorem dL_law_556 : decode cL_law 556 = .ok (.iadd, 1) := by decide +kernel
theorem dL_law_557 : decode cL_law 557 = .ok (.iaload, 1) := by decide +kernel
theorem dL_law_558 : decode cL_law 558 = .ok (.aload_n 0, 1) := by decide +kernel
theorem dL_law_559 : decode cL_law 559 = .ok (.iload_n 3, 1) := by decide +kernel
theorem dL_law_560 : decode cL_law 560 = .ok (.iconst 2, 1) := by decide +kernel
theorem dL_law_561 : decode cL_law 561 = .ok (.iadd, 1) := by decide +kernel
theorem dL_law_562 : decode cL_law 562 = .ok (.iaload, 1) := by decide +kernel
theorem dL_law_563 : decode cL_law 563 = .ok (.aload_n 0, 1) := by decide +kernel
theorem dL_law_564 : decode cL_law 564 = .ok (.iload_n 3, 1) := by decide +kernel
theorem dL_law_565 : decode cL_law 565 = .ok (.iconst 3, 1) := by decide +kernel
theorem dL_law_566 : decode cL_law 566 = .ok (.iadd, 1) := by decide +kernel
theorem dL_law_567 : decode cL_law 567 = .ok (.iaload, 1) := by decide +kernel
theorem dL_law_568 : decode cL_law 568 = .ok (.aload_n 0, 1) := by decide +kernel
theorem dL_law_569 : decode cL_law 569 = .ok (.iload_n 3, 1) := by decide +kernel
theorem dL_law_570 : decode cL_law 570 = .ok (.iconst 4, 1) := by decide +kernel
theorem dL_law_571 : decode cL_law 571 = .ok (.iadd, 1) := by decide +kernel
theorem dL_law_572 : decode cL_law 572 = .ok (.iaload, 1) := by decide +kernel
theorem dL_law_573 : decode cL_law 573 = .ok (.invokevirtual 92, 3) := by decide +kernel
theorem dL_law_576 : decode cL_law 576 = .ok (.if_icmp .eq 358, 3) := by decide +kernel
theorem dL_law_579 : decode cL_law 579 = .ok (.iconst 0, 1) := by decide +kernel
theorem dL_law_580 : decode cL_law 580 = .ok (.ireturn, 1) := by decide +kernel
theorem dL_law_581 : decode cL_law 581 = .ok (.aload_n 1, 1) := by decide +kernel
theorem dL_law_582 : decode cL_law 582 = .ok (.aload_n 0, 1) := by decide +kernel
theorem dL_law_583 : decode cL_law 583 = .ok (.iload_n 3, 1) := by decide +kernel
theorem dL_law_584 : decode cL_law 584 = .ok (.iconst 1, 1) := by decide +kernel
theorem dL_law_585 : decode cL_law 585 = .ok (.iadd, 1) := by decide +kernel
theorem dL_law_586 : decode cL_law 586 = .ok (.iaload, 1) := by decide +kernel
theorem dL_law_587 : decode cL_law 587 = .ok (.aload_n 0, 1) := by decide +kernel
theorem dL_law_588 : decode cL_law 588 = .ok (.iload_n 3, 1) := by decide +kernel
theorem dL_law_589 : decode cL_law 589 = .ok (.iconst 2, 1) := by decide +kernel
theorem dL_law_590 : decode cL_law 590 = .ok (.iadd, 1) := by decide +kernel
theorem dL_law_591 : decode cL_law 591 = .ok (.iaload, 1) := by decide +kernel
theorem dL_law_592 : decode cL_law 592 = .ok (.ifCond .eq 7, 3) := by decide +kernel
theorem dL_law_595 : decode cL_law 595 = .ok (.iconst 1, 1) := by decide +kernel
theorem dL_law_596 : decode cL_law 596 = .ok (.goto 4, 3) := by decide +kernel
theorem dL_law_599 : decode cL_law 599 = .ok (.iconst 0, 1) := by decide +kernel
theorem dL_law_600 : decode cL_law 600 = .ok (.invokevirtual 93, 3) := by decide +kernel
theorem dL_law_603 : decode cL_law 603 = .ok (.aload_n 2, 1) := by decide +kernel
theorem dL_law_604 : decode cL_law 604 = .ok (.aload_n 0, 1) := by decide +kernel
theorem dL_law_605 : decode cL_law 605 = .ok (.iload_n 3, 1) := by decide +kernel
theorem dL_law_606 : decode cL_law 606 = .ok (.iconst 1, 1) := by decide +kernel
theorem dL_law_607 : decode cL_law 607 = .ok (.iadd, 1) := by decide +kernel
theorem dL_law_608 : decode cL_law 608 = .ok (.iaload, 1) := by decide +kernel
theorem dL_law_609 : decode cL_law 609 = .ok (.aload_n 0, 1) := by decide +kernel
theorem dL_law_610 : decode cL_law 610 = .ok (.iload_n 3, 1) := by decide +kernel
theorem dL_law_611 : decode cL_law 611 = .ok (.iconst 2, 1) := by decide +kernel
theorem dL_law_612 : decode cL_law 612 = .ok (.iadd, 1) := by decide +kernel
theorem dL_law_613 : decode cL_law 613 = .ok (.iaload, 1) := by decide +kernel
theorem dL_law_614 : decode cL_law 614 = .ok (.ifCond .eq 7, 3) := by decide +kernel
theorem dL_law_617 : decode cL_law 617 = .ok (.iconst 1, 1) := by decide +kernel
theorem dL_law_618 : decode cL_law 618 = .ok (.goto 4, 3) := by decide +kernel
theorem dL_law_621 : decode cL_law 621 = .ok (.iconst 0, 1) := by decide +kernel
theorem dL_law_622 : decode cL_law 622 = .ok (.invokevirtual 97, 3) := by decide +kernel
theorem dL_law_625 : decode cL_law 625 = .ok (.if_icmp .eq 309, 3) := by decide +kernel
theorem dL_law_628 : decode cL_law 628 = .ok (.iconst 0, 1) := by decide +kernel
theorem dL_law_629 : decode cL_law 629 = .ok (.ireturn, 1) := by decide +kernel
theorem dL_law_630 : decode cL_law 630 = .ok (.aload_n 1, 1) := by decide +kernel
theorem dL_law_631 : decode cL_law 631 = .ok (.aload_n 0, 1) := by decide +kernel
theorem dL_law_632 : decode cL_law 632 = .ok (.iload_n 3, 1) := by decide +kernel
theorem dL_law_633 : decode cL_law 633 = .ok (.iconst 1, 1) := by decide +kernel
theorem dL_law_634 : decode cL_law 634 = .ok (.iadd, 1) := by decide +kernel
theorem dL_law_635 : decode cL_law 635 = .ok (.iaload, 1) := by decide +kernel
theorem dL_law_636 : decode cL_law 636 = .ok (.aload_n 0, 1) := by decide +kernel
theorem dL_law_637 : decode cL_law 637 = .ok (.iload_n 3, 1) := by decide +kernel
theorem dL_law_638 : decode cL_law 638 = .ok (.iconst 2, 1) := by decide +kernel
theorem dL_law_639 : decode cL_law 639 = .ok (.iadd, 1) := by decide +kernel
theorem dL_law_640 : decode cL_law 640 = .ok (.iaload, 1) := by decide +kernel
theorem dL_law_641 : decode cL_law 641 = .ok (.aload_n 0, 1) := by decide +kernel
theorem dL_law_642 : decode cL_law 642 = .ok (.iload_n 3, 1) := by decide +kernel
theorem dL_law_643 : decode cL_law 643 = .ok (.iconst 3, 1) := by decide +kernel
theorem dL_law_644 : decode cL_law 644 = .ok (.iadd, 1) := by decide +kernel
theorem dL_law_645 : decode cL_law 645 = .ok (.iaload, 1) := by decide +kernel
theorem dL_law_646 : decode cL_law 646 = .ok (.invokevirtual 98, 3) := by decide +kernel
theorem dL_law_649 : decode cL_law 649 = .ok (.aload_n 2, 1) := by decide +kernel
theorem dL_law_650 : decode cL_law 650 = .ok (.aload_n 0, 1) := by decide +kernel
theorem dL_law_651 : decode cL_law 651 = .ok (.iload_n 3, 1) := by decide +kernel
theorem dL_law_652 : decode cL_law 652 = .ok (.iconst 1, 1) := by decide +kernel
theorem dL_law_653 : decode cL_law 653 = .ok (.iadd, 1) := by decide +kernel
theorem dL_law_654 : decode cL_law 654 = .ok (.iaload, 1) := by decide +kernel
theorem dL_law_655 : decode cL_law 655 = .ok (.aload_n 0, 1) := by decide +kernel
theorem dL_law_656 : decode cL_law 656 = .ok (.iload_n 3, 1) := by decide +kernel
theorem dL_law_657 : decode cL_law 657 = .ok (.iconst 2, 1) := by decide +kernel
theorem dL_law_658 : decode cL_law 658 = .ok (.iadd, 1) := by decide +kernel
theorem dL_law_659 : decode cL_law 659 = .ok (.iaload, 1) := by decide +kernel
theorem dL_law_660 : decode cL_law 660 = .ok (.aload_n 0, 1) := by decide +kernel
theorem dL_law_661 : decode cL_law 661 = .ok (.iload_n 3, 1) := by decide +kernel
theorem dL_law_662 : decode cL_law 662 = .ok (.iconst 3, 1) := by decide +kernel
theorem dL_law_663 : decode cL_law 663 = .ok (.iadd, 1) := by decide +kernel
theorem dL_law_664 : decode cL_law 664 = .ok (.iaload, 1) := by decide +kernel
theorem dL_law_665 : decode cL_law 665 = .ok (.invokevirtual 102, 3) := by decide +kernel
theorem dL_law_668 : decode cL_law 668 = .ok (.if_icmp .eq 266, 3) := by decide +kernel
theorem dL_law_671 : decode cL_law 671 = .ok (.iconst 0, 1) := by decide +kernel
theorem dL_law_672 : decode cL_law 672 = .ok (.ireturn, 1) := by decide +kernel
theorem dL_law_673 : decode cL_law 673 = .ok (.aload_n 1, 1) := by decide +kernel
theorem dL_law_674 : decode cL_law 674 = .ok (.invokevirtual 103, 3) := by decide +kernel
theorem dL_law_677 : decode cL_law 677 = .ok (.aload_n 2, 1) := by decide +kernel
theorem dL_law_678 : decode cL_law 678 = .ok (.invokevirtual 106, 3) := by decide +kernel
theorem dL_law_681 : decode cL_law 681 = .ok (.if_icmp .eq 253, 3) := by decide +kernel
theorem dL_law_684 : decode cL_law 684 = .ok (.iconst 0, 1) := by decide +kernel
theorem dL_law_685 : decode cL_law 685 = .ok (.ireturn, 1) := by decide +kernel
theorem dL_law_686 : decode cL_law 686 = .ok (.aload_n 1, 1) := by decide +kernel
theorem dL_law_687 : decode cL_law 687 = .ok (.aload_n 0, 1) := by decide +kernel
theorem dL_law_688 : decode cL_law 688 = .ok (.iload_n 3, 1) := by decide +kernel
theorem dL_law_689 : decode cL_law 689 = .ok (.iconst 1, 1) := by decide +kernel
theorem dL_law_690 : decode cL_law 690 = .ok (.iadd, 1) := by decide +kernel
theorem dL_law_691 : decode cL_law 691 = .ok (.iaload, 1) := by decide +kernel
theorem dL_law_692 : decode cL_law 692 = .ok (.aload_n 0, 1) := by decide +kernel
theorem dL_law_693 : decode cL_law 693 = .ok (.iload_n 3, 1) := by decide +kernel
theorem dL_law_694 : decode cL_law 694 = .ok (.iconst 2, 1) := by decide +kernel
theorem dL_law_695 : decode cL_law 695 = .ok (.iadd, 1) := by decide +kernel
theorem dL_law_696 : decode cL_law 696 = .ok (.iaload, 1) := by decide +kernel
theorem dL_law_697 : decode cL_law 697 = .ok (.invokevirtual 107, 3) := by decide +kernel
theorem dL_law_700 : decode cL_law 700 = .ok (.aload_n 2, 1) := by decide +kernel
theorem dL_law_701 : decode cL_law 701 = .ok (.aload_n 0, 1) := by decide +kernel
theorem dL_law_702 : decode cL_law 702 = .ok (.iload_n 3, 1) := by decide +kernel
theorem dL_law_703 : decode cL_law 703 = .ok (.iconst 1, 1) := by decide +kernel
theorem dL_law_704 : decode cL_law 704 = .ok (.iadd, 1) := by decide +kernel
theorem dL_law_705 : decode cL_law 705 = .ok (.iaload, 1) := by decide +kernel
theorem dL_law_706 : decode cL_law 706 = .ok (.aload_n 0, 1) := by decide +kernel
theorem dL_law_707 : decode cL_law 707 = .ok (.iload_n 3, 1) := by decide +kernel
theorem dL_law_708 : decode cL_law 708 = .ok (.iconst 2, 1) := by decide +kernel
theorem dL_law_709 : decode cL_law 709 = .ok (.iadd, 1) := by decide +kernel
theorem dL_law_710 : decode cL_law 710 = .ok (.iaload, 1) := by decide +kernel
theorem dL_law_711 : decode cL_law 711 = .ok (.invokevirtual 110, 3) := by decide +kernel
theorem dL_law_714 : decode cL_law 714 = .ok (.if_icmp .eq 220, 3) := by decide +kernel
theorem dL_law_717 : decode cL_law 717 = .ok (.iconst 0, 1) := by decide +kernel
theorem dL_law_718 : decode cL_law 718 = .ok (.ireturn, 1) := by decide +kernel
theorem dL_law_719 : decode cL_law 719 = .ok (.aload_n 1, 1) := by decide +kernel
theorem dL_law_720 : decode cL_law 720 = .ok (.aload_n 0, 1) := by decide +kernel
theorem dL_law_721 : decode cL_law 721 = .ok (.iload_n 3, 1) := by decide +kernel
theorem dL_law_722 : decode cL_law 722 = .ok (.iconst 1, 1) := by decide +kernel
theorem dL_law_723 : decode cL_law 723 = .ok (.iadd, 1) := by decide +kernel
theorem dL_law_724 : decode cL_law 724 = .ok (.iaload, 1) := by decide +kernel
theorem dL_law_725 : decode cL_law 725 = .ok (.invokevirtual 111, 3) := by decide +kernel
theorem dL_law_728 : decode cL_law 728 = .ok (.aload_n 2, 1) := by decide +kernel
theorem dL_law_729 : decode cL_law 729 = .ok (.aload_n 0, 1) := by decide +kernel
theorem dL_law_730 : decode cL_law 730 = .ok (.iload_n 3, 1) := by decide +kernel
theorem dL_law_731 : decode cL_law 731 = .ok (.iconst 1, 1) := by decide +kernel
theorem dL_law_732 : decode cL_law 732 = .ok (.iadd, 1) := by decide +kernel
theorem dL_law_733 : decode cL_law 733 = .ok (.iaload, 1) := by decide +kernel
theorem dL_law_734 : decode cL_law 734 = .ok (.invokevirtual 114, 3) := by decide +kernel
theorem dL_law_737 : decode cL_law 737 = .ok (.if_icmp .eq 197, 3) := by decide +kernel
theorem dL_law_740 : decode cL_law 740 = .ok (.iconst 0, 1) := by decide +kernel
theorem dL_law_741 : decode cL_law 741 = .ok (.ireturn, 1) := by decide +kernel
theorem dL_law_742 : decode cL_law 742 = .ok (.aload_n 1, 1) := by decide +kernel
theorem dL_law_743 : decode cL_law 743 = .ok (.aload_n 0, 1) := by decide +kernel
theorem dL_law_744 : decode cL_law 744 = .ok (.iload_n 3, 1) := by decide +kernel
theorem dL_law_745 : decode cL_law 745 = .ok (.iconst 1, 1) := by decide +kernel
theorem dL_law_746 : decode cL_law 746 = .ok (.iadd, 1) := by decide +kernel
theorem dL_law_747 : decode cL_law 747 = .ok (.iaload, 1) := by decide +kernel
theorem dL_law_748 : decode cL_law 748 = .ok (.aload_n 0, 1) := by decide +kernel
theorem dL_law_749 : decode cL_law 749 = .ok (.iload_n 3, 1) := by decide +kernel
theorem dL_law_750 : decode cL_law 750 = .ok (.iconst 2, 1) := by decide +kernel
theorem dL_law_751 : decode cL_law 751 = .ok (.iadd, 1) := by decide +kernel
theorem dL_law_752 : decode cL_law 752 = .ok (.iaload, 1) := by decide +kernel
theorem dL_law_753 : decode cL_law 753 = .ok (.aload_n 0, 1) := by decide +kernel
theorem dL_law_754 : decode cL_law 754 = .ok (.iload_n 3, 1) := by decide +kernel
theorem dL_law_755 : decode cL_law 755 = .ok (.iconst 3, 1) := by decide +kernel
theorem dL_law_756 : decode cL_law 756 = .ok (.iadd, 1) := by decide +kernel
theorem dL_law_757 : decode cL_law 757 = .ok (.iaload, 1) := by decide +kernel
theorem dL_law_758 : decode cL_law 758 = .ok (.aload_n 0, 1) := by decide +kernel
theorem dL_law_759 : decode cL_law 759 = .ok (.iload_n 3, 1) := by decide +kernel
theorem dL_law_760 : decode cL_law 760 = .ok (.iconst 4, 1) := by decide +kernel
theorem dL_law_761 : decode cL_law 761 = .ok (.iadd, 1) := by decide +kernel
theorem dL_law_762 : decode cL_law 762 = .ok (.iaload, 1) := by decide +kernel
theorem dL_law_763 : decode cL_law 763 = .ok (.ifCond .eq 7, 3) := by decide +kernel
theorem dL_law_766 : decode cL_law 766 = .ok (.iconst 1, 1) := by decide +kernel
theorem dL_law_767 : decode cL_law 767 = .ok (.goto 4, 3) := by decide +kernel
theorem dL_law_770 : decode cL_law 770 = .ok (.iconst 0, 1) := by decide +kernel
theorem dL_law_771 : decode cL_law 771 = .ok (.invokevirtual 115, 3) := by decide +kernel
theorem dL_law_774 : decode cL_law 774 = .ok (.aload_n 2, 1) := by decide +kernel
theorem dL_law_775 : decode cL_law 775 = .ok (.aload_n 0, 1) := by decide +kernel
theorem dL_law_776 : decode cL_law 776 = .ok (.iload_n 3, 1) := by decide +kernel
theorem dL_law_777 : decode cL_law 777 = .ok (.iconst 1, 1) := by decide +kernel
theorem dL_law_778 : decode cL_law 778 = .ok (.iadd, 1) := by decide +kernel
theorem dL_law_779 : decode cL_law 779 = .ok (.iaload, 1) := by decide +kernel
theorem dL_law_780 : decode cL_law 780 = .ok (.aload_n 0, 1) := by decide +kernel
theorem dL_law_781 : decode cL_law 781 = .ok (.iload_n 3, 1) := by decide +kernel
theorem dL_law_782 : decode cL_law 782 = .ok (.iconst 2, 1) := by decide +kernel
theorem dL_law_783 : decode cL_law 783 = .ok (.iadd, 1) := by decide +kernel
theorem dL_law_784 : decode cL_law 784 = .ok (.iaload, 1) := by decide +kernel
theorem dL_law_785 : decode cL_law 785 = .ok (.aload_n 0, 1) := by decide +kernel
theorem dL_law_786 : decode cL_law 786 = .ok (.iload_n 3, 1) := by decide +kernel
theorem dL_law_787 : decode cL_law 787 = .ok (.iconst 3, 1) := by decide +kernel
theorem dL_law_788 : decode cL_law 788 = .ok (.iadd, 1) := by decide +kernel
theorem dL_law_789 : decode cL_law 789 = .ok (.iaload, 1) := by decide +kernel
theorem dL_law_790 : decode cL_law 790 = .ok (.aload_n 0, 1) := by decide +kernel
theorem dL_law_791 : decode cL_law 791 = .ok (.iload_n 3, 1) := by decide +kernel
theorem dL_law_792 : decode cL_law 792 = .ok (.iconst 4, 1) := by decide +kernel
theorem dL_law_793 : decode cL_law 793 = .ok (.iadd, 1) := by decide +kernel
theorem dL_law_794 : decode cL_law 794 = .ok (.iaload, 1) := by decide +kernel
theorem dL_law_795 : decode cL_law 795 = .ok (.ifCond .eq 7, 3) := by decide +kernel
theorem dL_law_798 : decode cL_law 798 = .ok (.iconst 1, 1) := by decide +kernel
theorem dL_law_799 : decode cL_law 799 = .ok (.goto 4, 3) := by decide +kernel
theorem dL_law_802 : decode cL_law 802 = .ok (.iconst 0, 1) := by decide +kernel
theorem dL_law_803 : decode cL_law 803 = .ok (.invokevirtual 119, 3) := by decide +kernel
theorem dL_law_806 : decode cL_law 806 = .ok (.if_icmp .eq 128, 3) := by decide +kernel
theorem dL_law_809 : decode cL_law 809 = .ok (.iconst 0, 1) := by decide +kernel
theorem dL_law_810 : decode cL_law 810 = .ok (.ireturn, 1) := by decide +kernel
theorem dL_law_811 : decode cL_law 811 = .ok (.aload_n 1, 1) := by decide +kernel
theorem dL_law_812 : decode cL_law 812 = .ok (.aload_n 0, 1) := by decide +kernel
theorem dL_law_813 : decode cL_law 813 = .ok (.iload_n 3, 1) := by decide +kernel
theorem dL_law_814 : decode cL_law 814 = .ok (.iconst 1, 1) := by decide +kernel
theorem dL_law_815 : decode cL_law 815 = .ok (.iadd, 1) := by decide +kernel
theorem dL_law_816 : decode cL_law 816 = .ok (.iaload, 1) := by decide +kernel
theorem dL_law_817 : decode cL_law 817 = .ok (.i2l, 1) := by decide +kernel
theorem dL_law_818 : decode cL_law 818 = .ok (.bipush 32, 2) := by decide +kernel
theorem dL_law_820 : decode cL_law 820 = .ok (.lshl, 1) := by decide +kernel
theorem dL_law_821 : decode cL_law 821 = .ok (.aload_n 0, 1) := by decide +kernel
theorem dL_law_822 : decode cL_law 822 = .ok (.iload_n 3, 1) := by decide +kernel
theorem dL_law_823 : decode cL_law 823 = .ok (.iconst 2, 1) := by decide +kernel
theorem dL_law_824 : decode cL_law 824 = .ok (.iadd, 1) := by decide +kernel
theorem dL_law_825 : decode cL_law 825 = .ok (.iaload, 1) := by decide +kernel
theorem dL_law_826 : decode cL_law 826 = .ok (.i2l, 1) := by decide +kernel
theorem dL_law_827 : decode cL_law 827 = .ok (.ldc2_w 120, 3) := by decide +kernel
theorem dL_law_830 : decode cL_law 830 = .ok (.land, 1) := by decide +kernel
theorem dL_law_831 : decode cL_law 831 = .ok (.lor, 1) := by decide +kernel
theorem dL_law_832 : decode cL_law 832 = .ok (.invokevirtual 122, 3) := by decide +kernel
theorem dL_law_835 : decode cL_law 835 = .ok (.aload_n 2, 1) := by decide +kernel
theorem dL_law_836 : decode cL_law 836 = .ok (.aload_n 0, 1) := by decide +kernel
theorem dL_law_837 : decode cL_law 837 = .ok (.iload_n 3, 1) := by decide +kernel
theorem dL_law_838 : decode cL_law 838 = .ok (.iconst 1, 1) := by decide +kernel
theorem dL_law_839 : decode cL_law 839 = .ok (.iadd, 1) := by decide +kernel
theorem dL_law_840 : decode cL_law 840 = .ok (.iaload, 1) := by decide +kernel
theorem dL_law_841 : decode cL_law 841 = .ok (.i2l, 1) := by decide +kernel
theorem dL_law_842 : decode cL_law 842 = .ok (.bipush 32, 2) := by decide +kernel
theorem dL_law_844 : decode cL_law 844 = .ok (.lshl, 1) := by decide +kernel
theorem dL_law_845 : decode cL_law 845 = .ok (.aload_n 0, 1) := by decide +kernel
theorem dL_law_846 : decode cL_law 846 = .ok (.iload_n 3, 1) := by decide +kernel
theorem dL_law_847 : decode cL_law 847 = .ok (.iconst 2, 1) := by decide +kernel
theorem dL_law_848 : decode cL_law 848 = .ok (.iadd, 1) := by decide +kernel
theorem dL_law_849 : decode cL_law 849 = .ok (.iaload, 1) := by decide +kernel
theorem dL_law_850 : decode cL_law 850 = .ok (.i2l, 1) := by decide +kernel
theorem dL_law_851 : decode cL_law 851 = .ok (.ldc2_w 120, 3) := by decide +kernel
theorem dL_law_854 : decode cL_law 854 = .ok (.land, 1) := by decide +kernel
theorem dL_law_855 : decode cL_law 855 = .ok (.lor, 1) := by decide +kernel
theorem dL_law_856 : decode cL_law 856 = .ok (.invokevirtual 126, 3) := by decide +kernel
theorem dL_law_859 : decode cL_law 859 = .ok (.lcmp, 1) := by decide +kernel
theorem dL_law_860 : decode cL_law 860 = .ok (.ifCond .eq 74, 3) := by decide +kernel
theorem dL_law_863 : decode cL_law 863 = .ok (.iconst 0, 1) := by decide +kernel
theorem dL_law_864 : decode cL_law 864 = .ok (.ireturn, 1) := by decide +kernel
theorem dL_law_865 : decode cL_law 865 = .ok (.aload_n 1, 1) := by decide +kernel
theorem dL_law_866 : decode cL_law 866 = .ok (.aload_n 0, 1) := by decide +kernel
theorem dL_law_867 : decode cL_law 867 = .ok (.iload_n 3, 1) := by decide +kernel
theorem dL_law_868 : decode cL_law 868 = .ok (.iconst 1, 1) := by decide +kernel
theorem dL_law_869 : decode cL_law 869 = .ok (.iadd, 1) := by decide +kernel
theorem dL_law_870 : decode cL_law 870 = .ok (.iaload, 1) := by decide +kernel
theorem dL_law_871 : decode cL_law 871 = .ok (.invokevirtual 127, 3) := by decide +kernel
theorem dL_law_874 : decode cL_law 874 = .ok (.aload_n 2, 1) := by decide +kernel
theorem dL_law_875 : decode cL_law 875 = .ok (.aload_n 0, 1) := by decide +kernel
theorem dL_law_876 : decode cL_law 876 = .ok (.iload_n 3, 1) := by decide +kernel
theorem dL_law_877 : decode cL_law 877 = .ok (.iconst 1, 1) := by decide +kernel
theorem dL_law_878 : decode cL_law 878 = .ok (.iadd, 1) := by decide +kernel
theorem dL_law_879 : decode cL_law 879 = .ok (.iaload, 1) := by decide +kernel
theorem dL_law_880 : decode cL_law 880 = .ok (.invokevirtual 130, 3) := by decide +kernel
theorem dL_law_883 : decode cL_law 883 = .ok (.if_icmp .eq 51, 3) := by decide +kernel
theorem dL_law_886 : decode cL_law 886 = .ok (.iconst 0, 1) := by decide +kernel
theorem dL_law_887 : decode cL_law 887 = .ok (.ireturn, 1) := by decide +kernel
theorem dL_law_888 : decode cL_law 888 = .ok (.aload_n 1, 1) := by decide +kernel
theorem dL_law_889 : decode cL_law 889 = .ok (.aload_n 0, 1) := by decide +kernel
theorem dL_law_890 : decode cL_law 890 = .ok (.iload_n 3, 1) := by decide +kernel
theorem dL_law_891 : decode cL_law 891 = .ok (.iconst 1, 1) := by decide +kernel
theorem dL_law_892 : decode cL_law 892 = .ok (.iadd, 1) := by decide +kernel
theorem dL_law_893 : decode cL_law 893 = .ok (.iaload, 1) := by decide +kernel
theorem dL_law_894 : decode cL_law 894 = .ok (.invokevirtual 131, 3) := by decide +kernel
theorem dL_law_897 : decode cL_law 897 = .ok (.aload_n 2, 1) := by decide +kernel
theorem dL_law_898 : decode cL_law 898 = .ok (.aload_n 0, 1) := by decide +kernel
theorem dL_law_899 : decode cL_law 899 = .ok (.iload_n 3, 1) := by decide +kernel
theorem dL_law_900 : decode cL_law 900 = .ok (.iconst 1, 1) := by decide +kernel
theorem dL_law_901 : decode cL_law 901 = .ok (.iadd, 1) := by decide +kernel
theorem dL_law_902 : decode cL_law 902 = .ok (.iaload, 1) := by decide +kernel
theorem dL_law_903 : decode cL_law 903 = .ok (.invokevirtual 134, 3) := by decide +kernel
theorem dL_law_906 : decode cL_law 906 = .ok (.if_icmp .eq 28, 3) := by decide +kernel
theorem dL_law_909 : decode cL_law 909 = .ok (.iconst 0, 1) := by decide +kernel
theorem dL_law_910 : decode cL_law 910 = .ok (.ireturn, 1) := by decide +kernel
theorem dL_law_911 : decode cL_law 911 = .ok (.aload_n 1, 1) := by decide +kernel
theorem dL_law_912 : decode cL_law 912 = .ok (.aload_n 0, 1) := by decide +kernel
theorem dL_law_913 : decode cL_law 913 = .ok (.iload_n 3, 1) := by decide +kernel
theorem dL_law_914 : decode cL_law 914 = .ok (.iconst 1, 1) := by decide +kernel
theorem dL_law_915 : decode cL_law 915 = .ok (.iadd, 1) := by decide +kernel
theorem dL_law_916 : decode cL_law 916 = .ok (.iaload, 1) := by decide +kernel
theorem dL_law_917 : decode cL_law 917 = .ok (.invokevirtual 135, 3) := by decide +kernel
theorem dL_law_920 : decode cL_law 920 = .ok (.aload_n 2, 1) := by decide +kernel
theorem dL_law_921 : decode cL_law 921 = .ok (.aload_n 0, 1) := by decide +kernel
theorem dL_law_922 : decode cL_law 922 = .ok (.iload_n 3, 1) := by decide +kernel
theorem dL_law_923 : decode cL_law 923 = .ok (.iconst 1, 1) := by decide +kernel
theorem dL_law_924 : decode cL_law 924 = .ok (.iadd, 1) := by decide +kernel
theorem dL_law_925 : decode cL_law 925 = .ok (.iaload, 1) := by decide +kernel
theorem dL_law_926 : decode cL_law 926 = .ok (.invokevirtual 138, 3) := by decide +kernel
theorem dL_law_929 : decode cL_law 929 = .ok (.if_icmp .eq 5, 3) := by decide +kernel
theorem dL_law_932 : decode cL_law 932 = .ok (.iconst 0, 1) := by decide +kernel
theorem dL_law_933 : decode cL_law 933 = .ok (.ireturn, 1) := by decide +kernel
theorem dL_law_934 : decode cL_law 934 = .ok (.iinc 3 5, 3) := by decide +kernel
theorem dL_law_937 : decode cL_law 937 = .ok (.goto (-919), 3) := by decide +kernel
theorem dL_law_940 : decode cL_law 940 = .ok (.iconst 1, 1) := by decide +kernel
theorem dL_law_941 : decode cL_law 941 = .ok (.ireturn, 1) := by decide +kernel
