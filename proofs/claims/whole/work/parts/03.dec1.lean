theorem dX9_about_89 : decode cX9_about 89 = .ok (.getfield 19, 3) := by decide +kernel
theorem dX9_about_92 : decode cX9_about 92 = .ok (.getfield 98, 3) := by decide +kernel
theorem dX9_about_95 : decode cX9_about 95 = .ok (.ireturn, 1) := by decide +kernel
theorem dX9_about_96 : decode cX9_about 96 = .ok (.aload_n 0, 1) := by decide +kernel
theorem dX9_about_97 : decode cX9_about 97 = .ok (.getfield 26, 3) := by decide +kernel
theorem dX9_about_100 : decode cX9_about 100 = .ok (.getfield 101, 3) := by decide +kernel
theorem dX9_about_103 : decode cX9_about 103 = .ok (.ireturn, 1) := by decide +kernel
theorem dX9_about_104 : decode cX9_about 104 = .ok (.aload_n 0, 1) := by decide +kernel
theorem dX9_about_105 : decode cX9_about 105 = .ok (.getfield 26, 3) := by decide +kernel
theorem dX9_about_108 : decode cX9_about 108 = .ok (.getfield 104, 3) := by decide +kernel
theorem dX9_about_111 : decode cX9_about 111 = .ok (.ireturn, 1) := by decide +kernel
theorem dX9_about_112 : decode cX9_about 112 = .ok (.aload_n 0, 1) := by decide +kernel
theorem dX9_about_113 : decode cX9_about 113 = .ok (.getfield 26, 3) := by decide +kernel
theorem dX9_about_116 : decode cX9_about 116 = .ok (.getfield 107, 3) := by decide +kernel
theorem dX9_about_119 : decode cX9_about 119 = .ok (.ireturn, 1) := by decide +kernel
theorem dX9_about_120 : decode cX9_about 120 = .ok (.aload_n 0, 1) := by decide +kernel
theorem dX9_about_121 : decode cX9_about 121 = .ok (.getfield 26, 3) := by decide +kernel
theorem dX9_about_124 : decode cX9_about 124 = .ok (.getfield 110, 3) := by decide +kernel
theorem dX9_about_127 : decode cX9_about 127 = .ok (.ireturn, 1) := by decide +kernel
theorem dX9_about_128 : decode cX9_about 128 = .ok (.aload_n 0, 1) := by decide +kernel
theorem dX9_about_129 : decode cX9_about 129 = .ok (.getfield 26, 3) := by decide +kernel
theorem dX9_about_132 : decode cX9_about 132 = .ok (.getfield 113, 3) := by decide +kernel
theorem dX9_about_135 : decode cX9_about 135 = .ok (.invokestatic 116, 3) := by decide +kernel
theorem dX9_about_138 : decode cX9_about 138 = .ok (.ireturn, 1) := by decide +kernel
theorem dX9_about_139 : decode cX9_about 139 = .ok (.aload_n 0, 1) := by decide +kernel
theorem dX9_about_140 : decode cX9_about 140 = .ok (.getfield 26, 3) := by decide +kernel
theorem dX9_about_143 : decode cX9_about 143 = .ok (.getfield 113, 3) := by decide +kernel
theorem dX9_about_146 : decode cX9_about 146 = .ok (.invokestatic 122, 3) := by decide +kernel
theorem dX9_about_149 : decode cX9_about 149 = .ok (.ireturn, 1) := by decide +kernel
theorem dX9_about_150 : decode cX9_about 150 = .ok (.aload_n 0, 1) := by decide +kernel
theorem dX9_about_151 : decode cX9_about 151 = .ok (.getfield 26, 3) := by decide +kernel
theorem dX9_about_154 : decode cX9_about 154 = .ok (.getfield 125, 3) := by decide +kernel
theorem dX9_about_157 : decode cX9_about 157 = .ok (.ireturn, 1) := by decide +kernel
theorem dX9_about_158 : decode cX9_about 158 = .ok (.aload_n 0, 1) := by decide +kernel
theorem dX9_about_159 : decode cX9_about 159 = .ok (.getfield 26, 3) := by decide +kernel
theorem dX9_about_162 : decode cX9_about 162 = .ok (.getfield 128, 3) := by decide +kernel
theorem dX9_about_165 : decode cX9_about 165 = .ok (.ireturn, 1) := by decide +kernel
theorem dX9_about_166 : decode cX9_about 166 = .ok (.aload_n 0, 1) := by decide +kernel
theorem dX9_about_167 : decode cX9_about 167 = .ok (.getfield 50, 3) := by decide +kernel
theorem dX9_about_170 : decode cX9_about 170 = .ok (.getfield 131, 3) := by decide +kernel
theorem dX9_about_173 : decode cX9_about 173 = .ok (.ireturn, 1) := by decide +kernel
theorem dX9_about_174 : decode cX9_about 174 = .ok (.aload_n 0, 1) := by decide +kernel
theorem dX9_about_175 : decode cX9_about 175 = .ok (.getfield 64, 3) := by decide +kernel
theorem dX9_about_178 : decode cX9_about 178 = .ok (.getfield 134, 3) := by decide +kernel
theorem dX9_about_181 : decode cX9_about 181 = .ok (.ireturn, 1) := by decide +kernel
theorem dX9_about_182 : decode cX9_about 182 = .ok (.aload_n 0, 1) := by decide +kernel
theorem dX9_about_183 : decode cX9_about 183 = .ok (.getfield 10, 3) := by decide +kernel
theorem dX9_about_186 : decode cX9_about 186 = .ok (.getfield 72, 3) := by decide +kernel
theorem dX9_about_189 : decode cX9_about 189 = .ok (.ireturn, 1) := by decide +kernel
theorem dX9_about_190 : decode cX9_about 190 = .ok (.bipush (-2), 2) := by decide +kernel
theorem dX9_about_192 : decode cX9_about 192 = .ok (.ireturn, 1) := by decide +kernel
theorem dX9_hand_0 : decode cX9_hand 0 = .ok (.aload_n 0, 1) := by decide +kernel
theorem dX9_hand_1 : decode cX9_hand 1 = .ok (.getfield 19, 3) := by decide +kernel
theorem dX9_hand_4 : decode cX9_hand 4 = .ok (.iload_n 1, 1) := by decide +kernel
theorem dX9_hand_5 : decode cX9_hand 5 = .ok (.invokevirtual 135, 3) := by decide +kernel
theorem dX9_hand_8 : decode cX9_hand 8 = .ok (.ifCond .ne 5, 3) := by decide +kernel
theorem dX9_hand_11 : decode cX9_hand 11 = .ok (.iconst (-1), 1) := by decide +kernel
theorem dX9_hand_12 : decode cX9_hand 12 = .ok (.ireturn, 1) := by decide +kernel
theorem dX9_hand_13 : decode cX9_hand 13 = .ok (.iload_n 2, 1) := by decide +kernel
theorem dX9_hand_14 : decode cX9_hand 14 = .ok (.tableswitch 69 0 3 #[30, 40, 50, 60], 30) := by decide +kernel
theorem dX9_hand_44 : decode cX9_hand 44 = .ok (.aload_n 0, 1) := by decide +kernel
theorem dX9_hand_45 : decode cX9_hand 45 = .ok (.getfield 19, 3) := by decide +kernel
theorem dX9_hand_48 : decode cX9_hand 48 = .ok (.getfield 138, 3) := by decide +kernel
theorem dX9_hand_51 : decode cX9_hand 51 = .ok (.iload_n 1, 1) := by decide +kernel
theorem dX9_hand_52 : decode cX9_hand 52 = .ok (.iaload, 1) := by decide +kernel
theorem dX9_hand_53 : decode cX9_hand 53 = .ok (.ireturn, 1) := by decide +kernel
theorem dX9_hand_54 : decode cX9_hand 54 = .ok (.aload_n 0, 1) := by decide +kernel
theorem dX9_hand_55 : decode cX9_hand 55 = .ok (.getfield 19, 3) := by decide +kernel
theorem dX9_hand_58 : decode cX9_hand 58 = .ok (.getfield 142, 3) := by decide +kernel
theorem dX9_hand_61 : decode cX9_hand 61 = .ok (.iload_n 1, 1) := by decide +kernel
theorem dX9_hand_62 : decode cX9_hand 62 = .ok (.iaload, 1) := by decide +kernel
theorem dX9_hand_63 : decode cX9_hand 63 = .ok (.ireturn, 1) := by decide +kernel
theorem dX9_hand_64 : decode cX9_hand 64 = .ok (.aload_n 0, 1) := by decide +kernel
theorem dX9_hand_65 : decode cX9_hand 65 = .ok (.getfield 26, 3) := by decide +kernel
theorem dX9_hand_68 : decode cX9_hand 68 = .ok (.getfield 145, 3) := by decide +kernel
theorem dX9_hand_71 : decode cX9_hand 71 = .ok (.iload_n 1, 1) := by decide +kernel
theorem dX9_hand_72 : decode cX9_hand 72 = .ok (.iaload, 1) := by decide +kernel
theorem dX9_hand_73 : decode cX9_hand 73 = .ok (.ireturn, 1) := by decide +kernel
theorem dX9_hand_74 : decode cX9_hand 74 = .ok (.aload_n 0, 1) := by decide +kernel
theorem dX9_hand_75 : decode cX9_hand 75 = .ok (.getfield 19, 3) := by decide +kernel
theorem dX9_hand_78 : decode cX9_hand 78 = .ok (.iload_n 1, 1) := by decide +kernel
theorem dX9_hand_79 : decode cX9_hand 79 = .ok (.invokevirtual 148, 3) := by decide +kernel
theorem dX9_hand_82 : decode cX9_hand 82 = .ok (.ireturn, 1) := by decide +kernel
theorem dX9_hand_83 : decode cX9_hand 83 = .ok (.bipush (-2), 2) := by decide +kernel
theorem dX9_hand_85 : decode cX9_hand 85 = .ok (.ireturn, 1) := by decide +kernel
theorem dX9_field_0 : decode cX9_field 0 = .ok (.aload_n 0, 1) := by decide +kernel
theorem dX9_field_1 : decode cX9_field 1 = .ok (.getfield 19, 3) := by decide +kernel
theorem dX9_field_4 : decode cX9_field 4 = .ok (.iload_n 1, 1) := by decide +kernel
theorem dX9_field_5 : decode cX9_field 5 = .ok (.invokevirtual 151, 3) := by decide +kernel
theorem dX9_field_8 : decode cX9_field 8 = .ok (.ifCond .ne 5, 3) := by decide +kernel
theorem dX9_field_11 : decode cX9_field 11 = .ok (.iconst (-1), 1) := by decide +kernel
theorem dX9_field_12 : decode cX9_field 12 = .ok (.ireturn, 1) := by decide +kernel
theorem dX9_field_13 : decode cX9_field 13 = .ok (.iload_n 2, 1) := by decide +kernel
theorem dX9_field_14 : decode cX9_field 14 = .ok (.lookupswitch 46 #[(0, 26), (1, 36)], 26) := by decide +kernel
theorem dX9_field_40 : decode cX9_field 40 = .ok (.aload_n 0, 1) := by decide +kernel
theorem dX9_field_41 : decode cX9_field 41 = .ok (.getfield 19, 3) := by decide +kernel
theorem dX9_field_44 : decode cX9_field 44 = .ok (.getfield 154, 3) := by decide +kernel
theorem dX9_field_47 : decode cX9_field 47 = .ok (.iload_n 1, 1) := by decide +kernel
theorem dX9_field_48 : decode cX9_field 48 = .ok (.iaload, 1) := by decide +kernel
theorem dX9_field_49 : decode cX9_field 49 = .ok (.ireturn, 1) := by decide +kernel
theorem dX9_field_50 : decode cX9_field 50 = .ok (.aload_n 0, 1) := by decide +kernel
theorem dX9_field_51 : decode cX9_field 51 = .ok (.getfield 26, 3) := by decide +kernel
theorem dX9_field_54 : decode cX9_field 54 = .ok (.getfield 157, 3) := by decide +kernel
theorem dX9_field_57 : decode cX9_field 57 = .ok (.iload_n 1, 1) := by decide +kernel
theorem dX9_field_58 : decode cX9_field 58 = .ok (.iaload, 1) := by decide +kernel
theorem dX9_field_59 : decode cX9_field 59 = .ok (.ireturn, 1) := by decide +kernel
theorem dX9_field_60 : decode cX9_field 60 = .ok (.bipush (-2), 2) := by decide +kernel
theorem dX9_field_62 : decode cX9_field 62 = .ok (.ireturn, 1) := by decide +kernel
theorem dX9_day_0 : decode cX9_day 0 = .ok (.aload_n 0, 1) := by decide +kernel
theorem dX9_day_1 : decode cX9_day 1 = .ok (.getfield 50, 3) := by decide +kernel
theorem dX9_day_4 : decode cX9_day 4 = .ok (.aload_n 0, 1) := by decide +kernel
theorem dX9_day_5 : decode cX9_day 5 = .ok (.getfield 26, 3) := by decide +kernel
theorem dX9_day_8 : decode cX9_day 8 = .ok (.invokevirtual 160, 3) := by decide +kernel
theorem dX9_day_11 : decode cX9_day 11 = .ok (.aload_n 0, 1) := by decide +kernel
theorem dX9_day_12 : decode cX9_day 12 = .ok (.getfield 36, 3) := by decide +kernel
theorem dX9_day_15 : decode cX9_day 15 = .ok (.aload_n 0, 1) := by decide +kernel
theorem dX9_day_16 : decode cX9_day 16 = .ok (.getfield 19, 3) := by decide +kernel
theorem dX9_day_19 : decode cX9_day 19 = .ok (.aload_n 0, 1) := by decide +kernel
theorem dX9_day_20 : decode cX9_day 20 = .ok (.getfield 26, 3) := by decide +kernel
theorem dX9_day_23 : decode cX9_day 23 = .ok (.aload_n 0, 1) := by decide +kernel
theorem dX9_day_24 : decode cX9_day 24 = .ok (.getfield 26, 3) := by decide +kernel
theorem dX9_day_27 : decode cX9_day 27 = .ok (.getfield 145, 3) := by decide +kernel
theorem dX9_day_30 : decode cX9_day 30 = .ok (.invokevirtual 164, 3) := by decide +kernel
theorem dX9_day_33 : decode cX9_day 33 = .ok (.aload_n 0, 1) := by decide +kernel
theorem dX9_day_34 : decode cX9_day 34 = .ok (.getfield 26, 3) := by decide +kernel
theorem dX9_day_37 : decode cX9_day 37 = .ok (.aload_n 0, 1) := by decide +kernel
theorem dX9_day_38 : decode cX9_day 38 = .ok (.getfield 19, 3) := by decide +kernel
theorem dX9_day_41 : decode cX9_day 41 = .ok (.aload_n 0, 1) := by decide +kernel
theorem dX9_day_42 : decode cX9_day 42 = .ok (.getfield 36, 3) := by decide +kernel
theorem dX9_day_45 : decode cX9_day 45 = .ok (.invokevirtual 168, 3) := by decide +kernel
theorem dX9_day_48 : decode cX9_day 48 = .ok (.aload_n 0, 1) := by decide +kernel
theorem dX9_day_49 : decode cX9_day 49 = .ok (.getfield 36, 3) := by decide +kernel
theorem dX9_day_52 : decode cX9_day 52 = .ok (.getfield 172, 3) := by decide +kernel
theorem dX9_day_55 : decode cX9_day 55 = .ok (.ireturn, 1) := by decide +kernel
theorem dX9_send_0 : decode cX9_send 0 = .ok (.aload_n 0, 1) := by decide +kernel
theorem dX9_send_1 : decode cX9_send 1 = .ok (.getfield 19, 3) := by decide +kernel
theorem dX9_send_4 : decode cX9_send 4 = .ok (.iload_n 1, 1) := by decide +kernel
theorem dX9_send_5 : decode cX9_send 5 = .ok (.invokevirtual 135, 3) := by decide +kernel
theorem dX9_send_8 : decode cX9_send 8 = .ok (.ifCond .ne 5, 3) := by decide +kernel
theorem dX9_send_11 : decode cX9_send 11 = .ok (.iconst (-1), 1) := by decide +kernel
theorem dX9_send_12 : decode cX9_send 12 = .ok (.ireturn, 1) := by decide +kernel
theorem dX9_send_13 : decode cX9_send 13 = .ok (.aload_n 0, 1) := by decide +kernel
theorem dX9_send_14 : decode cX9_send 14 = .ok (.getfield 19, 3) := by decide +kernel
theorem dX9_send_17 : decode cX9_send 17 = .ok (.iload_n 2, 1) := by decide +kernel
theorem dX9_send_18 : decode cX9_send 18 = .ok (.invokevirtual 175, 3) := by decide +kernel
theorem dX9_send_21 : decode cX9_send 21 = .ok (.ifCond .ne 6, 3) := by decide +kernel
theorem dX9_send_24 : decode cX9_send 24 = .ok (.bipush (-2), 2) := by decide +kernel
theorem dX9_send_26 : decode cX9_send 26 = .ok (.ireturn, 1) := by decide +kernel
theorem dX9_send_27 : decode cX9_send 27 = .ok (.aload_n 0, 1) := by decide +kernel
theorem dX9_send_28 : decode cX9_send 28 = .ok (.getfield 26, 3) := by decide +kernel
theorem dX9_send_31 : decode cX9_send 31 = .ok (.getfield 145, 3) := by decide +kernel
theorem dX9_send_34 : decode cX9_send 34 = .ok (.iload_n 1, 1) := by decide +kernel
theorem dX9_send_35 : decode cX9_send 35 = .ok (.iaload, 1) := by decide +kernel
theorem dX9_send_36 : decode cX9_send 36 = .ok (.istore_n 3, 1) := by decide +kernel
theorem dX9_send_37 : decode cX9_send 37 = .ok (.iload_n 3, 1) := by decide +kernel
theorem dX9_send_38 : decode cX9_send 38 = .ok (.iload_n 2, 1) := by decide +kernel
theorem dX9_send_39 : decode cX9_send 39 = .ok (.if_icmp .ne 6, 3) := by decide +kernel
theorem dX9_send_42 : decode cX9_send 42 = .ok (.bipush (-3), 2) := by decide +kernel
theorem dX9_send_44 : decode cX9_send 44 = .ok (.ireturn, 1) := by decide +kernel
theorem dX9_send_45 : decode cX9_send 45 = .ok (.aload_n 0, 1) := by decide +kernel
theorem dX9_send_46 : decode cX9_send 46 = .ok (.getfield 50, 3) := by decide +kernel
theorem dX9_send_49 : decode cX9_send 49 = .ok (.aload_n 0, 1) := by decide +kernel
theorem dX9_send_50 : decode cX9_send 50 = .ok (.getfield 26, 3) := by decide +kernel
theorem dX9_send_53 : decode cX9_send 53 = .ok (.invokevirtual 160, 3) := by decide +kernel
theorem dX9_send_56 : decode cX9_send 56 = .ok (.aload_n 0, 1) := by decide +kernel
theorem dX9_send_57 : decode cX9_send 57 = .ok (.getfield 26, 3) := by decide +kernel
theorem dX9_send_60 : decode cX9_send 60 = .ok (.getfield 145, 3) := by decide +kernel
theorem dX9_send_63 : decode cX9_send 63 = .ok (.iload_n 1, 1) := by decide +kernel
theorem dX9_send_64 : decode cX9_send 64 = .ok (.iload_n 2, 1) := by decide +kernel
theorem dX9_send_65 : decode cX9_send 65 = .ok (.iastore, 1) := by decide +kernel
theorem dX9_send_66 : decode cX9_send 66 = .ok (.iload_n 3, 1) := by decide +kernel
theorem dX9_send_67 : decode cX9_send 67 = .ok (.ireturn, 1) := by decide +kernel
theorem dX9_turn_0 : decode cX9_turn 0 = .ok (.iload_n 1, 1) := by decide +kernel
theorem dX9_turn_1 : decode cX9_turn 1 = .ok (.iconst 1, 1) := by decide +kernel
theorem dX9_turn_2 : decode cX9_turn 2 = .ok (.if_icmp .lt 9, 3) := by decide +kernel
theorem dX9_turn_5 : decode cX9_turn 5 = .ok (.iload_n 1, 1) := by decide +kernel
theorem dX9_turn_6 : decode cX9_turn 6 = .ok (.bipush 9, 2) := by decide +kernel
theorem dX9_turn_8 : decode cX9_turn 8 = .ok (.if_icmp .le 6, 3) := by decide +kernel
theorem dX9_turn_11 : decode cX9_turn 11 = .ok (.bipush (-2), 2) := by decide +kernel
theorem dX9_turn_13 : decode cX9_turn 13 = .ok (.ireturn, 1) := by decide +kernel
theorem dX9_turn_14 : decode cX9_turn 14 = .ok (.aload_n 0, 1) := by decide +kernel
theorem dX9_turn_15 : decode cX9_turn 15 = .ok (.getfield 26, 3) := by decide +kernel
theorem dX9_turn_18 : decode cX9_turn 18 = .ok (.getfield 110, 3) := by decide +kernel
theorem dX9_turn_21 : decode cX9_turn 21 = .ok (.iload_n 1, 1) := by decide +kernel
theorem dX9_turn_22 : decode cX9_turn 22 = .ok (.iadd, 1) := by decide +kernel
theorem dX9_turn_23 : decode cX9_turn 23 = .ok (.aload_n 0, 1) := by decide +kernel
theorem dX9_turn_24 : decode cX9_turn 24 = .ok (.getfield 26, 3) := by decide +kernel
theorem dX9_turn_27 : decode cX9_turn 27 = .ok (.getfield 104, 3) := by decide +kernel
theorem dX9_turn_30 : decode cX9_turn 30 = .ok (.aload_n 0, 1) := by decide +kernel
theorem dX9_turn_31 : decode cX9_turn 31 = .ok (.getfield 26, 3) := by decide +kernel
theorem dX9_turn_34 : decode cX9_turn 34 = .ok (.getfield 107, 3) := by decide +kernel
theorem dX9_turn_37 : decode cX9_turn 37 = .ok (.iadd, 1) := by decide +kernel
theorem dX9_turn_38 : decode cX9_turn 38 = .ok (.if_icmp .le 6, 3) := by decide +kernel
theorem dX9_turn_41 : decode cX9_turn 41 = .ok (.bipush (-3), 2) := by decide +kernel
theorem dX9_turn_43 : decode cX9_turn 43 = .ok (.ireturn, 1) := by decide +kernel
theorem dX9_turn_44 : decode cX9_turn 44 = .ok (.aload_n 0, 1) := by decide +kernel
theorem dX9_turn_45 : decode cX9_turn 45 = .ok (.getfield 50, 3) := by decide +kernel
theorem dX9_turn_48 : decode cX9_turn 48 = .ok (.aload_n 0, 1) := by decide +kernel
theorem dX9_turn_49 : decode cX9_turn 49 = .ok (.getfield 26, 3) := by decide +kernel
theorem dX9_turn_52 : decode cX9_turn 52 = .ok (.invokevirtual 160, 3) := by decide +kernel
theorem dX9_turn_55 : decode cX9_turn 55 = .ok (.aload_n 0, 1) := by decide +kernel
theorem dX9_turn_56 : decode cX9_turn 56 = .ok (.getfield 26, 3) := by decide +kernel
theorem dX9_turn_59 : decode cX9_turn 59 = .ok (.dup, 1) := by decide +kernel
theorem dX9_turn_60 : decode cX9_turn 60 = .ok (.getfield 110, 3) := by decide +kernel
theorem dX9_turn_63 : decode cX9_turn 63 = .ok (.iload_n 1, 1) := by decide +kernel
theorem dX9_turn_64 : decode cX9_turn 64 = .ok (.iadd, 1) := by decide +kernel
theorem dX9_turn_65 : decode cX9_turn 65 = .ok (.putfield 110, 3) := by decide +kernel
theorem dX9_turn_68 : decode cX9_turn 68 = .ok (.aload_n 0, 1) := by decide +kernel
theorem dX9_turn_69 : decode cX9_turn 69 = .ok (.getfield 26, 3) := by decide +kernel
theorem dX9_turn_72 : decode cX9_turn 72 = .ok (.getfield 110, 3) := by decide +kernel
theorem dX9_turn_75 : decode cX9_turn 75 = .ok (.ireturn, 1) := by decide +kernel
theorem dX9_lay_0 : decode cX9_lay 0 = .ok (.iload_n 1, 1) := by decide +kernel
theorem dX9_lay_1 : decode cX9_lay 1 = .ok (.ifCond .eq 11, 3) := by decide +kernel
theorem dX9_lay_4 : decode cX9_lay 4 = .ok (.iload_n 1, 1) := by decide +kernel
theorem dX9_lay_5 : decode cX9_lay 5 = .ok (.iconst 1, 1) := by decide +kernel
theorem dX9_lay_6 : decode cX9_lay 6 = .ok (.if_icmp .eq 6, 3) := by decide +kernel
theorem dX9_lay_9 : decode cX9_lay 9 = .ok (.bipush (-2), 2) := by decide +kernel
theorem dX9_lay_11 : decode cX9_lay 11 = .ok (.ireturn, 1) := by decide +kernel
theorem dX9_lay_12 : decode cX9_lay 12 = .ok (.aload_n 0, 1) := by decide +kernel
theorem dX9_lay_13 : decode cX9_lay 13 = .ok (.getfield 26, 3) := by decide +kernel
theorem dX9_lay_16 : decode cX9_lay 16 = .ok (.getfield 113, 3) := by decide +kernel
theorem dX9_lay_19 : decode cX9_lay 19 = .ok (.invokestatic 116, 3) := by decide +kernel
theorem dX9_lay_22 : decode cX9_lay 22 = .ok (.bipush 8, 2) := by decide +kernel
theorem dX9_lay_24 : decode cX9_lay 24 = .ok (.if_icmp .lt 6, 3) := by decide +kernel
theorem dX9_lay_27 : decode cX9_lay 27 = .ok (.bipush (-4), 2) := by decide +kernel
theorem dX9_lay_29 : decode cX9_lay 29 = .ok (.ireturn, 1) := by decide +kernel
theorem dX9_lay_30 : decode cX9_lay 30 = .ok (.aload_n 0, 1) := by decide +kernel
theorem dX9_lay_31 : decode cX9_lay 31 = .ok (.getfield 26, 3) := by decide +kernel
theorem dX9_lay_34 : decode cX9_lay 34 = .ok (.iload_n 1, 1) := by decide +kernel
theorem dX9_lay_35 : decode cX9_lay 35 = .ok (.invokevirtual 178, 3) := by decide +kernel
theorem dX9_lay_38 : decode cX9_lay 38 = .ok (.iconst 2, 1) := by decide +kernel
theorem dX9_lay_39 : decode cX9_lay 39 = .ok (.if_icmp .ge 6, 3) := by decide +kernel
theorem dX9_lay_42 : decode cX9_lay 42 = .ok (.bipush (-3), 2) := by decide +kernel
theorem dX9_lay_44 : decode cX9_lay 44 = .ok (.ireturn, 1) := by decide +kernel
theorem dX9_lay_45 : decode cX9_lay 45 = .ok (.aload_n 0, 1) := by decide +kernel
theorem dX9_lay_46 : decode cX9_lay 46 = .ok (.getfield 50, 3) := by decide +kernel
theorem dX9_lay_49 : decode cX9_lay 49 = .ok (.aload_n 0, 1) := by decide +kernel
theorem dX9_lay_50 : decode cX9_lay 50 = .ok (.getfield 26, 3) := by decide +kernel
theorem dX9_lay_53 : decode cX9_lay 53 = .ok (.invokevirtual 160, 3) := by decide +kernel
theorem dX9_lay_56 : decode cX9_lay 56 = .ok (.aload_n 0, 1) := by decide +kernel
theorem dX9_lay_57 : decode cX9_lay 57 = .ok (.getfield 26, 3) := by decide +kernel
theorem dX9_lay_60 : decode cX9_lay 60 = .ok (.iload_n 1, 1) := by decide +kernel
theorem dX9_lay_61 : decode cX9_lay 61 = .ok (.invokevirtual 181, 3) := by decide +kernel
theorem dX9_lay_64 : decode cX9_lay 64 = .ok (.aload_n 0, 1) := by decide +kernel
theorem dX9_lay_65 : decode cX9_lay 65 = .ok (.getfield 26, 3) := by decide +kernel
theorem dX9_lay_68 : decode cX9_lay 68 = .ok (.getfield 113, 3) := by decide +kernel
theorem dX9_lay_71 : decode cX9_lay 71 = .ok (.invokestatic 116, 3) := by decide +kernel
theorem dX9_lay_74 : decode cX9_lay 74 = .ok (.ireturn, 1) := by decide +kernel
theorem dX9_rain_0 : decode cX9_rain 0 = .ok (.aload_n 0, 1) := by decide +kernel
theorem dX9_rain_1 : decode cX9_rain 1 = .ok (.getfield 50, 3) := by decide +kernel
theorem dX9_rain_4 : decode cX9_rain 4 = .ok (.aload_n 0, 1) := by decide +kernel
theorem dX9_rain_5 : decode cX9_rain 5 = .ok (.getfield 26, 3) := by decide +kernel
theorem dX9_rain_8 : decode cX9_rain 8 = .ok (.invokevirtual 160, 3) := by decide +kernel
theorem dX9_rain_11 : decode cX9_rain 11 = .ok (.aload_n 0, 1) := by decide +kernel
theorem dX9_rain_12 : decode cX9_rain 12 = .ok (.getfield 26, 3) := by decide +kernel
theorem dX9_rain_15 : decode cX9_rain 15 = .ok (.aload_n 0, 1) := by decide +kernel
theorem dX9_rain_16 : decode cX9_rain 16 = .ok (.getfield 26, 3) := by decide +kernel
theorem dX9_rain_19 : decode cX9_rain 19 = .ok (.getfield 113, 3) := by decide +kernel
theorem dX9_rain_22 : decode cX9_rain 22 = .ok (.invokestatic 185, 3) := by decide +kernel
theorem dX9_rain_25 : decode cX9_rain 25 = .ok (.putfield 113, 3) := by decide +kernel
theorem dX9_rain_28 : decode cX9_rain 28 = .ok (.aload_n 0, 1) := by decide +kernel
theorem dX9_rain_29 : decode cX9_rain 29 = .ok (.getfield 26, 3) := by decide +kernel
theorem dX9_rain_32 : decode cX9_rain 32 = .ok (.getfield 113, 3) := by decide +kernel
theorem dX9_rain_35 : decode cX9_rain 35 = .ok (.invokestatic 116, 3) := by decide +kernel
theorem dX9_rain_38 : decode cX9_rain 38 = .ok (.ireturn, 1) := by decide +kernel
theorem dX9_undo_0 : decode cX9_undo 0 = .ok (.aload_n 0, 1) := by decide +kernel
theorem dX9_undo_1 : decode cX9_undo 1 = .ok (.getfield 50, 3) := by decide +kernel
theorem dX9_undo_4 : decode cX9_undo 4 = .ok (.getfield 131, 3) := by decide +kernel
theorem dX9_undo_7 : decode cX9_undo 7 = .ok (.ifCond .ne 6, 3) := by decide +kernel
theorem dX9_undo_10 : decode cX9_undo 10 = .ok (.bipush (-3), 2) := by decide +kernel
theorem dX9_undo_12 : decode cX9_undo 12 = .ok (.ireturn, 1) := by decide +kernel
theorem dX9_undo_13 : decode cX9_undo 13 = .ok (.aload_n 0, 1) := by decide +kernel
theorem dX9_undo_14 : decode cX9_undo 14 = .ok (.getfield 50, 3) := by decide +kernel
theorem dX9_undo_17 : decode cX9_undo 17 = .ok (.aload_n 0, 1) := by decide +kernel
theorem dX9_undo_18 : decode cX9_undo 18 = .ok (.getfield 26, 3) := by decide +kernel
theorem dX9_undo_21 : decode cX9_undo 21 = .ok (.invokevirtual 188, 3) := by decide +kernel
theorem dX9_undo_24 : decode cX9_undo 24 = .ok (.aload_n 0, 1) := by decide +kernel
theorem dX9_undo_25 : decode cX9_undo 25 = .ok (.getfield 50, 3) := by decide +kernel
theorem dX9_undo_28 : decode cX9_undo 28 = .ok (.getfield 131, 3) := by decide +kernel
theorem dX9_undo_31 : decode cX9_undo 31 = .ok (.ireturn, 1) := by decide +kernel
theorem dX9_makes_0 : decode cX9_makes 0 = .ok (.aload_n 0, 1) := by decide +kernel
theorem dX9_makes_1 : decode cX9_makes 1 = .ok (.getfield 43, 3) := by decide +kernel
theorem dX9_makes_4 : decode cX9_makes 4 = .ok (.aload_n 0, 1) := by decide +kernel
theorem dX9_makes_5 : decode cX9_makes 5 = .ok (.getfield 19, 3) := by decide +kernel
theorem dX9_makes_8 : decode cX9_makes 8 = .ok (.iload_n 1, 1) := by decide +kernel
theorem dX9_makes_9 : decode cX9_makes 9 = .ok (.invokevirtual 191, 3) := by decide +kernel
theorem dX9_makes_12 : decode cX9_makes 12 = .ok (.ifCond .eq 12, 3) := by decide +kernel
theorem dX9_makes_15 : decode cX9_makes 15 = .ok (.iload_n 2, 1) := by decide +kernel
theorem dX9_makes_16 : decode cX9_makes 16 = .ok (.ifCond .lt 8, 3) := by decide +kernel
theorem dX9_makes_19 : decode cX9_makes 19 = .ok (.iload_n 2, 1) := by decide +kernel
theorem dX9_makes_20 : decode cX9_makes 20 = .ok (.iconst 1, 1) := by decide +kernel
theorem dX9_makes_21 : decode cX9_makes 21 = .ok (.if_icmp .le 6, 3) := by decide +kernel
theorem dX9_makes_24 : decode cX9_makes 24 = .ok (.bipush (-2), 2) := by decide +kernel
theorem dX9_makes_26 : decode cX9_makes 26 = .ok (.ireturn, 1) := by decide +kernel
theorem dX9_makes_27 : decode cX9_makes 27 = .ok (.aload_n 0, 1) := by decide +kernel
theorem dX9_makes_28 : decode cX9_makes 28 = .ok (.getfield 36, 3) := by decide +kernel
theorem dX9_makes_31 : decode cX9_makes 31 = .ok (.aload_n 0, 1) := by decide +kernel
theorem dX9_makes_32 : decode cX9_makes 32 = .ok (.getfield 19, 3) := by decide +kernel
theorem dX9_makes_35 : decode cX9_makes 35 = .ok (.aload_n 0, 1) := by decide +kernel
theorem dX9_makes_36 : decode cX9_makes 36 = .ok (.getfield 26, 3) := by decide +kernel
theorem dX9_makes_39 : decode cX9_makes 39 = .ok (.aload_n 0, 1) := by decide +kernel
theorem dX9_makes_40 : decode cX9_makes 40 = .ok (.getfield 43, 3) := by decide +kernel
theorem dX9_makes_43 : decode cX9_makes 43 = .ok (.getfield 195, 3) := by decide +kernel
theorem dX9_makes_46 : decode cX9_makes 46 = .ok (.invokevirtual 164, 3) := by decide +kernel
theorem dX9_makes_49 : decode cX9_makes 49 = .ok (.iload_n 2, 1) := by decide +kernel
theorem dX9_makes_50 : decode cX9_makes 50 = .ok (.ifCond .ne 13, 3) := by decide +kernel
theorem dX9_makes_53 : decode cX9_makes 53 = .ok (.aload_n 0, 1) := by decide +kernel
theorem dX9_makes_54 : decode cX9_makes 54 = .ok (.getfield 36, 3) := by decide +kernel
theorem dX9_makes_57 : decode cX9_makes 57 = .ok (.getfield 172, 3) := by decide +kernel
theorem dX9_makes_60 : decode cX9_makes 60 = .ok (.goto 10, 3) := by decide +kernel
theorem dX9_makes_63 : decode cX9_makes 63 = .ok (.aload_n 0, 1) := by decide +kernel
theorem dX9_makes_64 : decode cX9_makes 64 = .ok (.getfield 36, 3) := by decide +kernel
theorem dX9_makes_67 : decode cX9_makes 67 = .ok (.getfield 196, 3) := by decide +kernel
theorem dX9_makes_70 : decode cX9_makes 70 = .ok (.ireturn, 1) := by decide +kernel
theorem dX9_best_0 : decode cX9_best 0 = .ok (.iload_n 1, 1) := by decide +kernel
theorem dX9_best_1 : decode cX9_best 1 = .ok (.ifCond .lt 8, 3) := by decide +kernel
theorem dX9_best_4 : decode cX9_best 4 = .ok (.iload_n 1, 1) := by decide +kernel
theorem dX9_best_5 : decode cX9_best 5 = .ok (.iconst 1, 1) := by decide +kernel
theorem dX9_best_6 : decode cX9_best 6 = .ok (.if_icmp .le 6, 3) := by decide +kernel
theorem dX9_best_9 : decode cX9_best 9 = .ok (.bipush (-2), 2) := by decide +kernel
theorem dX9_best_11 : decode cX9_best 11 = .ok (.ireturn, 1) := by decide +kernel
theorem dX9_best_12 : decode cX9_best 12 = .ok (.aload_n 0, 1) := by decide +kernel
theorem dX9_best_13 : decode cX9_best 13 = .ok (.getfield 43, 3) := by decide +kernel
theorem dX9_best_16 : decode cX9_best 16 = .ok (.aload_n 0, 1) := by decide +kernel
theorem dX9_best_17 : decode cX9_best 17 = .ok (.getfield 19, 3) := by decide +kernel
theorem dX9_best_20 : decode cX9_best 20 = .ok (.aload_n 0, 1) := by decide +kernel
theorem dX9_best_21 : decode cX9_best 21 = .ok (.getfield 26, 3) := by decide +kernel
theorem dX9_best_24 : decode cX9_best 24 = .ok (.aload_n 0, 1) := by decide +kernel
theorem dX9_best_25 : decode cX9_best 25 = .ok (.getfield 36, 3) := by decide +kernel
theorem dX9_best_28 : decode cX9_best 28 = .ok (.invokevirtual 197, 3) := by decide +kernel
theorem dX9_best_31 : decode cX9_best 31 = .ok (.iload_n 1, 1) := by decide +kernel
theorem dX9_best_32 : decode cX9_best 32 = .ok (.ifCond .ne 13, 3) := by decide +kernel
theorem dX9_best_35 : decode cX9_best 35 = .ok (.aload_n 0, 1) := by decide +kernel
theorem dX9_best_36 : decode cX9_best 36 = .ok (.getfield 43, 3) := by decide +kernel
theorem dX9_best_39 : decode cX9_best 39 = .ok (.getfield 201, 3) := by decide +kernel
theorem dX9_best_42 : decode cX9_best 42 = .ok (.goto 10, 3) := by decide +kernel
theorem dX9_best_45 : decode cX9_best 45 = .ok (.aload_n 0, 1) := by decide +kernel
theorem dX9_best_46 : decode cX9_best 46 = .ok (.getfield 43, 3) := by decide +kernel
theorem dX9_best_49 : decode cX9_best 49 = .ok (.getfield 204, 3) := by decide +kernel
theorem dX9_best_52 : decode cX9_best 52 = .ok (.ireturn, 1) := by decide +kernel
theorem dX9_least_0 : decode cX9_least 0 = .ok (.aload_n 0, 1) := by decide +kernel
theorem dX9_least_1 : decode cX9_least 1 = .ok (.getfield 43, 3) := by decide +kernel
theorem dX9_least_4 : decode cX9_least 4 = .ok (.aload_n 0, 1) := by decide +kernel
theorem dX9_least_5 : decode cX9_least 5 = .ok (.getfield 19, 3) := by decide +kernel
theorem dX9_least_8 : decode cX9_least 8 = .ok (.aload_n 0, 1) := by decide +kernel
theorem dX9_least_9 : decode cX9_least 9 = .ok (.getfield 26, 3) := by decide +kernel
theorem dX9_least_12 : decode cX9_least 12 = .ok (.aload_n 0, 1) := by decide +kernel
theorem dX9_least_13 : decode cX9_least 13 = .ok (.getfield 36, 3) := by decide +kernel
theorem dX9_least_16 : decode cX9_least 16 = .ok (.invokevirtual 197, 3) := by decide +kernel
theorem dX9_least_19 : decode cX9_least 19 = .ok (.aload_n 0, 1) := by decide +kernel
theorem dX9_least_20 : decode cX9_least 20 = .ok (.getfield 43, 3) := by decide +kernel
theorem dX9_least_23 : decode cX9_least 23 = .ok (.getfield 207, 3) := by decide +kernel
theorem dX9_least_26 : decode cX9_least 26 = .ok (.ireturn, 1) := by decide +kernel
theorem dX9_ask_0 : decode cX9_ask 0 = .ok (.aload_n 0, 1) := by decide +kernel
theorem dX9_ask_1 : decode cX9_ask 1 = .ok (.getfield 43, 3) := by decide +kernel
theorem dX9_ask_4 : decode cX9_ask 4 = .ok (.aload_n 0, 1) := by decide +kernel
theorem dX9_ask_5 : decode cX9_ask 5 = .ok (.getfield 19, 3) := by decide +kernel
theorem dX9_ask_8 : decode cX9_ask 8 = .ok (.aload_n 0, 1) := by decide +kernel
theorem dX9_ask_9 : decode cX9_ask 9 = .ok (.getfield 26, 3) := by decide +kernel
theorem dX9_ask_12 : decode cX9_ask 12 = .ok (.aload_n 0, 1) := by decide +kernel
theorem dX9_ask_13 : decode cX9_ask 13 = .ok (.getfield 36, 3) := by decide +kernel
theorem dX9_ask_16 : decode cX9_ask 16 = .ok (.invokevirtual 197, 3) := by decide +kernel
theorem dX9_ask_19 : decode cX9_ask 19 = .ok (.aload_n 0, 1) := by decide +kernel
theorem dX9_ask_20 : decode cX9_ask 20 = .ok (.getfield 43, 3) := by decide +kernel
theorem dX9_ask_23 : decode cX9_ask 23 = .ok (.getfield 210, 3) := by decide +kernel
theorem dX9_ask_26 : decode cX9_ask 26 = .ok (.ireturn, 1) := by decide +kernel
theorem dX9_lasts_0 : decode cX9_lasts 0 = .ok (.aload_n 0, 1) := by decide +kernel
theorem dX9_lasts_1 : decode cX9_lasts 1 = .ok (.getfield 26, 3) := by decide +kernel
theorem dX9_lasts_4 : decode cX9_lasts 4 = .ok (.aload_n 0, 1) := by decide +kernel
theorem dX9_lasts_5 : decode cX9_lasts 5 = .ok (.getfield 30, 3) := by decide +kernel
theorem dX9_lasts_8 : decode cX9_lasts 8 = .ok (.invokestatic 213, 3) := by decide +kernel
theorem dX9_lasts_11 : decode cX9_lasts 11 = .ok (.iconst 0, 1) := by decide +kernel
theorem dX9_lasts_12 : decode cX9_lasts 12 = .ok (.istore_n 1, 1) := by decide +kernel
theorem dX9_lasts_13 : decode cX9_lasts 13 = .ok (.iload_n 1, 1) := by decide +kernel
theorem dX9_lasts_14 : decode cX9_lasts 14 = .ok (.bipush 9, 2) := by decide +kernel
theorem dX9_lasts_16 : decode cX9_lasts 16 = .ok (.if_icmp .ge 65, 3) := by decide +kernel
theorem dX9_lasts_19 : decode cX9_lasts 19 = .ok (.aload_n 0, 1) := by decide +kernel
theorem dX9_lasts_20 : decode cX9_lasts 20 = .ok (.getfield 36, 3) := by decide +kernel
theorem dX9_lasts_23 : decode cX9_lasts 23 = .ok (.aload_n 0, 1) := by decide +kernel
theorem dX9_lasts_24 : decode cX9_lasts 24 = .ok (.getfield 19, 3) := by decide +kernel
theorem dX9_lasts_27 : decode cX9_lasts 27 = .ok (.aload_n 0, 1) := by decide +kernel
theorem dX9_lasts_28 : decode cX9_lasts 28 = .ok (.getfield 30, 3) := by decide +kernel
theorem dX9_lasts_31 : decode cX9_lasts 31 = .ok (.aload_n 0, 1) := by decide +kernel
theorem dX9_lasts_32 : decode cX9_lasts 32 = .ok (.getfield 30, 3) := by decide +kernel
theorem dX9_lasts_35 : decode cX9_lasts 35 = .ok (.getfield 145, 3) := by decide +kernel
theorem dX9_lasts_38 : decode cX9_lasts 38 = .ok (.invokevirtual 164, 3) := by decide +kernel
theorem dX9_lasts_41 : decode cX9_lasts 41 = .ok (.aload_n 0, 1) := by decide +kernel
theorem dX9_lasts_42 : decode cX9_lasts 42 = .ok (.getfield 36, 3) := by decide +kernel
theorem dX9_lasts_45 : decode cX9_lasts 45 = .ok (.getfield 196, 3) := by decide +kernel
theorem dX9_lasts_48 : decode cX9_lasts 48 = .ok (.aload_n 0, 1) := by decide +kernel
theorem dX9_lasts_49 : decode cX9_lasts 49 = .ok (.getfield 19, 3) := by decide +kernel
theorem dX9_lasts_52 : decode cX9_lasts 52 = .ok (.getfield 98, 3) := by decide +kernel
theorem dX9_lasts_55 : decode cX9_lasts 55 = .ok (.if_icmp .ge 5, 3) := by decide +kernel
theorem dX9_lasts_58 : decode cX9_lasts 58 = .ok (.iload_n 1, 1) := by decide +kernel
theorem dX9_lasts_59 : decode cX9_lasts 59 = .ok (.ireturn, 1) := by decide +kernel
theorem dX9_lasts_60 : decode cX9_lasts 60 = .ok (.aload_n 0, 1) := by decide +kernel
theorem dX9_lasts_61 : decode cX9_lasts 61 = .ok (.getfield 30, 3) := by decide +kernel
theorem dX9_lasts_64 : decode cX9_lasts 64 = .ok (.aload_n 0, 1) := by decide +kernel
theorem dX9_lasts_65 : decode cX9_lasts 65 = .ok (.getfield 19, 3) := by decide +kernel
theorem dX9_lasts_68 : decode cX9_lasts 68 = .ok (.aload_n 0, 1) := by decide +kernel
theorem dX9_lasts_69 : decode cX9_lasts 69 = .ok (.getfield 36, 3) := by decide +kernel
theorem dX9_lasts_72 : decode cX9_lasts 72 = .ok (.invokevirtual 168, 3) := by decide +kernel
theorem dX9_lasts_75 : decode cX9_lasts 75 = .ok (.iinc 1 1, 3) := by decide +kernel
theorem dX9_lasts_78 : decode cX9_lasts 78 = .ok (.goto (-65), 3) := by decide +kernel
theorem dX9_lasts_81 : decode cX9_lasts 81 = .ok (.bipush 9, 2) := by decide +kernel
theorem dX9_lasts_83 : decode cX9_lasts 83 = .ok (.ireturn, 1) := by decide +kernel
theorem dX9_spare_0 : decode cX9_spare 0 = .ok (.iload_n 1, 1) := by decide +kernel
theorem dX9_spare_1 : decode cX9_spare 1 = .ok (.invokestatic 217, 3) := by decide +kernel
theorem dX9_spare_4 : decode cX9_spare 4 = .ok (.ifCond .eq 32, 3) := by decide +kernel
theorem dX9_spare_7 : decode cX9_spare 7 = .ok (.iload_n 2, 1) := by decide +kernel
theorem dX9_spare_8 : decode cX9_spare 8 = .ok (.invokestatic 220, 3) := by decide +kernel
theorem dX9_spare_11 : decode cX9_spare 11 = .ok (.ifCond .eq 25, 3) := by decide +kernel
theorem dX9_spare_14 : decode cX9_spare 14 = .ok (.iload_n 3, 1) := by decide +kernel
theorem dX9_spare_15 : decode cX9_spare 15 = .ok (.ifCond .lt 21, 3) := by decide +kernel
theorem dX9_spare_18 : decode cX9_spare 18 = .ok (.iload_n 3, 1) := by decide +kernel
theorem dX9_spare_19 : decode cX9_spare 19 = .ok (.iconst 1, 1) := by decide +kernel
theorem dX9_spare_20 : decode cX9_spare 20 = .ok (.iload_n 1, 1) := by decide +kernel
theorem dX9_spare_21 : decode cX9_spare 21 = .ok (.ishl, 1) := by decide +kernel
theorem dX9_spare_22 : decode cX9_spare 22 = .ok (.if_icmp .ge 14, 3) := by decide +kernel
theorem dX9_spare_25 : decode cX9_spare 25 = .ok (.iload 4, 2) := by decide +kernel
theorem dX9_spare_27 : decode cX9_spare 27 = .ok (.ifCond .lt 9, 3) := by decide +kernel
theorem dX9_spare_30 : decode cX9_spare 30 = .ok (.iload 4, 2) := by decide +kernel
theorem dX9_spare_32 : decode cX9_spare 32 = .ok (.iconst 1, 1) := by decide +kernel
theorem dX9_spare_33 : decode cX9_spare 33 = .ok (.if_icmp .le 6, 3) := by decide +kernel
theorem dX9_spare_36 : decode cX9_spare 36 = .ok (.bipush (-2), 2) := by decide +kernel
theorem dX9_spare_38 : decode cX9_spare 38 = .ok (.ireturn, 1) := by decide +kernel
theorem dX9_spare_39 : decode cX9_spare 39 = .ok (.bipush (-9), 2) := by decide +kernel
theorem dX9_spare_41 : decode cX9_spare 41 = .ok (.istore 5, 2) := by decide +kernel
theorem dX9_spare_43 : decode cX9_spare 43 = .ok (.bipush (-9), 2) := by decide +kernel
theorem dX9_spare_45 : decode cX9_spare 45 = .ok (.istore 6, 2) := by decide +kernel
theorem dX9_spare_47 : decode cX9_spare 47 = .ok (.iconst 0, 1) := by decide +kernel
theorem dX9_spare_48 : decode cX9_spare 48 = .ok (.istore 7, 2) := by decide +kernel
theorem dX9_spare_50 : decode cX9_spare 50 = .ok (.iload 7, 2) := by decide +kernel
theorem dX9_spare_52 : decode cX9_spare 52 = .ok (.iconst 1, 1) := by decide +kernel
theorem dX9_spare_53 : decode cX9_spare 53 = .ok (.iload_n 1, 1) := by decide +kernel
theorem dX9_spare_54 : decode cX9_spare 54 = .ok (.ishl, 1) := by decide +kernel
theorem dX9_spare_55 : decode cX9_spare 55 = .ok (.if_icmp .ge 72, 3) := by decide +kernel
theorem dX9_spare_58 : decode cX9_spare 58 = .ok (.iload_n 1, 1) := by decide +kernel
theorem dX9_spare_59 : decode cX9_spare 59 = .ok (.iload 7, 2) := by decide +kernel
theorem dX9_spare_61 : decode cX9_spare 61 = .ok (.invokestatic 223, 3) := by decide +kernel
theorem dX9_spare_64 : decode cX9_spare 64 = .ok (.iload_n 2, 1) := by decide +kernel
theorem dX9_spare_65 : decode cX9_spare 65 = .ok (.invokestatic 227, 3) := by decide +kernel
theorem dX9_spare_68 : decode cX9_spare 68 = .ok (.istore 8, 2) := by decide +kernel
theorem dX9_spare_70 : decode cX9_spare 70 = .ok (.iload 8, 2) := by decide +kernel
theorem dX9_spare_72 : decode cX9_spare 72 = .ok (.invokestatic 122, 3) := by decide +kernel
theorem dX9_spare_75 : decode cX9_spare 75 = .ok (.iload_n 3, 1) := by decide +kernel
theorem dX9_spare_76 : decode cX9_spare 76 = .ok (.iand, 1) := by decide +kernel
theorem dX9_spare_77 : decode cX9_spare 77 = .ok (.iload_n 3, 1) := by decide +kernel
theorem dX9_spare_78 : decode cX9_spare 78 = .ok (.if_icmp .ne 7, 3) := by decide +kernel
theorem dX9_spare_81 : decode cX9_spare 81 = .ok (.iconst 1, 1) := by decide +kernel
theorem dX9_spare_82 : decode cX9_spare 82 = .ok (.goto 4, 3) := by decide +kernel
theorem dX9_spare_85 : decode cX9_spare 85 = .ok (.iconst 0, 1) := by decide +kernel
theorem dX9_spare_86 : decode cX9_spare 86 = .ok (.istore 9, 2) := by decide +kernel
theorem dX9_spare_88 : decode cX9_spare 88 = .ok (.iload 9, 2) := by decide +kernel
theorem dX9_spare_90 : decode cX9_spare 90 = .ok (.ifCond .eq 31, 3) := by decide +kernel
theorem dX9_spare_93 : decode cX9_spare 93 = .ok (.iload 5, 2) := by decide +kernel
theorem dX9_spare_95 : decode cX9_spare 95 = .ok (.bipush (-9), 2) := by decide +kernel
theorem dX9_spare_97 : decode cX9_spare 97 = .ok (.if_icmp .eq 13, 3) := by decide +kernel
theorem dX9_spare_100 : decode cX9_spare 100 = .ok (.iload 7, 2) := by decide +kernel
theorem dX9_spare_102 : decode cX9_spare 102 = .ok (.invokestatic 230, 3) := by decide +kernel
theorem dX9_spare_105 : decode cX9_spare 105 = .ok (.iload 5, 2) := by decide +kernel
theorem dX9_spare_107 : decode cX9_spare 107 = .ok (.if_icmp .ge 14, 3) := by decide +kernel
theorem dX9_spare_110 : decode cX9_spare 110 = .ok (.iload 7, 2) := by decide +kernel
theorem dX9_spare_112 : decode cX9_spare 112 = .ok (.invokestatic 230, 3) := by decide +kernel
theorem dX9_spare_115 : decode cX9_spare 115 = .ok (.istore 5, 2) := by decide +kernel
theorem dX9_spare_117 : decode cX9_spare 117 = .ok (.iload 7, 2) := by decide +kernel
theorem dX9_spare_119 : decode cX9_spare 119 = .ok (.istore 6, 2) := by decide +kernel
theorem dX9_spare_121 : decode cX9_spare 121 = .ok (.iinc 7 1, 3) := by decide +kernel
theorem dX9_spare_124 : decode cX9_spare 124 = .ok (.goto (-74), 3) := by decide +kernel
theorem dX9_spare_127 : decode cX9_spare 127 = .ok (.iload 4, 2) := by decide +kernel
theorem dX9_spare_129 : decode cX9_spare 129 = .ok (.ifCond .ne 8, 3) := by decide +kernel
theorem dX9_spare_132 : decode cX9_spare 132 = .ok (.iload 5, 2) := by decide +kernel
theorem dX9_spare_134 : decode cX9_spare 134 = .ok (.goto 5, 3) := by decide +kernel
theorem dX9_spare_137 : decode cX9_spare 137 = .ok (.iload 6, 2) := by decide +kernel
theorem dX9_spare_139 : decode cX9_spare 139 = .ok (.ireturn, 1) := by decide +kernel
theorem dX9_share_0 : decode cX9_share 0 = .ok (.aload_n 0, 1) := by decide +kernel
theorem dX9_share_1 : decode cX9_share 1 = .ok (.getfield 19, 3) := by decide +kernel
theorem dX9_share_4 : decode cX9_share 4 = .ok (.iload_n 1, 1) := by decide +kernel
theorem dX9_share_5 : decode cX9_share 5 = .ok (.invokevirtual 135, 3) := by decide +kernel
theorem dX9_share_8 : decode cX9_share 8 = .ok (.ifCond .ne 5, 3) := by decide +kernel
theorem dX9_share_11 : decode cX9_share 11 = .ok (.iconst (-1), 1) := by decide +kernel
theorem dX9_share_12 : decode cX9_share 12 = .ok (.ireturn, 1) := by decide +kernel
theorem dX9_share_13 : decode cX9_share 13 = .ok (.iconst 0, 1) := by decide +kernel
theorem dX9_share_14 : decode cX9_share 14 = .ok (.istore_n 3, 1) := by decide +kernel
theorem dX9_share_15 : decode cX9_share 15 = .ok (.iconst 0, 1) := by decide +kernel
theorem dX9_share_16 : decode cX9_share 16 = .ok (.istore 4, 2) := by decide +kernel
theorem dX9_share_18 : decode cX9_share 18 = .ok (.iload 4, 2) := by decide +kernel
theorem dX9_share_20 : decode cX9_share 20 = .ok (.iconst 1, 1) := by decide +kernel
theorem dX9_share_21 : decode cX9_share 21 = .ok (.aload_n 0, 1) := by decide +kernel
theorem dX9_share_22 : decode cX9_share 22 = .ok (.getfield 19, 3) := by decide +kernel
theorem dX9_share_25 : decode cX9_share 25 = .ok (.getfield 92, 3) := by decide +kernel
theorem dX9_share_28 : decode cX9_share 28 = .ok (.ishl, 1) := by decide +kernel
theorem dX9_share_29 : decode cX9_share 29 = .ok (.if_icmp .ge 52, 3) := by decide +kernel
theorem dX9_share_32 : decode cX9_share 32 = .ok (.iload 4, 2) := by decide +kernel
theorem dX9_share_34 : decode cX9_share 34 = .ok (.iload_n 1, 1) := by decide +kernel
theorem dX9_share_35 : decode cX9_share 35 = .ok (.ishr, 1) := by decide +kernel
theorem dX9_share_36 : decode cX9_share 36 = .ok (.iconst 1, 1) := by decide +kernel
theorem dX9_share_37 : decode cX9_share 37 = .ok (.iand, 1) := by decide +kernel
theorem dX9_share_38 : decode cX9_share 38 = .ok (.ifCond .ne 37, 3) := by decide +kernel
theorem dX9_share_41 : decode cX9_share 41 = .ok (.aload_n 0, 1) := by decide +kernel
theorem dX9_share_42 : decode cX9_share 42 = .ok (.iload 4, 2) := by decide +kernel
theorem dX9_share_44 : decode cX9_share 44 = .ok (.iconst 1, 1) := by decide +kernel
theorem dX9_share_45 : decode cX9_share 45 = .ok (.iload_n 1, 1) := by decide +kernel
theorem dX9_share_46 : decode cX9_share 46 = .ok (.ishl, 1) := by decide +kernel
theorem dX9_share_47 : decode cX9_share 47 = .ok (.ior, 1) := by decide +kernel
theorem dX9_share_48 : decode cX9_share 48 = .ok (.invokevirtual 235, 3) := by decide +kernel
theorem dX9_share_51 : decode cX9_share 51 = .ok (.aload_n 0, 1) := by decide +kernel
theorem dX9_share_52 : decode cX9_share 52 = .ok (.iload 4, 2) := by decide +kernel
theorem dX9_share_54 : decode cX9_share 54 = .ok (.invokevirtual 235, 3) := by decide +kernel
theorem dX9_share_57 : decode cX9_share 57 = .ok (.isub, 1) := by decide +kernel
theorem dX9_share_58 : decode cX9_share 58 = .ok (.istore 5, 2) := by decide +kernel
theorem dX9_share_60 : decode cX9_share 60 = .ok (.iload_n 3, 1) := by decide +kernel
theorem dX9_share_61 : decode cX9_share 61 = .ok (.iload 5, 2) := by decide +kernel
theorem dX9_share_63 : decode cX9_share 63 = .ok (.aload_n 0, 1) := by decide +kernel
theorem dX9_share_64 : decode cX9_share 64 = .ok (.iload 4, 2) := by decide +kernel
theorem dX9_share_66 : decode cX9_share 66 = .ok (.invokestatic 230, 3) := by decide +kernel
theorem dX9_share_69 : decode cX9_share 69 = .ok (.invokevirtual 238, 3) := by decide +kernel
theorem dX9_share_72 : decode cX9_share 72 = .ok (.imul, 1) := by decide +kernel
theorem dX9_share_73 : decode cX9_share 73 = .ok (.iadd, 1) := by decide +kernel
theorem dX9_share_74 : decode cX9_share 74 = .ok (.istore_n 3, 1) := by decide +kernel
theorem dX9_share_75 : decode cX9_share 75 = .ok (.iinc 4 1, 3) := by decide +kernel
theorem dX9_share_78 : decode cX9_share 78 = .ok (.goto (-60), 3) := by decide +kernel
theorem dX9_share_81 : decode cX9_share 81 = .ok (.iload_n 3, 1) := by decide +kernel
theorem dX9_share_82 : decode cX9_share 82 = .ok (.aload_n 0, 1) := by decide +kernel
theorem dX9_share_83 : decode cX9_share 83 = .ok (.getfield 19, 3) := by decide +kernel
theorem dX9_share_86 : decode cX9_share 86 = .ok (.getfield 92, 3) := by decide +kernel
theorem dX9_share_89 : decode cX9_share 89 = .ok (.invokestatic 241, 3) := by decide +kernel
theorem dX9_share_92 : decode cX9_share 92 = .ok (.iload_n 2, 1) := by decide +kernel
theorem dX9_share_93 : decode cX9_share 93 = .ok (.invokestatic 244, 3) := by decide +kernel
theorem dX9_share_96 : decode cX9_share 96 = .ok (.ireturn, 1) := by decide +kernel
theorem dX9_see_0 : decode cX9_see 0 = .ok (.iload_n 1, 1) := by decide +kernel
theorem dX9_see_1 : decode cX9_see 1 = .ok (.invokestatic 220, 3) := by decide +kernel
theorem dX9_see_4 : decode cX9_see 4 = .ok (.ifCond .eq 22, 3) := by decide +kernel
theorem dX9_see_7 : decode cX9_see 7 = .ok (.iload_n 2, 1) := by decide +kernel
theorem dX9_see_8 : decode cX9_see 8 = .ok (.ifCond .lt 18, 3) := by decide +kernel
theorem dX9_see_11 : decode cX9_see 11 = .ok (.iload_n 2, 1) := by decide +kernel
theorem dX9_see_12 : decode cX9_see 12 = .ok (.bipush 8, 2) := by decide +kernel
theorem dX9_see_14 : decode cX9_see 14 = .ok (.if_icmp .ge 12, 3) := by decide +kernel
theorem dX9_see_17 : decode cX9_see 17 = .ok (.iload_n 3, 1) := by decide +kernel
theorem dX9_see_18 : decode cX9_see 18 = .ok (.ifCond .lt 8, 3) := by decide +kernel
theorem dX9_see_21 : decode cX9_see 21 = .ok (.iload_n 3, 1) := by decide +kernel
theorem dX9_see_22 : decode cX9_see 22 = .ok (.iconst 2, 1) := by decide +kernel
theorem dX9_see_23 : decode cX9_see 23 = .ok (.if_icmp .le 6, 3) := by decide +kernel
theorem dX9_see_26 : decode cX9_see 26 = .ok (.bipush (-2), 2) := by decide +kernel
theorem dX9_see_28 : decode cX9_see 28 = .ok (.ireturn, 1) := by decide +kernel
theorem dX9_see_29 : decode cX9_see 29 = .ok (.aload_n 0, 1) := by decide +kernel
theorem dX9_see_30 : decode cX9_see 30 = .ok (.getfield 64, 3) := by decide +kernel
theorem dX9_see_33 : decode cX9_see 33 = .ok (.iload_n 1, 1) := by decide +kernel
theorem dX9_see_34 : decode cX9_see 34 = .ok (.iload_n 2, 1) := by decide +kernel
theorem dX9_see_35 : decode cX9_see 35 = .ok (.iload_n 3, 1) := by decide +kernel
theorem dX9_see_36 : decode cX9_see 36 = .ok (.invokevirtual 248, 3) := by decide +kernel
theorem dX9_see_39 : decode cX9_see 39 = .ok (.ifCond .eq 13, 3) := by decide +kernel
theorem dX9_see_42 : decode cX9_see 42 = .ok (.aload_n 0, 1) := by decide +kernel
theorem dX9_see_43 : decode cX9_see 43 = .ok (.getfield 64, 3) := by decide +kernel
theorem dX9_see_46 : decode cX9_see 46 = .ok (.getfield 134, 3) := by decide +kernel
theorem dX9_see_49 : decode cX9_see 49 = .ok (.goto 5, 3) := by decide +kernel
theorem dX9_see_52 : decode cX9_see 52 = .ok (.bipush (-4), 2) := by decide +kernel
theorem dX9_see_54 : decode cX9_see 54 = .ok (.ireturn, 1) := by decide +kernel
theorem dX9_unsee_0 : decode cX9_unsee 0 = .ok (.aload_n 0, 1) := by decide +kernel
theorem dX9_unsee_1 : decode cX9_unsee 1 = .ok (.getfield 64, 3) := by decide +kernel
theorem dX9_unsee_4 : decode cX9_unsee 4 = .ok (.getfield 134, 3) := by decide +kernel
theorem dX9_unsee_7 : decode cX9_unsee 7 = .ok (.istore_n 1, 1) := by decide +kernel
theorem dX9_unsee_8 : decode cX9_unsee 8 = .ok (.aload_n 0, 1) := by decide +kernel
theorem dX9_unsee_9 : decode cX9_unsee 9 = .ok (.getfield 64, 3) := by decide +kernel
theorem dX9_unsee_12 : decode cX9_unsee 12 = .ok (.iconst 0, 1) := by decide +kernel
theorem dX9_unsee_13 : decode cX9_unsee 13 = .ok (.putfield 134, 3) := by decide +kernel
theorem dX9_unsee_16 : decode cX9_unsee 16 = .ok (.iload_n 1, 1) := by decide +kernel
theorem dX9_unsee_17 : decode cX9_unsee 17 = .ok (.ireturn, 1) := by decide +kernel
theorem dX9_courses_0 : decode cX9_courses 0 = .ok (.iload_n 1, 1) := by decide +kernel
theorem dX9_courses_1 : decode cX9_courses 1 = .ok (.invokestatic 217, 3) := by decide +kernel
theorem dX9_courses_4 : decode cX9_courses 4 = .ok (.ifCond .eq 12, 3) := by decide +kernel
theorem dX9_courses_7 : decode cX9_courses 7 = .ok (.iload_n 2, 1) := by decide +kernel
theorem dX9_courses_8 : decode cX9_courses 8 = .ok (.ifCond .lt 8, 3) := by decide +kernel
theorem dX9_courses_11 : decode cX9_courses 11 = .ok (.iload_n 2, 1) := by decide +kernel
theorem dX9_courses_12 : decode cX9_courses 12 = .ok (.iconst 2, 1) := by decide +kernel
theorem dX9_courses_13 : decode cX9_courses 13 = .ok (.if_icmp .le 6, 3) := by decide +kernel
theorem dX9_courses_16 : decode cX9_courses 16 = .ok (.bipush (-2), 2) := by decide +kernel
theorem dX9_courses_18 : decode cX9_courses 18 = .ok (.ireturn, 1) := by decide +kernel
theorem dX9_courses_19 : decode cX9_courses 19 = .ok (.iconst 1, 1) := by decide +kernel
theorem dX9_courses_20 : decode cX9_courses 20 = .ok (.iload_n 1, 1) := by decide +kernel
theorem dX9_courses_21 : decode cX9_courses 21 = .ok (.ishl, 1) := by decide +kernel
theorem dX9_courses_22 : decode cX9_courses 22 = .ok (.iconst 1, 1) := by decide +kernel
theorem dX9_courses_23 : decode cX9_courses 23 = .ok (.isub, 1) := by decide +kernel
theorem dX9_courses_24 : decode cX9_courses 24 = .ok (.istore_n 3, 1) := by decide +kernel
theorem dX9_courses_25 : decode cX9_courses 25 = .ok (.iconst 0, 1) := by decide +kernel
theorem dX9_courses_26 : decode cX9_courses 26 = .ok (.istore 4, 2) := by decide +kernel
theorem dX9_courses_28 : decode cX9_courses 28 = .ok (.iload_n 3, 1) := by decide +kernel
theorem dX9_courses_29 : decode cX9_courses 29 = .ok (.istore 5, 2) := by decide +kernel
theorem dX9_courses_31 : decode cX9_courses 31 = .ok (.iload_n 3, 1) := by decide +kernel
theorem dX9_courses_32 : decode cX9_courses 32 = .ok (.istore 6, 2) := by decide +kernel
theorem dX9_courses_34 : decode cX9_courses 34 = .ok (.iconst 0, 1) := by decide +kernel
theorem dX9_courses_35 : decode cX9_courses 35 = .ok (.istore 7, 2) := by decide +kernel
theorem dX9_courses_37 : decode cX9_courses 37 = .ok (.iload 7, 2) := by decide +kernel
theorem dX9_courses_39 : decode cX9_courses 39 = .ok (.iload_n 3, 1) := by decide +kernel
theorem dX9_courses_40 : decode cX9_courses 40 = .ok (.if_icmp .gt 44, 3) := by decide +kernel
theorem dX9_courses_43 : decode cX9_courses 43 = .ok (.aload_n 0, 1) := by decide +kernel
theorem dX9_courses_44 : decode cX9_courses 44 = .ok (.getfield 64, 3) := by decide +kernel
theorem dX9_courses_47 : decode cX9_courses 47 = .ok (.iload_n 1, 1) := by decide +kernel
theorem dX9_courses_48 : decode cX9_courses 48 = .ok (.iload 7, 2) := by decide +kernel
theorem dX9_courses_50 : decode cX9_courses 50 = .ok (.invokestatic 223, 3) := by decide +kernel
theorem dX9_courses_53 : decode cX9_courses 53 = .ok (.invokevirtual 252, 3) := by decide +kernel
theorem dX9_courses_56 : decode cX9_courses 56 = .ok (.ifCond .eq 22, 3) := by decide +kernel
theorem dX9_courses_59 : decode cX9_courses 59 = .ok (.iinc 4 1, 3) := by decide +kernel
theorem dX9_courses_62 : decode cX9_courses 62 = .ok (.iload 5, 2) := by decide +kernel
theorem dX9_courses_64 : decode cX9_courses 64 = .ok (.iload 7, 2) := by decide +kernel
theorem dX9_courses_66 : decode cX9_courses 66 = .ok (.iand, 1) := by decide +kernel
theorem dX9_courses_67 : decode cX9_courses 67 = .ok (.istore 5, 2) := by decide +kernel
theorem dX9_courses_69 : decode cX9_courses 69 = .ok (.iload 6, 2) := by decide +kernel
theorem dX9_courses_71 : decode cX9_courses 71 = .ok (.iload 7, 2) := by decide +kernel
theorem dX9_courses_73 : decode cX9_courses 73 = .ok (.iconst (-1), 1) := by decide +kernel
theorem dX9_courses_74 : decode cX9_courses 74 = .ok (.ixor, 1) := by decide +kernel
theorem dX9_courses_75 : decode cX9_courses 75 = .ok (.iand, 1) := by decide +kernel
theorem dX9_courses_76 : decode cX9_courses 76 = .ok (.istore 6, 2) := by decide +kernel
theorem dX9_courses_78 : decode cX9_courses 78 = .ok (.iinc 7 1, 3) := by decide +kernel
theorem dX9_courses_81 : decode cX9_courses 81 = .ok (.goto (-44), 3) := by decide +kernel
theorem dX9_courses_84 : decode cX9_courses 84 = .ok (.iload_n 2, 1) := by decide +kernel
theorem dX9_courses_85 : decode cX9_courses 85 = .ok (.ifCond .ne 6, 3) := by decide +kernel
theorem dX9_courses_88 : decode cX9_courses 88 = .ok (.iload 4, 2) := by decide +kernel
theorem dX9_courses_90 : decode cX9_courses 90 = .ok (.ireturn, 1) := by decide +kernel
theorem dX9_courses_91 : decode cX9_courses 91 = .ok (.iload 4, 2) := by decide +kernel
theorem dX9_courses_93 : decode cX9_courses 93 = .ok (.ifCond .ne 6, 3) := by decide +kernel
theorem dX9_courses_96 : decode cX9_courses 96 = .ok (.bipush (-9), 2) := by decide +kernel
theorem dX9_courses_98 : decode cX9_courses 98 = .ok (.ireturn, 1) := by decide +kernel
theorem dX9_courses_99 : decode cX9_courses 99 = .ok (.iload_n 2, 1) := by decide +kernel
theorem dX9_courses_100 : decode cX9_courses 100 = .ok (.iconst 1, 1) := by decide +kernel
theorem dX9_courses_101 : decode cX9_courses 101 = .ok (.if_icmp .ne 8, 3) := by decide +kernel
theorem dX9_courses_104 : decode cX9_courses 104 = .ok (.iload 5, 2) := by decide +kernel
theorem dX9_courses_106 : decode cX9_courses 106 = .ok (.goto 5, 3) := by decide +kernel
theorem dX9_courses_109 : decode cX9_courses 109 = .ok (.iload 6, 2) := by decide +kernel
theorem dX9_courses_111 : decode cX9_courses 111 = .ok (.ireturn, 1) := by decide +kernel
theorem dX9_rests_0 : decode cX9_rests 0 = .ok (.iload_n 1, 1) := by decide +kernel
theorem dX9_rests_1 : decode cX9_rests 1 = .ok (.ifCond .lt 8, 3) := by decide +kernel
theorem dX9_rests_4 : decode cX9_rests 4 = .ok (.iload_n 1, 1) := by decide +kernel
theorem dX9_rests_5 : decode cX9_rests 5 = .ok (.iconst 1, 1) := by decide +kernel
theorem dX9_rests_6 : decode cX9_rests 6 = .ok (.if_icmp .le 6, 3) := by decide +kernel
theorem dX9_rests_9 : decode cX9_rests 9 = .ok (.bipush (-2), 2) := by decide +kernel
theorem dX9_rests_11 : decode cX9_rests 11 = .ok (.ireturn, 1) := by decide +kernel
theorem dX9_rests_12 : decode cX9_rests 12 = .ok (.aload_n 0, 1) := by decide +kernel
theorem dX9_rests_13 : decode cX9_rests 13 = .ok (.getfield 36, 3) := by decide +kernel
theorem dX9_rests_16 : decode cX9_rests 16 = .ok (.aload_n 0, 1) := by decide +kernel
theorem dX9_rests_17 : decode cX9_rests 17 = .ok (.getfield 19, 3) := by decide +kernel
theorem dX9_rests_20 : decode cX9_rests 20 = .ok (.aload_n 0, 1) := by decide +kernel
theorem dX9_rests_21 : decode cX9_rests 21 = .ok (.getfield 26, 3) := by decide +kernel
theorem dX9_rests_24 : decode cX9_rests 24 = .ok (.aload_n 0, 1) := by decide +kernel
theorem dX9_rests_25 : decode cX9_rests 25 = .ok (.getfield 26, 3) := by decide +kernel
theorem dX9_rests_28 : decode cX9_rests 28 = .ok (.getfield 145, 3) := by decide +kernel
theorem dX9_rests_31 : decode cX9_rests 31 = .ok (.invokevirtual 164, 3) := by decide +kernel
theorem dX9_rests_34 : decode cX9_rests 34 = .ok (.aload_n 0, 1) := by decide +kernel
theorem dX9_rests_35 : decode cX9_rests 35 = .ok (.getfield 36, 3) := by decide +kernel
theorem dX9_rests_38 : decode cX9_rests 38 = .ok (.getfield 172, 3) := by decide +kernel
theorem dX9_rests_41 : decode cX9_rests 41 = .ok (.bipush 9, 2) := by decide +kernel
theorem dX9_rests_43 : decode cX9_rests 43 = .ok (.invokestatic 255, 3) := by decide +kernel
theorem dX9_rests_46 : decode cX9_rests 46 = .ok (.istore_n 2, 1) := by decide +kernel
theorem dX9_rests_47 : decode cX9_rests 47 = .ok (.iconst 0, 1) := by decide +kernel
theorem dX9_rests_48 : decode cX9_rests 48 = .ok (.istore_n 3, 1) := by decide +kernel
theorem dX9_rests_49 : decode cX9_rests 49 = .ok (.bipush (-9), 2) := by decide +kernel
theorem dX9_rests_51 : decode cX9_rests 51 = .ok (.istore 4, 2) := by decide +kernel
theorem dX9_rests_53 : decode cX9_rests 53 = .ok (.iconst 0, 1) := by decide +kernel
theorem dX9_rests_54 : decode cX9_rests 54 = .ok (.istore 5, 2) := by decide +kernel
theorem dX9_rests_56 : decode cX9_rests 56 = .ok (.iload 5, 2) := by decide +kernel
theorem dX9_rests_58 : decode cX9_rests 58 = .ok (.bipush 9, 2) := by decide +kernel
theorem dX9_rests_60 : decode cX9_rests 60 = .ok (.if_icmp .gt 70, 3) := by decide +kernel
theorem dX9_rests_63 : decode cX9_rests 63 = .ok (.iconst 0, 1) := by decide +kernel
theorem dX9_rests_64 : decode cX9_rests 64 = .ok (.istore 6, 2) := by decide +kernel
theorem dX9_rests_66 : decode cX9_rests 66 = .ok (.iload 6, 2) := by decide +kernel
theorem dX9_rests_68 : decode cX9_rests 68 = .ok (.iload_n 2, 1) := by decide +kernel
theorem dX9_rests_69 : decode cX9_rests 69 = .ok (.if_icmp .gt 55, 3) := by decide +kernel
theorem dX9_rests_72 : decode cX9_rests 72 = .ok (.iload 5, 2) := by decide +kernel
theorem dX9_rests_74 : decode cX9_rests 74 = .ok (.iload 6, 2) := by decide +kernel
theorem dX9_rests_76 : decode cX9_rests 76 = .ok (.invokestatic 260, 3) := by decide +kernel
theorem dX9_rests_79 : decode cX9_rests 79 = .ok (.ifCond .eq 39, 3) := by decide +kernel
theorem dX9_rests_82 : decode cX9_rests 82 = .ok (.iload 5, 2) := by decide +kernel
theorem dX9_rests_84 : decode cX9_rests 84 = .ok (.iload 6, 2) := by decide +kernel
theorem dX9_rests_86 : decode cX9_rests 86 = .ok (.iload_n 2, 1) := by decide +kernel
theorem dX9_rests_87 : decode cX9_rests 87 = .ok (.invokestatic 264, 3) := by decide +kernel
theorem dX9_rests_90 : decode cX9_rests 90 = .ok (.ifCond .eq 28, 3) := by decide +kernel
theorem dX9_rests_93 : decode cX9_rests 93 = .ok (.iinc 3 1, 3) := by decide +kernel
theorem dX9_rests_96 : decode cX9_rests 96 = .ok (.iload 4, 2) := by decide +kernel
theorem dX9_rests_98 : decode cX9_rests 98 = .ok (.bipush (-9), 2) := by decide +kernel
theorem dX9_rests_100 : decode cX9_rests 100 = .ok (.if_icmp .ne 14, 3) := by decide +kernel
theorem dX9_rests_103 : decode cX9_rests 103 = .ok (.bipush 10, 2) := by decide +kernel
theorem dX9_rests_105 : decode cX9_rests 105 = .ok (.iload 5, 2) := by decide +kernel
theorem dX9_rests_107 : decode cX9_rests 107 = .ok (.imul, 1) := by decide +kernel
theorem dX9_rests_108 : decode cX9_rests 108 = .ok (.iload 6, 2) := by decide +kernel
theorem dX9_rests_110 : decode cX9_rests 110 = .ok (.iadd, 1) := by decide +kernel
theorem dX9_rests_111 : decode cX9_rests 111 = .ok (.goto 5, 3) := by decide +kernel
theorem dX9_rests_114 : decode cX9_rests 114 = .ok (.iload 4, 2) := by decide +kernel
theorem dX9_rests_116 : decode cX9_rests 116 = .ok (.istore 4, 2) := by decide +kernel
theorem dX9_rests_118 : decode cX9_rests 118 = .ok (.iinc 6 1, 3) := by decide +kernel
theorem dX9_rests_121 : decode cX9_rests 121 = .ok (.goto (-55), 3) := by decide +kernel
theorem dX9_rests_124 : decode cX9_rests 124 = .ok (.iinc 5 1, 3) := by decide +kernel
theorem dX9_rests_127 : decode cX9_rests 127 = .ok (.goto (-71), 3) := by decide +kernel
theorem dX9_rests_130 : decode cX9_rests 130 = .ok (.iload_n 1, 1) := by decide +kernel
theorem dX9_rests_131 : decode cX9_rests 131 = .ok (.ifCond .ne 7, 3) := by decide +kernel
theorem dX9_rests_134 : decode cX9_rests 134 = .ok (.iload_n 3, 1) := by decide +kernel
theorem dX9_rests_135 : decode cX9_rests 135 = .ok (.goto 5, 3) := by decide +kernel
theorem dX9_rests_138 : decode cX9_rests 138 = .ok (.iload 4, 2) := by decide +kernel
theorem dX9_rests_140 : decode cX9_rests 140 = .ok (.ireturn, 1) := by decide +kernel
theorem dX9_chance_0 : decode cX9_chance 0 = .ok (.iload_n 1, 1) := by decide +kernel
theorem dX9_chance_1 : decode cX9_chance 1 = .ok (.iconst 1, 1) := by decide +kernel
theorem dX9_chance_2 : decode cX9_chance 2 = .ok (.if_icmp .lt 29, 3) := by decide +kernel
theorem dX9_chance_5 : decode cX9_chance 5 = .ok (.iload_n 1, 1) := by decide +kernel
theorem dX9_chance_6 : decode cX9_chance 6 = .ok (.bipush 6, 2) := by decide +kernel
theorem dX9_chance_8 : decode cX9_chance 8 = .ok (.if_icmp .gt 23, 3) := by decide +kernel
theorem dX9_chance_11 : decode cX9_chance 11 = .ok (.iload_n 2, 1) := by decide +kernel
theorem dX9_chance_12 : decode cX9_chance 12 = .ok (.ifCond .lt 19, 3) := by decide +kernel
theorem dX9_chance_15 : decode cX9_chance 15 = .ok (.iload_n 2, 1) := by decide +kernel
theorem dX9_chance_16 : decode cX9_chance 16 = .ok (.bipush 8, 2) := by decide +kernel
theorem dX9_chance_18 : decode cX9_chance 18 = .ok (.if_icmp .gt 13, 3) := by decide +kernel
theorem dX9_chance_21 : decode cX9_chance 21 = .ok (.iload_n 3, 1) := by decide +kernel
theorem dX9_chance_22 : decode cX9_chance 22 = .ok (.ifCond .lt 9, 3) := by decide +kernel
theorem dX9_chance_25 : decode cX9_chance 25 = .ok (.iload_n 3, 1) := by decide +kernel
theorem dX9_chance_26 : decode cX9_chance 26 = .ok (.bipush 10, 2) := by decide +kernel
theorem dX9_chance_28 : decode cX9_chance 28 = .ok (.if_icmp .le 6, 3) := by decide +kernel
theorem dX9_chance_31 : decode cX9_chance 31 = .ok (.bipush (-2), 2) := by decide +kernel
theorem dX9_chance_33 : decode cX9_chance 33 = .ok (.ireturn, 1) := by decide +kernel
theorem dX9_chance_34 : decode cX9_chance 34 = .ok (.aload_n 0, 1) := by decide +kernel
theorem dX9_chance_35 : decode cX9_chance 35 = .ok (.getfield 26, 3) := by decide +kernel
theorem dX9_chance_38 : decode cX9_chance 38 = .ok (.getfield 113, 3) := by decide +kernel
theorem dX9_chance_41 : decode cX9_chance 41 = .ok (.invokestatic 116, 3) := by decide +kernel
theorem dX9_chance_44 : decode cX9_chance 44 = .ok (.istore 5, 2) := by decide +kernel
theorem dX9_chance_46 : decode cX9_chance 46 = .ok (.iload 5, 2) := by decide +kernel
theorem dX9_chance_48 : decode cX9_chance 48 = .ok (.aload_n 0, 1) := by decide +kernel
theorem dX9_chance_49 : decode cX9_chance 49 = .ok (.getfield 26, 3) := by decide +kernel
theorem dX9_chance_52 : decode cX9_chance 52 = .ok (.getfield 113, 3) := by decide +kernel
theorem dX9_chance_55 : decode cX9_chance 55 = .ok (.invokestatic 122, 3) := by decide +kernel
theorem dX9_chance_58 : decode cX9_chance 58 = .ok (.invokestatic 230, 3) := by decide +kernel
theorem dX9_chance_61 : decode cX9_chance 61 = .ok (.isub, 1) := by decide +kernel
theorem dX9_chance_62 : decode cX9_chance 62 = .ok (.istore 6, 2) := by decide +kernel
theorem dX9_chance_64 : decode cX9_chance 64 = .ok (.iconst 0, 1) := by decide +kernel
theorem dX9_chance_65 : decode cX9_chance 65 = .ok (.istore 7, 2) := by decide +kernel
theorem dX9_chance_67 : decode cX9_chance 67 = .ok (.iconst 1, 1) := by decide +kernel
theorem dX9_chance_68 : decode cX9_chance 68 = .ok (.istore 8, 2) := by decide +kernel
theorem dX9_chance_70 : decode cX9_chance 70 = .ok (.iconst 0, 1) := by decide +kernel
theorem dX9_chance_71 : decode cX9_chance 71 = .ok (.istore 9, 2) := by decide +kernel
theorem dX9_chance_73 : decode cX9_chance 73 = .ok (.iload 9, 2) := by decide +kernel
theorem dX9_chance_75 : decode cX9_chance 75 = .ok (.iload_n 1, 1) := by decide +kernel
theorem dX9_chance_76 : decode cX9_chance 76 = .ok (.if_icmp .gt 63, 3) := by decide +kernel
theorem dX9_chance_79 : decode cX9_chance 79 = .ok (.iload 5, 2) := by decide +kernel
theorem dX9_chance_81 : decode cX9_chance 81 = .ok (.iload 9, 2) := by decide +kernel
theorem dX9_chance_83 : decode cX9_chance 83 = .ok (.iload 6, 2) := by decide +kernel
theorem dX9_chance_85 : decode cX9_chance 85 = .ok (.invokestatic 255, 3) := by decide +kernel
theorem dX9_chance_88 : decode cX9_chance 88 = .ok (.isub, 1) := by decide +kernel
theorem dX9_chance_89 : decode cX9_chance 89 = .ok (.iload_n 2, 1) := by decide +kernel
theorem dX9_chance_90 : decode cX9_chance 90 = .ok (.if_icmp .lt 29, 3) := by decide +kernel
theorem dX9_chance_93 : decode cX9_chance 93 = .ok (.iload 7, 2) := by decide +kernel
theorem dX9_chance_95 : decode cX9_chance 95 = .ok (.iload 8, 2) := by decide +kernel
theorem dX9_chance_97 : decode cX9_chance 97 = .ok (.iload_n 3, 1) := by decide +kernel
theorem dX9_chance_98 : decode cX9_chance 98 = .ok (.iload 9, 2) := by decide +kernel
theorem dX9_chance_100 : decode cX9_chance 100 = .ok (.invokestatic 267, 3) := by decide +kernel
theorem dX9_chance_103 : decode cX9_chance 103 = .ok (.imul, 1) := by decide +kernel
theorem dX9_chance_104 : decode cX9_chance 104 = .ok (.bipush 10, 2) := by decide +kernel
theorem dX9_chance_106 : decode cX9_chance 106 = .ok (.iload_n 3, 1) := by decide +kernel
theorem dX9_chance_107 : decode cX9_chance 107 = .ok (.isub, 1) := by decide +kernel
theorem dX9_chance_108 : decode cX9_chance 108 = .ok (.iload_n 1, 1) := by decide +kernel
theorem dX9_chance_109 : decode cX9_chance 109 = .ok (.iload 9, 2) := by decide +kernel
theorem dX9_chance_111 : decode cX9_chance 111 = .ok (.isub, 1) := by decide +kernel
theorem dX9_chance_112 : decode cX9_chance 112 = .ok (.invokestatic 267, 3) := by decide +kernel
theorem dX9_chance_115 : decode cX9_chance 115 = .ok (.imul, 1) := by decide +kernel
theorem dX9_chance_116 : decode cX9_chance 116 = .ok (.iadd, 1) := by decide +kernel
theorem dX9_chance_117 : decode cX9_chance 117 = .ok (.istore 7, 2) := by decide +kernel
theorem dX9_chance_119 : decode cX9_chance 119 = .ok (.iload 8, 2) := by decide +kernel
theorem dX9_chance_121 : decode cX9_chance 121 = .ok (.iload_n 1, 1) := by decide +kernel
theorem dX9_chance_122 : decode cX9_chance 122 = .ok (.iload 9, 2) := by decide +kernel
theorem dX9_chance_124 : decode cX9_chance 124 = .ok (.isub, 1) := by decide +kernel
theorem dX9_chance_125 : decode cX9_chance 125 = .ok (.imul, 1) := by decide +kernel
theorem dX9_chance_126 : decode cX9_chance 126 = .ok (.iload 9, 2) := by decide +kernel
theorem dX9_chance_128 : decode cX9_chance 128 = .ok (.iconst 1, 1) := by decide +kernel
theorem dX9_chance_129 : decode cX9_chance 129 = .ok (.iadd, 1) := by decide +kernel
theorem dX9_chance_130 : decode cX9_chance 130 = .ok (.idiv, 1) := by decide +kernel
theorem dX9_chance_131 : decode cX9_chance 131 = .ok (.istore 8, 2) := by decide +kernel
theorem dX9_chance_133 : decode cX9_chance 133 = .ok (.iinc 9 1, 3) := by decide +kernel
theorem dX9_chance_136 : decode cX9_chance 136 = .ok (.goto (-63), 3) := by decide +kernel
theorem dX9_chance_139 : decode cX9_chance 139 = .ok (.iload 7, 2) := by decide +kernel
theorem dX9_chance_141 : decode cX9_chance 141 = .ok (.bipush 10, 2) := by decide +kernel
theorem dX9_chance_143 : decode cX9_chance 143 = .ok (.iload_n 1, 1) := by decide +kernel
theorem dX9_chance_144 : decode cX9_chance 144 = .ok (.invokestatic 267, 3) := by decide +kernel
theorem dX9_chance_147 : decode cX9_chance 147 = .ok (.iload 4, 2) := by decide +kernel
theorem dX9_chance_149 : decode cX9_chance 149 = .ok (.invokestatic 244, 3) := by decide +kernel
theorem dX9_chance_152 : decode cX9_chance 152 = .ok (.ireturn, 1) := by decide +kernel
theorem dX9_seed_0 : decode cX9_seed 0 = .ok (.aload_n 0, 1) := by decide +kernel
theorem dX9_seed_1 : decode cX9_seed 1 = .ok (.getfield 270, 3) := by decide +kernel
theorem dX9_seed_4 : decode cX9_seed 4 = .ok (.lstore_n 3, 1) := by decide +kernel
theorem dX9_seed_5 : decode cX9_seed 5 = .ok (.aload_n 0, 1) := by decide +kernel
theorem dX9_seed_6 : decode cX9_seed 6 = .ok (.lload_n 1, 1) := by decide +kernel
theorem dX9_seed_7 : decode cX9_seed 7 = .ok (.putfield 270, 3) := by decide +kernel
theorem dX9_seed_10 : decode cX9_seed 10 = .ok (.lload_n 3, 1) := by decide +kernel
theorem dX9_seed_11 : decode cX9_seed 11 = .ok (.lreturn, 1) := by decide +kernel
theorem dX9_years_0 : decode cX9_years 0 = .ok (.iload_n 1, 1) := by decide +kernel
theorem dX9_years_1 : decode cX9_years 1 = .ok (.iconst 1, 1) := by decide +kernel
theorem dX9_years_2 : decode cX9_years 2 = .ok (.if_icmp .lt 9, 3) := by decide +kernel
theorem dX9_years_5 : decode cX9_years 5 = .ok (.iload_n 1, 1) := by decide +kernel
theorem dX9_years_6 : decode cX9_years 6 = .ok (.bipush 20, 2) := by decide +kernel
theorem dX9_years_8 : decode cX9_years 8 = .ok (.if_icmp .le 6, 3) := by decide +kernel
theorem dX9_years_11 : decode cX9_years 11 = .ok (.bipush (-2), 2) := by decide +kernel
theorem dX9_years_13 : decode cX9_years 13 = .ok (.ireturn, 1) := by decide +kernel
theorem dX9_years_14 : decode cX9_years 14 = .ok (.aload_n 0, 1) := by decide +kernel
theorem dX9_years_15 : decode cX9_years 15 = .ok (.getfield 26, 3) := by decide +kernel
theorem dX9_years_18 : decode cX9_years 18 = .ok (.aload_n 0, 1) := by decide +kernel
theorem dX9_years_19 : decode cX9_years 19 = .ok (.getfield 30, 3) := by decide +kernel
theorem dX9_years_22 : decode cX9_years 22 = .ok (.invokestatic 213, 3) := by decide +kernel
theorem dX9_years_25 : decode cX9_years 25 = .ok (.iconst 0, 1) := by decide +kernel
theorem dX9_years_26 : decode cX9_years 26 = .ok (.istore_n 2, 1) := by decide +kernel
theorem dX9_years_27 : decode cX9_years 27 = .ok (.iload_n 2, 1) := by decide +kernel
theorem dX9_years_28 : decode cX9_years 28 = .ok (.iload_n 1, 1) := by decide +kernel
theorem dX9_years_29 : decode cX9_years 29 = .ok (.if_icmp .ge 123, 3) := by decide +kernel
theorem dX9_years_32 : decode cX9_years 32 = .ok (.aload_n 0, 1) := by decide +kernel
theorem dX9_years_33 : decode cX9_years 33 = .ok (.aload_n 0, 1) := by decide +kernel
theorem dX9_years_34 : decode cX9_years 34 = .ok (.getfield 270, 3) := by decide +kernel
theorem dX9_years_37 : decode cX9_years 37 = .ok (.ldc2_w 274, 3) := by decide +kernel
theorem dX9_years_40 : decode cX9_years 40 = .ok (.lmul, 1) := by decide +kernel
theorem dX9_years_41 : decode cX9_years 41 = .ok (.ldc2_w 276, 3) := by decide +kernel
theorem dX9_years_44 : decode cX9_years 44 = .ok (.ladd, 1) := by decide +kernel
theorem dX9_years_45 : decode cX9_years 45 = .ok (.putfield 270, 3) := by decide +kernel
theorem dX9_years_48 : decode cX9_years 48 = .ok (.aload_n 0, 1) := by decide +kernel
theorem dX9_years_49 : decode cX9_years 49 = .ok (.getfield 270, 3) := by decide +kernel
theorem dX9_years_52 : decode cX9_years 52 = .ok (.bipush 33, 2) := by decide +kernel
theorem dX9_years_54 : decode cX9_years 54 = .ok (.lushr, 1) := by decide +kernel
theorem dX9_years_55 : decode cX9_years 55 = .ok (.ldc2_w 278, 3) := by decide +kernel
theorem dX9_years_58 : decode cX9_years 58 = .ok (.lrem, 1) := by decide +kernel
theorem dX9_years_59 : decode cX9_years 59 = .ok (.l2i, 1) := by decide +kernel
theorem dX9_years_60 : decode cX9_years 60 = .ok (.istore_n 3, 1) := by decide +kernel
theorem dX9_years_61 : decode cX9_years 61 = .ok (.iload_n 3, 1) := by decide +kernel
theorem dX9_years_62 : decode cX9_years 62 = .ok (.bipush 6, 2) := by decide +kernel
theorem dX9_years_64 : decode cX9_years 64 = .ok (.idiv, 1) := by decide +kernel
theorem dX9_years_65 : decode cX9_years 65 = .ok (.istore 4, 2) := by decide +kernel
theorem dX9_years_67 : decode cX9_years 67 = .ok (.iload_n 3, 1) := by decide +kernel
theorem dX9_years_68 : decode cX9_years 68 = .ok (.bipush 6, 2) := by decide +kernel
theorem dX9_years_70 : decode cX9_years 70 = .ok (.irem, 1) := by decide +kernel
theorem dX9_years_71 : decode cX9_years 71 = .ok (.istore 5, 2) := by decide +kernel
theorem dX9_years_73 : decode cX9_years 73 = .ok (.aload_n 0, 1) := by decide +kernel
theorem dX9_years_74 : decode cX9_years 74 = .ok (.getfield 19, 3) := by decide +kernel
theorem dX9_years_77 : decode cX9_years 77 = .ok (.iload 4, 2) := by decide +kernel
theorem dX9_years_79 : decode cX9_years 79 = .ok (.invokevirtual 135, 3) := by decide +kernel
theorem dX9_years_82 : decode cX9_years 82 = .ok (.ifCond .eq 27, 3) := by decide +kernel
theorem dX9_years_85 : decode cX9_years 85 = .ok (.aload_n 0, 1) := by decide +kernel
theorem dX9_years_86 : decode cX9_years 86 = .ok (.getfield 19, 3) := by decide +kernel
theorem dX9_years_89 : decode cX9_years 89 = .ok (.iload 5, 2) := by decide +kernel
theorem dX9_years_91 : decode cX9_years 91 = .ok (.invokevirtual 175, 3) := by decide +kernel
theorem dX9_years_94 : decode cX9_years 94 = .ok (.ifCond .eq 15, 3) := by decide +kernel
theorem dX9_years_97 : decode cX9_years 97 = .ok (.aload_n 0, 1) := by decide +kernel
theorem dX9_years_98 : decode cX9_years 98 = .ok (.getfield 30, 3) := by decide +kernel
theorem dX9_years_101 : decode cX9_years 101 = .ok (.getfield 145, 3) := by decide +kernel
theorem dX9_years_104 : decode cX9_years 104 = .ok (.iload 4, 2) := by decide +kernel
theorem dX9_years_106 : decode cX9_years 106 = .ok (.iload 5, 2) := by decide +kernel
theorem dX9_years_108 : decode cX9_years 108 = .ok (.iastore, 1) := by decide +kernel
theorem dX9_years_109 : decode cX9_years 109 = .ok (.aload_n 0, 1) := by decide +kernel
theorem dX9_years_110 : decode cX9_years 110 = .ok (.getfield 36, 3) := by decide +kernel
theorem dX9_years_113 : decode cX9_years 113 = .ok (.aload_n 0, 1) := by decide +kernel
theorem dX9_years_114 : decode cX9_years 114 = .ok (.getfield 19, 3) := by decide +kernel
theorem dX9_years_117 : decode cX9_years 117 = .ok (.aload_n 0, 1) := by decide +kernel
theorem dX9_years_118 : decode cX9_years 118 = .ok (.getfield 30, 3) := by decide +kernel
theorem dX9_years_121 : decode cX9_years 121 = .ok (.aload_n 0, 1) := by decide +kernel
theorem dX9_years_122 : decode cX9_years 122 = .ok (.getfield 30, 3) := by decide +kernel
theorem dX9_years_125 : decode cX9_years 125 = .ok (.getfield 145, 3) := by decide +kernel
theorem dX9_years_128 : decode cX9_years 128 = .ok (.invokevirtual 164, 3) := by decide +kernel
theorem dX9_years_131 : decode cX9_years 131 = .ok (.aload_n 0, 1) := by decide +kernel
theorem dX9_years_132 : decode cX9_years 132 = .ok (.getfield 30, 3) := by decide +kernel
theorem dX9_years_135 : decode cX9_years 135 = .ok (.aload_n 0, 1) := by decide +kernel
theorem dX9_years_136 : decode cX9_years 136 = .ok (.getfield 19, 3) := by decide +kernel
theorem dX9_years_139 : decode cX9_years 139 = .ok (.aload_n 0, 1) := by decide +kernel
theorem dX9_years_140 : decode cX9_years 140 = .ok (.getfield 36, 3) := by decide +kernel
theorem dX9_years_143 : decode cX9_years 143 = .ok (.invokevirtual 168, 3) := by decide +kernel
theorem dX9_years_146 : decode cX9_years 146 = .ok (.iinc 2 1, 3) := by decide +kernel
theorem dX9_years_149 : decode cX9_years 149 = .ok (.goto (-122), 3) := by decide +kernel
theorem dX9_years_152 : decode cX9_years 152 = .ok (.aload_n 0, 1) := by decide +kernel
theorem dX9_years_153 : decode cX9_years 153 = .ok (.getfield 30, 3) := by decide +kernel
theorem dX9_years_156 : decode cX9_years 156 = .ok (.getfield 125, 3) := by decide +kernel
theorem dX9_years_159 : decode cX9_years 159 = .ok (.aload_n 0, 1) := by decide +kernel
theorem dX9_years_160 : decode cX9_years 160 = .ok (.getfield 26, 3) := by decide +kernel
theorem dX9_years_163 : decode cX9_years 163 = .ok (.getfield 125, 3) := by decide +kernel
theorem dX9_years_166 : decode cX9_years 166 = .ok (.isub, 1) := by decide +kernel
theorem dX9_years_167 : decode cX9_years 167 = .ok (.ireturn, 1) := by decide +kernel
theorem dX9_keep_0 : decode cX9_keep 0 = .ok (.aload_n 0, 1) := by decide +kernel
theorem dX9_keep_1 : decode cX9_keep 1 = .ok (.getfield 57, 3) := by decide +kernel
theorem dX9_keep_4 : decode cX9_keep 4 = .ok (.iload_n 1, 1) := by decide +kernel
theorem dX9_keep_5 : decode cX9_keep 5 = .ok (.invokevirtual 280, 3) := by decide +kernel
theorem dX9_keep_8 : decode cX9_keep 8 = .ok (.ifCond .ne 5, 3) := by decide +kernel
theorem dX9_keep_11 : decode cX9_keep 11 = .ok (.iconst (-1), 1) := by decide +kernel
theorem dX9_keep_12 : decode cX9_keep 12 = .ok (.ireturn, 1) := by decide +kernel
theorem dX9_keep_13 : decode cX9_keep 13 = .ok (.aload_n 0, 1) := by decide +kernel
theorem dX9_keep_14 : decode cX9_keep 14 = .ok (.getfield 57, 3) := by decide +kernel
theorem dX9_keep_17 : decode cX9_keep 17 = .ok (.iload_n 1, 1) := by decide +kernel
theorem dX9_keep_18 : decode cX9_keep 18 = .ok (.aload_n 0, 1) := by decide +kernel
theorem dX9_keep_19 : decode cX9_keep 19 = .ok (.getfield 26, 3) := by decide +kernel
theorem dX9_keep_22 : decode cX9_keep 22 = .ok (.invokevirtual 283, 3) := by decide +kernel
theorem dX9_keep_25 : decode cX9_keep 25 = .ok (.aload_n 0, 1) := by decide +kernel
theorem dX9_keep_26 : decode cX9_keep 26 = .ok (.getfield 26, 3) := by decide +kernel
theorem dX9_keep_29 : decode cX9_keep 29 = .ok (.getfield 128, 3) := by decide +kernel
theorem dX9_keep_32 : decode cX9_keep 32 = .ok (.ireturn, 1) := by decide +kernel
theorem dX9_again_0 : decode cX9_again 0 = .ok (.aload_n 0, 1) := by decide +kernel
theorem dX9_again_1 : decode cX9_again 1 = .ok (.getfield 57, 3) := by decide +kernel
theorem dX9_again_4 : decode cX9_again 4 = .ok (.iload_n 1, 1) := by decide +kernel
theorem dX9_again_5 : decode cX9_again 5 = .ok (.invokevirtual 280, 3) := by decide +kernel
theorem dX9_again_8 : decode cX9_again 8 = .ok (.ifCond .ne 5, 3) := by decide +kernel
theorem dX9_again_11 : decode cX9_again 11 = .ok (.iconst (-1), 1) := by decide +kernel
theorem dX9_again_12 : decode cX9_again 12 = .ok (.ireturn, 1) := by decide +kernel
theorem dX9_again_13 : decode cX9_again 13 = .ok (.aload_n 0, 1) := by decide +kernel
theorem dX9_again_14 : decode cX9_again 14 = .ok (.getfield 57, 3) := by decide +kernel
theorem dX9_again_17 : decode cX9_again 17 = .ok (.getfield 287, 3) := by decide +kernel
theorem dX9_again_20 : decode cX9_again 20 = .ok (.iload_n 1, 1) := by decide +kernel
theorem dX9_again_21 : decode cX9_again 21 = .ok (.baload, 1) := by decide +kernel
theorem dX9_again_22 : decode cX9_again 22 = .ok (.ifCond .ne 6, 3) := by decide +kernel
theorem dX9_again_25 : decode cX9_again 25 = .ok (.bipush (-3), 2) := by decide +kernel
theorem dX9_again_27 : decode cX9_again 27 = .ok (.ireturn, 1) := by decide +kernel
theorem dX9_again_28 : decode cX9_again 28 = .ok (.aload_n 0, 1) := by decide +kernel
theorem dX9_again_29 : decode cX9_again 29 = .ok (.getfield 57, 3) := by decide +kernel
theorem dX9_again_32 : decode cX9_again 32 = .ok (.iload_n 1, 1) := by decide +kernel
theorem dX9_again_33 : decode cX9_again 33 = .ok (.aload_n 0, 1) := by decide +kernel
theorem dX9_again_34 : decode cX9_again 34 = .ok (.getfield 26, 3) := by decide +kernel
theorem dX9_again_37 : decode cX9_again 37 = .ok (.invokevirtual 291, 3) := by decide +kernel
theorem dX9_again_40 : decode cX9_again 40 = .ok (.aload_n 0, 1) := by decide +kernel
theorem dX9_again_41 : decode cX9_again 41 = .ok (.getfield 50, 3) := by decide +kernel
theorem dX9_again_44 : decode cX9_again 44 = .ok (.invokevirtual 88, 3) := by decide +kernel
theorem dX9_again_47 : decode cX9_again 47 = .ok (.aload_n 0, 1) := by decide +kernel
theorem dX9_again_48 : decode cX9_again 48 = .ok (.getfield 26, 3) := by decide +kernel
theorem dX9_again_51 : decode cX9_again 51 = .ok (.getfield 128, 3) := by decide +kernel
theorem dX9_again_54 : decode cX9_again 54 = .ok (.ireturn, 1) := by decide +kernel
theorem dX9_isWallHeight_0 : decode cX9_isWallHeight 0 = .ok (.iload_n 0, 1) := by decide +kernel
theorem dX9_isWallHeight_1 : decode cX9_isWallHeight 1 = .ok (.iconst 1, 1) := by decide +kernel
theorem dX9_isWallHeight_2 : decode cX9_isWallHeight 2 = .ok (.if_icmp .lt 13, 3) := by decide +kernel
theorem dX9_isWallHeight_5 : decode cX9_isWallHeight 5 = .ok (.iload_n 0, 1) := by decide +kernel
theorem dX9_isWallHeight_6 : decode cX9_isWallHeight 6 = .ok (.bipush 8, 2) := by decide +kernel
theorem dX9_isWallHeight_8 : decode cX9_isWallHeight 8 = .ok (.if_icmp .gt 7, 3) := by decide +kernel
theorem dX9_isWallHeight_11 : decode cX9_isWallHeight 11 = .ok (.iconst 1, 1) := by decide +kernel
theorem dX9_isWallHeight_12 : decode cX9_isWallHeight 12 = .ok (.goto 4, 3) := by decide +kernel
theorem dX9_isWallHeight_15 : decode cX9_isWallHeight 15 = .ok (.iconst 0, 1) := by decide +kernel
theorem dX9_isWallHeight_16 : decode cX9_isWallHeight 16 = .ok (.ireturn, 1) := by decide +kernel
theorem dX9_isRains_0 : decode cX9_isRains 0 = .ok (.iload_n 0, 1) := by decide +kernel
theorem dX9_isRains_1 : decode cX9_isRains 1 = .ok (.ifCond .lt 12, 3) := by decide +kernel
theorem dX9_isRains_4 : decode cX9_isRains 4 = .ok (.iload_n 0, 1) := by decide +kernel
theorem dX9_isRains_5 : decode cX9_isRains 5 = .ok (.iconst 3, 1) := by decide +kernel
theorem dX9_isRains_6 : decode cX9_isRains 6 = .ok (.if_icmp .gt 7, 3) := by decide +kernel
theorem dX9_isRains_9 : decode cX9_isRains 9 = .ok (.iconst 1, 1) := by decide +kernel
theorem dX9_isRains_10 : decode cX9_isRains 10 = .ok (.goto 4, 3) := by decide +kernel
theorem dX9_isRains_13 : decode cX9_isRains 13 = .ok (.iconst 0, 1) := by decide +kernel
theorem dX9_isRains_14 : decode cX9_isRains 14 = .ok (.ireturn, 1) := by decide +kernel
theorem dX9_soundOfComers_0 : decode cX9_soundOfComers 0 = .ok (.iconst 0, 1) := by decide +kernel
theorem dX9_soundOfComers_1 : decode cX9_soundOfComers 1 = .ok (.istore_n 2, 1) := by decide +kernel
theorem dX9_soundOfComers_2 : decode cX9_soundOfComers 2 = .ok (.iload_n 2, 1) := by decide +kernel
theorem dX9_soundOfComers_3 : decode cX9_soundOfComers 3 = .ok (.iconst 5, 1) := by decide +kernel
theorem dX9_soundOfComers_4 : decode cX9_soundOfComers 4 = .ok (.if_icmp .ge 40, 3) := by decide +kernel
theorem dX9_soundOfComers_7 : decode cX9_soundOfComers 7 = .ok (.aload_n 0, 1) := by decide +kernel
theorem dX9_soundOfComers_8 : decode cX9_soundOfComers 8 = .ok (.getfield 43, 3) := by decide +kernel
theorem dX9_soundOfComers_11 : decode cX9_soundOfComers 11 = .ok (.getfield 195, 3) := by decide +kernel
theorem dX9_soundOfComers_14 : decode cX9_soundOfComers 14 = .ok (.iload_n 2, 1) := by decide +kernel
theorem dX9_soundOfComers_15 : decode cX9_soundOfComers 15 = .ok (.iload_n 1, 1) := by decide +kernel
theorem dX9_soundOfComers_16 : decode cX9_soundOfComers 16 = .ok (.iload_n 2, 1) := by decide +kernel
theorem dX9_soundOfComers_17 : decode cX9_soundOfComers 17 = .ok (.ishr, 1) := by decide +kernel
theorem dX9_soundOfComers_18 : decode cX9_soundOfComers 18 = .ok (.iconst 1, 1) := by decide +kernel
theorem dX9_soundOfComers_19 : decode cX9_soundOfComers 19 = .ok (.iand, 1) := by decide +kernel
theorem dX9_soundOfComers_20 : decode cX9_soundOfComers 20 = .ok (.iconst 1, 1) := by decide +kernel
theorem dX9_soundOfComers_21 : decode cX9_soundOfComers 21 = .ok (.if_icmp .ne 15, 3) := by decide +kernel
theorem dX9_soundOfComers_24 : decode cX9_soundOfComers 24 = .ok (.aload_n 0, 1) := by decide +kernel
theorem dX9_soundOfComers_25 : decode cX9_soundOfComers 25 = .ok (.getfield 26, 3) := by decide +kernel
theorem dX9_soundOfComers_28 : decode cX9_soundOfComers 28 = .ok (.getfield 145, 3) := by decide +kernel
theorem dX9_soundOfComers_31 : decode cX9_soundOfComers 31 = .ok (.iload_n 2, 1) := by decide +kernel
theorem dX9_soundOfComers_32 : decode cX9_soundOfComers 32 = .ok (.iaload, 1) := by decide +kernel
theorem dX9_soundOfComers_33 : decode cX9_soundOfComers 33 = .ok (.goto 4, 3) := by decide +kernel
theorem dX9_soundOfComers_36 : decode cX9_soundOfComers 36 = .ok (.iconst 0, 1) := by decide +kernel
theorem dX9_soundOfComers_37 : decode cX9_soundOfComers 37 = .ok (.iastore, 1) := by decide +kernel
theorem dX9_soundOfComers_38 : decode cX9_soundOfComers 38 = .ok (.iinc 2 1, 3) := by decide +kernel
theorem dX9_soundOfComers_41 : decode cX9_soundOfComers 41 = .ok (.goto (-39), 3) := by decide +kernel
theorem dX9_soundOfComers_44 : decode cX9_soundOfComers 44 = .ok (.aload_n 0, 1) := by decide +kernel
theorem dX9_soundOfComers_45 : decode cX9_soundOfComers 45 = .ok (.getfield 36, 3) := by decide +kernel
theorem dX9_soundOfComers_48 : decode cX9_soundOfComers 48 = .ok (.aload_n 0, 1) := by decide +kernel
theorem dX9_soundOfComers_49 : decode cX9_soundOfComers 49 = .ok (.getfield 19, 3) := by decide +kernel
theorem dX9_soundOfComers_52 : decode cX9_soundOfComers 52 = .ok (.aload_n 0, 1) := by decide +kernel
theorem dX9_soundOfComers_53 : decode cX9_soundOfComers 53 = .ok (.getfield 26, 3) := by decide +kernel
theorem dX9_soundOfComers_56 : decode cX9_soundOfComers 56 = .ok (.aload_n 0, 1) := by decide +kernel
theorem dX9_soundOfComers_57 : decode cX9_soundOfComers 57 = .ok (.getfield 43, 3) := by decide +kernel
theorem dX9_soundOfComers_60 : decode cX9_soundOfComers 60 = .ok (.getfield 195, 3) := by decide +kernel
theorem dX9_soundOfComers_63 : decode cX9_soundOfComers 63 = .ok (.invokevirtual 164, 3) := by decide +kernel
theorem dX9_soundOfComers_66 : decode cX9_soundOfComers 66 = .ok (.aload_n 0, 1) := by decide +kernel
theorem dX9_soundOfComers_67 : decode cX9_soundOfComers 67 = .ok (.getfield 36, 3) := by decide +kernel
theorem dX9_soundOfComers_70 : decode cX9_soundOfComers 70 = .ok (.getfield 196, 3) := by decide +kernel
theorem dX9_soundOfComers_73 : decode cX9_soundOfComers 73 = .ok (.ireturn, 1) := by decide +kernel
theorem dX9_ordersBehind_0 : decode cX9_ordersBehind 0 = .ok (.iload_n 1, 1) := by decide +kernel
theorem dX9_ordersBehind_1 : decode cX9_ordersBehind 1 = .ok (.invokestatic 241, 3) := by decide +kernel
theorem dX9_ordersBehind_4 : decode cX9_ordersBehind 4 = .ok (.aload_n 0, 1) := by decide +kernel
theorem dX9_ordersBehind_5 : decode cX9_ordersBehind 5 = .ok (.getfield 19, 3) := by decide +kernel
theorem dX9_ordersBehind_8 : decode cX9_ordersBehind 8 = .ok (.getfield 92, 3) := by decide +kernel
theorem dX9_ordersBehind_11 : decode cX9_ordersBehind 11 = .ok (.iconst 1, 1) := by decide +kernel
theorem dX9_ordersBehind_12 : decode cX9_ordersBehind 12 = .ok (.isub, 1) := by decide +kernel
theorem dX9_ordersBehind_13 : decode cX9_ordersBehind 13 = .ok (.iload_n 1, 1) := by decide +kernel
theorem dX9_ordersBehind_14 : decode cX9_ordersBehind 14 = .ok (.isub, 1) := by decide +kernel
theorem dX9_ordersBehind_15 : decode cX9_ordersBehind 15 = .ok (.invokestatic 241, 3) := by decide +kernel
theorem dX9_ordersBehind_18 : decode cX9_ordersBehind 18 = .ok (.imul, 1) := by decide +kernel
theorem dX9_ordersBehind_19 : decode cX9_ordersBehind 19 = .ok (.ireturn, 1) := by decide +kernel
theorem dX9_factorial_0 : decode cX9_factorial 0 = .ok (.iload_n 0, 1) := by decide +kernel
theorem dX9_factorial_1 : decode cX9_factorial 1 = .ok (.ifCond .lt 19, 3) := by decide +kernel
theorem dX9_factorial_4 : decode cX9_factorial 4 = .ok (.iload_n 0, 1) := by decide +kernel
theorem dX9_factorial_5 : decode cX9_factorial 5 = .ok (.getstatic 294, 3) := by decide +kernel
theorem dX9_factorial_8 : decode cX9_factorial 8 = .ok (.arraylength, 1) := by decide +kernel
theorem dX9_factorial_9 : decode cX9_factorial 9 = .ok (.if_icmp .ge 11, 3) := by decide +kernel
theorem dX9_factorial_12 : decode cX9_factorial 12 = .ok (.getstatic 294, 3) := by decide +kernel
theorem dX9_factorial_15 : decode cX9_factorial 15 = .ok (.iload_n 0, 1) := by decide +kernel
theorem dX9_factorial_16 : decode cX9_factorial 16 = .ok (.iaload, 1) := by decide +kernel
theorem dX9_factorial_17 : decode cX9_factorial 17 = .ok (.goto 4, 3) := by decide +kernel
theorem dX9_factorial_20 : decode cX9_factorial 20 = .ok (.iconst 0, 1) := by decide +kernel
theorem dX9_factorial_21 : decode cX9_factorial 21 = .ok (.ireturn, 1) := by decide +kernel
theorem dX9_overseerRests_0 : decode cX9_overseerRests 0 = .ok (.iconst 0, 1) := by decide +kernel
theorem dX9_overseerRests_1 : decode cX9_overseerRests 1 = .ok (.istore_n 2, 1) := by decide +kernel
theorem dX9_overseerRests_2 : decode cX9_overseerRests 2 = .ok (.iload_n 2, 1) := by decide +kernel
theorem dX9_overseerRests_3 : decode cX9_overseerRests 3 = .ok (.bipush 9, 2) := by decide +kernel
theorem dX9_overseerRests_5 : decode cX9_overseerRests 5 = .ok (.if_icmp .gt 24, 3) := by decide +kernel
theorem dX9_overseerRests_8 : decode cX9_overseerRests 8 = .ok (.iload_n 2, 1) := by decide +kernel
theorem dX9_overseerRests_9 : decode cX9_overseerRests 9 = .ok (.iload_n 1, 1) := by decide +kernel
theorem dX9_overseerRests_10 : decode cX9_overseerRests 10 = .ok (.invokestatic 297, 3) := by decide +kernel
theorem dX9_overseerRests_13 : decode cX9_overseerRests 13 = .ok (.iload_n 0, 1) := by decide +kernel
theorem dX9_overseerRests_14 : decode cX9_overseerRests 14 = .ok (.iload_n 1, 1) := by decide +kernel
theorem dX9_overseerRests_15 : decode cX9_overseerRests 15 = .ok (.invokestatic 297, 3) := by decide +kernel
theorem dX9_overseerRests_18 : decode cX9_overseerRests 18 = .ok (.if_icmp .le 5, 3) := by decide +kernel
theorem dX9_overseerRests_21 : decode cX9_overseerRests 21 = .ok (.iconst 0, 1) := by decide +kernel
theorem dX9_overseerRests_22 : decode cX9_overseerRests 22 = .ok (.ireturn, 1) := by decide +kernel
theorem dX9_overseerRests_23 : decode cX9_overseerRests 23 = .ok (.iinc 2 1, 3) := by decide +kernel
theorem dX9_overseerRests_26 : decode cX9_overseerRests 26 = .ok (.goto (-24), 3) := by decide +kernel
theorem dX9_overseerRests_29 : decode cX9_overseerRests 29 = .ok (.iconst 1, 1) := by decide +kernel
theorem dX9_overseerRests_30 : decode cX9_overseerRests 30 = .ok (.ireturn, 1) := by decide +kernel
theorem dX9_foremanRests_0 : decode cX9_foremanRests 0 = .ok (.iconst 0, 1) := by decide +kernel
theorem dX9_foremanRests_1 : decode cX9_foremanRests 1 = .ok (.istore_n 3, 1) := by decide +kernel
theorem dX9_foremanRests_2 : decode cX9_foremanRests 2 = .ok (.iload_n 3, 1) := by decide +kernel
theorem dX9_foremanRests_3 : decode cX9_foremanRests 3 = .ok (.iload_n 2, 1) := by decide +kernel
theorem dX9_foremanRests_4 : decode cX9_foremanRests 4 = .ok (.if_icmp .gt 24, 3) := by decide +kernel
theorem dX9_foremanRests_7 : decode cX9_foremanRests 7 = .ok (.iload_n 0, 1) := by decide +kernel
theorem dX9_foremanRests_8 : decode cX9_foremanRests 8 = .ok (.iload_n 3, 1) := by decide +kernel
theorem dX9_foremanRests_9 : decode cX9_foremanRests 9 = .ok (.invokestatic 300, 3) := by decide +kernel
theorem dX9_foremanRests_12 : decode cX9_foremanRests 12 = .ok (.iload_n 0, 1) := by decide +kernel
theorem dX9_foremanRests_13 : decode cX9_foremanRests 13 = .ok (.iload_n 1, 1) := by decide +kernel
theorem dX9_foremanRests_14 : decode cX9_foremanRests 14 = .ok (.invokestatic 300, 3) := by decide +kernel
theorem dX9_foremanRests_17 : decode cX9_foremanRests 17 = .ok (.if_icmp .le 5, 3) := by decide +kernel
theorem dX9_foremanRests_20 : decode cX9_foremanRests 20 = .ok (.iconst 0, 1) := by decide +kernel
theorem dX9_foremanRests_21 : decode cX9_foremanRests 21 = .ok (.ireturn, 1) := by decide +kernel
theorem dX9_foremanRests_22 : decode cX9_foremanRests 22 = .ok (.iinc 3 1, 3) := by decide +kernel
theorem dX9_foremanRests_25 : decode cX9_foremanRests 25 = .ok (.goto (-23), 3) := by decide +kernel
theorem dX9_foremanRests_28 : decode cX9_foremanRests 28 = .ok (.iconst 1, 1) := by decide +kernel
theorem dX9_foremanRests_29 : decode cX9_foremanRests 29 = .ok (.ireturn, 1) := by decide +kernel
theorem dX9_overseerHas_0 : decode cX9_overseerHas 0 = .ok (.iload_n 0, 1) := by decide +kernel
theorem dX9_overseerHas_1 : decode cX9_overseerHas 1 = .ok (.iload_n 1, 1) := by decide +kernel
theorem dX9_overseerHas_2 : decode cX9_overseerHas 2 = .ok (.iadd, 1) := by decide +kernel
theorem dX9_overseerHas_3 : decode cX9_overseerHas 3 = .ok (.iconst 3, 1) := by decide +kernel
theorem dX9_overseerHas_4 : decode cX9_overseerHas 4 = .ok (.iconst 0, 1) := by decide +kernel
theorem dX9_overseerHas_5 : decode cX9_overseerHas 5 = .ok (.iload_n 0, 1) := by decide +kernel
theorem dX9_overseerHas_6 : decode cX9_overseerHas 6 = .ok (.iload_n 1, 1) := by decide +kernel
theorem dX9_overseerHas_7 : decode cX9_overseerHas 7 = .ok (.isub, 1) := by decide +kernel
theorem dX9_overseerHas_8 : decode cX9_overseerHas 8 = .ok (.invokestatic 303, 3) := by decide +kernel
theorem dX9_overseerHas_11 : decode cX9_overseerHas 11 = .ok (.imul, 1) := by decide +kernel
theorem dX9_overseerHas_12 : decode cX9_overseerHas 12 = .ok (.isub, 1) := by decide +kernel
theorem dX9_overseerHas_13 : decode cX9_overseerHas 13 = .ok (.ireturn, 1) := by decide +kernel
theorem dX9_foremanHas_0 : decode cX9_foremanHas 0 = .ok (.bipush 9, 2) := by decide +kernel
theorem dX9_foremanHas_2 : decode cX9_foremanHas 2 = .ok (.iload_n 1, 1) := by decide +kernel
theorem dX9_foremanHas_3 : decode cX9_foremanHas 3 = .ok (.isub, 1) := by decide +kernel
theorem dX9_foremanHas_4 : decode cX9_foremanHas 4 = .ok (.iconst 2, 1) := by decide +kernel
theorem dX9_foremanHas_5 : decode cX9_foremanHas 5 = .ok (.iconst 0, 1) := by decide +kernel
theorem dX9_foremanHas_6 : decode cX9_foremanHas 6 = .ok (.iload_n 0, 1) := by decide +kernel
theorem dX9_foremanHas_7 : decode cX9_foremanHas 7 = .ok (.iload_n 1, 1) := by decide +kernel
theorem dX9_foremanHas_8 : decode cX9_foremanHas 8 = .ok (.isub, 1) := by decide +kernel
theorem dX9_foremanHas_9 : decode cX9_foremanHas 9 = .ok (.invokestatic 303, 3) := by decide +kernel
theorem dX9_foremanHas_12 : decode cX9_foremanHas 12 = .ok (.imul, 1) := by decide +kernel
theorem dX9_foremanHas_13 : decode cX9_foremanHas 13 = .ok (.isub, 1) := by decide +kernel
theorem dX9_foremanHas_14 : decode cX9_foremanHas 14 = .ok (.ireturn, 1) := by decide +kernel
theorem dX9_power_0 : decode cX9_power 0 = .ok (.iconst 1, 1) := by decide +kernel
theorem dX9_power_1 : decode cX9_power 1 = .ok (.istore_n 2, 1) := by decide +kernel
theorem dX9_power_2 : decode cX9_power 2 = .ok (.iconst 0, 1) := by decide +kernel
theorem dX9_power_3 : decode cX9_power 3 = .ok (.istore_n 3, 1) := by decide +kernel
theorem dX9_power_4 : decode cX9_power 4 = .ok (.iload_n 3, 1) := by decide +kernel
theorem dX9_power_5 : decode cX9_power 5 = .ok (.iload_n 1, 1) := by decide +kernel
theorem dX9_power_6 : decode cX9_power 6 = .ok (.if_icmp .ge 13, 3) := by decide +kernel
theorem dX9_power_9 : decode cX9_power 9 = .ok (.iload_n 2, 1) := by decide +kernel
theorem dX9_power_10 : decode cX9_power 10 = .ok (.iload_n 0, 1) := by decide +kernel
theorem dX9_power_11 : decode cX9_power 11 = .ok (.imul, 1) := by decide +kernel
theorem dX9_power_12 : decode cX9_power 12 = .ok (.istore_n 2, 1) := by decide +kernel
theorem dX9_power_13 : decode cX9_power 13 = .ok (.iinc 3 1, 3) := by decide +kernel
theorem dX9_power_16 : decode cX9_power 16 = .ok (.goto (-12), 3) := by decide +kernel
theorem dX9_power_19 : decode cX9_power 19 = .ok (.iload_n 2, 1) := by decide +kernel
theorem dX9_power_20 : decode cX9_power 20 = .ok (.ireturn, 1) := by decide +kernel
theorem dX9_fraction_0 : decode cX9_fraction 0 = .ok (.iload_n 2, 1) := by decide +kernel
theorem dX9_fraction_1 : decode cX9_fraction 1 = .ok (.ifCond .eq 7, 3) := by decide +kernel
theorem dX9_fraction_4 : decode cX9_fraction 4 = .ok (.iload_n 0, 1) := by decide +kernel
theorem dX9_fraction_5 : decode cX9_fraction 5 = .ok (.goto 4, 3) := by decide +kernel
theorem dX9_fraction_8 : decode cX9_fraction 8 = .ok (.iload_n 1, 1) := by decide +kernel
theorem dX9_fraction_9 : decode cX9_fraction 9 = .ok (.istore_n 3, 1) := by decide +kernel
theorem dX9_fraction_10 : decode cX9_fraction 10 = .ok (.iload_n 0, 1) := by decide +kernel
theorem dX9_fraction_11 : decode cX9_fraction 11 = .ok (.invokestatic 306, 3) := by decide +kernel
theorem dX9_fraction_14 : decode cX9_fraction 14 = .ok (.iload_n 1, 1) := by decide +kernel
theorem dX9_fraction_15 : decode cX9_fraction 15 = .ok (.invokestatic 309, 3) := by decide +kernel
theorem dX9_fraction_18 : decode cX9_fraction 18 = .ok (.istore 4, 2) := by decide +kernel
theorem dX9_fraction_20 : decode cX9_fraction 20 = .ok (.iload 4, 2) := by decide +kernel
theorem dX9_fraction_22 : decode cX9_fraction 22 = .ok (.ifCond .ne 7, 3) := by decide +kernel
theorem dX9_fraction_25 : decode cX9_fraction 25 = .ok (.iload_n 3, 1) := by decide +kernel
theorem dX9_fraction_26 : decode cX9_fraction 26 = .ok (.goto 7, 3) := by decide +kernel
theorem dX9_fraction_29 : decode cX9_fraction 29 = .ok (.iload_n 3, 1) := by decide +kernel
theorem dX9_fraction_30 : decode cX9_fraction 30 = .ok (.iload 4, 2) := by decide +kernel
theorem dX9_fraction_32 : decode cX9_fraction 32 = .ok (.idiv, 1) := by decide +kernel
theorem dX9_fraction_33 : decode cX9_fraction 33 = .ok (.ireturn, 1) := by decide +kernel
theorem dX9_commonDivisor_0 : decode cX9_commonDivisor 0 = .ok (.iload_n 0, 1) := by decide +kernel
theorem dX9_commonDivisor_1 : decode cX9_commonDivisor 1 = .ok (.istore_n 2, 1) := by decide +kernel
theorem dX9_commonDivisor_2 : decode cX9_commonDivisor 2 = .ok (.iload_n 1, 1) := by decide +kernel
theorem dX9_commonDivisor_3 : decode cX9_commonDivisor 3 = .ok (.istore_n 3, 1) := by decide +kernel
theorem dX9_commonDivisor_4 : decode cX9_commonDivisor 4 = .ok (.iconst 0, 1) := by decide +kernel
theorem dX9_commonDivisor_5 : decode cX9_commonDivisor 5 = .ok (.istore 4, 2) := by decide +kernel
theorem dX9_commonDivisor_7 : decode cX9_commonDivisor 7 = .ok (.iload 4, 2) := by decide +kernel
theorem dX9_commonDivisor_9 : decode cX9_commonDivisor 9 = .ok (.bipush 64, 2) := by decide +kernel
theorem dX9_commonDivisor_11 : decode cX9_commonDivisor 11 = .ok (.if_icmp .ge 23, 3) := by decide +kernel
theorem dX9_commonDivisor_14 : decode cX9_commonDivisor 14 = .ok (.iload_n 3, 1) := by decide +kernel
theorem dX9_commonDivisor_15 : decode cX9_commonDivisor 15 = .ok (.ifCond .eq 19, 3) := by decide +kernel
theorem dX9_commonDivisor_18 : decode cX9_commonDivisor 18 = .ok (.iload_n 2, 1) := by decide +kernel
theorem dX9_commonDivisor_19 : decode cX9_commonDivisor 19 = .ok (.iload_n 3, 1) := by decide +kernel
theorem dX9_commonDivisor_20 : decode cX9_commonDivisor 20 = .ok (.irem, 1) := by decide +kernel
theorem dX9_commonDivisor_21 : decode cX9_commonDivisor 21 = .ok (.istore 5, 2) := by decide +kernel
theorem dX9_commonDivisor_23 : decode cX9_commonDivisor 23 = .ok (.iload_n 3, 1) := by decide +kernel
theorem dX9_commonDivisor_24 : decode cX9_commonDivisor 24 = .ok (.istore_n 2, 1) := by decide +kernel
theorem dX9_commonDivisor_25 : decode cX9_commonDivisor 25 = .ok (.iload 5, 2) := by decide +kernel
theorem dX9_commonDivisor_27 : decode cX9_commonDivisor 27 = .ok (.istore_n 3, 1) := by decide +kernel
theorem dX9_commonDivisor_28 : decode cX9_commonDivisor 28 = .ok (.iinc 4 1, 3) := by decide +kernel
theorem dX9_commonDivisor_31 : decode cX9_commonDivisor 31 = .ok (.goto (-24), 3) := by decide +kernel
theorem dX9_commonDivisor_34 : decode cX9_commonDivisor 34 = .ok (.iload_n 2, 1) := by decide +kernel
theorem dX9_commonDivisor_35 : decode cX9_commonDivisor 35 = .ok (.ireturn, 1) := by decide +kernel
theorem dX10_init_0 : decode cX10_init 0 = .ok (.aload_n 0, 1) := by decide +kernel
theorem dX10_init_1 : decode cX10_init 1 = .ok (.invokespecial 1, 3) := by decide +kernel
theorem dX10_init_4 : decode cX10_init 4 = .ok (.aload_n 0, 1) := by decide +kernel
theorem dX10_init_5 : decode cX10_init 5 = .ok (.bipush 40, 2) := by decide +kernel
theorem dX10_init_7 : decode cX10_init 7 = .ok (.newarray .int, 2) := by decide +kernel
theorem dX10_init_9 : decode cX10_init 9 = .ok (.putfield 7, 3) := by decide +kernel
theorem dX10_init_12 : decode cX10_init 12 = .ok (.aload_n 0, 1) := by decide +kernel
theorem dX10_init_13 : decode cX10_init 13 = .ok (.iconst 5, 1) := by decide +kernel
theorem dX10_init_14 : decode cX10_init 14 = .ok (.newarray .int, 2) := by decide +kernel
theorem dX10_init_16 : decode cX10_init 16 = .ok (.putfield 13, 3) := by decide +kernel
theorem dX10_init_19 : decode cX10_init 19 = .ok (.aload_n 0, 1) := by decide +kernel
theorem dX10_init_20 : decode cX10_init 20 = .ok (.iconst 5, 1) := by decide +kernel
theorem dX10_init_21 : decode cX10_init 21 = .ok (.newarray .int, 2) := by decide +kernel
theorem dX10_init_23 : decode cX10_init 23 = .ok (.putfield 16, 3) := by decide +kernel
theorem dX10_init_26 : decode cX10_init 26 = .ok (.aload_n 0, 1) := by decide +kernel
theorem dX10_init_27 : decode cX10_init 27 = .ok (.iconst 3, 1) := by decide +kernel
theorem dX10_init_28 : decode cX10_init 28 = .ok (.newarray .int, 2) := by decide +kernel
theorem dX10_init_30 : decode cX10_init 30 = .ok (.putfield 19, 3) := by decide +kernel
theorem dX10_init_33 : decode cX10_init 33 = .ok (.aload_n 0, 1) := by decide +kernel
theorem dX10_init_34 : decode cX10_init 34 = .ok (.bipush 10, 2) := by decide +kernel
theorem dX10_init_36 : decode cX10_init 36 = .ok (.newarray .int, 2) := by decide +kernel
theorem dX10_init_38 : decode cX10_init 38 = .ok (.putfield 22, 3) := by decide +kernel
theorem dX10_init_41 : decode cX10_init 41 = .ok (.aload_n 0, 1) := by decide +kernel
theorem dX10_init_42 : decode cX10_init 42 = .ok (.bipush 6, 2) := by decide +kernel
theorem dX10_init_44 : decode cX10_init 44 = .ok (.newarray .int, 2) := by decide +kernel
theorem dX10_init_46 : decode cX10_init 46 = .ok (.putfield 25, 3) := by decide +kernel
theorem dX10_init_49 : decode cX10_init 49 = .ok (.aload_n 0, 1) := by decide +kernel
theorem dX10_init_50 : decode cX10_init 50 = .ok (.bipush 16, 2) := by decide +kernel
theorem dX10_init_52 : decode cX10_init 52 = .ok (.newarray .int, 2) := by decide +kernel
theorem dX10_init_54 : decode cX10_init 54 = .ok (.putfield 28, 3) := by decide +kernel
theorem dX10_init_57 : decode cX10_init 57 = .ok (.aload_n 0, 1) := by decide +kernel
theorem dX10_init_58 : decode cX10_init 58 = .ok (.bipush 16, 2) := by decide +kernel
theorem dX10_init_60 : decode cX10_init 60 = .ok (.newarray .int, 2) := by decide +kernel
theorem dX10_init_62 : decode cX10_init 62 = .ok (.putfield 31, 3) := by decide +kernel
theorem dX10_init_65 : decode cX10_init 65 = .ok (.aload_n 0, 1) := by decide +kernel
theorem dX10_init_66 : decode cX10_init 66 = .ok (.sipush 224, 3) := by decide +kernel
theorem dX10_init_69 : decode cX10_init 69 = .ok (.newarray .int, 2) := by decide +kernel
theorem dX10_init_71 : decode cX10_init 71 = .ok (.putfield 34, 3) := by decide +kernel
theorem dX10_init_74 : decode cX10_init 74 = .ok (.aload_n 0, 1) := by decide +kernel
theorem dX10_init_75 : decode cX10_init 75 = .ok (.bipush 32, 2) := by decide +kernel
theorem dX10_init_77 : decode cX10_init 77 = .ok (.newarray .int, 2) := by decide +kernel
theorem dX10_init_79 : decode cX10_init 79 = .ok (.putfield 37, 3) := by decide +kernel
theorem dX10_init_82 : decode cX10_init 82 = .ok (.aload_n 0, 1) := by decide +kernel
theorem dX10_init_83 : decode cX10_init 83 = .ok (.iconst 2, 1) := by decide +kernel
theorem dX10_init_84 : decode cX10_init 84 = .ok (.newarray .boolean, 2) := by decide +kernel
theorem dX10_init_86 : decode cX10_init 86 = .ok (.putfield 40, 3) := by decide +kernel
theorem dX10_init_89 : decode cX10_init 89 = .ok (.aload_n 0, 1) := by decide +kernel
theorem dX10_init_90 : decode cX10_init 90 = .ok (.bipush 6, 2) := by decide +kernel
theorem dX10_init_92 : decode cX10_init 92 = .ok (.newarray .int, 2) := by decide +kernel
theorem dX10_init_94 : decode cX10_init 94 = .ok (.putfield 44, 3) := by decide +kernel
theorem dX10_init_97 : decode cX10_init 97 = .ok (.aload_n 0, 1) := by decide +kernel
theorem dX10_init_98 : decode cX10_init 98 = .ok (.bipush 6, 2) := by decide +kernel
theorem dX10_init_100 : decode cX10_init 100 = .ok (.newarray .int, 2) := by decide +kernel
theorem dX10_init_102 : decode cX10_init 102 = .ok (.putfield 47, 3) := by decide +kernel
theorem dX10_init_105 : decode cX10_init 105 = .ok (.aload_n 0, 1) := by decide +kernel
theorem dX10_init_106 : decode cX10_init 106 = .ok (.bipush 6, 2) := by decide +kernel
theorem dX10_init_108 : decode cX10_init 108 = .ok (.newarray .int, 2) := by decide +kernel
theorem dX10_init_110 : decode cX10_init 110 = .ok (.putfield 50, 3) := by decide +kernel
theorem dX10_init_113 : decode cX10_init 113 = .ok (.aload_n 0, 1) := by decide +kernel
theorem dX10_init_114 : decode cX10_init 114 = .ok (.bipush 32, 2) := by decide +kernel
theorem dX10_init_116 : decode cX10_init 116 = .ok (.newarray .int, 2) := by decide +kernel
theorem dX10_init_118 : decode cX10_init 118 = .ok (.putfield 53, 3) := by decide +kernel
theorem dX10_init_121 : decode cX10_init 121 = .ok (.return_, 1) := by decide +kernel
theorem dX10_in_0 : decode cX10_in 0 = .ok (.lload_n 0, 1) := by decide +kernel
theorem dX10_in_1 : decode cX10_in 1 = .ok (.lload_n 2, 1) := by decide +kernel
theorem dX10_in_2 : decode cX10_in 2 = .ok (.lcmp, 1) := by decide +kernel
theorem dX10_in_3 : decode cX10_in 3 = .ok (.ifCond .lt 14, 3) := by decide +kernel
theorem dX10_in_6 : decode cX10_in 6 = .ok (.lload_n 0, 1) := by decide +kernel
theorem dX10_in_7 : decode cX10_in 7 = .ok (.lload 4, 2) := by decide +kernel
theorem dX10_in_9 : decode cX10_in 9 = .ok (.lcmp, 1) := by decide +kernel
theorem dX10_in_10 : decode cX10_in 10 = .ok (.ifCond .gt 7, 3) := by decide +kernel
theorem dX10_in_13 : decode cX10_in 13 = .ok (.iconst 1, 1) := by decide +kernel
theorem dX10_in_14 : decode cX10_in 14 = .ok (.goto 4, 3) := by decide +kernel
theorem dX10_in_17 : decode cX10_in 17 = .ok (.iconst 0, 1) := by decide +kernel
theorem dX10_in_18 : decode cX10_in 18 = .ok (.ireturn, 1) := by decide +kernel
theorem dX10_has_0 : decode cX10_has 0 = .ok (.iload_n 0, 1) := by decide +kernel
theorem dX10_has_1 : decode cX10_has 1 = .ok (.iload_n 1, 1) := by decide +kernel
theorem dX10_has_2 : decode cX10_has 2 = .ok (.ishr, 1) := by decide +kernel
theorem dX10_has_3 : decode cX10_has 3 = .ok (.iconst 1, 1) := by decide +kernel
theorem dX10_has_4 : decode cX10_has 4 = .ok (.iand, 1) := by decide +kernel
theorem dX10_has_5 : decode cX10_has 5 = .ok (.iconst 1, 1) := by decide +kernel
theorem dX10_has_6 : decode cX10_has 6 = .ok (.if_icmp .ne 7, 3) := by decide +kernel
theorem dX10_has_9 : decode cX10_has 9 = .ok (.iconst 1, 1) := by decide +kernel
theorem dX10_has_10 : decode cX10_has 10 = .ok (.goto 4, 3) := by decide +kernel
theorem dX10_has_13 : decode cX10_has 13 = .ok (.iconst 0, 1) := by decide +kernel
theorem dX10_has_14 : decode cX10_has 14 = .ok (.ireturn, 1) := by decide +kernel
theorem dX10_many_0 : decode cX10_many 0 = .ok (.iconst 0, 1) := by decide +kernel
theorem dX10_many_1 : decode cX10_many 1 = .ok (.istore_n 1, 1) := by decide +kernel
theorem dX10_many_2 : decode cX10_many 2 = .ok (.iconst 0, 1) := by decide +kernel
theorem dX10_many_3 : decode cX10_many 3 = .ok (.istore_n 2, 1) := by decide +kernel
theorem dX10_many_4 : decode cX10_many 4 = .ok (.iload_n 2, 1) := by decide +kernel
theorem dX10_many_5 : decode cX10_many 5 = .ok (.bipush 8, 2) := by decide +kernel
theorem dX10_many_7 : decode cX10_many 7 = .ok (.if_icmp .ge 17, 3) := by decide +kernel
theorem dX10_many_10 : decode cX10_many 10 = .ok (.iload_n 1, 1) := by decide +kernel
theorem dX10_many_11 : decode cX10_many 11 = .ok (.iload_n 0, 1) := by decide +kernel
theorem dX10_many_12 : decode cX10_many 12 = .ok (.iload_n 2, 1) := by decide +kernel
theorem dX10_many_13 : decode cX10_many 13 = .ok (.ishr, 1) := by decide +kernel
theorem dX10_many_14 : decode cX10_many 14 = .ok (.iconst 1, 1) := by decide +kernel
theorem dX10_many_15 : decode cX10_many 15 = .ok (.iand, 1) := by decide +kernel
theorem dX10_many_16 : decode cX10_many 16 = .ok (.iadd, 1) := by decide +kernel
theorem dX10_many_17 : decode cX10_many 17 = .ok (.istore_n 1, 1) := by decide +kernel
theorem dX10_many_18 : decode cX10_many 18 = .ok (.iinc 2 1, 3) := by decide +kernel
theorem dX10_many_21 : decode cX10_many 21 = .ok (.goto (-17), 3) := by decide +kernel
theorem dX10_many_24 : decode cX10_many 24 = .ok (.iload_n 1, 1) := by decide +kernel
theorem dX10_many_25 : decode cX10_many 25 = .ok (.ireturn, 1) := by decide +kernel
theorem dX10_noHand_0 : decode cX10_noHand 0 = .ok (.iload_n 1, 1) := by decide +kernel
theorem dX10_noHand_1 : decode cX10_noHand 1 = .ok (.i2l, 1) := by decide +kernel
theorem dX10_noHand_2 : decode cX10_noHand 2 = .ok (.lconst 0, 1) := by decide +kernel
theorem dX10_noHand_3 : decode cX10_noHand 3 = .ok (.aload_n 0, 1) := by decide +kernel
theorem dX10_noHand_4 : decode cX10_noHand 4 = .ok (.getfield 60, 3) := by decide +kernel
theorem dX10_noHand_7 : decode cX10_noHand 7 = .ok (.iconst 1, 1) := by decide +kernel
theorem dX10_noHand_8 : decode cX10_noHand 8 = .ok (.isub, 1) := by decide +kernel
theorem dX10_noHand_9 : decode cX10_noHand 9 = .ok (.i2l, 1) := by decide +kernel
theorem dX10_noHand_10 : decode cX10_noHand 10 = .ok (.invokestatic 63, 3) := by decide +kernel
theorem dX10_noHand_13 : decode cX10_noHand 13 = .ok (.ifCond .ne 7, 3) := by decide +kernel
theorem dX10_noHand_16 : decode cX10_noHand 16 = .ok (.iconst 1, 1) := by decide +kernel
theorem dX10_noHand_17 : decode cX10_noHand 17 = .ok (.goto 4, 3) := by decide +kernel
theorem dX10_noHand_20 : decode cX10_noHand 20 = .ok (.iconst 0, 1) := by decide +kernel
theorem dX10_noHand_21 : decode cX10_noHand 21 = .ok (.ireturn, 1) := by decide +kernel
theorem dX10_write_0 : decode cX10_write 0 = .ok (.aload_n 0, 1) := by decide +kernel
theorem dX10_write_1 : decode cX10_write 1 = .ok (.iconst 0, 1) := by decide +kernel
theorem dX10_write_2 : decode cX10_write 2 = .ok (.putfield 56, 3) := by decide +kernel
theorem dX10_write_5 : decode cX10_write 5 = .ok (.iload_n 1, 1) := by decide +kernel
theorem dX10_write_6 : decode cX10_write 6 = .ok (.i2l, 1) := by decide +kernel
theorem dX10_write_7 : decode cX10_write 7 = .ok (.lconst 0, 1) := by decide +kernel
theorem dX10_write_8 : decode cX10_write 8 = .ok (.ldc2_w 67, 3) := by decide +kernel
theorem dX10_write_11 : decode cX10_write 11 = .ok (.invokestatic 63, 3) := by decide +kernel
theorem dX10_write_14 : decode cX10_write 14 = .ok (.ifCond .ne 6, 3) := by decide +kernel
theorem dX10_write_17 : decode cX10_write 17 = .ok (.bipush (-2), 2) := by decide +kernel
theorem dX10_write_19 : decode cX10_write 19 = .ok (.ireturn, 1) := by decide +kernel
theorem dX10_write_20 : decode cX10_write 20 = .ok (.aload_n 0, 1) := by decide +kernel
theorem dX10_write_21 : decode cX10_write 21 = .ok (.getfield 69, 3) := by decide +kernel
theorem dX10_write_24 : decode cX10_write 24 = .ok (.bipush 40, 2) := by decide +kernel
theorem dX10_write_26 : decode cX10_write 26 = .ok (.if_icmp .ne 6, 3) := by decide +kernel
theorem dX10_write_29 : decode cX10_write 29 = .ok (.bipush (-4), 2) := by decide +kernel
theorem dX10_write_31 : decode cX10_write 31 = .ok (.ireturn, 1) := by decide +kernel
theorem dX10_write_32 : decode cX10_write 32 = .ok (.aload_n 0, 1) := by decide +kernel
theorem dX10_write_33 : decode cX10_write 33 = .ok (.getfield 7, 3) := by decide +kernel
theorem dX10_write_36 : decode cX10_write 36 = .ok (.aload_n 0, 1) := by decide +kernel
theorem dX10_write_37 : decode cX10_write 37 = .ok (.getfield 69, 3) := by decide +kernel
theorem dX10_write_40 : decode cX10_write 40 = .ok (.iload_n 1, 1) := by decide +kernel
theorem dX10_write_41 : decode cX10_write 41 = .ok (.iastore, 1) := by decide +kernel
theorem dX10_write_42 : decode cX10_write 42 = .ok (.aload_n 0, 1) := by decide +kernel
theorem dX10_write_43 : decode cX10_write 43 = .ok (.dup, 1) := by decide +kernel
theorem dX10_write_44 : decode cX10_write 44 = .ok (.getfield 69, 3) := by decide +kernel
theorem dX10_write_47 : decode cX10_write 47 = .ok (.iconst 1, 1) := by decide +kernel
theorem dX10_write_48 : decode cX10_write 48 = .ok (.iadd, 1) := by decide +kernel
theorem dX10_write_49 : decode cX10_write 49 = .ok (.putfield 69, 3) := by decide +kernel
theorem dX10_write_52 : decode cX10_write 52 = .ok (.aload_n 0, 1) := by decide +kernel
theorem dX10_write_53 : decode cX10_write 53 = .ok (.getfield 69, 3) := by decide +kernel
theorem dX10_write_56 : decode cX10_write 56 = .ok (.ireturn, 1) := by decide +kernel
theorem dX10_wipe_0 : decode cX10_wipe 0 = .ok (.aload_n 0, 1) := by decide +kernel
theorem dX10_wipe_1 : decode cX10_wipe 1 = .ok (.iconst 0, 1) := by decide +kernel
theorem dX10_wipe_2 : decode cX10_wipe 2 = .ok (.putfield 56, 3) := by decide +kernel
theorem dX10_wipe_5 : decode cX10_wipe 5 = .ok (.aload_n 0, 1) := by decide +kernel
theorem dX10_wipe_6 : decode cX10_wipe 6 = .ok (.getfield 69, 3) := by decide +kernel
theorem dX10_wipe_9 : decode cX10_wipe 9 = .ok (.istore_n 1, 1) := by decide +kernel
theorem dX10_wipe_10 : decode cX10_wipe 10 = .ok (.aload_n 0, 1) := by decide +kernel
theorem dX10_wipe_11 : decode cX10_wipe 11 = .ok (.iconst 0, 1) := by decide +kernel
theorem dX10_wipe_12 : decode cX10_wipe 12 = .ok (.putfield 69, 3) := by decide +kernel
theorem dX10_wipe_15 : decode cX10_wipe 15 = .ok (.iload_n 1, 1) := by decide +kernel
theorem dX10_wipe_16 : decode cX10_wipe 16 = .ok (.ireturn, 1) := by decide +kernel
theorem dX10_figure_0 : decode cX10_figure 0 = .ok (.aload_n 0, 1) := by decide +kernel
theorem dX10_figure_1 : decode cX10_figure 1 = .ok (.getfield 72, 3) := by decide +kernel
theorem dX10_figure_4 : decode cX10_figure 4 = .ok (.aload_n 0, 1) := by decide +kernel
theorem dX10_figure_5 : decode cX10_figure 5 = .ok (.getfield 69, 3) := by decide +kernel
theorem dX10_figure_8 : decode cX10_figure 8 = .ok (.if_icmp .eq 26, 3) := by decide +kernel
theorem dX10_figure_11 : decode cX10_figure 11 = .ok (.aload_n 0, 1) := by decide +kernel
theorem dX10_figure_12 : decode cX10_figure 12 = .ok (.getfield 7, 3) := by decide +kernel
theorem dX10_figure_15 : decode cX10_figure 15 = .ok (.aload_n 0, 1) := by decide +kernel
theorem dX10_figure_16 : decode cX10_figure 16 = .ok (.getfield 72, 3) := by decide +kernel
theorem dX10_figure_19 : decode cX10_figure 19 = .ok (.iaload, 1) := by decide +kernel
theorem dX10_figure_20 : decode cX10_figure 20 = .ok (.bipush 48, 2) := by decide +kernel
theorem dX10_figure_22 : decode cX10_figure 22 = .ok (.isub, 1) := by decide +kernel
theorem dX10_figure_23 : decode cX10_figure 23 = .ok (.i2l, 1) := by decide +kernel
theorem dX10_figure_24 : decode cX10_figure 24 = .ok (.iload_n 1, 1) := by decide +kernel
theorem dX10_figure_25 : decode cX10_figure 25 = .ok (.i2l, 1) := by decide +kernel
theorem dX10_figure_26 : decode cX10_figure 26 = .ok (.iload_n 2, 1) := by decide +kernel
theorem dX10_figure_27 : decode cX10_figure 27 = .ok (.i2l, 1) := by decide +kernel
theorem dX10_figure_28 : decode cX10_figure 28 = .ok (.invokestatic 63, 3) := by decide +kernel
theorem dX10_figure_31 : decode cX10_figure 31 = .ok (.ifCond .ne 6, 3) := by decide +kernel
theorem dX10_figure_34 : decode cX10_figure 34 = .ok (.bipush (-9), 2) := by decide +kernel
theorem dX10_figure_36 : decode cX10_figure 36 = .ok (.ireturn, 1) := by decide +kernel
theorem dX10_figure_37 : decode cX10_figure 37 = .ok (.aload_n 0, 1) := by decide +kernel
theorem dX10_figure_38 : decode cX10_figure 38 = .ok (.dup, 1) := by decide +kernel
theorem dX10_figure_39 : decode cX10_figure 39 = .ok (.getfield 72, 3) := by decide +kernel
theorem dX10_figure_42 : decode cX10_figure 42 = .ok (.iconst 1, 1) := by decide +kernel
theorem dX10_figure_43 : decode cX10_figure 43 = .ok (.iadd, 1) := by decide +kernel
theorem dX10_figure_44 : decode cX10_figure 44 = .ok (.putfield 72, 3) := by decide +kernel
theorem dX10_figure_47 : decode cX10_figure 47 = .ok (.aload_n 0, 1) := by decide +kernel
theorem dX10_figure_48 : decode cX10_figure 48 = .ok (.getfield 7, 3) := by decide +kernel
theorem dX10_figure_51 : decode cX10_figure 51 = .ok (.aload_n 0, 1) := by decide +kernel
theorem dX10_figure_52 : decode cX10_figure 52 = .ok (.getfield 72, 3) := by decide +kernel
theorem dX10_figure_55 : decode cX10_figure 55 = .ok (.iconst 1, 1) := by decide +kernel
theorem dX10_figure_56 : decode cX10_figure 56 = .ok (.isub, 1) := by decide +kernel
theorem dX10_figure_57 : decode cX10_figure 57 = .ok (.iaload, 1) := by decide +kernel
theorem dX10_figure_58 : decode cX10_figure 58 = .ok (.bipush 48, 2) := by decide +kernel
theorem dX10_figure_60 : decode cX10_figure 60 = .ok (.isub, 1) := by decide +kernel
theorem dX10_figure_61 : decode cX10_figure 61 = .ok (.ireturn, 1) := by decide +kernel
theorem dX10_readHand_0 : decode cX10_readHand 0 = .ok (.aload_n 0, 1) := by decide +kernel
theorem dX10_readHand_1 : decode cX10_readHand 1 = .ok (.iconst 1, 1) := by decide +kernel
theorem dX10_readHand_2 : decode cX10_readHand 2 = .ok (.iconst 4, 1) := by decide +kernel
theorem dX10_readHand_3 : decode cX10_readHand 3 = .ok (.invokevirtual 75, 3) := by decide +kernel
theorem dX10_readHand_6 : decode cX10_readHand 6 = .ok (.istore_n 1, 1) := by decide +kernel
theorem dX10_readHand_7 : decode cX10_readHand 7 = .ok (.iload_n 1, 1) := by decide +kernel
theorem dX10_readHand_8 : decode cX10_readHand 8 = .ok (.bipush (-9), 2) := by decide +kernel
theorem dX10_readHand_10 : decode cX10_readHand 10 = .ok (.if_icmp .ne 8, 3) := by decide +kernel
theorem dX10_readHand_13 : decode cX10_readHand 13 = .ok (.bipush (-9), 2) := by decide +kernel
theorem dX10_readHand_15 : decode cX10_readHand 15 = .ok (.goto 9, 3) := by decide +kernel
theorem dX10_readHand_18 : decode cX10_readHand 18 = .ok (.aload_n 0, 1) := by decide +kernel
theorem dX10_readHand_19 : decode cX10_readHand 19 = .ok (.iconst 0, 1) := by decide +kernel
theorem dX10_readHand_20 : decode cX10_readHand 20 = .ok (.iconst 3, 1) := by decide +kernel
theorem dX10_readHand_21 : decode cX10_readHand 21 = .ok (.invokevirtual 75, 3) := by decide +kernel
theorem dX10_readHand_24 : decode cX10_readHand 24 = .ok (.istore_n 2, 1) := by decide +kernel
theorem dX10_readHand_25 : decode cX10_readHand 25 = .ok (.iload_n 2, 1) := by decide +kernel
theorem dX10_readHand_26 : decode cX10_readHand 26 = .ok (.bipush (-9), 2) := by decide +kernel
theorem dX10_readHand_28 : decode cX10_readHand 28 = .ok (.if_icmp .ne 5, 3) := by decide +kernel
theorem dX10_readHand_31 : decode cX10_readHand 31 = .ok (.iconst 0, 1) := by decide +kernel
theorem dX10_readHand_32 : decode cX10_readHand 32 = .ok (.ireturn, 1) := by decide +kernel
theorem dX10_readHand_33 : decode cX10_readHand 33 = .ok (.aload_n 0, 1) := by decide +kernel
theorem dX10_readHand_34 : decode cX10_readHand 34 = .ok (.getfield 22, 3) := by decide +kernel
theorem dX10_readHand_37 : decode cX10_readHand 37 = .ok (.iconst 2, 1) := by decide +kernel
theorem dX10_readHand_38 : decode cX10_readHand 38 = .ok (.aload_n 0, 1) := by decide +kernel
theorem dX10_readHand_39 : decode cX10_readHand 39 = .ok (.getfield 79, 3) := by decide +kernel
theorem dX10_readHand_42 : decode cX10_readHand 42 = .ok (.imul, 1) := by decide +kernel
theorem dX10_readHand_43 : decode cX10_readHand 43 = .ok (.iload_n 1, 1) := by decide +kernel
theorem dX10_readHand_44 : decode cX10_readHand 44 = .ok (.iastore, 1) := by decide +kernel
theorem dX10_readHand_45 : decode cX10_readHand 45 = .ok (.aload_n 0, 1) := by decide +kernel
theorem dX10_readHand_46 : decode cX10_readHand 46 = .ok (.getfield 22, 3) := by decide +kernel
theorem dX10_readHand_49 : decode cX10_readHand 49 = .ok (.iconst 2, 1) := by decide +kernel
theorem dX10_readHand_50 : decode cX10_readHand 50 = .ok (.aload_n 0, 1) := by decide +kernel
theorem dX10_readHand_51 : decode cX10_readHand 51 = .ok (.getfield 79, 3) := by decide +kernel
theorem dX10_readHand_54 : decode cX10_readHand 54 = .ok (.imul, 1) := by decide +kernel
theorem dX10_readHand_55 : decode cX10_readHand 55 = .ok (.iconst 1, 1) := by decide +kernel
theorem dX10_readHand_56 : decode cX10_readHand 56 = .ok (.iadd, 1) := by decide +kernel
theorem dX10_readHand_57 : decode cX10_readHand 57 = .ok (.iload_n 2, 1) := by decide +kernel
theorem dX10_readHand_58 : decode cX10_readHand 58 = .ok (.iastore, 1) := by decide +kernel
theorem dX10_readHand_59 : decode cX10_readHand 59 = .ok (.aload_n 0, 1) := by decide +kernel
theorem dX10_readHand_60 : decode cX10_readHand 60 = .ok (.dup, 1) := by decide +kernel
theorem dX10_readHand_61 : decode cX10_readHand 61 = .ok (.getfield 79, 3) := by decide +kernel
theorem dX10_readHand_64 : decode cX10_readHand 64 = .ok (.iconst 1, 1) := by decide +kernel
theorem dX10_readHand_65 : decode cX10_readHand 65 = .ok (.iadd, 1) := by decide +kernel
theorem dX10_readHand_66 : decode cX10_readHand 66 = .ok (.putfield 79, 3) := by decide +kernel
theorem dX10_readHand_69 : decode cX10_readHand 69 = .ok (.iconst 1, 1) := by decide +kernel
theorem dX10_readHand_70 : decode cX10_readHand 70 = .ok (.ireturn, 1) := by decide +kernel
theorem dX10_readField_0 : decode cX10_readField 0 = .ok (.aload_n 0, 1) := by decide +kernel
theorem dX10_readField_1 : decode cX10_readField 1 = .ok (.iconst 0, 1) := by decide +kernel
theorem dX10_readField_2 : decode cX10_readField 2 = .ok (.iconst 3, 1) := by decide +kernel
theorem dX10_readField_3 : decode cX10_readField 3 = .ok (.invokevirtual 75, 3) := by decide +kernel
theorem dX10_readField_6 : decode cX10_readField 6 = .ok (.istore_n 1, 1) := by decide +kernel
theorem dX10_readField_7 : decode cX10_readField 7 = .ok (.iload_n 1, 1) := by decide +kernel
theorem dX10_readField_8 : decode cX10_readField 8 = .ok (.bipush (-9), 2) := by decide +kernel
theorem dX10_readField_10 : decode cX10_readField 10 = .ok (.if_icmp .ne 8, 3) := by decide +kernel
theorem dX10_readField_13 : decode cX10_readField 13 = .ok (.bipush (-9), 2) := by decide +kernel
theorem dX10_readField_15 : decode cX10_readField 15 = .ok (.goto 10, 3) := by decide +kernel
theorem dX10_readField_18 : decode cX10_readField 18 = .ok (.aload_n 0, 1) := by decide +kernel
theorem dX10_readField_19 : decode cX10_readField 19 = .ok (.iconst 0, 1) := by decide +kernel
theorem dX10_readField_20 : decode cX10_readField 20 = .ok (.bipush 9, 2) := by decide +kernel
theorem dX10_readField_22 : decode cX10_readField 22 = .ok (.invokevirtual 75, 3) := by decide +kernel
theorem dX10_readField_25 : decode cX10_readField 25 = .ok (.istore_n 2, 1) := by decide +kernel
theorem dX10_readField_26 : decode cX10_readField 26 = .ok (.iload_n 2, 1) := by decide +kernel
theorem dX10_readField_27 : decode cX10_readField 27 = .ok (.bipush (-9), 2) := by decide +kernel
theorem dX10_readField_29 : decode cX10_readField 29 = .ok (.if_icmp .ne 5, 3) := by decide +kernel
theorem dX10_readField_32 : decode cX10_readField 32 = .ok (.iconst 0, 1) := by decide +kernel
theorem dX10_readField_33 : decode cX10_readField 33 = .ok (.ireturn, 1) := by decide +kernel
theorem dX10_readField_34 : decode cX10_readField 34 = .ok (.aload_n 0, 1) := by decide +kernel
theorem dX10_readField_35 : decode cX10_readField 35 = .ok (.getfield 25, 3) := by decide +kernel
theorem dX10_readField_38 : decode cX10_readField 38 = .ok (.iconst 2, 1) := by decide +kernel
theorem dX10_readField_39 : decode cX10_readField 39 = .ok (.aload_n 0, 1) := by decide +kernel
theorem dX10_readField_40 : decode cX10_readField 40 = .ok (.getfield 82, 3) := by decide +kernel
theorem dX10_readField_43 : decode cX10_readField 43 = .ok (.imul, 1) := by decide +kernel
theorem dX10_readField_44 : decode cX10_readField 44 = .ok (.iload_n 1, 1) := by decide +kernel
theorem dX10_readField_45 : decode cX10_readField 45 = .ok (.iastore, 1) := by decide +kernel
theorem dX10_readField_46 : decode cX10_readField 46 = .ok (.aload_n 0, 1) := by decide +kernel
theorem dX10_readField_47 : decode cX10_readField 47 = .ok (.getfield 25, 3) := by decide +kernel
theorem dX10_readField_50 : decode cX10_readField 50 = .ok (.iconst 2, 1) := by decide +kernel
theorem dX10_readField_51 : decode cX10_readField 51 = .ok (.aload_n 0, 1) := by decide +kernel
