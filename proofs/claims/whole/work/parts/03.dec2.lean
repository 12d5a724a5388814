theorem dX10_readField_52 : decode cX10_readField 52 = .ok (.getfield 82, 3) := by decide +kernel
theorem dX10_readField_55 : decode cX10_readField 55 = .ok (.imul, 1) := by decide +kernel
theorem dX10_readField_56 : decode cX10_readField 56 = .ok (.iconst 1, 1) := by decide +kernel
theorem dX10_readField_57 : decode cX10_readField 57 = .ok (.iadd, 1) := by decide +kernel
theorem dX10_readField_58 : decode cX10_readField 58 = .ok (.iload_n 2, 1) := by decide +kernel
theorem dX10_readField_59 : decode cX10_readField 59 = .ok (.iastore, 1) := by decide +kernel
theorem dX10_readField_60 : decode cX10_readField 60 = .ok (.aload_n 0, 1) := by decide +kernel
theorem dX10_readField_61 : decode cX10_readField 61 = .ok (.dup, 1) := by decide +kernel
theorem dX10_readField_62 : decode cX10_readField 62 = .ok (.getfield 82, 3) := by decide +kernel
theorem dX10_readField_65 : decode cX10_readField 65 = .ok (.iconst 1, 1) := by decide +kernel
theorem dX10_readField_66 : decode cX10_readField 66 = .ok (.iadd, 1) := by decide +kernel
theorem dX10_readField_67 : decode cX10_readField 67 = .ok (.putfield 82, 3) := by decide +kernel
theorem dX10_readField_70 : decode cX10_readField 70 = .ok (.iconst 1, 1) := by decide +kernel
theorem dX10_readField_71 : decode cX10_readField 71 = .ok (.ireturn, 1) := by decide +kernel
theorem dX10_readPart_0 : decode cX10_readPart 0 = .ok (.aload_n 0, 1) := by decide +kernel
theorem dX10_readPart_1 : decode cX10_readPart 1 = .ok (.getfield 7, 3) := by decide +kernel
theorem dX10_readPart_4 : decode cX10_readPart 4 = .ok (.aload_n 0, 1) := by decide +kernel
theorem dX10_readPart_5 : decode cX10_readPart 5 = .ok (.getfield 72, 3) := by decide +kernel
theorem dX10_readPart_8 : decode cX10_readPart 8 = .ok (.iaload, 1) := by decide +kernel
theorem dX10_readPart_9 : decode cX10_readPart 9 = .ok (.istore_n 1, 1) := by decide +kernel
theorem dX10_readPart_10 : decode cX10_readPart 10 = .ok (.aload_n 0, 1) := by decide +kernel
theorem dX10_readPart_11 : decode cX10_readPart 11 = .ok (.dup, 1) := by decide +kernel
theorem dX10_readPart_12 : decode cX10_readPart 12 = .ok (.getfield 72, 3) := by decide +kernel
theorem dX10_readPart_15 : decode cX10_readPart 15 = .ok (.iconst 1, 1) := by decide +kernel
theorem dX10_readPart_16 : decode cX10_readPart 16 = .ok (.iadd, 1) := by decide +kernel
theorem dX10_readPart_17 : decode cX10_readPart 17 = .ok (.putfield 72, 3) := by decide +kernel
theorem dX10_readPart_20 : decode cX10_readPart 20 = .ok (.iload_n 1, 1) := by decide +kernel
theorem dX10_readPart_21 : decode cX10_readPart 21 = .ok (.bipush 72, 2) := by decide +kernel
theorem dX10_readPart_23 : decode cX10_readPart 23 = .ok (.if_icmp .ne 16, 3) := by decide +kernel
theorem dX10_readPart_26 : decode cX10_readPart 26 = .ok (.aload_n 0, 1) := by decide +kernel
theorem dX10_readPart_27 : decode cX10_readPart 27 = .ok (.getfield 79, 3) := by decide +kernel
theorem dX10_readPart_30 : decode cX10_readPart 30 = .ok (.iconst 5, 1) := by decide +kernel
theorem dX10_readPart_31 : decode cX10_readPart 31 = .ok (.if_icmp .ge 8, 3) := by decide +kernel
theorem dX10_readPart_34 : decode cX10_readPart 34 = .ok (.aload_n 0, 1) := by decide +kernel
theorem dX10_readPart_35 : decode cX10_readPart 35 = .ok (.invokevirtual 85, 3) := by decide +kernel
theorem dX10_readPart_38 : decode cX10_readPart 38 = .ok (.ireturn, 1) := by decide +kernel
theorem dX10_readPart_39 : decode cX10_readPart 39 = .ok (.iload_n 1, 1) := by decide +kernel
theorem dX10_readPart_40 : decode cX10_readPart 40 = .ok (.bipush 70, 2) := by decide +kernel
theorem dX10_readPart_42 : decode cX10_readPart 42 = .ok (.if_icmp .ne 16, 3) := by decide +kernel
theorem dX10_readPart_45 : decode cX10_readPart 45 = .ok (.aload_n 0, 1) := by decide +kernel
theorem dX10_readPart_46 : decode cX10_readPart 46 = .ok (.getfield 82, 3) := by decide +kernel
theorem dX10_readPart_49 : decode cX10_readPart 49 = .ok (.iconst 3, 1) := by decide +kernel
theorem dX10_readPart_50 : decode cX10_readPart 50 = .ok (.if_icmp .ge 8, 3) := by decide +kernel
theorem dX10_readPart_53 : decode cX10_readPart 53 = .ok (.aload_n 0, 1) := by decide +kernel
theorem dX10_readPart_54 : decode cX10_readPart 54 = .ok (.invokevirtual 88, 3) := by decide +kernel
theorem dX10_readPart_57 : decode cX10_readPart 57 = .ok (.ireturn, 1) := by decide +kernel
theorem dX10_readPart_58 : decode cX10_readPart 58 = .ok (.aload_n 0, 1) := by decide +kernel
theorem dX10_readPart_59 : decode cX10_readPart 59 = .ok (.dup, 1) := by decide +kernel
theorem dX10_readPart_60 : decode cX10_readPart 60 = .ok (.getfield 72, 3) := by decide +kernel
theorem dX10_readPart_63 : decode cX10_readPart 63 = .ok (.iconst 1, 1) := by decide +kernel
theorem dX10_readPart_64 : decode cX10_readPart 64 = .ok (.isub, 1) := by decide +kernel
theorem dX10_readPart_65 : decode cX10_readPart 65 = .ok (.putfield 72, 3) := by decide +kernel
theorem dX10_readPart_68 : decode cX10_readPart 68 = .ok (.iconst 0, 1) := by decide +kernel
theorem dX10_readPart_69 : decode cX10_readPart 69 = .ok (.ireturn, 1) := by decide +kernel
theorem dX10_readPit_0 : decode cX10_readPit 0 = .ok (.aload_n 0, 1) := by decide +kernel
theorem dX10_readPit_1 : decode cX10_readPit 1 = .ok (.iconst 0, 1) := by decide +kernel
theorem dX10_readPit_2 : decode cX10_readPit 2 = .ok (.putfield 72, 3) := by decide +kernel
theorem dX10_readPit_5 : decode cX10_readPit 5 = .ok (.aload_n 0, 1) := by decide +kernel
theorem dX10_readPit_6 : decode cX10_readPit 6 = .ok (.iconst 0, 1) := by decide +kernel
theorem dX10_readPit_7 : decode cX10_readPit 7 = .ok (.putfield 79, 3) := by decide +kernel
theorem dX10_readPit_10 : decode cX10_readPit 10 = .ok (.aload_n 0, 1) := by decide +kernel
theorem dX10_readPit_11 : decode cX10_readPit 11 = .ok (.iconst 0, 1) := by decide +kernel
theorem dX10_readPit_12 : decode cX10_readPit 12 = .ok (.putfield 82, 3) := by decide +kernel
theorem dX10_readPit_15 : decode cX10_readPit 15 = .ok (.aload_n 0, 1) := by decide +kernel
theorem dX10_readPit_16 : decode cX10_readPit 16 = .ok (.getfield 69, 3) := by decide +kernel
theorem dX10_readPit_19 : decode cX10_readPit 19 = .ok (.ifCond .eq 14, 3) := by decide +kernel
theorem dX10_readPit_22 : decode cX10_readPit 22 = .ok (.aload_n 0, 1) := by decide +kernel
theorem dX10_readPit_23 : decode cX10_readPit 23 = .ok (.getfield 7, 3) := by decide +kernel
theorem dX10_readPit_26 : decode cX10_readPit 26 = .ok (.iconst 0, 1) := by decide +kernel
theorem dX10_readPit_27 : decode cX10_readPit 27 = .ok (.iaload, 1) := by decide +kernel
theorem dX10_readPit_28 : decode cX10_readPit 28 = .ok (.bipush 66, 2) := by decide +kernel
theorem dX10_readPit_30 : decode cX10_readPit 30 = .ok (.if_icmp .eq 5, 3) := by decide +kernel
theorem dX10_readPit_33 : decode cX10_readPit 33 = .ok (.iconst 0, 1) := by decide +kernel
theorem dX10_readPit_34 : decode cX10_readPit 34 = .ok (.ireturn, 1) := by decide +kernel
theorem dX10_readPit_35 : decode cX10_readPit 35 = .ok (.aload_n 0, 1) := by decide +kernel
theorem dX10_readPit_36 : decode cX10_readPit 36 = .ok (.iconst 1, 1) := by decide +kernel
theorem dX10_readPit_37 : decode cX10_readPit 37 = .ok (.putfield 72, 3) := by decide +kernel
theorem dX10_readPit_40 : decode cX10_readPit 40 = .ok (.aload_n 0, 1) := by decide +kernel
theorem dX10_readPit_41 : decode cX10_readPit 41 = .ok (.aload_n 0, 1) := by decide +kernel
theorem dX10_readPit_42 : decode cX10_readPit 42 = .ok (.iconst 0, 1) := by decide +kernel
theorem dX10_readPit_43 : decode cX10_readPit 43 = .ok (.bipush 9, 2) := by decide +kernel
theorem dX10_readPit_45 : decode cX10_readPit 45 = .ok (.invokevirtual 75, 3) := by decide +kernel
theorem dX10_readPit_48 : decode cX10_readPit 48 = .ok (.putfield 90, 3) := by decide +kernel
theorem dX10_readPit_51 : decode cX10_readPit 51 = .ok (.aload_n 0, 1) := by decide +kernel
theorem dX10_readPit_52 : decode cX10_readPit 52 = .ok (.getfield 90, 3) := by decide +kernel
theorem dX10_readPit_55 : decode cX10_readPit 55 = .ok (.bipush (-9), 2) := by decide +kernel
theorem dX10_readPit_57 : decode cX10_readPit 57 = .ok (.if_icmp .ne 8, 3) := by decide +kernel
theorem dX10_readPit_60 : decode cX10_readPit 60 = .ok (.aload_n 0, 1) := by decide +kernel
theorem dX10_readPit_61 : decode cX10_readPit 61 = .ok (.getfield 72, 3) := by decide +kernel
theorem dX10_readPit_64 : decode cX10_readPit 64 = .ok (.ireturn, 1) := by decide +kernel
theorem dX10_readPit_65 : decode cX10_readPit 65 = .ok (.aload_n 0, 1) := by decide +kernel
theorem dX10_readPit_66 : decode cX10_readPit 66 = .ok (.getfield 72, 3) := by decide +kernel
theorem dX10_readPit_69 : decode cX10_readPit 69 = .ok (.aload_n 0, 1) := by decide +kernel
theorem dX10_readPit_70 : decode cX10_readPit 70 = .ok (.getfield 69, 3) := by decide +kernel
theorem dX10_readPit_73 : decode cX10_readPit 73 = .ok (.if_icmp .ge 15, 3) := by decide +kernel
theorem dX10_readPit_76 : decode cX10_readPit 76 = .ok (.aload_n 0, 1) := by decide +kernel
theorem dX10_readPit_77 : decode cX10_readPit 77 = .ok (.invokevirtual 93, 3) := by decide +kernel
theorem dX10_readPit_80 : decode cX10_readPit 80 = .ok (.ifCond .ne (-15), 3) := by decide +kernel
theorem dX10_readPit_83 : decode cX10_readPit 83 = .ok (.aload_n 0, 1) := by decide +kernel
theorem dX10_readPit_84 : decode cX10_readPit 84 = .ok (.getfield 72, 3) := by decide +kernel
theorem dX10_readPit_87 : decode cX10_readPit 87 = .ok (.ireturn, 1) := by decide +kernel
theorem dX10_readPit_88 : decode cX10_readPit 88 = .ok (.bipush (-9), 2) := by decide +kernel
theorem dX10_readPit_90 : decode cX10_readPit 90 = .ok (.ireturn, 1) := by decide +kernel
theorem dX10_fault_0 : decode cX10_fault 0 = .ok (.aload_n 0, 1) := by decide +kernel
theorem dX10_fault_1 : decode cX10_fault 1 = .ok (.iconst 0, 1) := by decide +kernel
theorem dX10_fault_2 : decode cX10_fault 2 = .ok (.putfield 56, 3) := by decide +kernel
theorem dX10_fault_5 : decode cX10_fault 5 = .ok (.aload_n 0, 1) := by decide +kernel
theorem dX10_fault_6 : decode cX10_fault 6 = .ok (.invokevirtual 96, 3) := by decide +kernel
theorem dX10_fault_9 : decode cX10_fault 9 = .ok (.ireturn, 1) := by decide +kernel
theorem dX10_pit_0 : decode cX10_pit 0 = .ok (.aload_n 0, 1) := by decide +kernel
theorem dX10_pit_1 : decode cX10_pit 1 = .ok (.iconst 0, 1) := by decide +kernel
theorem dX10_pit_2 : decode cX10_pit 2 = .ok (.putfield 56, 3) := by decide +kernel
theorem dX10_pit_5 : decode cX10_pit 5 = .ok (.aload_n 0, 1) := by decide +kernel
theorem dX10_pit_6 : decode cX10_pit 6 = .ok (.invokevirtual 96, 3) := by decide +kernel
theorem dX10_pit_9 : decode cX10_pit 9 = .ok (.bipush (-9), 2) := by decide +kernel
theorem dX10_pit_11 : decode cX10_pit 11 = .ok (.if_icmp .eq 6, 3) := by decide +kernel
theorem dX10_pit_14 : decode cX10_pit 14 = .ok (.bipush (-3), 2) := by decide +kernel
theorem dX10_pit_16 : decode cX10_pit 16 = .ok (.ireturn, 1) := by decide +kernel
theorem dX10_pit_17 : decode cX10_pit 17 = .ok (.aload_n 0, 1) := by decide +kernel
theorem dX10_pit_18 : decode cX10_pit 18 = .ok (.aload_n 0, 1) := by decide +kernel
theorem dX10_pit_19 : decode cX10_pit 19 = .ok (.getfield 90, 3) := by decide +kernel
theorem dX10_pit_22 : decode cX10_pit 22 = .ok (.putfield 100, 3) := by decide +kernel
theorem dX10_pit_25 : decode cX10_pit 25 = .ok (.aload_n 0, 1) := by decide +kernel
theorem dX10_pit_26 : decode cX10_pit 26 = .ok (.aload_n 0, 1) := by decide +kernel
theorem dX10_pit_27 : decode cX10_pit 27 = .ok (.getfield 79, 3) := by decide +kernel
theorem dX10_pit_30 : decode cX10_pit 30 = .ok (.putfield 60, 3) := by decide +kernel
theorem dX10_pit_33 : decode cX10_pit 33 = .ok (.aload_n 0, 1) := by decide +kernel
theorem dX10_pit_34 : decode cX10_pit 34 = .ok (.aload_n 0, 1) := by decide +kernel
theorem dX10_pit_35 : decode cX10_pit 35 = .ok (.getfield 82, 3) := by decide +kernel
theorem dX10_pit_38 : decode cX10_pit 38 = .ok (.putfield 103, 3) := by decide +kernel
theorem dX10_pit_41 : decode cX10_pit 41 = .ok (.iconst 0, 1) := by decide +kernel
theorem dX10_pit_42 : decode cX10_pit 42 = .ok (.istore_n 1, 1) := by decide +kernel
theorem dX10_pit_43 : decode cX10_pit 43 = .ok (.iload_n 1, 1) := by decide +kernel
theorem dX10_pit_44 : decode cX10_pit 44 = .ok (.bipush 16, 2) := by decide +kernel
theorem dX10_pit_46 : decode cX10_pit 46 = .ok (.if_icmp .ge 16, 3) := by decide +kernel
theorem dX10_pit_49 : decode cX10_pit 49 = .ok (.aload_n 0, 1) := by decide +kernel
theorem dX10_pit_50 : decode cX10_pit 50 = .ok (.getfield 28, 3) := by decide +kernel
theorem dX10_pit_53 : decode cX10_pit 53 = .ok (.iload_n 1, 1) := by decide +kernel
theorem dX10_pit_54 : decode cX10_pit 54 = .ok (.iconst 0, 1) := by decide +kernel
theorem dX10_pit_55 : decode cX10_pit 55 = .ok (.iastore, 1) := by decide +kernel
theorem dX10_pit_56 : decode cX10_pit 56 = .ok (.iinc 1 1, 3) := by decide +kernel
theorem dX10_pit_59 : decode cX10_pit 59 = .ok (.goto (-16), 3) := by decide +kernel
theorem dX10_pit_62 : decode cX10_pit 62 = .ok (.iconst 0, 1) := by decide +kernel
theorem dX10_pit_63 : decode cX10_pit 63 = .ok (.istore_n 1, 1) := by decide +kernel
theorem dX10_pit_64 : decode cX10_pit 64 = .ok (.iload_n 1, 1) := by decide +kernel
theorem dX10_pit_65 : decode cX10_pit 65 = .ok (.aload_n 0, 1) := by decide +kernel
theorem dX10_pit_66 : decode cX10_pit 66 = .ok (.getfield 60, 3) := by decide +kernel
theorem dX10_pit_69 : decode cX10_pit 69 = .ok (.if_icmp .ge 39, 3) := by decide +kernel
theorem dX10_pit_72 : decode cX10_pit 72 = .ok (.aload_n 0, 1) := by decide +kernel
theorem dX10_pit_73 : decode cX10_pit 73 = .ok (.getfield 13, 3) := by decide +kernel
theorem dX10_pit_76 : decode cX10_pit 76 = .ok (.iload_n 1, 1) := by decide +kernel
theorem dX10_pit_77 : decode cX10_pit 77 = .ok (.aload_n 0, 1) := by decide +kernel
theorem dX10_pit_78 : decode cX10_pit 78 = .ok (.getfield 22, 3) := by decide +kernel
theorem dX10_pit_81 : decode cX10_pit 81 = .ok (.iconst 2, 1) := by decide +kernel
theorem dX10_pit_82 : decode cX10_pit 82 = .ok (.iload_n 1, 1) := by decide +kernel
theorem dX10_pit_83 : decode cX10_pit 83 = .ok (.imul, 1) := by decide +kernel
theorem dX10_pit_84 : decode cX10_pit 84 = .ok (.iaload, 1) := by decide +kernel
theorem dX10_pit_85 : decode cX10_pit 85 = .ok (.iastore, 1) := by decide +kernel
theorem dX10_pit_86 : decode cX10_pit 86 = .ok (.aload_n 0, 1) := by decide +kernel
theorem dX10_pit_87 : decode cX10_pit 87 = .ok (.getfield 16, 3) := by decide +kernel
theorem dX10_pit_90 : decode cX10_pit 90 = .ok (.iload_n 1, 1) := by decide +kernel
theorem dX10_pit_91 : decode cX10_pit 91 = .ok (.aload_n 0, 1) := by decide +kernel
theorem dX10_pit_92 : decode cX10_pit 92 = .ok (.getfield 22, 3) := by decide +kernel
theorem dX10_pit_95 : decode cX10_pit 95 = .ok (.iconst 2, 1) := by decide +kernel
theorem dX10_pit_96 : decode cX10_pit 96 = .ok (.iload_n 1, 1) := by decide +kernel
theorem dX10_pit_97 : decode cX10_pit 97 = .ok (.imul, 1) := by decide +kernel
theorem dX10_pit_98 : decode cX10_pit 98 = .ok (.iconst 1, 1) := by decide +kernel
theorem dX10_pit_99 : decode cX10_pit 99 = .ok (.iadd, 1) := by decide +kernel
theorem dX10_pit_100 : decode cX10_pit 100 = .ok (.iaload, 1) := by decide +kernel
theorem dX10_pit_101 : decode cX10_pit 101 = .ok (.iastore, 1) := by decide +kernel
theorem dX10_pit_102 : decode cX10_pit 102 = .ok (.iinc 1 1, 3) := by decide +kernel
theorem dX10_pit_105 : decode cX10_pit 105 = .ok (.goto (-41), 3) := by decide +kernel
theorem dX10_pit_108 : decode cX10_pit 108 = .ok (.iconst 0, 1) := by decide +kernel
theorem dX10_pit_109 : decode cX10_pit 109 = .ok (.istore_n 1, 1) := by decide +kernel
theorem dX10_pit_110 : decode cX10_pit 110 = .ok (.iload_n 1, 1) := by decide +kernel
theorem dX10_pit_111 : decode cX10_pit 111 = .ok (.aload_n 0, 1) := by decide +kernel
theorem dX10_pit_112 : decode cX10_pit 112 = .ok (.getfield 103, 3) := by decide +kernel
theorem dX10_pit_115 : decode cX10_pit 115 = .ok (.if_icmp .ge 41, 3) := by decide +kernel
theorem dX10_pit_118 : decode cX10_pit 118 = .ok (.aload_n 0, 1) := by decide +kernel
theorem dX10_pit_119 : decode cX10_pit 119 = .ok (.getfield 19, 3) := by decide +kernel
theorem dX10_pit_122 : decode cX10_pit 122 = .ok (.iload_n 1, 1) := by decide +kernel
theorem dX10_pit_123 : decode cX10_pit 123 = .ok (.aload_n 0, 1) := by decide +kernel
theorem dX10_pit_124 : decode cX10_pit 124 = .ok (.getfield 25, 3) := by decide +kernel
theorem dX10_pit_127 : decode cX10_pit 127 = .ok (.iconst 2, 1) := by decide +kernel
theorem dX10_pit_128 : decode cX10_pit 128 = .ok (.iload_n 1, 1) := by decide +kernel
theorem dX10_pit_129 : decode cX10_pit 129 = .ok (.imul, 1) := by decide +kernel
theorem dX10_pit_130 : decode cX10_pit 130 = .ok (.iaload, 1) := by decide +kernel
theorem dX10_pit_131 : decode cX10_pit 131 = .ok (.iastore, 1) := by decide +kernel
theorem dX10_pit_132 : decode cX10_pit 132 = .ok (.aload_n 0, 1) := by decide +kernel
theorem dX10_pit_133 : decode cX10_pit 133 = .ok (.getfield 28, 3) := by decide +kernel
theorem dX10_pit_136 : decode cX10_pit 136 = .ok (.iconst 5, 1) := by decide +kernel
theorem dX10_pit_137 : decode cX10_pit 137 = .ok (.iload_n 1, 1) := by decide +kernel
theorem dX10_pit_138 : decode cX10_pit 138 = .ok (.iadd, 1) := by decide +kernel
theorem dX10_pit_139 : decode cX10_pit 139 = .ok (.aload_n 0, 1) := by decide +kernel
theorem dX10_pit_140 : decode cX10_pit 140 = .ok (.getfield 25, 3) := by decide +kernel
theorem dX10_pit_143 : decode cX10_pit 143 = .ok (.iconst 2, 1) := by decide +kernel
theorem dX10_pit_144 : decode cX10_pit 144 = .ok (.iload_n 1, 1) := by decide +kernel
theorem dX10_pit_145 : decode cX10_pit 145 = .ok (.imul, 1) := by decide +kernel
theorem dX10_pit_146 : decode cX10_pit 146 = .ok (.iconst 1, 1) := by decide +kernel
theorem dX10_pit_147 : decode cX10_pit 147 = .ok (.iadd, 1) := by decide +kernel
theorem dX10_pit_148 : decode cX10_pit 148 = .ok (.iaload, 1) := by decide +kernel
theorem dX10_pit_149 : decode cX10_pit 149 = .ok (.iastore, 1) := by decide +kernel
theorem dX10_pit_150 : decode cX10_pit 150 = .ok (.iinc 1 1, 3) := by decide +kernel
theorem dX10_pit_153 : decode cX10_pit 153 = .ok (.goto (-43), 3) := by decide +kernel
theorem dX10_pit_156 : decode cX10_pit 156 = .ok (.aload_n 0, 1) := by decide +kernel
theorem dX10_pit_157 : decode cX10_pit 157 = .ok (.iconst 0, 1) := by decide +kernel
theorem dX10_pit_158 : decode cX10_pit 158 = .ok (.putfield 106, 3) := by decide +kernel
theorem dX10_pit_161 : decode cX10_pit 161 = .ok (.aload_n 0, 1) := by decide +kernel
theorem dX10_pit_162 : decode cX10_pit 162 = .ok (.getfield 40, 3) := by decide +kernel
theorem dX10_pit_165 : decode cX10_pit 165 = .ok (.iconst 0, 1) := by decide +kernel
theorem dX10_pit_166 : decode cX10_pit 166 = .ok (.iconst 0, 1) := by decide +kernel
theorem dX10_pit_167 : decode cX10_pit 167 = .ok (.bastore, 1) := by decide +kernel
theorem dX10_pit_168 : decode cX10_pit 168 = .ok (.aload_n 0, 1) := by decide +kernel
theorem dX10_pit_169 : decode cX10_pit 169 = .ok (.getfield 40, 3) := by decide +kernel
theorem dX10_pit_172 : decode cX10_pit 172 = .ok (.iconst 1, 1) := by decide +kernel
theorem dX10_pit_173 : decode cX10_pit 173 = .ok (.iconst 0, 1) := by decide +kernel
theorem dX10_pit_174 : decode cX10_pit 174 = .ok (.bastore, 1) := by decide +kernel
theorem dX10_pit_175 : decode cX10_pit 175 = .ok (.bipush 10, 2) := by decide +kernel
theorem dX10_pit_177 : decode cX10_pit 177 = .ok (.aload_n 0, 1) := by decide +kernel
theorem dX10_pit_178 : decode cX10_pit 178 = .ok (.getfield 60, 3) := by decide +kernel
theorem dX10_pit_181 : decode cX10_pit 181 = .ok (.imul, 1) := by decide +kernel
theorem dX10_pit_182 : decode cX10_pit 182 = .ok (.aload_n 0, 1) := by decide +kernel
theorem dX10_pit_183 : decode cX10_pit 183 = .ok (.getfield 103, 3) := by decide +kernel
theorem dX10_pit_186 : decode cX10_pit 186 = .ok (.iadd, 1) := by decide +kernel
theorem dX10_pit_187 : decode cX10_pit 187 = .ok (.ireturn, 1) := by decide +kernel
theorem dX10_moulds_0 : decode cX10_moulds 0 = .ok (.aload_n 0, 1) := by decide +kernel
theorem dX10_moulds_1 : decode cX10_moulds 1 = .ok (.getfield 16, 3) := by decide +kernel
theorem dX10_moulds_4 : decode cX10_moulds 4 = .ok (.iload_n 1, 1) := by decide +kernel
theorem dX10_moulds_5 : decode cX10_moulds 5 = .ok (.iaload, 1) := by decide +kernel
theorem dX10_moulds_6 : decode cX10_moulds 6 = .ok (.tableswitch 46 1 3 #[26, 35, 44], 26) := by decide +kernel
theorem dX10_moulds_32 : decode cX10_moulds 32 = .ok (.aload_n 0, 1) := by decide +kernel
theorem dX10_moulds_33 : decode cX10_moulds 33 = .ok (.getfield 13, 3) := by decide +kernel
theorem dX10_moulds_36 : decode cX10_moulds 36 = .ok (.iload_n 1, 1) := by decide +kernel
theorem dX10_moulds_37 : decode cX10_moulds 37 = .ok (.iaload, 1) := by decide +kernel
theorem dX10_moulds_38 : decode cX10_moulds 38 = .ok (.iconst 2, 1) := by decide +kernel
theorem dX10_moulds_39 : decode cX10_moulds 39 = .ok (.iadd, 1) := by decide +kernel
theorem dX10_moulds_40 : decode cX10_moulds 40 = .ok (.ireturn, 1) := by decide +kernel
theorem dX10_moulds_41 : decode cX10_moulds 41 = .ok (.aload_n 0, 1) := by decide +kernel
theorem dX10_moulds_42 : decode cX10_moulds 42 = .ok (.getfield 13, 3) := by decide +kernel
theorem dX10_moulds_45 : decode cX10_moulds 45 = .ok (.iload_n 1, 1) := by decide +kernel
theorem dX10_moulds_46 : decode cX10_moulds 46 = .ok (.iaload, 1) := by decide +kernel
theorem dX10_moulds_47 : decode cX10_moulds 47 = .ok (.iconst 1, 1) := by decide +kernel
theorem dX10_moulds_48 : decode cX10_moulds 48 = .ok (.isub, 1) := by decide +kernel
theorem dX10_moulds_49 : decode cX10_moulds 49 = .ok (.ireturn, 1) := by decide +kernel
theorem dX10_moulds_50 : decode cX10_moulds 50 = .ok (.iconst 0, 1) := by decide +kernel
theorem dX10_moulds_51 : decode cX10_moulds 51 = .ok (.ireturn, 1) := by decide +kernel
theorem dX10_moulds_52 : decode cX10_moulds 52 = .ok (.aload_n 0, 1) := by decide +kernel
theorem dX10_moulds_53 : decode cX10_moulds 53 = .ok (.getfield 13, 3) := by decide +kernel
theorem dX10_moulds_56 : decode cX10_moulds 56 = .ok (.iload_n 1, 1) := by decide +kernel
theorem dX10_moulds_57 : decode cX10_moulds 57 = .ok (.iaload, 1) := by decide +kernel
theorem dX10_moulds_58 : decode cX10_moulds 58 = .ok (.ireturn, 1) := by decide +kernel
theorem dX10_gathers_0 : decode cX10_gathers 0 = .ok (.aload_n 0, 1) := by decide +kernel
theorem dX10_gathers_1 : decode cX10_gathers 1 = .ok (.getfield 13, 3) := by decide +kernel
theorem dX10_gathers_4 : decode cX10_gathers 4 = .ok (.iload_n 1, 1) := by decide +kernel
theorem dX10_gathers_5 : decode cX10_gathers 5 = .ok (.iaload, 1) := by decide +kernel
theorem dX10_gathers_6 : decode cX10_gathers 6 = .ok (.aload_n 0, 1) := by decide +kernel
theorem dX10_gathers_7 : decode cX10_gathers 7 = .ok (.getfield 19, 3) := by decide +kernel
theorem dX10_gathers_10 : decode cX10_gathers 10 = .ok (.iload_n 2, 1) := by decide +kernel
theorem dX10_gathers_11 : decode cX10_gathers 11 = .ok (.iaload, 1) := by decide +kernel
theorem dX10_gathers_12 : decode cX10_gathers 12 = .ok (.isub, 1) := by decide +kernel
theorem dX10_gathers_13 : decode cX10_gathers 13 = .ok (.aload_n 0, 1) := by decide +kernel
theorem dX10_gathers_14 : decode cX10_gathers 14 = .ok (.getfield 16, 3) := by decide +kernel
theorem dX10_gathers_17 : decode cX10_gathers 17 = .ok (.iload_n 1, 1) := by decide +kernel
theorem dX10_gathers_18 : decode cX10_gathers 18 = .ok (.iaload, 1) := by decide +kernel
theorem dX10_gathers_19 : decode cX10_gathers 19 = .ok (.iconst 2, 1) := by decide +kernel
theorem dX10_gathers_20 : decode cX10_gathers 20 = .ok (.if_icmp .ne 7, 3) := by decide +kernel
theorem dX10_gathers_23 : decode cX10_gathers 23 = .ok (.iconst 1, 1) := by decide +kernel
theorem dX10_gathers_24 : decode cX10_gathers 24 = .ok (.goto 4, 3) := by decide +kernel
theorem dX10_gathers_27 : decode cX10_gathers 27 = .ok (.iconst 0, 1) := by decide +kernel
theorem dX10_gathers_28 : decode cX10_gathers 28 = .ok (.isub, 1) := by decide +kernel
theorem dX10_gathers_29 : decode cX10_gathers 29 = .ok (.istore_n 3, 1) := by decide +kernel
theorem dX10_gathers_30 : decode cX10_gathers 30 = .ok (.iload_n 3, 1) := by decide +kernel
theorem dX10_gathers_31 : decode cX10_gathers 31 = .ok (.ifCond .ge 7, 3) := by decide +kernel
theorem dX10_gathers_34 : decode cX10_gathers 34 = .ok (.iconst 0, 1) := by decide +kernel
theorem dX10_gathers_35 : decode cX10_gathers 35 = .ok (.goto 4, 3) := by decide +kernel
theorem dX10_gathers_38 : decode cX10_gathers 38 = .ok (.iload_n 3, 1) := by decide +kernel
theorem dX10_gathers_39 : decode cX10_gathers 39 = .ok (.ireturn, 1) := by decide +kernel
theorem dX10_goWork_0 : decode cX10_goWork 0 = .ok (.iconst 0, 1) := by decide +kernel
theorem dX10_goWork_1 : decode cX10_goWork 1 = .ok (.istore_n 2, 1) := by decide +kernel
theorem dX10_goWork_2 : decode cX10_goWork 2 = .ok (.iconst 0, 1) := by decide +kernel
theorem dX10_goWork_3 : decode cX10_goWork 3 = .ok (.istore_n 3, 1) := by decide +kernel
theorem dX10_goWork_4 : decode cX10_goWork 4 = .ok (.iload_n 3, 1) := by decide +kernel
theorem dX10_goWork_5 : decode cX10_goWork 5 = .ok (.aload_n 0, 1) := by decide +kernel
theorem dX10_goWork_6 : decode cX10_goWork 6 = .ok (.getfield 60, 3) := by decide +kernel
theorem dX10_goWork_9 : decode cX10_goWork 9 = .ok (.if_icmp .ge 98, 3) := by decide +kernel
theorem dX10_goWork_12 : decode cX10_goWork 12 = .ok (.aload_n 1, 1) := by decide +kernel
theorem dX10_goWork_13 : decode cX10_goWork 13 = .ok (.iconst 0, 1) := by decide +kernel
theorem dX10_goWork_14 : decode cX10_goWork 14 = .ok (.iload_n 3, 1) := by decide +kernel
theorem dX10_goWork_15 : decode cX10_goWork 15 = .ok (.iadd, 1) := by decide +kernel
theorem dX10_goWork_16 : decode cX10_goWork 16 = .ok (.iaload, 1) := by decide +kernel
theorem dX10_goWork_17 : decode cX10_goWork 17 = .ok (.iconst 2, 1) := by decide +kernel
theorem dX10_goWork_18 : decode cX10_goWork 18 = .ok (.isub, 1) := by decide +kernel
theorem dX10_goWork_19 : decode cX10_goWork 19 = .ok (.istore 4, 2) := by decide +kernel
theorem dX10_goWork_21 : decode cX10_goWork 21 = .ok (.iload 4, 2) := by decide +kernel
theorem dX10_goWork_23 : decode cX10_goWork 23 = .ok (.ifCond .lt 57, 3) := by decide +kernel
theorem dX10_goWork_26 : decode cX10_goWork 26 = .ok (.aload_n 0, 1) := by decide +kernel
theorem dX10_goWork_27 : decode cX10_goWork 27 = .ok (.iload_n 3, 1) := by decide +kernel
theorem dX10_goWork_28 : decode cX10_goWork 28 = .ok (.iload 4, 2) := by decide +kernel
theorem dX10_goWork_30 : decode cX10_goWork 30 = .ok (.invokevirtual 109, 3) := by decide +kernel
theorem dX10_goWork_33 : decode cX10_goWork 33 = .ok (.aload_n 1, 1) := by decide +kernel
theorem dX10_goWork_34 : decode cX10_goWork 34 = .ok (.iconst 5, 1) := by decide +kernel
theorem dX10_goWork_35 : decode cX10_goWork 35 = .ok (.iload 4, 2) := by decide +kernel
theorem dX10_goWork_37 : decode cX10_goWork 37 = .ok (.iadd, 1) := by decide +kernel
theorem dX10_goWork_38 : decode cX10_goWork 38 = .ok (.iaload, 1) := by decide +kernel
theorem dX10_goWork_39 : decode cX10_goWork 39 = .ok (.if_icmp .ge 13, 3) := by decide +kernel
theorem dX10_goWork_42 : decode cX10_goWork 42 = .ok (.aload_n 0, 1) := by decide +kernel
theorem dX10_goWork_43 : decode cX10_goWork 43 = .ok (.iload_n 3, 1) := by decide +kernel
theorem dX10_goWork_44 : decode cX10_goWork 44 = .ok (.iload 4, 2) := by decide +kernel
theorem dX10_goWork_46 : decode cX10_goWork 46 = .ok (.invokevirtual 109, 3) := by decide +kernel
theorem dX10_goWork_49 : decode cX10_goWork 49 = .ok (.goto 9, 3) := by decide +kernel
theorem dX10_goWork_52 : decode cX10_goWork 52 = .ok (.aload_n 1, 1) := by decide +kernel
theorem dX10_goWork_53 : decode cX10_goWork 53 = .ok (.iconst 5, 1) := by decide +kernel
theorem dX10_goWork_54 : decode cX10_goWork 54 = .ok (.iload 4, 2) := by decide +kernel
theorem dX10_goWork_56 : decode cX10_goWork 56 = .ok (.iadd, 1) := by decide +kernel
theorem dX10_goWork_57 : decode cX10_goWork 57 = .ok (.iaload, 1) := by decide +kernel
theorem dX10_goWork_58 : decode cX10_goWork 58 = .ok (.istore 5, 2) := by decide +kernel
theorem dX10_goWork_60 : decode cX10_goWork 60 = .ok (.aload_n 1, 1) := by decide +kernel
theorem dX10_goWork_61 : decode cX10_goWork 61 = .ok (.iconst 5, 1) := by decide +kernel
theorem dX10_goWork_62 : decode cX10_goWork 62 = .ok (.iload 4, 2) := by decide +kernel
theorem dX10_goWork_64 : decode cX10_goWork 64 = .ok (.iadd, 1) := by decide +kernel
theorem dX10_goWork_65 : decode cX10_goWork 65 = .ok (.dup2, 1) := by decide +kernel
theorem dX10_goWork_66 : decode cX10_goWork 66 = .ok (.iaload, 1) := by decide +kernel
theorem dX10_goWork_67 : decode cX10_goWork 67 = .ok (.iload 5, 2) := by decide +kernel
theorem dX10_goWork_69 : decode cX10_goWork 69 = .ok (.isub, 1) := by decide +kernel
theorem dX10_goWork_70 : decode cX10_goWork 70 = .ok (.iastore, 1) := by decide +kernel
theorem dX10_goWork_71 : decode cX10_goWork 71 = .ok (.aload_n 1, 1) := by decide +kernel
theorem dX10_goWork_72 : decode cX10_goWork 72 = .ok (.bipush 8, 2) := by decide +kernel
theorem dX10_goWork_74 : decode cX10_goWork 74 = .ok (.dup2, 1) := by decide +kernel
theorem dX10_goWork_75 : decode cX10_goWork 75 = .ok (.iaload, 1) := by decide +kernel
theorem dX10_goWork_76 : decode cX10_goWork 76 = .ok (.iload 5, 2) := by decide +kernel
theorem dX10_goWork_78 : decode cX10_goWork 78 = .ok (.iadd, 1) := by decide +kernel
theorem dX10_goWork_79 : decode cX10_goWork 79 = .ok (.iastore, 1) := by decide +kernel
theorem dX10_goWork_80 : decode cX10_goWork 80 = .ok (.iload_n 2, 1) := by decide +kernel
theorem dX10_goWork_81 : decode cX10_goWork 81 = .ok (.aload_n 1, 1) := by decide +kernel
theorem dX10_goWork_82 : decode cX10_goWork 82 = .ok (.iconst 0, 1) := by decide +kernel
theorem dX10_goWork_83 : decode cX10_goWork 83 = .ok (.iload_n 3, 1) := by decide +kernel
theorem dX10_goWork_84 : decode cX10_goWork 84 = .ok (.iadd, 1) := by decide +kernel
theorem dX10_goWork_85 : decode cX10_goWork 85 = .ok (.iaload, 1) := by decide +kernel
theorem dX10_goWork_86 : decode cX10_goWork 86 = .ok (.iconst 1, 1) := by decide +kernel
theorem dX10_goWork_87 : decode cX10_goWork 87 = .ok (.if_icmp .ne 11, 3) := by decide +kernel
theorem dX10_goWork_90 : decode cX10_goWork 90 = .ok (.aload_n 0, 1) := by decide +kernel
theorem dX10_goWork_91 : decode cX10_goWork 91 = .ok (.iload_n 3, 1) := by decide +kernel
theorem dX10_goWork_92 : decode cX10_goWork 92 = .ok (.invokevirtual 112, 3) := by decide +kernel
theorem dX10_goWork_95 : decode cX10_goWork 95 = .ok (.goto 4, 3) := by decide +kernel
theorem dX10_goWork_98 : decode cX10_goWork 98 = .ok (.iconst 0, 1) := by decide +kernel
theorem dX10_goWork_99 : decode cX10_goWork 99 = .ok (.iadd, 1) := by decide +kernel
theorem dX10_goWork_100 : decode cX10_goWork 100 = .ok (.istore_n 2, 1) := by decide +kernel
theorem dX10_goWork_101 : decode cX10_goWork 101 = .ok (.iinc 3 1, 3) := by decide +kernel
theorem dX10_goWork_104 : decode cX10_goWork 104 = .ok (.goto (-100), 3) := by decide +kernel
theorem dX10_goWork_107 : decode cX10_goWork 107 = .ok (.aload_n 0, 1) := by decide +kernel
theorem dX10_goWork_108 : decode cX10_goWork 108 = .ok (.iload_n 2, 1) := by decide +kernel
theorem dX10_goWork_109 : decode cX10_goWork 109 = .ok (.bipush 9, 2) := by decide +kernel
theorem dX10_goWork_111 : decode cX10_goWork 111 = .ok (.if_icmp .le 8, 3) := by decide +kernel
theorem dX10_goWork_114 : decode cX10_goWork 114 = .ok (.bipush 9, 2) := by decide +kernel
theorem dX10_goWork_116 : decode cX10_goWork 116 = .ok (.goto 4, 3) := by decide +kernel
theorem dX10_goWork_119 : decode cX10_goWork 119 = .ok (.iload_n 2, 1) := by decide +kernel
theorem dX10_goWork_120 : decode cX10_goWork 120 = .ok (.putfield 116, 3) := by decide +kernel
theorem dX10_goWork_123 : decode cX10_goWork 123 = .ok (.aload_n 0, 1) := by decide +kernel
theorem dX10_goWork_124 : decode cX10_goWork 124 = .ok (.aload_n 0, 1) := by decide +kernel
theorem dX10_goWork_125 : decode cX10_goWork 125 = .ok (.getfield 116, 3) := by decide +kernel
theorem dX10_goWork_128 : decode cX10_goWork 128 = .ok (.aload_n 1, 1) := by decide +kernel
theorem dX10_goWork_129 : decode cX10_goWork 129 = .ok (.bipush 8, 2) := by decide +kernel
theorem dX10_goWork_131 : decode cX10_goWork 131 = .ok (.iaload, 1) := by decide +kernel
theorem dX10_goWork_132 : decode cX10_goWork 132 = .ok (.if_icmp .ge 10, 3) := by decide +kernel
theorem dX10_goWork_135 : decode cX10_goWork 135 = .ok (.aload_n 0, 1) := by decide +kernel
theorem dX10_goWork_136 : decode cX10_goWork 136 = .ok (.getfield 116, 3) := by decide +kernel
theorem dX10_goWork_139 : decode cX10_goWork 139 = .ok (.goto 7, 3) := by decide +kernel
theorem dX10_goWork_142 : decode cX10_goWork 142 = .ok (.aload_n 1, 1) := by decide +kernel
theorem dX10_goWork_143 : decode cX10_goWork 143 = .ok (.bipush 8, 2) := by decide +kernel
theorem dX10_goWork_145 : decode cX10_goWork 145 = .ok (.iaload, 1) := by decide +kernel
theorem dX10_goWork_146 : decode cX10_goWork 146 = .ok (.putfield 119, 3) := by decide +kernel
theorem dX10_goWork_149 : decode cX10_goWork 149 = .ok (.aload_n 1, 1) := by decide +kernel
theorem dX10_goWork_150 : decode cX10_goWork 150 = .ok (.bipush 8, 2) := by decide +kernel
theorem dX10_goWork_152 : decode cX10_goWork 152 = .ok (.dup2, 1) := by decide +kernel
theorem dX10_goWork_153 : decode cX10_goWork 153 = .ok (.iaload, 1) := by decide +kernel
theorem dX10_goWork_154 : decode cX10_goWork 154 = .ok (.aload_n 0, 1) := by decide +kernel
theorem dX10_goWork_155 : decode cX10_goWork 155 = .ok (.getfield 119, 3) := by decide +kernel
theorem dX10_goWork_158 : decode cX10_goWork 158 = .ok (.isub, 1) := by decide +kernel
theorem dX10_goWork_159 : decode cX10_goWork 159 = .ok (.iastore, 1) := by decide +kernel
theorem dX10_goWork_160 : decode cX10_goWork 160 = .ok (.aload_n 1, 1) := by decide +kernel
theorem dX10_goWork_161 : decode cX10_goWork 161 = .ok (.bipush 9, 2) := by decide +kernel
theorem dX10_goWork_163 : decode cX10_goWork 163 = .ok (.dup2, 1) := by decide +kernel
theorem dX10_goWork_164 : decode cX10_goWork 164 = .ok (.iaload, 1) := by decide +kernel
theorem dX10_goWork_165 : decode cX10_goWork 165 = .ok (.aload_n 0, 1) := by decide +kernel
theorem dX10_goWork_166 : decode cX10_goWork 166 = .ok (.getfield 119, 3) := by decide +kernel
theorem dX10_goWork_169 : decode cX10_goWork 169 = .ok (.iadd, 1) := by decide +kernel
theorem dX10_goWork_170 : decode cX10_goWork 170 = .ok (.iastore, 1) := by decide +kernel
theorem dX10_goWork_171 : decode cX10_goWork 171 = .ok (.aload_n 1, 1) := by decide +kernel
theorem dX10_goWork_172 : decode cX10_goWork 172 = .ok (.bipush 10, 2) := by decide +kernel
theorem dX10_goWork_174 : decode cX10_goWork 174 = .ok (.dup2, 1) := by decide +kernel
theorem dX10_goWork_175 : decode cX10_goWork 175 = .ok (.iaload, 1) := by decide +kernel
theorem dX10_goWork_176 : decode cX10_goWork 176 = .ok (.aload_n 0, 1) := by decide +kernel
theorem dX10_goWork_177 : decode cX10_goWork 177 = .ok (.getfield 116, 3) := by decide +kernel
theorem dX10_goWork_180 : decode cX10_goWork 180 = .ok (.aload_n 0, 1) := by decide +kernel
theorem dX10_goWork_181 : decode cX10_goWork 181 = .ok (.getfield 119, 3) := by decide +kernel
theorem dX10_goWork_184 : decode cX10_goWork 184 = .ok (.isub, 1) := by decide +kernel
theorem dX10_goWork_185 : decode cX10_goWork 185 = .ok (.iadd, 1) := by decide +kernel
theorem dX10_goWork_186 : decode cX10_goWork 186 = .ok (.iastore, 1) := by decide +kernel
theorem dX10_goWork_187 : decode cX10_goWork 187 = .ok (.return_, 1) := by decide +kernel
theorem dX10_goDay_0 : decode cX10_goDay 0 = .ok (.aload_n 0, 1) := by decide +kernel
theorem dX10_goDay_1 : decode cX10_goDay 1 = .ok (.aload_n 1, 1) := by decide +kernel
theorem dX10_goDay_2 : decode cX10_goDay 2 = .ok (.invokevirtual 122, 3) := by decide +kernel
theorem dX10_goDay_5 : decode cX10_goDay 5 = .ok (.aload_n 0, 1) := by decide +kernel
theorem dX10_goDay_6 : decode cX10_goDay 6 = .ok (.getfield 100, 3) := by decide +kernel
theorem dX10_goDay_9 : decode cX10_goDay 9 = .ok (.aload_n 0, 1) := by decide +kernel
theorem dX10_goDay_10 : decode cX10_goDay 10 = .ok (.getfield 116, 3) := by decide +kernel
theorem dX10_goDay_13 : decode cX10_goDay 13 = .ok (.isub, 1) := by decide +kernel
theorem dX10_goDay_14 : decode cX10_goDay 14 = .ok (.aload_n 1, 1) := by decide +kernel
theorem dX10_goDay_15 : decode cX10_goDay 15 = .ok (.bipush 11, 2) := by decide +kernel
theorem dX10_goDay_17 : decode cX10_goDay 17 = .ok (.iaload, 1) := by decide +kernel
theorem dX10_goDay_18 : decode cX10_goDay 18 = .ok (.isub, 1) := by decide +kernel
theorem dX10_goDay_19 : decode cX10_goDay 19 = .ok (.istore_n 2, 1) := by decide +kernel
theorem dX10_goDay_20 : decode cX10_goDay 20 = .ok (.iload_n 2, 1) := by decide +kernel
theorem dX10_goDay_21 : decode cX10_goDay 21 = .ok (.ifCond .ge 7, 3) := by decide +kernel
theorem dX10_goDay_24 : decode cX10_goDay 24 = .ok (.iconst 0, 1) := by decide +kernel
theorem dX10_goDay_25 : decode cX10_goDay 25 = .ok (.goto 4, 3) := by decide +kernel
theorem dX10_goDay_28 : decode cX10_goDay 28 = .ok (.iload_n 2, 1) := by decide +kernel
theorem dX10_goDay_29 : decode cX10_goDay 29 = .ok (.istore_n 2, 1) := by decide +kernel
theorem dX10_goDay_30 : decode cX10_goDay 30 = .ok (.aload_n 1, 1) := by decide +kernel
theorem dX10_goDay_31 : decode cX10_goDay 31 = .ok (.bipush 14, 2) := by decide +kernel
theorem dX10_goDay_33 : decode cX10_goDay 33 = .ok (.dup2, 1) := by decide +kernel
theorem dX10_goDay_34 : decode cX10_goDay 34 = .ok (.iaload, 1) := by decide +kernel
theorem dX10_goDay_35 : decode cX10_goDay 35 = .ok (.iload_n 2, 1) := by decide +kernel
theorem dX10_goDay_36 : decode cX10_goDay 36 = .ok (.iadd, 1) := by decide +kernel
theorem dX10_goDay_37 : decode cX10_goDay 37 = .ok (.iastore, 1) := by decide +kernel
theorem dX10_goDay_38 : decode cX10_goDay 38 = .ok (.aload_n 1, 1) := by decide +kernel
theorem dX10_goDay_39 : decode cX10_goDay 39 = .ok (.bipush 11, 2) := by decide +kernel
theorem dX10_goDay_41 : decode cX10_goDay 41 = .ok (.iconst 0, 1) := by decide +kernel
theorem dX10_goDay_42 : decode cX10_goDay 42 = .ok (.iastore, 1) := by decide +kernel
theorem dX10_goDay_43 : decode cX10_goDay 43 = .ok (.aload_n 1, 1) := by decide +kernel
theorem dX10_goDay_44 : decode cX10_goDay 44 = .ok (.bipush 15, 2) := by decide +kernel
theorem dX10_goDay_46 : decode cX10_goDay 46 = .ok (.dup2, 1) := by decide +kernel
theorem dX10_goDay_47 : decode cX10_goDay 47 = .ok (.iaload, 1) := by decide +kernel
theorem dX10_goDay_48 : decode cX10_goDay 48 = .ok (.iconst 1, 1) := by decide +kernel
theorem dX10_goDay_49 : decode cX10_goDay 49 = .ok (.iadd, 1) := by decide +kernel
theorem dX10_goDay_50 : decode cX10_goDay 50 = .ok (.iastore, 1) := by decide +kernel
theorem dX10_goDay_51 : decode cX10_goDay 51 = .ok (.iload_n 2, 1) := by decide +kernel
theorem dX10_goDay_52 : decode cX10_goDay 52 = .ok (.ireturn, 1) := by decide +kernel
theorem dX10_about_0 : decode cX10_about 0 = .ok (.aload_n 0, 1) := by decide +kernel
theorem dX10_about_1 : decode cX10_about 1 = .ok (.iconst 0, 1) := by decide +kernel
theorem dX10_about_2 : decode cX10_about 2 = .ok (.putfield 56, 3) := by decide +kernel
theorem dX10_about_5 : decode cX10_about 5 = .ok (.iload_n 1, 1) := by decide +kernel
theorem dX10_about_6 : decode cX10_about 6 = .ok (.tableswitch 164 0 13 #[70, 75, 80, 85, 93, 101, 109, 117, 125, 133, 141, 149, 154, 159], 70) := by decide +kernel
theorem dX10_about_76 : decode cX10_about 76 = .ok (.aload_n 0, 1) := by decide +kernel
theorem dX10_about_77 : decode cX10_about 77 = .ok (.getfield 60, 3) := by decide +kernel
theorem dX10_about_80 : decode cX10_about 80 = .ok (.ireturn, 1) := by decide +kernel
theorem dX10_about_81 : decode cX10_about 81 = .ok (.aload_n 0, 1) := by decide +kernel
theorem dX10_about_82 : decode cX10_about 82 = .ok (.getfield 103, 3) := by decide +kernel
theorem dX10_about_85 : decode cX10_about 85 = .ok (.ireturn, 1) := by decide +kernel
theorem dX10_about_86 : decode cX10_about 86 = .ok (.aload_n 0, 1) := by decide +kernel
theorem dX10_about_87 : decode cX10_about 87 = .ok (.getfield 100, 3) := by decide +kernel
theorem dX10_about_90 : decode cX10_about 90 = .ok (.ireturn, 1) := by decide +kernel
theorem dX10_about_91 : decode cX10_about 91 = .ok (.aload_n 0, 1) := by decide +kernel
theorem dX10_about_92 : decode cX10_about 92 = .ok (.getfield 28, 3) := by decide +kernel
theorem dX10_about_95 : decode cX10_about 95 = .ok (.bipush 8, 2) := by decide +kernel
theorem dX10_about_97 : decode cX10_about 97 = .ok (.iaload, 1) := by decide +kernel
theorem dX10_about_98 : decode cX10_about 98 = .ok (.ireturn, 1) := by decide +kernel
theorem dX10_about_99 : decode cX10_about 99 = .ok (.aload_n 0, 1) := by decide +kernel
theorem dX10_about_100 : decode cX10_about 100 = .ok (.getfield 28, 3) := by decide +kernel
theorem dX10_about_103 : decode cX10_about 103 = .ok (.bipush 9, 2) := by decide +kernel
theorem dX10_about_105 : decode cX10_about 105 = .ok (.iaload, 1) := by decide +kernel
theorem dX10_about_106 : decode cX10_about 106 = .ok (.ireturn, 1) := by decide +kernel
theorem dX10_about_107 : decode cX10_about 107 = .ok (.aload_n 0, 1) := by decide +kernel
theorem dX10_about_108 : decode cX10_about 108 = .ok (.getfield 28, 3) := by decide +kernel
theorem dX10_about_111 : decode cX10_about 111 = .ok (.bipush 10, 2) := by decide +kernel
theorem dX10_about_113 : decode cX10_about 113 = .ok (.iaload, 1) := by decide +kernel
theorem dX10_about_114 : decode cX10_about 114 = .ok (.ireturn, 1) := by decide +kernel
theorem dX10_about_115 : decode cX10_about 115 = .ok (.aload_n 0, 1) := by decide +kernel
theorem dX10_about_116 : decode cX10_about 116 = .ok (.getfield 28, 3) := by decide +kernel
theorem dX10_about_119 : decode cX10_about 119 = .ok (.bipush 11, 2) := by decide +kernel
theorem dX10_about_121 : decode cX10_about 121 = .ok (.iaload, 1) := by decide +kernel
theorem dX10_about_122 : decode cX10_about 122 = .ok (.ireturn, 1) := by decide +kernel
theorem dX10_about_123 : decode cX10_about 123 = .ok (.aload_n 0, 1) := by decide +kernel
theorem dX10_about_124 : decode cX10_about 124 = .ok (.getfield 28, 3) := by decide +kernel
theorem dX10_about_127 : decode cX10_about 127 = .ok (.bipush 12, 2) := by decide +kernel
theorem dX10_about_129 : decode cX10_about 129 = .ok (.iaload, 1) := by decide +kernel
theorem dX10_about_130 : decode cX10_about 130 = .ok (.ireturn, 1) := by decide +kernel
theorem dX10_about_131 : decode cX10_about 131 = .ok (.aload_n 0, 1) := by decide +kernel
theorem dX10_about_132 : decode cX10_about 132 = .ok (.getfield 28, 3) := by decide +kernel
theorem dX10_about_135 : decode cX10_about 135 = .ok (.bipush 13, 2) := by decide +kernel
theorem dX10_about_137 : decode cX10_about 137 = .ok (.iaload, 1) := by decide +kernel
theorem dX10_about_138 : decode cX10_about 138 = .ok (.ireturn, 1) := by decide +kernel
theorem dX10_about_139 : decode cX10_about 139 = .ok (.aload_n 0, 1) := by decide +kernel
theorem dX10_about_140 : decode cX10_about 140 = .ok (.getfield 28, 3) := by decide +kernel
theorem dX10_about_143 : decode cX10_about 143 = .ok (.bipush 14, 2) := by decide +kernel
theorem dX10_about_145 : decode cX10_about 145 = .ok (.iaload, 1) := by decide +kernel
theorem dX10_about_146 : decode cX10_about 146 = .ok (.ireturn, 1) := by decide +kernel
theorem dX10_about_147 : decode cX10_about 147 = .ok (.aload_n 0, 1) := by decide +kernel
theorem dX10_about_148 : decode cX10_about 148 = .ok (.getfield 28, 3) := by decide +kernel
theorem dX10_about_151 : decode cX10_about 151 = .ok (.bipush 15, 2) := by decide +kernel
theorem dX10_about_153 : decode cX10_about 153 = .ok (.iaload, 1) := by decide +kernel
theorem dX10_about_154 : decode cX10_about 154 = .ok (.ireturn, 1) := by decide +kernel
theorem dX10_about_155 : decode cX10_about 155 = .ok (.aload_n 0, 1) := by decide +kernel
theorem dX10_about_156 : decode cX10_about 156 = .ok (.getfield 106, 3) := by decide +kernel
theorem dX10_about_159 : decode cX10_about 159 = .ok (.ireturn, 1) := by decide +kernel
theorem dX10_about_160 : decode cX10_about 160 = .ok (.aload_n 0, 1) := by decide +kernel
theorem dX10_about_161 : decode cX10_about 161 = .ok (.getfield 126, 3) := by decide +kernel
theorem dX10_about_164 : decode cX10_about 164 = .ok (.ireturn, 1) := by decide +kernel
theorem dX10_about_165 : decode cX10_about 165 = .ok (.aload_n 0, 1) := by decide +kernel
theorem dX10_about_166 : decode cX10_about 166 = .ok (.getfield 69, 3) := by decide +kernel
theorem dX10_about_169 : decode cX10_about 169 = .ok (.ireturn, 1) := by decide +kernel
theorem dX10_about_170 : decode cX10_about 170 = .ok (.bipush (-2), 2) := by decide +kernel
theorem dX10_about_172 : decode cX10_about 172 = .ok (.ireturn, 1) := by decide +kernel
theorem dX10_hand_0 : decode cX10_hand 0 = .ok (.aload_n 0, 1) := by decide +kernel
theorem dX10_hand_1 : decode cX10_hand 1 = .ok (.iconst 0, 1) := by decide +kernel
theorem dX10_hand_2 : decode cX10_hand 2 = .ok (.putfield 56, 3) := by decide +kernel
theorem dX10_hand_5 : decode cX10_hand 5 = .ok (.aload_n 0, 1) := by decide +kernel
theorem dX10_hand_6 : decode cX10_hand 6 = .ok (.iload_n 1, 1) := by decide +kernel
theorem dX10_hand_7 : decode cX10_hand 7 = .ok (.invokevirtual 129, 3) := by decide +kernel
theorem dX10_hand_10 : decode cX10_hand 10 = .ok (.ifCond .eq 5, 3) := by decide +kernel
theorem dX10_hand_13 : decode cX10_hand 13 = .ok (.iconst (-1), 1) := by decide +kernel
theorem dX10_hand_14 : decode cX10_hand 14 = .ok (.ireturn, 1) := by decide +kernel
theorem dX10_hand_15 : decode cX10_hand 15 = .ok (.iload_n 2, 1) := by decide +kernel
theorem dX10_hand_16 : decode cX10_hand 16 = .ok (.tableswitch 61 0 3 #[32, 39, 46, 55], 32) := by decide +kernel
theorem dX10_hand_48 : decode cX10_hand 48 = .ok (.aload_n 0, 1) := by decide +kernel
theorem dX10_hand_49 : decode cX10_hand 49 = .ok (.getfield 13, 3) := by decide +kernel
theorem dX10_hand_52 : decode cX10_hand 52 = .ok (.iload_n 1, 1) := by decide +kernel
theorem dX10_hand_53 : decode cX10_hand 53 = .ok (.iaload, 1) := by decide +kernel
theorem dX10_hand_54 : decode cX10_hand 54 = .ok (.ireturn, 1) := by decide +kernel
theorem dX10_hand_55 : decode cX10_hand 55 = .ok (.aload_n 0, 1) := by decide +kernel
theorem dX10_hand_56 : decode cX10_hand 56 = .ok (.getfield 16, 3) := by decide +kernel
theorem dX10_hand_59 : decode cX10_hand 59 = .ok (.iload_n 1, 1) := by decide +kernel
theorem dX10_hand_60 : decode cX10_hand 60 = .ok (.iaload, 1) := by decide +kernel
theorem dX10_hand_61 : decode cX10_hand 61 = .ok (.ireturn, 1) := by decide +kernel
theorem dX10_hand_62 : decode cX10_hand 62 = .ok (.aload_n 0, 1) := by decide +kernel
theorem dX10_hand_63 : decode cX10_hand 63 = .ok (.getfield 28, 3) := by decide +kernel
theorem dX10_hand_66 : decode cX10_hand 66 = .ok (.iconst 0, 1) := by decide +kernel
theorem dX10_hand_67 : decode cX10_hand 67 = .ok (.iload_n 1, 1) := by decide +kernel
theorem dX10_hand_68 : decode cX10_hand 68 = .ok (.iadd, 1) := by decide +kernel
theorem dX10_hand_69 : decode cX10_hand 69 = .ok (.iaload, 1) := by decide +kernel
theorem dX10_hand_70 : decode cX10_hand 70 = .ok (.ireturn, 1) := by decide +kernel
theorem dX10_hand_71 : decode cX10_hand 71 = .ok (.aload_n 0, 1) := by decide +kernel
theorem dX10_hand_72 : decode cX10_hand 72 = .ok (.iload_n 1, 1) := by decide +kernel
theorem dX10_hand_73 : decode cX10_hand 73 = .ok (.invokevirtual 112, 3) := by decide +kernel
theorem dX10_hand_76 : decode cX10_hand 76 = .ok (.ireturn, 1) := by decide +kernel
theorem dX10_hand_77 : decode cX10_hand 77 = .ok (.bipush (-2), 2) := by decide +kernel
theorem dX10_hand_79 : decode cX10_hand 79 = .ok (.ireturn, 1) := by decide +kernel
theorem dX10_field_0 : decode cX10_field 0 = .ok (.aload_n 0, 1) := by decide +kernel
theorem dX10_field_1 : decode cX10_field 1 = .ok (.iconst 0, 1) := by decide +kernel
theorem dX10_field_2 : decode cX10_field 2 = .ok (.putfield 56, 3) := by decide +kernel
theorem dX10_field_5 : decode cX10_field 5 = .ok (.iload_n 1, 1) := by decide +kernel
theorem dX10_field_6 : decode cX10_field 6 = .ok (.i2l, 1) := by decide +kernel
theorem dX10_field_7 : decode cX10_field 7 = .ok (.lconst 0, 1) := by decide +kernel
theorem dX10_field_8 : decode cX10_field 8 = .ok (.aload_n 0, 1) := by decide +kernel
theorem dX10_field_9 : decode cX10_field 9 = .ok (.getfield 103, 3) := by decide +kernel
theorem dX10_field_12 : decode cX10_field 12 = .ok (.iconst 1, 1) := by decide +kernel
theorem dX10_field_13 : decode cX10_field 13 = .ok (.isub, 1) := by decide +kernel
theorem dX10_field_14 : decode cX10_field 14 = .ok (.i2l, 1) := by decide +kernel
theorem dX10_field_15 : decode cX10_field 15 = .ok (.invokestatic 63, 3) := by decide +kernel
theorem dX10_field_18 : decode cX10_field 18 = .ok (.ifCond .ne 5, 3) := by decide +kernel
theorem dX10_field_21 : decode cX10_field 21 = .ok (.iconst (-1), 1) := by decide +kernel
theorem dX10_field_22 : decode cX10_field 22 = .ok (.ireturn, 1) := by decide +kernel
theorem dX10_field_23 : decode cX10_field 23 = .ok (.iload_n 2, 1) := by decide +kernel
theorem dX10_field_24 : decode cX10_field 24 = .ok (.ifCond .ne 12, 3) := by decide +kernel
theorem dX10_field_27 : decode cX10_field 27 = .ok (.aload_n 0, 1) := by decide +kernel
theorem dX10_field_28 : decode cX10_field 28 = .ok (.getfield 19, 3) := by decide +kernel
theorem dX10_field_31 : decode cX10_field 31 = .ok (.iload_n 1, 1) := by decide +kernel
theorem dX10_field_32 : decode cX10_field 32 = .ok (.iaload, 1) := by decide +kernel
theorem dX10_field_33 : decode cX10_field 33 = .ok (.goto 21, 3) := by decide +kernel
theorem dX10_field_36 : decode cX10_field 36 = .ok (.iload_n 2, 1) := by decide +kernel
theorem dX10_field_37 : decode cX10_field 37 = .ok (.iconst 1, 1) := by decide +kernel
theorem dX10_field_38 : decode cX10_field 38 = .ok (.if_icmp .ne 14, 3) := by decide +kernel
theorem dX10_field_41 : decode cX10_field 41 = .ok (.aload_n 0, 1) := by decide +kernel
theorem dX10_field_42 : decode cX10_field 42 = .ok (.getfield 28, 3) := by decide +kernel
theorem dX10_field_45 : decode cX10_field 45 = .ok (.iconst 5, 1) := by decide +kernel
theorem dX10_field_46 : decode cX10_field 46 = .ok (.iload_n 1, 1) := by decide +kernel
theorem dX10_field_47 : decode cX10_field 47 = .ok (.iadd, 1) := by decide +kernel
theorem dX10_field_48 : decode cX10_field 48 = .ok (.iaload, 1) := by decide +kernel
theorem dX10_field_49 : decode cX10_field 49 = .ok (.goto 5, 3) := by decide +kernel
theorem dX10_field_52 : decode cX10_field 52 = .ok (.bipush (-2), 2) := by decide +kernel
theorem dX10_field_54 : decode cX10_field 54 = .ok (.ireturn, 1) := by decide +kernel
theorem dX10_note_0 : decode cX10_note 0 = .ok (.aload_n 0, 1) := by decide +kernel
theorem dX10_note_1 : decode cX10_note 1 = .ok (.getfield 106, 3) := by decide +kernel
theorem dX10_note_4 : decode cX10_note 4 = .ok (.bipush 14, 2) := by decide +kernel
theorem dX10_note_6 : decode cX10_note 6 = .ok (.if_icmp .ne 43, 3) := by decide +kernel
theorem dX10_note_9 : decode cX10_note 9 = .ok (.iconst 0, 1) := by decide +kernel
theorem dX10_note_10 : decode cX10_note 10 = .ok (.istore_n 1, 1) := by decide +kernel
theorem dX10_note_11 : decode cX10_note 11 = .ok (.iload_n 1, 1) := by decide +kernel
theorem dX10_note_12 : decode cX10_note 12 = .ok (.sipush 208, 3) := by decide +kernel
theorem dX10_note_15 : decode cX10_note 15 = .ok (.if_icmp .ge 24, 3) := by decide +kernel
theorem dX10_note_18 : decode cX10_note 18 = .ok (.aload_n 0, 1) := by decide +kernel
theorem dX10_note_19 : decode cX10_note 19 = .ok (.getfield 34, 3) := by decide +kernel
theorem dX10_note_22 : decode cX10_note 22 = .ok (.iload_n 1, 1) := by decide +kernel
theorem dX10_note_23 : decode cX10_note 23 = .ok (.aload_n 0, 1) := by decide +kernel
theorem dX10_note_24 : decode cX10_note 24 = .ok (.getfield 34, 3) := by decide +kernel
theorem dX10_note_27 : decode cX10_note 27 = .ok (.iload_n 1, 1) := by decide +kernel
theorem dX10_note_28 : decode cX10_note 28 = .ok (.bipush 16, 2) := by decide +kernel
theorem dX10_note_30 : decode cX10_note 30 = .ok (.iadd, 1) := by decide +kernel
theorem dX10_note_31 : decode cX10_note 31 = .ok (.iaload, 1) := by decide +kernel
theorem dX10_note_32 : decode cX10_note 32 = .ok (.iastore, 1) := by decide +kernel
theorem dX10_note_33 : decode cX10_note 33 = .ok (.iinc 1 1, 3) := by decide +kernel
theorem dX10_note_36 : decode cX10_note 36 = .ok (.goto (-25), 3) := by decide +kernel
theorem dX10_note_39 : decode cX10_note 39 = .ok (.aload_n 0, 1) := by decide +kernel
theorem dX10_note_40 : decode cX10_note 40 = .ok (.dup, 1) := by decide +kernel
theorem dX10_note_41 : decode cX10_note 41 = .ok (.getfield 106, 3) := by decide +kernel
theorem dX10_note_44 : decode cX10_note 44 = .ok (.iconst 1, 1) := by decide +kernel
theorem dX10_note_45 : decode cX10_note 45 = .ok (.isub, 1) := by decide +kernel
theorem dX10_note_46 : decode cX10_note 46 = .ok (.putfield 106, 3) := by decide +kernel
theorem dX10_note_49 : decode cX10_note 49 = .ok (.iconst 0, 1) := by decide +kernel
theorem dX10_note_50 : decode cX10_note 50 = .ok (.istore_n 1, 1) := by decide +kernel
theorem dX10_note_51 : decode cX10_note 51 = .ok (.iload_n 1, 1) := by decide +kernel
theorem dX10_note_52 : decode cX10_note 52 = .ok (.bipush 16, 2) := by decide +kernel
theorem dX10_note_54 : decode cX10_note 54 = .ok (.if_icmp .ge 29, 3) := by decide +kernel
theorem dX10_note_57 : decode cX10_note 57 = .ok (.aload_n 0, 1) := by decide +kernel
theorem dX10_note_58 : decode cX10_note 58 = .ok (.getfield 34, 3) := by decide +kernel
theorem dX10_note_61 : decode cX10_note 61 = .ok (.bipush 16, 2) := by decide +kernel
theorem dX10_note_63 : decode cX10_note 63 = .ok (.aload_n 0, 1) := by decide +kernel
theorem dX10_note_64 : decode cX10_note 64 = .ok (.getfield 106, 3) := by decide +kernel
theorem dX10_note_67 : decode cX10_note 67 = .ok (.imul, 1) := by decide +kernel
theorem dX10_note_68 : decode cX10_note 68 = .ok (.iload_n 1, 1) := by decide +kernel
theorem dX10_note_69 : decode cX10_note 69 = .ok (.iadd, 1) := by decide +kernel
theorem dX10_note_70 : decode cX10_note 70 = .ok (.aload_n 0, 1) := by decide +kernel
theorem dX10_note_71 : decode cX10_note 71 = .ok (.getfield 28, 3) := by decide +kernel
theorem dX10_note_74 : decode cX10_note 74 = .ok (.iload_n 1, 1) := by decide +kernel
theorem dX10_note_75 : decode cX10_note 75 = .ok (.iaload, 1) := by decide +kernel
theorem dX10_note_76 : decode cX10_note 76 = .ok (.iastore, 1) := by decide +kernel
theorem dX10_note_77 : decode cX10_note 77 = .ok (.iinc 1 1, 3) := by decide +kernel
theorem dX10_note_80 : decode cX10_note 80 = .ok (.goto (-29), 3) := by decide +kernel
theorem dX10_note_83 : decode cX10_note 83 = .ok (.aload_n 0, 1) := by decide +kernel
theorem dX10_note_84 : decode cX10_note 84 = .ok (.dup, 1) := by decide +kernel
theorem dX10_note_85 : decode cX10_note 85 = .ok (.getfield 106, 3) := by decide +kernel
theorem dX10_note_88 : decode cX10_note 88 = .ok (.iconst 1, 1) := by decide +kernel
theorem dX10_note_89 : decode cX10_note 89 = .ok (.iadd, 1) := by decide +kernel
theorem dX10_note_90 : decode cX10_note 90 = .ok (.putfield 106, 3) := by decide +kernel
theorem dX10_note_93 : decode cX10_note 93 = .ok (.return_, 1) := by decide +kernel
theorem dX10_day_0 : decode cX10_day 0 = .ok (.aload_n 0, 1) := by decide +kernel
theorem dX10_day_1 : decode cX10_day 1 = .ok (.iconst 0, 1) := by decide +kernel
theorem dX10_day_2 : decode cX10_day 2 = .ok (.putfield 56, 3) := by decide +kernel
theorem dX10_day_5 : decode cX10_day 5 = .ok (.aload_n 0, 1) := by decide +kernel
theorem dX10_day_6 : decode cX10_day 6 = .ok (.invokevirtual 133, 3) := by decide +kernel
theorem dX10_day_9 : decode cX10_day 9 = .ok (.aload_n 0, 1) := by decide +kernel
theorem dX10_day_10 : decode cX10_day 10 = .ok (.aload_n 0, 1) := by decide +kernel
theorem dX10_day_11 : decode cX10_day 11 = .ok (.getfield 28, 3) := by decide +kernel
theorem dX10_day_14 : decode cX10_day 14 = .ok (.invokevirtual 136, 3) := by decide +kernel
theorem dX10_day_17 : decode cX10_day 17 = .ok (.pop, 1) := by decide +kernel
theorem dX10_day_18 : decode cX10_day 18 = .ok (.aload_n 0, 1) := by decide +kernel
theorem dX10_day_19 : decode cX10_day 19 = .ok (.getfield 116, 3) := by decide +kernel
theorem dX10_day_22 : decode cX10_day 22 = .ok (.ireturn, 1) := by decide +kernel
theorem dX10_send_0 : decode cX10_send 0 = .ok (.aload_n 0, 1) := by decide +kernel
theorem dX10_send_1 : decode cX10_send 1 = .ok (.iconst 0, 1) := by decide +kernel
theorem dX10_send_2 : decode cX10_send 2 = .ok (.putfield 56, 3) := by decide +kernel
theorem dX10_send_5 : decode cX10_send 5 = .ok (.aload_n 0, 1) := by decide +kernel
theorem dX10_send_6 : decode cX10_send 6 = .ok (.iload_n 1, 1) := by decide +kernel
theorem dX10_send_7 : decode cX10_send 7 = .ok (.invokevirtual 129, 3) := by decide +kernel
theorem dX10_send_10 : decode cX10_send 10 = .ok (.ifCond .eq 5, 3) := by decide +kernel
theorem dX10_send_13 : decode cX10_send 13 = .ok (.iconst (-1), 1) := by decide +kernel
theorem dX10_send_14 : decode cX10_send 14 = .ok (.ireturn, 1) := by decide +kernel
theorem dX10_send_15 : decode cX10_send 15 = .ok (.iload_n 2, 1) := by decide +kernel
theorem dX10_send_16 : decode cX10_send 16 = .ok (.i2l, 1) := by decide +kernel
theorem dX10_send_17 : decode cX10_send 17 = .ok (.lconst 0, 1) := by decide +kernel
theorem dX10_send_18 : decode cX10_send 18 = .ok (.iconst 1, 1) := by decide +kernel
theorem dX10_send_19 : decode cX10_send 19 = .ok (.aload_n 0, 1) := by decide +kernel
theorem dX10_send_20 : decode cX10_send 20 = .ok (.getfield 103, 3) := by decide +kernel
theorem dX10_send_23 : decode cX10_send 23 = .ok (.iadd, 1) := by decide +kernel
theorem dX10_send_24 : decode cX10_send 24 = .ok (.i2l, 1) := by decide +kernel
theorem dX10_send_25 : decode cX10_send 25 = .ok (.invokestatic 63, 3) := by decide +kernel
theorem dX10_send_28 : decode cX10_send 28 = .ok (.ifCond .ne 6, 3) := by decide +kernel
theorem dX10_send_31 : decode cX10_send 31 = .ok (.bipush (-2), 2) := by decide +kernel
theorem dX10_send_33 : decode cX10_send 33 = .ok (.ireturn, 1) := by decide +kernel
theorem dX10_send_34 : decode cX10_send 34 = .ok (.aload_n 0, 1) := by decide +kernel
theorem dX10_send_35 : decode cX10_send 35 = .ok (.getfield 28, 3) := by decide +kernel
theorem dX10_send_38 : decode cX10_send 38 = .ok (.iconst 0, 1) := by decide +kernel
theorem dX10_send_39 : decode cX10_send 39 = .ok (.iload_n 1, 1) := by decide +kernel
theorem dX10_send_40 : decode cX10_send 40 = .ok (.iadd, 1) := by decide +kernel
theorem dX10_send_41 : decode cX10_send 41 = .ok (.iaload, 1) := by decide +kernel
theorem dX10_send_42 : decode cX10_send 42 = .ok (.istore_n 3, 1) := by decide +kernel
theorem dX10_send_43 : decode cX10_send 43 = .ok (.iload_n 3, 1) := by decide +kernel
theorem dX10_send_44 : decode cX10_send 44 = .ok (.iload_n 2, 1) := by decide +kernel
theorem dX10_send_45 : decode cX10_send 45 = .ok (.if_icmp .ne 6, 3) := by decide +kernel
theorem dX10_send_48 : decode cX10_send 48 = .ok (.bipush (-3), 2) := by decide +kernel
theorem dX10_send_50 : decode cX10_send 50 = .ok (.ireturn, 1) := by decide +kernel
theorem dX10_send_51 : decode cX10_send 51 = .ok (.aload_n 0, 1) := by decide +kernel
theorem dX10_send_52 : decode cX10_send 52 = .ok (.invokevirtual 133, 3) := by decide +kernel
theorem dX10_send_55 : decode cX10_send 55 = .ok (.aload_n 0, 1) := by decide +kernel
theorem dX10_send_56 : decode cX10_send 56 = .ok (.getfield 28, 3) := by decide +kernel
theorem dX10_send_59 : decode cX10_send 59 = .ok (.iconst 0, 1) := by decide +kernel
theorem dX10_send_60 : decode cX10_send 60 = .ok (.iload_n 1, 1) := by decide +kernel
theorem dX10_send_61 : decode cX10_send 61 = .ok (.iadd, 1) := by decide +kernel
theorem dX10_send_62 : decode cX10_send 62 = .ok (.iload_n 2, 1) := by decide +kernel
theorem dX10_send_63 : decode cX10_send 63 = .ok (.iastore, 1) := by decide +kernel
theorem dX10_send_64 : decode cX10_send 64 = .ok (.iload_n 3, 1) := by decide +kernel
theorem dX10_send_65 : decode cX10_send 65 = .ok (.ireturn, 1) := by decide +kernel
theorem dX10_turn_0 : decode cX10_turn 0 = .ok (.aload_n 0, 1) := by decide +kernel
theorem dX10_turn_1 : decode cX10_turn 1 = .ok (.iconst 0, 1) := by decide +kernel
theorem dX10_turn_2 : decode cX10_turn 2 = .ok (.putfield 56, 3) := by decide +kernel
theorem dX10_turn_5 : decode cX10_turn 5 = .ok (.iload_n 1, 1) := by decide +kernel
theorem dX10_turn_6 : decode cX10_turn 6 = .ok (.i2l, 1) := by decide +kernel
theorem dX10_turn_7 : decode cX10_turn 7 = .ok (.lconst 1, 1) := by decide +kernel
theorem dX10_turn_8 : decode cX10_turn 8 = .ok (.ldc2_w 140, 3) := by decide +kernel
theorem dX10_turn_11 : decode cX10_turn 11 = .ok (.invokestatic 63, 3) := by decide +kernel
theorem dX10_turn_14 : decode cX10_turn 14 = .ok (.ifCond .ne 6, 3) := by decide +kernel
theorem dX10_turn_17 : decode cX10_turn 17 = .ok (.bipush (-2), 2) := by decide +kernel
theorem dX10_turn_19 : decode cX10_turn 19 = .ok (.ireturn, 1) := by decide +kernel
theorem dX10_turn_20 : decode cX10_turn 20 = .ok (.aload_n 0, 1) := by decide +kernel
theorem dX10_turn_21 : decode cX10_turn 21 = .ok (.getfield 28, 3) := by decide +kernel
theorem dX10_turn_24 : decode cX10_turn 24 = .ok (.bipush 11, 2) := by decide +kernel
theorem dX10_turn_26 : decode cX10_turn 26 = .ok (.iaload, 1) := by decide +kernel
theorem dX10_turn_27 : decode cX10_turn 27 = .ok (.iload_n 1, 1) := by decide +kernel
theorem dX10_turn_28 : decode cX10_turn 28 = .ok (.iadd, 1) := by decide +kernel
theorem dX10_turn_29 : decode cX10_turn 29 = .ok (.aload_n 0, 1) := by decide +kernel
theorem dX10_turn_30 : decode cX10_turn 30 = .ok (.getfield 28, 3) := by decide +kernel
theorem dX10_turn_33 : decode cX10_turn 33 = .ok (.bipush 9, 2) := by decide +kernel
theorem dX10_turn_35 : decode cX10_turn 35 = .ok (.iaload, 1) := by decide +kernel
theorem dX10_turn_36 : decode cX10_turn 36 = .ok (.aload_n 0, 1) := by decide +kernel
theorem dX10_turn_37 : decode cX10_turn 37 = .ok (.getfield 28, 3) := by decide +kernel
theorem dX10_turn_40 : decode cX10_turn 40 = .ok (.bipush 10, 2) := by decide +kernel
theorem dX10_turn_42 : decode cX10_turn 42 = .ok (.iaload, 1) := by decide +kernel
theorem dX10_turn_43 : decode cX10_turn 43 = .ok (.iadd, 1) := by decide +kernel
theorem dX10_turn_44 : decode cX10_turn 44 = .ok (.if_icmp .le 6, 3) := by decide +kernel
theorem dX10_turn_47 : decode cX10_turn 47 = .ok (.bipush (-3), 2) := by decide +kernel
theorem dX10_turn_49 : decode cX10_turn 49 = .ok (.ireturn, 1) := by decide +kernel
theorem dX10_turn_50 : decode cX10_turn 50 = .ok (.aload_n 0, 1) := by decide +kernel
theorem dX10_turn_51 : decode cX10_turn 51 = .ok (.invokevirtual 133, 3) := by decide +kernel
theorem dX10_turn_54 : decode cX10_turn 54 = .ok (.aload_n 0, 1) := by decide +kernel
theorem dX10_turn_55 : decode cX10_turn 55 = .ok (.getfield 28, 3) := by decide +kernel
theorem dX10_turn_58 : decode cX10_turn 58 = .ok (.bipush 11, 2) := by decide +kernel
theorem dX10_turn_60 : decode cX10_turn 60 = .ok (.dup2, 1) := by decide +kernel
theorem dX10_turn_61 : decode cX10_turn 61 = .ok (.iaload, 1) := by decide +kernel
theorem dX10_turn_62 : decode cX10_turn 62 = .ok (.iload_n 1, 1) := by decide +kernel
theorem dX10_turn_63 : decode cX10_turn 63 = .ok (.iadd, 1) := by decide +kernel
theorem dX10_turn_64 : decode cX10_turn 64 = .ok (.iastore, 1) := by decide +kernel
theorem dX10_turn_65 : decode cX10_turn 65 = .ok (.aload_n 0, 1) := by decide +kernel
theorem dX10_turn_66 : decode cX10_turn 66 = .ok (.getfield 28, 3) := by decide +kernel
theorem dX10_turn_69 : decode cX10_turn 69 = .ok (.bipush 11, 2) := by decide +kernel
theorem dX10_turn_71 : decode cX10_turn 71 = .ok (.iaload, 1) := by decide +kernel
theorem dX10_turn_72 : decode cX10_turn 72 = .ok (.ireturn, 1) := by decide +kernel
theorem dX10_lay_0 : decode cX10_lay 0 = .ok (.aload_n 0, 1) := by decide +kernel
theorem dX10_lay_1 : decode cX10_lay 1 = .ok (.iconst 0, 1) := by decide +kernel
theorem dX10_lay_2 : decode cX10_lay 2 = .ok (.putfield 56, 3) := by decide +kernel
theorem dX10_lay_5 : decode cX10_lay 5 = .ok (.iload_n 1, 1) := by decide +kernel
theorem dX10_lay_6 : decode cX10_lay 6 = .ok (.i2l, 1) := by decide +kernel
theorem dX10_lay_7 : decode cX10_lay 7 = .ok (.lconst 0, 1) := by decide +kernel
theorem dX10_lay_8 : decode cX10_lay 8 = .ok (.lconst 1, 1) := by decide +kernel
theorem dX10_lay_9 : decode cX10_lay 9 = .ok (.invokestatic 63, 3) := by decide +kernel
theorem dX10_lay_12 : decode cX10_lay 12 = .ok (.ifCond .ne 6, 3) := by decide +kernel
theorem dX10_lay_15 : decode cX10_lay 15 = .ok (.bipush (-2), 2) := by decide +kernel
theorem dX10_lay_17 : decode cX10_lay 17 = .ok (.ireturn, 1) := by decide +kernel
theorem dX10_lay_18 : decode cX10_lay 18 = .ok (.aload_n 0, 1) := by decide +kernel
theorem dX10_lay_19 : decode cX10_lay 19 = .ok (.getfield 28, 3) := by decide +kernel
theorem dX10_lay_22 : decode cX10_lay 22 = .ok (.bipush 12, 2) := by decide +kernel
theorem dX10_lay_24 : decode cX10_lay 24 = .ok (.iaload, 1) := by decide +kernel
theorem dX10_lay_25 : decode cX10_lay 25 = .ok (.bipush 8, 2) := by decide +kernel
theorem dX10_lay_27 : decode cX10_lay 27 = .ok (.if_icmp .ne 6, 3) := by decide +kernel
theorem dX10_lay_30 : decode cX10_lay 30 = .ok (.bipush (-4), 2) := by decide +kernel
theorem dX10_lay_32 : decode cX10_lay 32 = .ok (.ireturn, 1) := by decide +kernel
theorem dX10_lay_33 : decode cX10_lay 33 = .ok (.iload_n 1, 1) := by decide +kernel
theorem dX10_lay_34 : decode cX10_lay 34 = .ok (.iconst 1, 1) := by decide +kernel
theorem dX10_lay_35 : decode cX10_lay 35 = .ok (.if_icmp .ne 8, 3) := by decide +kernel
theorem dX10_lay_38 : decode cX10_lay 38 = .ok (.bipush 9, 2) := by decide +kernel
theorem dX10_lay_40 : decode cX10_lay 40 = .ok (.goto 5, 3) := by decide +kernel
theorem dX10_lay_43 : decode cX10_lay 43 = .ok (.bipush 10, 2) := by decide +kernel
theorem dX10_lay_45 : decode cX10_lay 45 = .ok (.istore_n 2, 1) := by decide +kernel
theorem dX10_lay_46 : decode cX10_lay 46 = .ok (.aload_n 0, 1) := by decide +kernel
theorem dX10_lay_47 : decode cX10_lay 47 = .ok (.getfield 28, 3) := by decide +kernel
theorem dX10_lay_50 : decode cX10_lay 50 = .ok (.iload_n 2, 1) := by decide +kernel
theorem dX10_lay_51 : decode cX10_lay 51 = .ok (.iaload, 1) := by decide +kernel
theorem dX10_lay_52 : decode cX10_lay 52 = .ok (.iconst 2, 1) := by decide +kernel
theorem dX10_lay_53 : decode cX10_lay 53 = .ok (.if_icmp .ge 6, 3) := by decide +kernel
theorem dX10_lay_56 : decode cX10_lay 56 = .ok (.bipush (-3), 2) := by decide +kernel
theorem dX10_lay_58 : decode cX10_lay 58 = .ok (.ireturn, 1) := by decide +kernel
theorem dX10_lay_59 : decode cX10_lay 59 = .ok (.aload_n 0, 1) := by decide +kernel
theorem dX10_lay_60 : decode cX10_lay 60 = .ok (.invokevirtual 133, 3) := by decide +kernel
theorem dX10_lay_63 : decode cX10_lay 63 = .ok (.aload_n 0, 1) := by decide +kernel
theorem dX10_lay_64 : decode cX10_lay 64 = .ok (.getfield 28, 3) := by decide +kernel
theorem dX10_lay_67 : decode cX10_lay 67 = .ok (.iload_n 2, 1) := by decide +kernel
theorem dX10_lay_68 : decode cX10_lay 68 = .ok (.dup2, 1) := by decide +kernel
theorem dX10_lay_69 : decode cX10_lay 69 = .ok (.iaload, 1) := by decide +kernel
theorem dX10_lay_70 : decode cX10_lay 70 = .ok (.iconst 2, 1) := by decide +kernel
theorem dX10_lay_71 : decode cX10_lay 71 = .ok (.isub, 1) := by decide +kernel
theorem dX10_lay_72 : decode cX10_lay 72 = .ok (.iastore, 1) := by decide +kernel
theorem dX10_lay_73 : decode cX10_lay 73 = .ok (.aload_n 0, 1) := by decide +kernel
theorem dX10_lay_74 : decode cX10_lay 74 = .ok (.getfield 28, 3) := by decide +kernel
theorem dX10_lay_77 : decode cX10_lay 77 = .ok (.bipush 13, 2) := by decide +kernel
theorem dX10_lay_79 : decode cX10_lay 79 = .ok (.dup2, 1) := by decide +kernel
theorem dX10_lay_80 : decode cX10_lay 80 = .ok (.iaload, 1) := by decide +kernel
theorem dX10_lay_81 : decode cX10_lay 81 = .ok (.iload_n 1, 1) := by decide +kernel
theorem dX10_lay_82 : decode cX10_lay 82 = .ok (.aload_n 0, 1) := by decide +kernel
theorem dX10_lay_83 : decode cX10_lay 83 = .ok (.getfield 28, 3) := by decide +kernel
theorem dX10_lay_86 : decode cX10_lay 86 = .ok (.bipush 12, 2) := by decide +kernel
theorem dX10_lay_88 : decode cX10_lay 88 = .ok (.iaload, 1) := by decide +kernel
theorem dX10_lay_89 : decode cX10_lay 89 = .ok (.ishl, 1) := by decide +kernel
theorem dX10_lay_90 : decode cX10_lay 90 = .ok (.ior, 1) := by decide +kernel
theorem dX10_lay_91 : decode cX10_lay 91 = .ok (.iastore, 1) := by decide +kernel
theorem dX10_lay_92 : decode cX10_lay 92 = .ok (.aload_n 0, 1) := by decide +kernel
theorem dX10_lay_93 : decode cX10_lay 93 = .ok (.getfield 28, 3) := by decide +kernel
theorem dX10_lay_96 : decode cX10_lay 96 = .ok (.bipush 12, 2) := by decide +kernel
theorem dX10_lay_98 : decode cX10_lay 98 = .ok (.dup2, 1) := by decide +kernel
theorem dX10_lay_99 : decode cX10_lay 99 = .ok (.iaload, 1) := by decide +kernel
theorem dX10_lay_100 : decode cX10_lay 100 = .ok (.iconst 1, 1) := by decide +kernel
theorem dX10_lay_101 : decode cX10_lay 101 = .ok (.iadd, 1) := by decide +kernel
theorem dX10_lay_102 : decode cX10_lay 102 = .ok (.iastore, 1) := by decide +kernel
theorem dX10_lay_103 : decode cX10_lay 103 = .ok (.aload_n 0, 1) := by decide +kernel
theorem dX10_lay_104 : decode cX10_lay 104 = .ok (.getfield 28, 3) := by decide +kernel
theorem dX10_lay_107 : decode cX10_lay 107 = .ok (.bipush 12, 2) := by decide +kernel
theorem dX10_lay_109 : decode cX10_lay 109 = .ok (.iaload, 1) := by decide +kernel
theorem dX10_lay_110 : decode cX10_lay 110 = .ok (.ireturn, 1) := by decide +kernel
theorem dX10_goRain_0 : decode cX10_goRain 0 = .ok (.iconst 0, 1) := by decide +kernel
theorem dX10_goRain_1 : decode cX10_goRain 1 = .ok (.istore_n 1, 1) := by decide +kernel
theorem dX10_goRain_2 : decode cX10_goRain 2 = .ok (.iload_n 1, 1) := by decide +kernel
theorem dX10_goRain_3 : decode cX10_goRain 3 = .ok (.aload_n 0, 1) := by decide +kernel
theorem dX10_goRain_4 : decode cX10_goRain 4 = .ok (.getfield 142, 3) := by decide +kernel
theorem dX10_goRain_7 : decode cX10_goRain 7 = .ok (.if_icmp .ge 20, 3) := by decide +kernel
theorem dX10_goRain_10 : decode cX10_goRain 10 = .ok (.aload_n 0, 1) := by decide +kernel
theorem dX10_goRain_11 : decode cX10_goRain 11 = .ok (.getfield 145, 3) := by decide +kernel
theorem dX10_goRain_14 : decode cX10_goRain 14 = .ok (.iload_n 1, 1) := by decide +kernel
theorem dX10_goRain_15 : decode cX10_goRain 15 = .ok (.invokestatic 148, 3) := by decide +kernel
theorem dX10_goRain_18 : decode cX10_goRain 18 = .ok (.ifCond .eq 9, 3) := by decide +kernel
theorem dX10_goRain_21 : decode cX10_goRain 21 = .ok (.iinc 1 1, 3) := by decide +kernel
theorem dX10_goRain_24 : decode cX10_goRain 24 = .ok (.goto (-22), 3) := by decide +kernel
theorem dX10_goRain_27 : decode cX10_goRain 27 = .ok (.iload_n 1, 1) := by decide +kernel
theorem dX10_goRain_28 : decode cX10_goRain 28 = .ok (.aload_n 0, 1) := by decide +kernel
theorem dX10_goRain_29 : decode cX10_goRain 29 = .ok (.getfield 142, 3) := by decide +kernel
theorem dX10_goRain_32 : decode cX10_goRain 32 = .ok (.if_icmp .ge 40, 3) := by decide +kernel
theorem dX10_goRain_35 : decode cX10_goRain 35 = .ok (.aload_n 0, 1) := by decide +kernel
theorem dX10_goRain_36 : decode cX10_goRain 36 = .ok (.getfield 145, 3) := by decide +kernel
theorem dX10_goRain_39 : decode cX10_goRain 39 = .ok (.iconst 1, 1) := by decide +kernel
theorem dX10_goRain_40 : decode cX10_goRain 40 = .ok (.iload_n 1, 1) := by decide +kernel
theorem dX10_goRain_41 : decode cX10_goRain 41 = .ok (.ishl, 1) := by decide +kernel
theorem dX10_goRain_42 : decode cX10_goRain 42 = .ok (.iconst 1, 1) := by decide +kernel
theorem dX10_goRain_43 : decode cX10_goRain 43 = .ok (.isub, 1) := by decide +kernel
theorem dX10_goRain_44 : decode cX10_goRain 44 = .ok (.iand, 1) := by decide +kernel
theorem dX10_goRain_45 : decode cX10_goRain 45 = .ok (.istore_n 2, 1) := by decide +kernel
theorem dX10_goRain_46 : decode cX10_goRain 46 = .ok (.aload_n 0, 1) := by decide +kernel
theorem dX10_goRain_47 : decode cX10_goRain 47 = .ok (.iload_n 2, 1) := by decide +kernel
theorem dX10_goRain_48 : decode cX10_goRain 48 = .ok (.aload_n 0, 1) := by decide +kernel
theorem dX10_goRain_49 : decode cX10_goRain 49 = .ok (.getfield 145, 3) := by decide +kernel
theorem dX10_goRain_52 : decode cX10_goRain 52 = .ok (.iload_n 1, 1) := by decide +kernel
theorem dX10_goRain_53 : decode cX10_goRain 53 = .ok (.iconst 1, 1) := by decide +kernel
theorem dX10_goRain_54 : decode cX10_goRain 54 = .ok (.iadd, 1) := by decide +kernel
theorem dX10_goRain_55 : decode cX10_goRain 55 = .ok (.ishr, 1) := by decide +kernel
theorem dX10_goRain_56 : decode cX10_goRain 56 = .ok (.iload_n 1, 1) := by decide +kernel
theorem dX10_goRain_57 : decode cX10_goRain 57 = .ok (.ishl, 1) := by decide +kernel
theorem dX10_goRain_58 : decode cX10_goRain 58 = .ok (.ior, 1) := by decide +kernel
theorem dX10_goRain_59 : decode cX10_goRain 59 = .ok (.putfield 145, 3) := by decide +kernel
theorem dX10_goRain_62 : decode cX10_goRain 62 = .ok (.aload_n 0, 1) := by decide +kernel
theorem dX10_goRain_63 : decode cX10_goRain 63 = .ok (.dup, 1) := by decide +kernel
theorem dX10_goRain_64 : decode cX10_goRain 64 = .ok (.getfield 142, 3) := by decide +kernel
theorem dX10_goRain_67 : decode cX10_goRain 67 = .ok (.iconst 1, 1) := by decide +kernel
theorem dX10_goRain_68 : decode cX10_goRain 68 = .ok (.isub, 1) := by decide +kernel
theorem dX10_goRain_69 : decode cX10_goRain 69 = .ok (.putfield 142, 3) := by decide +kernel
theorem dX10_goRain_72 : decode cX10_goRain 72 = .ok (.return_, 1) := by decide +kernel
theorem dX10_rain_0 : decode cX10_rain 0 = .ok (.aload_n 0, 1) := by decide +kernel
theorem dX10_rain_1 : decode cX10_rain 1 = .ok (.iconst 0, 1) := by decide +kernel
theorem dX10_rain_2 : decode cX10_rain 2 = .ok (.putfield 56, 3) := by decide +kernel
theorem dX10_rain_5 : decode cX10_rain 5 = .ok (.aload_n 0, 1) := by decide +kernel
theorem dX10_rain_6 : decode cX10_rain 6 = .ok (.invokevirtual 133, 3) := by decide +kernel
theorem dX10_rain_9 : decode cX10_rain 9 = .ok (.aload_n 0, 1) := by decide +kernel
theorem dX10_rain_10 : decode cX10_rain 10 = .ok (.aload_n 0, 1) := by decide +kernel
theorem dX10_rain_11 : decode cX10_rain 11 = .ok (.getfield 28, 3) := by decide +kernel
theorem dX10_rain_14 : decode cX10_rain 14 = .ok (.bipush 12, 2) := by decide +kernel
theorem dX10_rain_16 : decode cX10_rain 16 = .ok (.iaload, 1) := by decide +kernel
theorem dX10_rain_17 : decode cX10_rain 17 = .ok (.putfield 142, 3) := by decide +kernel
theorem dX10_rain_20 : decode cX10_rain 20 = .ok (.aload_n 0, 1) := by decide +kernel
theorem dX10_rain_21 : decode cX10_rain 21 = .ok (.aload_n 0, 1) := by decide +kernel
theorem dX10_rain_22 : decode cX10_rain 22 = .ok (.getfield 28, 3) := by decide +kernel
theorem dX10_rain_25 : decode cX10_rain 25 = .ok (.bipush 13, 2) := by decide +kernel
theorem dX10_rain_27 : decode cX10_rain 27 = .ok (.iaload, 1) := by decide +kernel
theorem dX10_rain_28 : decode cX10_rain 28 = .ok (.putfield 145, 3) := by decide +kernel
theorem dX10_rain_31 : decode cX10_rain 31 = .ok (.aload_n 0, 1) := by decide +kernel
theorem dX10_rain_32 : decode cX10_rain 32 = .ok (.invokevirtual 152, 3) := by decide +kernel
theorem dX10_rain_35 : decode cX10_rain 35 = .ok (.aload_n 0, 1) := by decide +kernel
theorem dX10_rain_36 : decode cX10_rain 36 = .ok (.getfield 28, 3) := by decide +kernel
theorem dX10_rain_39 : decode cX10_rain 39 = .ok (.bipush 12, 2) := by decide +kernel
theorem dX10_rain_41 : decode cX10_rain 41 = .ok (.aload_n 0, 1) := by decide +kernel
theorem dX10_rain_42 : decode cX10_rain 42 = .ok (.getfield 142, 3) := by decide +kernel
theorem dX10_rain_45 : decode cX10_rain 45 = .ok (.iastore, 1) := by decide +kernel
theorem dX10_rain_46 : decode cX10_rain 46 = .ok (.aload_n 0, 1) := by decide +kernel
theorem dX10_rain_47 : decode cX10_rain 47 = .ok (.getfield 28, 3) := by decide +kernel
theorem dX10_rain_50 : decode cX10_rain 50 = .ok (.bipush 13, 2) := by decide +kernel
theorem dX10_rain_52 : decode cX10_rain 52 = .ok (.aload_n 0, 1) := by decide +kernel
theorem dX10_rain_53 : decode cX10_rain 53 = .ok (.getfield 145, 3) := by decide +kernel
theorem dX10_rain_56 : decode cX10_rain 56 = .ok (.iastore, 1) := by decide +kernel
theorem dX10_rain_57 : decode cX10_rain 57 = .ok (.aload_n 0, 1) := by decide +kernel
theorem dX10_rain_58 : decode cX10_rain 58 = .ok (.getfield 28, 3) := by decide +kernel
theorem dX10_rain_61 : decode cX10_rain 61 = .ok (.bipush 12, 2) := by decide +kernel
theorem dX10_rain_63 : decode cX10_rain 63 = .ok (.iaload, 1) := by decide +kernel
theorem dX10_rain_64 : decode cX10_rain 64 = .ok (.ireturn, 1) := by decide +kernel
theorem dX10_undo_0 : decode cX10_undo 0 = .ok (.aload_n 0, 1) := by decide +kernel
theorem dX10_undo_1 : decode cX10_undo 1 = .ok (.iconst 0, 1) := by decide +kernel
theorem dX10_undo_2 : decode cX10_undo 2 = .ok (.putfield 56, 3) := by decide +kernel
theorem dX10_undo_5 : decode cX10_undo 5 = .ok (.aload_n 0, 1) := by decide +kernel
theorem dX10_undo_6 : decode cX10_undo 6 = .ok (.getfield 106, 3) := by decide +kernel
theorem dX10_undo_9 : decode cX10_undo 9 = .ok (.ifCond .ne 6, 3) := by decide +kernel
theorem dX10_undo_12 : decode cX10_undo 12 = .ok (.bipush (-3), 2) := by decide +kernel
theorem dX10_undo_14 : decode cX10_undo 14 = .ok (.ireturn, 1) := by decide +kernel
theorem dX10_undo_15 : decode cX10_undo 15 = .ok (.aload_n 0, 1) := by decide +kernel
theorem dX10_undo_16 : decode cX10_undo 16 = .ok (.dup, 1) := by decide +kernel
theorem dX10_undo_17 : decode cX10_undo 17 = .ok (.getfield 106, 3) := by decide +kernel
theorem dX10_undo_20 : decode cX10_undo 20 = .ok (.iconst 1, 1) := by decide +kernel
theorem dX10_undo_21 : decode cX10_undo 21 = .ok (.isub, 1) := by decide +kernel
theorem dX10_undo_22 : decode cX10_undo 22 = .ok (.putfield 106, 3) := by decide +kernel
theorem dX10_undo_25 : decode cX10_undo 25 = .ok (.iconst 0, 1) := by decide +kernel
theorem dX10_undo_26 : decode cX10_undo 26 = .ok (.istore_n 1, 1) := by decide +kernel
theorem dX10_undo_27 : decode cX10_undo 27 = .ok (.iload_n 1, 1) := by decide +kernel
theorem dX10_undo_28 : decode cX10_undo 28 = .ok (.bipush 16, 2) := by decide +kernel
theorem dX10_undo_30 : decode cX10_undo 30 = .ok (.if_icmp .ge 29, 3) := by decide +kernel
theorem dX10_undo_33 : decode cX10_undo 33 = .ok (.aload_n 0, 1) := by decide +kernel
theorem dX10_undo_34 : decode cX10_undo 34 = .ok (.getfield 28, 3) := by decide +kernel
theorem dX10_undo_37 : decode cX10_undo 37 = .ok (.iload_n 1, 1) := by decide +kernel
theorem dX10_undo_38 : decode cX10_undo 38 = .ok (.aload_n 0, 1) := by decide +kernel
theorem dX10_undo_39 : decode cX10_undo 39 = .ok (.getfield 34, 3) := by decide +kernel
theorem dX10_undo_42 : decode cX10_undo 42 = .ok (.bipush 16, 2) := by decide +kernel
theorem dX10_undo_44 : decode cX10_undo 44 = .ok (.aload_n 0, 1) := by decide +kernel
theorem dX10_undo_45 : decode cX10_undo 45 = .ok (.getfield 106, 3) := by decide +kernel
theorem dX10_undo_48 : decode cX10_undo 48 = .ok (.imul, 1) := by decide +kernel
theorem dX10_undo_49 : decode cX10_undo 49 = .ok (.iload_n 1, 1) := by decide +kernel
theorem dX10_undo_50 : decode cX10_undo 50 = .ok (.iadd, 1) := by decide +kernel
theorem dX10_undo_51 : decode cX10_undo 51 = .ok (.iaload, 1) := by decide +kernel
theorem dX10_undo_52 : decode cX10_undo 52 = .ok (.iastore, 1) := by decide +kernel
theorem dX10_undo_53 : decode cX10_undo 53 = .ok (.iinc 1 1, 3) := by decide +kernel
theorem dX10_undo_56 : decode cX10_undo 56 = .ok (.goto (-29), 3) := by decide +kernel
theorem dX10_undo_59 : decode cX10_undo 59 = .ok (.aload_n 0, 1) := by decide +kernel
theorem dX10_undo_60 : decode cX10_undo 60 = .ok (.getfield 106, 3) := by decide +kernel
theorem dX10_undo_63 : decode cX10_undo 63 = .ok (.ireturn, 1) := by decide +kernel
theorem dX10_begin_0 : decode cX10_begin 0 = .ok (.iconst 0, 1) := by decide +kernel
theorem dX10_begin_1 : decode cX10_begin 1 = .ok (.istore_n 1, 1) := by decide +kernel
theorem dX10_begin_2 : decode cX10_begin 2 = .ok (.iload_n 1, 1) := by decide +kernel
theorem dX10_begin_3 : decode cX10_begin 3 = .ok (.bipush 16, 2) := by decide +kernel
theorem dX10_begin_5 : decode cX10_begin 5 = .ok (.if_icmp .ge 21, 3) := by decide +kernel
theorem dX10_begin_8 : decode cX10_begin 8 = .ok (.aload_n 0, 1) := by decide +kernel
theorem dX10_begin_9 : decode cX10_begin 9 = .ok (.getfield 31, 3) := by decide +kernel
theorem dX10_begin_12 : decode cX10_begin 12 = .ok (.iload_n 1, 1) := by decide +kernel
theorem dX10_begin_13 : decode cX10_begin 13 = .ok (.aload_n 0, 1) := by decide +kernel
theorem dX10_begin_14 : decode cX10_begin 14 = .ok (.getfield 28, 3) := by decide +kernel
theorem dX10_begin_17 : decode cX10_begin 17 = .ok (.iload_n 1, 1) := by decide +kernel
theorem dX10_begin_18 : decode cX10_begin 18 = .ok (.iaload, 1) := by decide +kernel
theorem dX10_begin_19 : decode cX10_begin 19 = .ok (.iastore, 1) := by decide +kernel
theorem dX10_begin_20 : decode cX10_begin 20 = .ok (.iinc 1 1, 3) := by decide +kernel
theorem dX10_begin_23 : decode cX10_begin 23 = .ok (.goto (-21), 3) := by decide +kernel
theorem dX10_begin_26 : decode cX10_begin 26 = .ok (.return_, 1) := by decide +kernel
theorem dX10_power_0 : decode cX10_power 0 = .ok (.iconst 1, 1) := by decide +kernel
theorem dX10_power_1 : decode cX10_power 1 = .ok (.istore_n 2, 1) := by decide +kernel
theorem dX10_power_2 : decode cX10_power 2 = .ok (.iconst 0, 1) := by decide +kernel
theorem dX10_power_3 : decode cX10_power 3 = .ok (.istore_n 3, 1) := by decide +kernel
theorem dX10_power_4 : decode cX10_power 4 = .ok (.iload_n 3, 1) := by decide +kernel
theorem dX10_power_5 : decode cX10_power 5 = .ok (.iload_n 1, 1) := by decide +kernel
theorem dX10_power_6 : decode cX10_power 6 = .ok (.if_icmp .ge 13, 3) := by decide +kernel
theorem dX10_power_9 : decode cX10_power 9 = .ok (.iload_n 2, 1) := by decide +kernel
theorem dX10_power_10 : decode cX10_power 10 = .ok (.iload_n 0, 1) := by decide +kernel
theorem dX10_power_11 : decode cX10_power 11 = .ok (.imul, 1) := by decide +kernel
theorem dX10_power_12 : decode cX10_power 12 = .ok (.istore_n 2, 1) := by decide +kernel
theorem dX10_power_13 : decode cX10_power 13 = .ok (.iinc 3 1, 3) := by decide +kernel
theorem dX10_power_16 : decode cX10_power 16 = .ok (.goto (-12), 3) := by decide +kernel
theorem dX10_power_19 : decode cX10_power 19 = .ok (.iload_n 2, 1) := by decide +kernel
theorem dX10_power_20 : decode cX10_power 20 = .ok (.ireturn, 1) := by decide +kernel
theorem dX10_layPlan_0 : decode cX10_layPlan 0 = .ok (.aload_n 0, 1) := by decide +kernel
theorem dX10_layPlan_1 : decode cX10_layPlan 1 = .ok (.invokevirtual 155, 3) := by decide +kernel
theorem dX10_layPlan_4 : decode cX10_layPlan 4 = .ok (.iload_n 1, 1) := by decide +kernel
theorem dX10_layPlan_5 : decode cX10_layPlan 5 = .ok (.i2l, 1) := by decide +kernel
theorem dX10_layPlan_6 : decode cX10_layPlan 6 = .ok (.lconst 0, 1) := by decide +kernel
theorem dX10_layPlan_7 : decode cX10_layPlan 7 = .ok (.bipush 10, 2) := by decide +kernel
theorem dX10_layPlan_9 : decode cX10_layPlan 9 = .ok (.aload_n 0, 1) := by decide +kernel
theorem dX10_layPlan_10 : decode cX10_layPlan 10 = .ok (.getfield 60, 3) := by decide +kernel
theorem dX10_layPlan_13 : decode cX10_layPlan 13 = .ok (.invokestatic 158, 3) := by decide +kernel
theorem dX10_layPlan_16 : decode cX10_layPlan 16 = .ok (.iconst 1, 1) := by decide +kernel
theorem dX10_layPlan_17 : decode cX10_layPlan 17 = .ok (.isub, 1) := by decide +kernel
theorem dX10_layPlan_18 : decode cX10_layPlan 18 = .ok (.i2l, 1) := by decide +kernel
theorem dX10_layPlan_19 : decode cX10_layPlan 19 = .ok (.invokestatic 63, 3) := by decide +kernel
theorem dX10_layPlan_22 : decode cX10_layPlan 22 = .ok (.istore_n 2, 1) := by decide +kernel
theorem dX10_layPlan_23 : decode cX10_layPlan 23 = .ok (.iconst 0, 1) := by decide +kernel
theorem dX10_layPlan_24 : decode cX10_layPlan 24 = .ok (.istore_n 3, 1) := by decide +kernel
theorem dX10_layPlan_25 : decode cX10_layPlan 25 = .ok (.iload_n 3, 1) := by decide +kernel
theorem dX10_layPlan_26 : decode cX10_layPlan 26 = .ok (.aload_n 0, 1) := by decide +kernel
theorem dX10_layPlan_27 : decode cX10_layPlan 27 = .ok (.getfield 60, 3) := by decide +kernel
theorem dX10_layPlan_30 : decode cX10_layPlan 30 = .ok (.if_icmp .ge 62, 3) := by decide +kernel
theorem dX10_layPlan_33 : decode cX10_layPlan 33 = .ok (.iload_n 2, 1) := by decide +kernel
theorem dX10_layPlan_34 : decode cX10_layPlan 34 = .ok (.ifCond .eq 58, 3) := by decide +kernel
theorem dX10_layPlan_37 : decode cX10_layPlan 37 = .ok (.aload_n 0, 1) := by decide +kernel
theorem dX10_layPlan_38 : decode cX10_layPlan 38 = .ok (.getfield 31, 3) := by decide +kernel
theorem dX10_layPlan_41 : decode cX10_layPlan 41 = .ok (.iconst 0, 1) := by decide +kernel
theorem dX10_layPlan_42 : decode cX10_layPlan 42 = .ok (.iload_n 3, 1) := by decide +kernel
theorem dX10_layPlan_43 : decode cX10_layPlan 43 = .ok (.iadd, 1) := by decide +kernel
theorem dX10_layPlan_44 : decode cX10_layPlan 44 = .ok (.iload_n 1, 1) := by decide +kernel
theorem dX10_layPlan_45 : decode cX10_layPlan 45 = .ok (.bipush 10, 2) := by decide +kernel
theorem dX10_layPlan_47 : decode cX10_layPlan 47 = .ok (.aload_n 0, 1) := by decide +kernel
theorem dX10_layPlan_48 : decode cX10_layPlan 48 = .ok (.getfield 60, 3) := by decide +kernel
theorem dX10_layPlan_51 : decode cX10_layPlan 51 = .ok (.iconst 1, 1) := by decide +kernel
theorem dX10_layPlan_52 : decode cX10_layPlan 52 = .ok (.isub, 1) := by decide +kernel
theorem dX10_layPlan_53 : decode cX10_layPlan 53 = .ok (.iload_n 3, 1) := by decide +kernel
theorem dX10_layPlan_54 : decode cX10_layPlan 54 = .ok (.isub, 1) := by decide +kernel
theorem dX10_layPlan_55 : decode cX10_layPlan 55 = .ok (.invokestatic 158, 3) := by decide +kernel
theorem dX10_layPlan_58 : decode cX10_layPlan 58 = .ok (.idiv, 1) := by decide +kernel
theorem dX10_layPlan_59 : decode cX10_layPlan 59 = .ok (.bipush 10, 2) := by decide +kernel
theorem dX10_layPlan_61 : decode cX10_layPlan 61 = .ok (.irem, 1) := by decide +kernel
theorem dX10_layPlan_62 : decode cX10_layPlan 62 = .ok (.iastore, 1) := by decide +kernel
theorem dX10_layPlan_63 : decode cX10_layPlan 63 = .ok (.aload_n 0, 1) := by decide +kernel
theorem dX10_layPlan_64 : decode cX10_layPlan 64 = .ok (.getfield 31, 3) := by decide +kernel
theorem dX10_layPlan_67 : decode cX10_layPlan 67 = .ok (.iconst 0, 1) := by decide +kernel
theorem dX10_layPlan_68 : decode cX10_layPlan 68 = .ok (.iload_n 3, 1) := by decide +kernel
theorem dX10_layPlan_69 : decode cX10_layPlan 69 = .ok (.iadd, 1) := by decide +kernel
theorem dX10_layPlan_70 : decode cX10_layPlan 70 = .ok (.iaload, 1) := by decide +kernel
theorem dX10_layPlan_71 : decode cX10_layPlan 71 = .ok (.iconst 1, 1) := by decide +kernel
theorem dX10_layPlan_72 : decode cX10_layPlan 72 = .ok (.aload_n 0, 1) := by decide +kernel
theorem dX10_layPlan_73 : decode cX10_layPlan 73 = .ok (.getfield 103, 3) := by decide +kernel
theorem dX10_layPlan_76 : decode cX10_layPlan 76 = .ok (.iadd, 1) := by decide +kernel
theorem dX10_layPlan_77 : decode cX10_layPlan 77 = .ok (.if_icmp .gt 7, 3) := by decide +kernel
theorem dX10_layPlan_80 : decode cX10_layPlan 80 = .ok (.iconst 1, 1) := by decide +kernel
theorem dX10_layPlan_81 : decode cX10_layPlan 81 = .ok (.goto 4, 3) := by decide +kernel
theorem dX10_layPlan_84 : decode cX10_layPlan 84 = .ok (.iconst 0, 1) := by decide +kernel
theorem dX10_layPlan_85 : decode cX10_layPlan 85 = .ok (.istore_n 2, 1) := by decide +kernel
theorem dX10_layPlan_86 : decode cX10_layPlan 86 = .ok (.iinc 3 1, 3) := by decide +kernel
theorem dX10_layPlan_89 : decode cX10_layPlan 89 = .ok (.goto (-64), 3) := by decide +kernel
theorem dX10_layPlan_92 : decode cX10_layPlan 92 = .ok (.iload_n 2, 1) := by decide +kernel
theorem dX10_layPlan_93 : decode cX10_layPlan 93 = .ok (.ireturn, 1) := by decide +kernel
theorem dX10_makes_0 : decode cX10_makes 0 = .ok (.aload_n 0, 1) := by decide +kernel
theorem dX10_makes_1 : decode cX10_makes 1 = .ok (.iconst 0, 1) := by decide +kernel
theorem dX10_makes_2 : decode cX10_makes 2 = .ok (.putfield 56, 3) := by decide +kernel
theorem dX10_makes_5 : decode cX10_makes 5 = .ok (.aload_n 0, 1) := by decide +kernel
theorem dX10_makes_6 : decode cX10_makes 6 = .ok (.iload_n 1, 1) := by decide +kernel
theorem dX10_makes_7 : decode cX10_makes 7 = .ok (.invokevirtual 161, 3) := by decide +kernel
theorem dX10_makes_10 : decode cX10_makes 10 = .ok (.ifCond .eq 13, 3) := by decide +kernel
theorem dX10_makes_13 : decode cX10_makes 13 = .ok (.iload_n 2, 1) := by decide +kernel
theorem dX10_makes_14 : decode cX10_makes 14 = .ok (.i2l, 1) := by decide +kernel
theorem dX10_makes_15 : decode cX10_makes 15 = .ok (.lconst 0, 1) := by decide +kernel
theorem dX10_makes_16 : decode cX10_makes 16 = .ok (.lconst 1, 1) := by decide +kernel
theorem dX10_makes_17 : decode cX10_makes 17 = .ok (.invokestatic 63, 3) := by decide +kernel
theorem dX10_makes_20 : decode cX10_makes 20 = .ok (.ifCond .ne 6, 3) := by decide +kernel
theorem dX10_makes_23 : decode cX10_makes 23 = .ok (.bipush (-2), 2) := by decide +kernel
theorem dX10_makes_25 : decode cX10_makes 25 = .ok (.ireturn, 1) := by decide +kernel
theorem dX10_makes_26 : decode cX10_makes 26 = .ok (.aload_n 0, 1) := by decide +kernel
theorem dX10_makes_27 : decode cX10_makes 27 = .ok (.aload_n 0, 1) := by decide +kernel
theorem dX10_makes_28 : decode cX10_makes 28 = .ok (.getfield 31, 3) := by decide +kernel
theorem dX10_makes_31 : decode cX10_makes 31 = .ok (.invokevirtual 122, 3) := by decide +kernel
theorem dX10_makes_34 : decode cX10_makes 34 = .ok (.iload_n 2, 1) := by decide +kernel
theorem dX10_makes_35 : decode cX10_makes 35 = .ok (.ifCond .ne 10, 3) := by decide +kernel
theorem dX10_makes_38 : decode cX10_makes 38 = .ok (.aload_n 0, 1) := by decide +kernel
theorem dX10_makes_39 : decode cX10_makes 39 = .ok (.getfield 116, 3) := by decide +kernel
theorem dX10_makes_42 : decode cX10_makes 42 = .ok (.goto 7, 3) := by decide +kernel
theorem dX10_makes_45 : decode cX10_makes 45 = .ok (.aload_n 0, 1) := by decide +kernel
theorem dX10_makes_46 : decode cX10_makes 46 = .ok (.getfield 119, 3) := by decide +kernel
theorem dX10_makes_49 : decode cX10_makes 49 = .ok (.ireturn, 1) := by decide +kernel
theorem dX10_findPlans_0 : decode cX10_findPlans 0 = .ok (.aload_n 0, 1) := by decide +kernel
theorem dX10_findPlans_1 : decode cX10_findPlans 1 = .ok (.bipush (-9), 2) := by decide +kernel
theorem dX10_findPlans_3 : decode cX10_findPlans 3 = .ok (.putfield 164, 3) := by decide +kernel
theorem dX10_findPlans_6 : decode cX10_findPlans 6 = .ok (.aload_n 0, 1) := by decide +kernel
theorem dX10_findPlans_7 : decode cX10_findPlans 7 = .ok (.bipush (-9), 2) := by decide +kernel
theorem dX10_findPlans_9 : decode cX10_findPlans 9 = .ok (.putfield 167, 3) := by decide +kernel
theorem dX10_findPlans_12 : decode cX10_findPlans 12 = .ok (.aload_n 0, 1) := by decide +kernel
theorem dX10_findPlans_13 : decode cX10_findPlans 13 = .ok (.bipush (-9), 2) := by decide +kernel
theorem dX10_findPlans_15 : decode cX10_findPlans 15 = .ok (.putfield 170, 3) := by decide +kernel
theorem dX10_findPlans_18 : decode cX10_findPlans 18 = .ok (.aload_n 0, 1) := by decide +kernel
theorem dX10_findPlans_19 : decode cX10_findPlans 19 = .ok (.iconst 0, 1) := by decide +kernel
theorem dX10_findPlans_20 : decode cX10_findPlans 20 = .ok (.putfield 173, 3) := by decide +kernel
theorem dX10_findPlans_23 : decode cX10_findPlans 23 = .ok (.iconst 0, 1) := by decide +kernel
theorem dX10_findPlans_24 : decode cX10_findPlans 24 = .ok (.istore_n 1, 1) := by decide +kernel
theorem dX10_findPlans_25 : decode cX10_findPlans 25 = .ok (.iconst 2, 1) := by decide +kernel
theorem dX10_findPlans_26 : decode cX10_findPlans 26 = .ok (.aload_n 0, 1) := by decide +kernel
theorem dX10_findPlans_27 : decode cX10_findPlans 27 = .ok (.getfield 103, 3) := by decide +kernel
theorem dX10_findPlans_30 : decode cX10_findPlans 30 = .ok (.iadd, 1) := by decide +kernel
theorem dX10_findPlans_31 : decode cX10_findPlans 31 = .ok (.istore_n 2, 1) := by decide +kernel
theorem dX10_findPlans_32 : decode cX10_findPlans 32 = .ok (.iconst 0, 1) := by decide +kernel
theorem dX10_findPlans_33 : decode cX10_findPlans 33 = .ok (.istore_n 3, 1) := by decide +kernel
theorem dX10_findPlans_34 : decode cX10_findPlans 34 = .ok (.iload_n 3, 1) := by decide +kernel
theorem dX10_findPlans_35 : decode cX10_findPlans 35 = .ok (.iload_n 2, 1) := by decide +kernel
theorem dX10_findPlans_36 : decode cX10_findPlans 36 = .ok (.aload_n 0, 1) := by decide +kernel
theorem dX10_findPlans_37 : decode cX10_findPlans 37 = .ok (.getfield 60, 3) := by decide +kernel
theorem dX10_findPlans_40 : decode cX10_findPlans 40 = .ok (.invokestatic 158, 3) := by decide +kernel
theorem dX10_findPlans_43 : decode cX10_findPlans 43 = .ok (.if_icmp .ge 241, 3) := by decide +kernel
theorem dX10_findPlans_46 : decode cX10_findPlans 46 = .ok (.aload_n 0, 1) := by decide +kernel
theorem dX10_findPlans_47 : decode cX10_findPlans 47 = .ok (.invokevirtual 155, 3) := by decide +kernel
theorem dX10_findPlans_50 : decode cX10_findPlans 50 = .ok (.iconst 0, 1) := by decide +kernel
theorem dX10_findPlans_51 : decode cX10_findPlans 51 = .ok (.istore 4, 2) := by decide +kernel
theorem dX10_findPlans_53 : decode cX10_findPlans 53 = .ok (.iconst 0, 1) := by decide +kernel
theorem dX10_findPlans_54 : decode cX10_findPlans 54 = .ok (.istore 5, 2) := by decide +kernel
theorem dX10_findPlans_56 : decode cX10_findPlans 56 = .ok (.iconst 0, 1) := by decide +kernel
theorem dX10_findPlans_57 : decode cX10_findPlans 57 = .ok (.istore 6, 2) := by decide +kernel
theorem dX10_findPlans_59 : decode cX10_findPlans 59 = .ok (.iload 6, 2) := by decide +kernel
theorem dX10_findPlans_61 : decode cX10_findPlans 61 = .ok (.aload_n 0, 1) := by decide +kernel
theorem dX10_findPlans_62 : decode cX10_findPlans 62 = .ok (.getfield 60, 3) := by decide +kernel
theorem dX10_findPlans_65 : decode cX10_findPlans 65 = .ok (.if_icmp .ge 64, 3) := by decide +kernel
theorem dX10_findPlans_68 : decode cX10_findPlans 68 = .ok (.iload_n 3, 1) := by decide +kernel
theorem dX10_findPlans_69 : decode cX10_findPlans 69 = .ok (.iload_n 2, 1) := by decide +kernel
theorem dX10_findPlans_70 : decode cX10_findPlans 70 = .ok (.aload_n 0, 1) := by decide +kernel
theorem dX10_findPlans_71 : decode cX10_findPlans 71 = .ok (.getfield 60, 3) := by decide +kernel
theorem dX10_findPlans_74 : decode cX10_findPlans 74 = .ok (.iconst 1, 1) := by decide +kernel
theorem dX10_findPlans_75 : decode cX10_findPlans 75 = .ok (.isub, 1) := by decide +kernel
theorem dX10_findPlans_76 : decode cX10_findPlans 76 = .ok (.iload 6, 2) := by decide +kernel
theorem dX10_findPlans_78 : decode cX10_findPlans 78 = .ok (.isub, 1) := by decide +kernel
theorem dX10_findPlans_79 : decode cX10_findPlans 79 = .ok (.invokestatic 158, 3) := by decide +kernel
theorem dX10_findPlans_82 : decode cX10_findPlans 82 = .ok (.idiv, 1) := by decide +kernel
theorem dX10_findPlans_83 : decode cX10_findPlans 83 = .ok (.iload_n 2, 1) := by decide +kernel
theorem dX10_findPlans_84 : decode cX10_findPlans 84 = .ok (.irem, 1) := by decide +kernel
theorem dX10_findPlans_85 : decode cX10_findPlans 85 = .ok (.istore 7, 2) := by decide +kernel
theorem dX10_findPlans_87 : decode cX10_findPlans 87 = .ok (.aload_n 0, 1) := by decide +kernel
theorem dX10_findPlans_88 : decode cX10_findPlans 88 = .ok (.getfield 31, 3) := by decide +kernel
theorem dX10_findPlans_91 : decode cX10_findPlans 91 = .ok (.iconst 0, 1) := by decide +kernel
theorem dX10_findPlans_92 : decode cX10_findPlans 92 = .ok (.iload 6, 2) := by decide +kernel
theorem dX10_findPlans_94 : decode cX10_findPlans 94 = .ok (.iadd, 1) := by decide +kernel
theorem dX10_findPlans_95 : decode cX10_findPlans 95 = .ok (.iload 7, 2) := by decide +kernel
theorem dX10_findPlans_97 : decode cX10_findPlans 97 = .ok (.iastore, 1) := by decide +kernel
theorem dX10_findPlans_98 : decode cX10_findPlans 98 = .ok (.bipush 10, 2) := by decide +kernel
theorem dX10_findPlans_100 : decode cX10_findPlans 100 = .ok (.iload 4, 2) := by decide +kernel
theorem dX10_findPlans_102 : decode cX10_findPlans 102 = .ok (.imul, 1) := by decide +kernel
theorem dX10_findPlans_103 : decode cX10_findPlans 103 = .ok (.iload 7, 2) := by decide +kernel
theorem dX10_findPlans_105 : decode cX10_findPlans 105 = .ok (.iadd, 1) := by decide +kernel
theorem dX10_findPlans_106 : decode cX10_findPlans 106 = .ok (.istore 4, 2) := by decide +kernel
theorem dX10_findPlans_108 : decode cX10_findPlans 108 = .ok (.iload 5, 2) := by decide +kernel
theorem dX10_findPlans_110 : decode cX10_findPlans 110 = .ok (.iload 7, 2) := by decide +kernel
theorem dX10_findPlans_112 : decode cX10_findPlans 112 = .ok (.ifCond .ne 7, 3) := by decide +kernel
theorem dX10_findPlans_115 : decode cX10_findPlans 115 = .ok (.iconst 0, 1) := by decide +kernel
theorem dX10_findPlans_116 : decode cX10_findPlans 116 = .ok (.goto 4, 3) := by decide +kernel
theorem dX10_findPlans_119 : decode cX10_findPlans 119 = .ok (.iconst 1, 1) := by decide +kernel
theorem dX10_findPlans_120 : decode cX10_findPlans 120 = .ok (.iadd, 1) := by decide +kernel
theorem dX10_findPlans_121 : decode cX10_findPlans 121 = .ok (.istore 5, 2) := by decide +kernel
theorem dX10_findPlans_123 : decode cX10_findPlans 123 = .ok (.iinc 6 1, 3) := by decide +kernel
theorem dX10_findPlans_126 : decode cX10_findPlans 126 = .ok (.goto (-67), 3) := by decide +kernel
theorem dX10_findPlans_129 : decode cX10_findPlans 129 = .ok (.aload_n 0, 1) := by decide +kernel
theorem dX10_findPlans_130 : decode cX10_findPlans 130 = .ok (.aload_n 0, 1) := by decide +kernel
theorem dX10_findPlans_131 : decode cX10_findPlans 131 = .ok (.getfield 31, 3) := by decide +kernel
theorem dX10_findPlans_134 : decode cX10_findPlans 134 = .ok (.invokevirtual 122, 3) := by decide +kernel
theorem dX10_findPlans_137 : decode cX10_findPlans 137 = .ok (.aload_n 0, 1) := by decide +kernel
theorem dX10_findPlans_138 : decode cX10_findPlans 138 = .ok (.getfield 116, 3) := by decide +kernel
theorem dX10_findPlans_141 : decode cX10_findPlans 141 = .ok (.aload_n 0, 1) := by decide +kernel
theorem dX10_findPlans_142 : decode cX10_findPlans 142 = .ok (.getfield 100, 3) := by decide +kernel
theorem dX10_findPlans_145 : decode cX10_findPlans 145 = .ok (.if_icmp .lt 7, 3) := by decide +kernel
theorem dX10_findPlans_148 : decode cX10_findPlans 148 = .ok (.iconst 1, 1) := by decide +kernel
theorem dX10_findPlans_149 : decode cX10_findPlans 149 = .ok (.goto 4, 3) := by decide +kernel
theorem dX10_findPlans_152 : decode cX10_findPlans 152 = .ok (.iconst 0, 1) := by decide +kernel
theorem dX10_findPlans_153 : decode cX10_findPlans 153 = .ok (.istore 6, 2) := by decide +kernel
theorem dX10_findPlans_155 : decode cX10_findPlans 155 = .ok (.iload 6, 2) := by decide +kernel
theorem dX10_findPlans_157 : decode cX10_findPlans 157 = .ok (.ifCond .eq 48, 3) := by decide +kernel
theorem dX10_findPlans_160 : decode cX10_findPlans 160 = .ok (.aload_n 0, 1) := by decide +kernel
theorem dX10_findPlans_161 : decode cX10_findPlans 161 = .ok (.getfield 119, 3) := by decide +kernel
theorem dX10_findPlans_164 : decode cX10_findPlans 164 = .ok (.aload_n 0, 1) := by decide +kernel
theorem dX10_findPlans_165 : decode cX10_findPlans 165 = .ok (.getfield 167, 3) := by decide +kernel
theorem dX10_findPlans_168 : decode cX10_findPlans 168 = .ok (.if_icmp .gt 20, 3) := by decide +kernel
theorem dX10_findPlans_171 : decode cX10_findPlans 171 = .ok (.aload_n 0, 1) := by decide +kernel
theorem dX10_findPlans_172 : decode cX10_findPlans 172 = .ok (.getfield 119, 3) := by decide +kernel
theorem dX10_findPlans_175 : decode cX10_findPlans 175 = .ok (.aload_n 0, 1) := by decide +kernel
theorem dX10_findPlans_176 : decode cX10_findPlans 176 = .ok (.getfield 167, 3) := by decide +kernel
theorem dX10_findPlans_179 : decode cX10_findPlans 179 = .ok (.if_icmp .ne 26, 3) := by decide +kernel
theorem dX10_findPlans_182 : decode cX10_findPlans 182 = .ok (.iload 5, 2) := by decide +kernel
theorem dX10_findPlans_184 : decode cX10_findPlans 184 = .ok (.iload_n 1, 1) := by decide +kernel
theorem dX10_findPlans_185 : decode cX10_findPlans 185 = .ok (.if_icmp .ge 20, 3) := by decide +kernel
theorem dX10_findPlans_188 : decode cX10_findPlans 188 = .ok (.aload_n 0, 1) := by decide +kernel
theorem dX10_findPlans_189 : decode cX10_findPlans 189 = .ok (.iload 4, 2) := by decide +kernel
theorem dX10_findPlans_191 : decode cX10_findPlans 191 = .ok (.putfield 164, 3) := by decide +kernel
theorem dX10_findPlans_194 : decode cX10_findPlans 194 = .ok (.aload_n 0, 1) := by decide +kernel
theorem dX10_findPlans_195 : decode cX10_findPlans 195 = .ok (.aload_n 0, 1) := by decide +kernel
theorem dX10_findPlans_196 : decode cX10_findPlans 196 = .ok (.getfield 119, 3) := by decide +kernel
theorem dX10_findPlans_199 : decode cX10_findPlans 199 = .ok (.putfield 167, 3) := by decide +kernel
theorem dX10_findPlans_202 : decode cX10_findPlans 202 = .ok (.iload 5, 2) := by decide +kernel
theorem dX10_findPlans_204 : decode cX10_findPlans 204 = .ok (.istore_n 1, 1) := by decide +kernel
theorem dX10_findPlans_205 : decode cX10_findPlans 205 = .ok (.aload_n 0, 1) := by decide +kernel
theorem dX10_findPlans_206 : decode cX10_findPlans 206 = .ok (.iload 6, 2) := by decide +kernel
theorem dX10_findPlans_208 : decode cX10_findPlans 208 = .ok (.ifCond .eq 26, 3) := by decide +kernel
theorem dX10_findPlans_211 : decode cX10_findPlans 211 = .ok (.aload_n 0, 1) := by decide +kernel
theorem dX10_findPlans_212 : decode cX10_findPlans 212 = .ok (.getfield 170, 3) := by decide +kernel
theorem dX10_findPlans_215 : decode cX10_findPlans 215 = .ok (.bipush (-9), 2) := by decide +kernel
theorem dX10_findPlans_217 : decode cX10_findPlans 217 = .ok (.if_icmp .eq 12, 3) := by decide +kernel
theorem dX10_findPlans_220 : decode cX10_findPlans 220 = .ok (.iload 5, 2) := by decide +kernel
theorem dX10_findPlans_222 : decode cX10_findPlans 222 = .ok (.aload_n 0, 1) := by decide +kernel
theorem dX10_findPlans_223 : decode cX10_findPlans 223 = .ok (.getfield 170, 3) := by decide +kernel
theorem dX10_findPlans_226 : decode cX10_findPlans 226 = .ok (.if_icmp .ge 8, 3) := by decide +kernel
theorem dX10_findPlans_229 : decode cX10_findPlans 229 = .ok (.iload 5, 2) := by decide +kernel
theorem dX10_findPlans_231 : decode cX10_findPlans 231 = .ok (.goto 7, 3) := by decide +kernel
theorem dX10_findPlans_234 : decode cX10_findPlans 234 = .ok (.aload_n 0, 1) := by decide +kernel
theorem dX10_findPlans_235 : decode cX10_findPlans 235 = .ok (.getfield 170, 3) := by decide +kernel
theorem dX10_findPlans_238 : decode cX10_findPlans 238 = .ok (.putfield 170, 3) := by decide +kernel
theorem dX10_findPlans_241 : decode cX10_findPlans 241 = .ok (.aload_n 0, 1) := by decide +kernel
theorem dX10_findPlans_242 : decode cX10_findPlans 242 = .ok (.aload_n 0, 1) := by decide +kernel
theorem dX10_findPlans_243 : decode cX10_findPlans 243 = .ok (.getfield 116, 3) := by decide +kernel
theorem dX10_findPlans_246 : decode cX10_findPlans 246 = .ok (.aload_n 0, 1) := by decide +kernel
theorem dX10_findPlans_247 : decode cX10_findPlans 247 = .ok (.getfield 119, 3) := by decide +kernel
theorem dX10_findPlans_250 : decode cX10_findPlans 250 = .ok (.if_icmp .ne 21, 3) := by decide +kernel
theorem dX10_findPlans_253 : decode cX10_findPlans 253 = .ok (.aload_n 0, 1) := by decide +kernel
theorem dX10_findPlans_254 : decode cX10_findPlans 254 = .ok (.getfield 116, 3) := by decide +kernel
theorem dX10_findPlans_257 : decode cX10_findPlans 257 = .ok (.aload_n 0, 1) := by decide +kernel
theorem dX10_findPlans_258 : decode cX10_findPlans 258 = .ok (.getfield 173, 3) := by decide +kernel
theorem dX10_findPlans_261 : decode cX10_findPlans 261 = .ok (.if_icmp .le 10, 3) := by decide +kernel
theorem dX10_findPlans_264 : decode cX10_findPlans 264 = .ok (.aload_n 0, 1) := by decide +kernel
theorem dX10_findPlans_265 : decode cX10_findPlans 265 = .ok (.getfield 116, 3) := by decide +kernel
theorem dX10_findPlans_268 : decode cX10_findPlans 268 = .ok (.goto 7, 3) := by decide +kernel
theorem dX10_findPlans_271 : decode cX10_findPlans 271 = .ok (.aload_n 0, 1) := by decide +kernel
theorem dX10_findPlans_272 : decode cX10_findPlans 272 = .ok (.getfield 173, 3) := by decide +kernel
theorem dX10_findPlans_275 : decode cX10_findPlans 275 = .ok (.putfield 173, 3) := by decide +kernel
theorem dX10_findPlans_278 : decode cX10_findPlans 278 = .ok (.iinc 3 1, 3) := by decide +kernel
theorem dX10_findPlans_281 : decode cX10_findPlans 281 = .ok (.goto (-247), 3) := by decide +kernel
theorem dX10_findPlans_284 : decode cX10_findPlans 284 = .ok (.return_, 1) := by decide +kernel
theorem dX10_best_0 : decode cX10_best 0 = .ok (.aload_n 0, 1) := by decide +kernel
theorem dX10_best_1 : decode cX10_best 1 = .ok (.iconst 0, 1) := by decide +kernel
theorem dX10_best_2 : decode cX10_best 2 = .ok (.putfield 56, 3) := by decide +kernel
theorem dX10_best_5 : decode cX10_best 5 = .ok (.iload_n 1, 1) := by decide +kernel
theorem dX10_best_6 : decode cX10_best 6 = .ok (.i2l, 1) := by decide +kernel
theorem dX10_best_7 : decode cX10_best 7 = .ok (.lconst 0, 1) := by decide +kernel
theorem dX10_best_8 : decode cX10_best 8 = .ok (.lconst 1, 1) := by decide +kernel
theorem dX10_best_9 : decode cX10_best 9 = .ok (.invokestatic 63, 3) := by decide +kernel
theorem dX10_best_12 : decode cX10_best 12 = .ok (.ifCond .ne 6, 3) := by decide +kernel
theorem dX10_best_15 : decode cX10_best 15 = .ok (.bipush (-2), 2) := by decide +kernel
theorem dX10_best_17 : decode cX10_best 17 = .ok (.ireturn, 1) := by decide +kernel
theorem dX10_best_18 : decode cX10_best 18 = .ok (.aload_n 0, 1) := by decide +kernel
theorem dX10_best_19 : decode cX10_best 19 = .ok (.invokevirtual 176, 3) := by decide +kernel
theorem dX10_best_22 : decode cX10_best 22 = .ok (.iload_n 1, 1) := by decide +kernel
theorem dX10_best_23 : decode cX10_best 23 = .ok (.ifCond .ne 10, 3) := by decide +kernel
theorem dX10_best_26 : decode cX10_best 26 = .ok (.aload_n 0, 1) := by decide +kernel
theorem dX10_best_27 : decode cX10_best 27 = .ok (.getfield 164, 3) := by decide +kernel
theorem dX10_best_30 : decode cX10_best 30 = .ok (.goto 7, 3) := by decide +kernel
theorem dX10_best_33 : decode cX10_best 33 = .ok (.aload_n 0, 1) := by decide +kernel
theorem dX10_best_34 : decode cX10_best 34 = .ok (.getfield 167, 3) := by decide +kernel
theorem dX10_best_37 : decode cX10_best 37 = .ok (.ireturn, 1) := by decide +kernel
theorem dX10_least_0 : decode cX10_least 0 = .ok (.aload_n 0, 1) := by decide +kernel
theorem dX10_least_1 : decode cX10_least 1 = .ok (.iconst 0, 1) := by decide +kernel
theorem dX10_least_2 : decode cX10_least 2 = .ok (.putfield 56, 3) := by decide +kernel
theorem dX10_least_5 : decode cX10_least 5 = .ok (.aload_n 0, 1) := by decide +kernel
theorem dX10_least_6 : decode cX10_least 6 = .ok (.invokevirtual 176, 3) := by decide +kernel
theorem dX10_least_9 : decode cX10_least 9 = .ok (.aload_n 0, 1) := by decide +kernel
theorem dX10_least_10 : decode cX10_least 10 = .ok (.getfield 170, 3) := by decide +kernel
theorem dX10_least_13 : decode cX10_least 13 = .ok (.ireturn, 1) := by decide +kernel
theorem dX10_ask_0 : decode cX10_ask 0 = .ok (.aload_n 0, 1) := by decide +kernel
theorem dX10_ask_1 : decode cX10_ask 1 = .ok (.iconst 0, 1) := by decide +kernel
theorem dX10_ask_2 : decode cX10_ask 2 = .ok (.putfield 56, 3) := by decide +kernel
theorem dX10_ask_5 : decode cX10_ask 5 = .ok (.aload_n 0, 1) := by decide +kernel
theorem dX10_ask_6 : decode cX10_ask 6 = .ok (.invokevirtual 176, 3) := by decide +kernel
theorem dX10_ask_9 : decode cX10_ask 9 = .ok (.aload_n 0, 1) := by decide +kernel
theorem dX10_ask_10 : decode cX10_ask 10 = .ok (.getfield 173, 3) := by decide +kernel
theorem dX10_ask_13 : decode cX10_ask 13 = .ok (.ireturn, 1) := by decide +kernel
theorem dX10_lasts_0 : decode cX10_lasts 0 = .ok (.aload_n 0, 1) := by decide +kernel
theorem dX10_lasts_1 : decode cX10_lasts 1 = .ok (.iconst 0, 1) := by decide +kernel
theorem dX10_lasts_2 : decode cX10_lasts 2 = .ok (.putfield 56, 3) := by decide +kernel
theorem dX10_lasts_5 : decode cX10_lasts 5 = .ok (.aload_n 0, 1) := by decide +kernel
theorem dX10_lasts_6 : decode cX10_lasts 6 = .ok (.invokevirtual 155, 3) := by decide +kernel
theorem dX10_lasts_9 : decode cX10_lasts 9 = .ok (.iconst 0, 1) := by decide +kernel
theorem dX10_lasts_10 : decode cX10_lasts 10 = .ok (.istore_n 1, 1) := by decide +kernel
theorem dX10_lasts_11 : decode cX10_lasts 11 = .ok (.iconst 1, 1) := by decide +kernel
theorem dX10_lasts_12 : decode cX10_lasts 12 = .ok (.istore_n 2, 1) := by decide +kernel
theorem dX10_lasts_13 : decode cX10_lasts 13 = .ok (.iload_n 1, 1) := by decide +kernel
theorem dX10_lasts_14 : decode cX10_lasts 14 = .ok (.bipush 9, 2) := by decide +kernel
theorem dX10_lasts_16 : decode cX10_lasts 16 = .ok (.if_icmp .ge 47, 3) := by decide +kernel
theorem dX10_lasts_19 : decode cX10_lasts 19 = .ok (.iload_n 2, 1) := by decide +kernel
theorem dX10_lasts_20 : decode cX10_lasts 20 = .ok (.ifCond .eq 43, 3) := by decide +kernel
theorem dX10_lasts_23 : decode cX10_lasts 23 = .ok (.aload_n 0, 1) := by decide +kernel
theorem dX10_lasts_24 : decode cX10_lasts 24 = .ok (.aload_n 0, 1) := by decide +kernel
theorem dX10_lasts_25 : decode cX10_lasts 25 = .ok (.getfield 31, 3) := by decide +kernel
theorem dX10_lasts_28 : decode cX10_lasts 28 = .ok (.invokevirtual 122, 3) := by decide +kernel
theorem dX10_lasts_31 : decode cX10_lasts 31 = .ok (.aload_n 0, 1) := by decide +kernel
theorem dX10_lasts_32 : decode cX10_lasts 32 = .ok (.getfield 119, 3) := by decide +kernel
theorem dX10_lasts_35 : decode cX10_lasts 35 = .ok (.aload_n 0, 1) := by decide +kernel
theorem dX10_lasts_36 : decode cX10_lasts 36 = .ok (.getfield 100, 3) := by decide +kernel
theorem dX10_lasts_39 : decode cX10_lasts 39 = .ok (.if_icmp .lt 7, 3) := by decide +kernel
theorem dX10_lasts_42 : decode cX10_lasts 42 = .ok (.iconst 1, 1) := by decide +kernel
theorem dX10_lasts_43 : decode cX10_lasts 43 = .ok (.goto 4, 3) := by decide +kernel
theorem dX10_lasts_46 : decode cX10_lasts 46 = .ok (.iconst 0, 1) := by decide +kernel
theorem dX10_lasts_47 : decode cX10_lasts 47 = .ok (.istore_n 2, 1) := by decide +kernel
theorem dX10_lasts_48 : decode cX10_lasts 48 = .ok (.iload_n 1, 1) := by decide +kernel
theorem dX10_lasts_49 : decode cX10_lasts 49 = .ok (.iload_n 2, 1) := by decide +kernel
theorem dX10_lasts_50 : decode cX10_lasts 50 = .ok (.ifCond .eq 7, 3) := by decide +kernel
theorem dX10_lasts_53 : decode cX10_lasts 53 = .ok (.iconst 1, 1) := by decide +kernel
theorem dX10_lasts_54 : decode cX10_lasts 54 = .ok (.goto 4, 3) := by decide +kernel
theorem dX10_lasts_57 : decode cX10_lasts 57 = .ok (.iconst 0, 1) := by decide +kernel
theorem dX10_lasts_58 : decode cX10_lasts 58 = .ok (.iadd, 1) := by decide +kernel
theorem dX10_lasts_59 : decode cX10_lasts 59 = .ok (.istore_n 1, 1) := by decide +kernel
theorem dX10_lasts_60 : decode cX10_lasts 60 = .ok (.goto (-47), 3) := by decide +kernel
theorem dX10_lasts_63 : decode cX10_lasts 63 = .ok (.iload_n 1, 1) := by decide +kernel
theorem dX10_lasts_64 : decode cX10_lasts 64 = .ok (.ireturn, 1) := by decide +kernel
theorem dX10_layWall_0 : decode cX10_layWall 0 = .ok (.aload_n 0, 1) := by decide +kernel
theorem dX10_layWall_1 : decode cX10_layWall 1 = .ok (.iload_n 1, 1) := by decide +kernel
theorem dX10_layWall_2 : decode cX10_layWall 2 = .ok (.putfield 142, 3) := by decide +kernel
theorem dX10_layWall_5 : decode cX10_layWall 5 = .ok (.aload_n 0, 1) := by decide +kernel
theorem dX10_layWall_6 : decode cX10_layWall 6 = .ok (.iload_n 2, 1) := by decide +kernel
theorem dX10_layWall_7 : decode cX10_layWall 7 = .ok (.putfield 145, 3) := by decide +kernel
theorem dX10_layWall_10 : decode cX10_layWall 10 = .ok (.iconst 0, 1) := by decide +kernel
theorem dX10_layWall_11 : decode cX10_layWall 11 = .ok (.istore 4, 2) := by decide +kernel
theorem dX10_layWall_13 : decode cX10_layWall 13 = .ok (.iload 4, 2) := by decide +kernel
theorem dX10_layWall_15 : decode cX10_layWall 15 = .ok (.iload_n 3, 1) := by decide +kernel
theorem dX10_layWall_16 : decode cX10_layWall 16 = .ok (.if_icmp .ge 13, 3) := by decide +kernel
theorem dX10_layWall_19 : decode cX10_layWall 19 = .ok (.aload_n 0, 1) := by decide +kernel
theorem dX10_layWall_20 : decode cX10_layWall 20 = .ok (.invokevirtual 152, 3) := by decide +kernel
theorem dX10_layWall_23 : decode cX10_layWall 23 = .ok (.iinc 4 1, 3) := by decide +kernel
theorem dX10_layWall_26 : decode cX10_layWall 26 = .ok (.goto (-13), 3) := by decide +kernel
theorem dX10_layWall_29 : decode cX10_layWall 29 = .ok (.return_, 1) := by decide +kernel
theorem dX10_findSpare_0 : decode cX10_findSpare 0 = .ok (.aload_n 0, 1) := by decide +kernel
theorem dX10_findSpare_1 : decode cX10_findSpare 1 = .ok (.bipush (-9), 2) := by decide +kernel
theorem dX10_findSpare_3 : decode cX10_findSpare 3 = .ok (.putfield 179, 3) := by decide +kernel
theorem dX10_findSpare_6 : decode cX10_findSpare 6 = .ok (.aload_n 0, 1) := by decide +kernel
theorem dX10_findSpare_7 : decode cX10_findSpare 7 = .ok (.bipush (-9), 2) := by decide +kernel
theorem dX10_findSpare_9 : decode cX10_findSpare 9 = .ok (.putfield 182, 3) := by decide +kernel
theorem dX10_findSpare_12 : decode cX10_findSpare 12 = .ok (.iconst 0, 1) := by decide +kernel
theorem dX10_findSpare_13 : decode cX10_findSpare 13 = .ok (.istore 4, 2) := by decide +kernel
theorem dX10_findSpare_15 : decode cX10_findSpare 15 = .ok (.iload 4, 2) := by decide +kernel
theorem dX10_findSpare_17 : decode cX10_findSpare 17 = .ok (.iconst 1, 1) := by decide +kernel
theorem dX10_findSpare_18 : decode cX10_findSpare 18 = .ok (.iload_n 1, 1) := by decide +kernel
theorem dX10_findSpare_19 : decode cX10_findSpare 19 = .ok (.ishl, 1) := by decide +kernel
theorem dX10_findSpare_20 : decode cX10_findSpare 20 = .ok (.if_icmp .ge 85, 3) := by decide +kernel
theorem dX10_findSpare_23 : decode cX10_findSpare 23 = .ok (.aload_n 0, 1) := by decide +kernel
theorem dX10_findSpare_24 : decode cX10_findSpare 24 = .ok (.iload_n 1, 1) := by decide +kernel
theorem dX10_findSpare_25 : decode cX10_findSpare 25 = .ok (.iload 4, 2) := by decide +kernel
theorem dX10_findSpare_27 : decode cX10_findSpare 27 = .ok (.iload_n 2, 1) := by decide +kernel
theorem dX10_findSpare_28 : decode cX10_findSpare 28 = .ok (.invokevirtual 185, 3) := by decide +kernel
theorem dX10_findSpare_31 : decode cX10_findSpare 31 = .ok (.iload_n 3, 1) := by decide +kernel
theorem dX10_findSpare_32 : decode cX10_findSpare 32 = .ok (.aload_n 0, 1) := by decide +kernel
theorem dX10_findSpare_33 : decode cX10_findSpare 33 = .ok (.getfield 145, 3) := by decide +kernel
theorem dX10_findSpare_36 : decode cX10_findSpare 36 = .ok (.iconst 1, 1) := by decide +kernel
theorem dX10_findSpare_37 : decode cX10_findSpare 37 = .ok (.aload_n 0, 1) := by decide +kernel
theorem dX10_findSpare_38 : decode cX10_findSpare 38 = .ok (.getfield 142, 3) := by decide +kernel
theorem dX10_findSpare_41 : decode cX10_findSpare 41 = .ok (.ishl, 1) := by decide +kernel
theorem dX10_findSpare_42 : decode cX10_findSpare 42 = .ok (.iconst 1, 1) := by decide +kernel
theorem dX10_findSpare_43 : decode cX10_findSpare 43 = .ok (.isub, 1) := by decide +kernel
theorem dX10_findSpare_44 : decode cX10_findSpare 44 = .ok (.iand, 1) := by decide +kernel
theorem dX10_findSpare_45 : decode cX10_findSpare 45 = .ok (.iconst (-1), 1) := by decide +kernel
theorem dX10_findSpare_46 : decode cX10_findSpare 46 = .ok (.ixor, 1) := by decide +kernel
theorem dX10_findSpare_47 : decode cX10_findSpare 47 = .ok (.iand, 1) := by decide +kernel
theorem dX10_findSpare_48 : decode cX10_findSpare 48 = .ok (.ifCond .ne 7, 3) := by decide +kernel
theorem dX10_findSpare_51 : decode cX10_findSpare 51 = .ok (.iconst 1, 1) := by decide +kernel
theorem dX10_findSpare_52 : decode cX10_findSpare 52 = .ok (.goto 4, 3) := by decide +kernel
theorem dX10_findSpare_55 : decode cX10_findSpare 55 = .ok (.iconst 0, 1) := by decide +kernel
theorem dX10_findSpare_56 : decode cX10_findSpare 56 = .ok (.istore 5, 2) := by decide +kernel
theorem dX10_findSpare_58 : decode cX10_findSpare 58 = .ok (.iload 5, 2) := by decide +kernel
theorem dX10_findSpare_60 : decode cX10_findSpare 60 = .ok (.ifCond .eq 39, 3) := by decide +kernel
theorem dX10_findSpare_63 : decode cX10_findSpare 63 = .ok (.aload_n 0, 1) := by decide +kernel
theorem dX10_findSpare_64 : decode cX10_findSpare 64 = .ok (.getfield 179, 3) := by decide +kernel
theorem dX10_findSpare_67 : decode cX10_findSpare 67 = .ok (.bipush (-9), 2) := by decide +kernel
theorem dX10_findSpare_69 : decode cX10_findSpare 69 = .ok (.if_icmp .eq 15, 3) := by decide +kernel
theorem dX10_findSpare_72 : decode cX10_findSpare 72 = .ok (.iload 4, 2) := by decide +kernel
theorem dX10_findSpare_74 : decode cX10_findSpare 74 = .ok (.invokestatic 189, 3) := by decide +kernel
theorem dX10_findSpare_77 : decode cX10_findSpare 77 = .ok (.aload_n 0, 1) := by decide +kernel
theorem dX10_findSpare_78 : decode cX10_findSpare 78 = .ok (.getfield 179, 3) := by decide +kernel
theorem dX10_findSpare_81 : decode cX10_findSpare 81 = .ok (.if_icmp .ge 18, 3) := by decide +kernel
theorem dX10_findSpare_84 : decode cX10_findSpare 84 = .ok (.aload_n 0, 1) := by decide +kernel
theorem dX10_findSpare_85 : decode cX10_findSpare 85 = .ok (.iload 4, 2) := by decide +kernel
theorem dX10_findSpare_87 : decode cX10_findSpare 87 = .ok (.invokestatic 189, 3) := by decide +kernel
theorem dX10_findSpare_90 : decode cX10_findSpare 90 = .ok (.putfield 179, 3) := by decide +kernel
theorem dX10_findSpare_93 : decode cX10_findSpare 93 = .ok (.aload_n 0, 1) := by decide +kernel
theorem dX10_findSpare_94 : decode cX10_findSpare 94 = .ok (.iload 4, 2) := by decide +kernel
theorem dX10_findSpare_96 : decode cX10_findSpare 96 = .ok (.putfield 182, 3) := by decide +kernel
theorem dX10_findSpare_99 : decode cX10_findSpare 99 = .ok (.iinc 4 1, 3) := by decide +kernel
theorem dX10_findSpare_102 : decode cX10_findSpare 102 = .ok (.goto (-87), 3) := by decide +kernel
theorem dX10_findSpare_105 : decode cX10_findSpare 105 = .ok (.return_, 1) := by decide +kernel
theorem dX10_spare_0 : decode cX10_spare 0 = .ok (.aload_n 0, 1) := by decide +kernel
theorem dX10_spare_1 : decode cX10_spare 1 = .ok (.iconst 0, 1) := by decide +kernel
theorem dX10_spare_2 : decode cX10_spare 2 = .ok (.putfield 56, 3) := by decide +kernel
theorem dX10_spare_5 : decode cX10_spare 5 = .ok (.iload_n 1, 1) := by decide +kernel
theorem dX10_spare_6 : decode cX10_spare 6 = .ok (.i2l, 1) := by decide +kernel
theorem dX10_spare_7 : decode cX10_spare 7 = .ok (.lconst 1, 1) := by decide +kernel
theorem dX10_spare_8 : decode cX10_spare 8 = .ok (.ldc2_w 192, 3) := by decide +kernel
theorem dX10_spare_11 : decode cX10_spare 11 = .ok (.invokestatic 63, 3) := by decide +kernel
theorem dX10_spare_14 : decode cX10_spare 14 = .ok (.ifCond .eq 41, 3) := by decide +kernel
theorem dX10_spare_17 : decode cX10_spare 17 = .ok (.iload_n 2, 1) := by decide +kernel
theorem dX10_spare_18 : decode cX10_spare 18 = .ok (.i2l, 1) := by decide +kernel
theorem dX10_spare_19 : decode cX10_spare 19 = .ok (.lconst 0, 1) := by decide +kernel
theorem dX10_spare_20 : decode cX10_spare 20 = .ok (.ldc2_w 194, 3) := by decide +kernel
theorem dX10_spare_23 : decode cX10_spare 23 = .ok (.invokestatic 63, 3) := by decide +kernel
theorem dX10_spare_26 : decode cX10_spare 26 = .ok (.ifCond .eq 29, 3) := by decide +kernel
theorem dX10_spare_29 : decode cX10_spare 29 = .ok (.iload_n 3, 1) := by decide +kernel
theorem dX10_spare_30 : decode cX10_spare 30 = .ok (.i2l, 1) := by decide +kernel
theorem dX10_spare_31 : decode cX10_spare 31 = .ok (.lconst 0, 1) := by decide +kernel
theorem dX10_spare_32 : decode cX10_spare 32 = .ok (.iconst 1, 1) := by decide +kernel
theorem dX10_spare_33 : decode cX10_spare 33 = .ok (.iload_n 1, 1) := by decide +kernel
theorem dX10_spare_34 : decode cX10_spare 34 = .ok (.ishl, 1) := by decide +kernel
theorem dX10_spare_35 : decode cX10_spare 35 = .ok (.iconst 1, 1) := by decide +kernel
theorem dX10_spare_36 : decode cX10_spare 36 = .ok (.isub, 1) := by decide +kernel
theorem dX10_spare_37 : decode cX10_spare 37 = .ok (.i2l, 1) := by decide +kernel
theorem dX10_spare_38 : decode cX10_spare 38 = .ok (.invokestatic 63, 3) := by decide +kernel
theorem dX10_spare_41 : decode cX10_spare 41 = .ok (.ifCond .eq 14, 3) := by decide +kernel
theorem dX10_spare_44 : decode cX10_spare 44 = .ok (.iload 4, 2) := by decide +kernel
theorem dX10_spare_46 : decode cX10_spare 46 = .ok (.i2l, 1) := by decide +kernel
theorem dX10_spare_47 : decode cX10_spare 47 = .ok (.lconst 0, 1) := by decide +kernel
theorem dX10_spare_48 : decode cX10_spare 48 = .ok (.lconst 1, 1) := by decide +kernel
theorem dX10_spare_49 : decode cX10_spare 49 = .ok (.invokestatic 63, 3) := by decide +kernel
theorem dX10_spare_52 : decode cX10_spare 52 = .ok (.ifCond .ne 6, 3) := by decide +kernel
theorem dX10_spare_55 : decode cX10_spare 55 = .ok (.bipush (-2), 2) := by decide +kernel
theorem dX10_spare_57 : decode cX10_spare 57 = .ok (.ireturn, 1) := by decide +kernel
theorem dX10_spare_58 : decode cX10_spare 58 = .ok (.aload_n 0, 1) := by decide +kernel
theorem dX10_spare_59 : decode cX10_spare 59 = .ok (.iload_n 1, 1) := by decide +kernel
theorem dX10_spare_60 : decode cX10_spare 60 = .ok (.iload_n 2, 1) := by decide +kernel
theorem dX10_spare_61 : decode cX10_spare 61 = .ok (.iload_n 3, 1) := by decide +kernel
theorem dX10_spare_62 : decode cX10_spare 62 = .ok (.invokevirtual 196, 3) := by decide +kernel
theorem dX10_spare_65 : decode cX10_spare 65 = .ok (.iload 4, 2) := by decide +kernel
theorem dX10_spare_67 : decode cX10_spare 67 = .ok (.ifCond .ne 10, 3) := by decide +kernel
theorem dX10_spare_70 : decode cX10_spare 70 = .ok (.aload_n 0, 1) := by decide +kernel
theorem dX10_spare_71 : decode cX10_spare 71 = .ok (.getfield 179, 3) := by decide +kernel
theorem dX10_spare_74 : decode cX10_spare 74 = .ok (.goto 7, 3) := by decide +kernel
theorem dX10_spare_77 : decode cX10_spare 77 = .ok (.aload_n 0, 1) := by decide +kernel
theorem dX10_spare_78 : decode cX10_spare 78 = .ok (.getfield 182, 3) := by decide +kernel
theorem dX10_spare_81 : decode cX10_spare 81 = .ok (.ireturn, 1) := by decide +kernel
theorem dX10_ways_0 : decode cX10_ways 0 = .ok (.iconst 1, 1) := by decide +kernel
theorem dX10_ways_1 : decode cX10_ways 1 = .ok (.istore_n 1, 1) := by decide +kernel
theorem dX10_ways_2 : decode cX10_ways 2 = .ok (.iconst 2, 1) := by decide +kernel
theorem dX10_ways_3 : decode cX10_ways 3 = .ok (.istore_n 2, 1) := by decide +kernel
theorem dX10_ways_4 : decode cX10_ways 4 = .ok (.iload_n 2, 1) := by decide +kernel
theorem dX10_ways_5 : decode cX10_ways 5 = .ok (.iload_n 0, 1) := by decide +kernel
theorem dX10_ways_6 : decode cX10_ways 6 = .ok (.if_icmp .gt 13, 3) := by decide +kernel
theorem dX10_ways_9 : decode cX10_ways 9 = .ok (.iload_n 1, 1) := by decide +kernel
theorem dX10_ways_10 : decode cX10_ways 10 = .ok (.iload_n 2, 1) := by decide +kernel
theorem dX10_ways_11 : decode cX10_ways 11 = .ok (.imul, 1) := by decide +kernel
theorem dX10_ways_12 : decode cX10_ways 12 = .ok (.istore_n 1, 1) := by decide +kernel
theorem dX10_ways_13 : decode cX10_ways 13 = .ok (.iinc 2 1, 3) := by decide +kernel
theorem dX10_ways_16 : decode cX10_ways 16 = .ok (.goto (-12), 3) := by decide +kernel
theorem dX10_ways_19 : decode cX10_ways 19 = .ok (.iload_n 1, 1) := by decide +kernel
theorem dX10_ways_20 : decode cX10_ways 20 = .ok (.ireturn, 1) := by decide +kernel
theorem dX10_divisor_0 : decode cX10_divisor 0 = .ok (.iload_n 0, 1) := by decide +kernel
theorem dX10_divisor_1 : decode cX10_divisor 1 = .ok (.ifCond .ge 8, 3) := by decide +kernel
theorem dX10_divisor_4 : decode cX10_divisor 4 = .ok (.iload_n 0, 1) := by decide +kernel
theorem dX10_divisor_5 : decode cX10_divisor 5 = .ok (.ineg, 1) := by decide +kernel
theorem dX10_divisor_6 : decode cX10_divisor 6 = .ok (.goto 4, 3) := by decide +kernel
theorem dX10_divisor_9 : decode cX10_divisor 9 = .ok (.iload_n 0, 1) := by decide +kernel
