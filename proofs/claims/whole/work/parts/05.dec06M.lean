theorem dX12_move_107 : decode cX12_move 107 = .ok (.iconst 1, 1) := by decide +kernel
theorem dX12_move_108 : decode cX12_move 108 = .ok (.iload 4, 2) := by decide +kernel
theorem dX12_move_110 : decode cX12_move 110 = .ok (.iconst 1, 1) := by decide +kernel
theorem dX12_move_111 : decode cX12_move 111 = .ok (.if_icmp .ne 7, 3) := by decide +kernel
theorem dX12_move_114 : decode cX12_move 114 = .ok (.iconst 1, 1) := by decide +kernel
theorem dX12_move_115 : decode cX12_move 115 = .ok (.goto 4, 3) := by decide +kernel
theorem dX12_move_118 : decode cX12_move 118 = .ok (.iconst 0, 1) := by decide +kernel
theorem dX12_move_119 : decode cX12_move 119 = .ok (.invokevirtual 139, 3) := by decide +kernel
theorem dX12_move_122 : decode cX12_move 122 = .ok (.aload_n 0, 1) := by decide +kernel
theorem dX12_move_123 : decode cX12_move 123 = .ok (.bipush 16, 2) := by decide +kernel
theorem dX12_move_125 : decode cX12_move 125 = .ok (.iconst 0, 1) := by decide +kernel
theorem dX12_move_126 : decode cX12_move 126 = .ok (.invokevirtual 139, 3) := by decide +kernel
theorem dX12_move_129 : decode cX12_move 129 = .ok (.aload_n 0, 1) := by decide +kernel
theorem dX12_move_130 : decode cX12_move 130 = .ok (.iconst 2, 1) := by decide +kernel
theorem dX12_move_131 : decode cX12_move 131 = .ok (.iconst 0, 1) := by decide +kernel
theorem dX12_move_132 : decode cX12_move 132 = .ok (.invokevirtual 139, 3) := by decide +kernel
theorem dX12_move_135 : decode cX12_move 135 = .ok (.iload 6, 2) := by decide +kernel
theorem dX12_move_137 : decode cX12_move 137 = .ok (.ireturn, 1) := by decide +kernel
theorem dX12_single_0 : decode cX12_single 0 = .ok (.iload_n 1, 1) := by decide +kernel
theorem dX12_single_1 : decode cX12_single 1 = .ok (.iconst 4, 1) := by decide +kernel
theorem dX12_single_2 : decode cX12_single 2 = .ok (.if_icmp .ge 25, 3) := by decide +kernel
theorem dX12_single_5 : decode cX12_single 5 = .ok (.aload_n 0, 1) := by decide +kernel
theorem dX12_single_6 : decode cX12_single 6 = .ok (.getfield 13, 3) := by decide +kernel
theorem dX12_single_9 : decode cX12_single 9 = .ok (.bipush 7, 2) := by decide +kernel
theorem dX12_single_11 : decode cX12_single 11 = .ok (.aload_n 0, 1) := by decide +kernel
theorem dX12_single_12 : decode cX12_single 12 = .ok (.iload_n 1, 1) := by decide +kernel
theorem dX12_single_13 : decode cX12_single 13 = .ok (.aload_n 0, 1) := by decide +kernel
theorem dX12_single_14 : decode cX12_single 14 = .ok (.getfield 13, 3) := by decide +kernel
theorem dX12_single_17 : decode cX12_single 17 = .ok (.bipush 7, 2) := by decide +kernel
theorem dX12_single_19 : decode cX12_single 19 = .ok (.iaload, 1) := by decide +kernel
theorem dX12_single_20 : decode cX12_single 20 = .ok (.invokevirtual 213, 3) := by decide +kernel
theorem dX12_single_23 : decode cX12_single 23 = .ok (.iastore, 1) := by decide +kernel
theorem dX12_single_24 : decode cX12_single 24 = .ok (.goto 102, 3) := by decide +kernel
theorem dX12_single_27 : decode cX12_single 27 = .ok (.iload_n 1, 1) := by decide +kernel
theorem dX12_single_28 : decode cX12_single 28 = .ok (.iconst 4, 1) := by decide +kernel
theorem dX12_single_29 : decode cX12_single 29 = .ok (.if_icmp .ne 5, 3) := by decide +kernel
theorem dX12_single_32 : decode cX12_single 32 = .ok (.iconst 0, 1) := by decide +kernel
theorem dX12_single_33 : decode cX12_single 33 = .ok (.ireturn, 1) := by decide +kernel
theorem dX12_single_34 : decode cX12_single 34 = .ok (.iload_n 1, 1) := by decide +kernel
theorem dX12_single_35 : decode cX12_single 35 = .ok (.iconst 5, 1) := by decide +kernel
theorem dX12_single_36 : decode cX12_single 36 = .ok (.if_icmp .ne 37, 3) := by decide +kernel
theorem dX12_single_39 : decode cX12_single 39 = .ok (.aload_n 0, 1) := by decide +kernel
theorem dX12_single_40 : decode cX12_single 40 = .ok (.getfield 13, 3) := by decide +kernel
theorem dX12_single_43 : decode cX12_single 43 = .ok (.bipush 7, 2) := by decide +kernel
theorem dX12_single_45 : decode cX12_single 45 = .ok (.aload_n 0, 1) := by decide +kernel
theorem dX12_single_46 : decode cX12_single 46 = .ok (.getfield 13, 3) := by decide +kernel
theorem dX12_single_49 : decode cX12_single 49 = .ok (.bipush 7, 2) := by decide +kernel
theorem dX12_single_51 : decode cX12_single 51 = .ok (.iaload, 1) := by decide +kernel
theorem dX12_single_52 : decode cX12_single 52 = .ok (.sipush 255, 3) := by decide +kernel
theorem dX12_single_55 : decode cX12_single 55 = .ok (.ixor, 1) := by decide +kernel
theorem dX12_single_56 : decode cX12_single 56 = .ok (.iastore, 1) := by decide +kernel
theorem dX12_single_57 : decode cX12_single 57 = .ok (.aload_n 0, 1) := by decide +kernel
theorem dX12_single_58 : decode cX12_single 58 = .ok (.bipush 16, 2) := by decide +kernel
theorem dX12_single_60 : decode cX12_single 60 = .ok (.iconst 1, 1) := by decide +kernel
theorem dX12_single_61 : decode cX12_single 61 = .ok (.invokevirtual 139, 3) := by decide +kernel
theorem dX12_single_64 : decode cX12_single 64 = .ok (.aload_n 0, 1) := by decide +kernel
theorem dX12_single_65 : decode cX12_single 65 = .ok (.iconst 2, 1) := by decide +kernel
theorem dX12_single_66 : decode cX12_single 66 = .ok (.iconst 1, 1) := by decide +kernel
theorem dX12_single_67 : decode cX12_single 67 = .ok (.invokevirtual 139, 3) := by decide +kernel
theorem dX12_single_70 : decode cX12_single 70 = .ok (.goto 56, 3) := by decide +kernel
theorem dX12_single_73 : decode cX12_single 73 = .ok (.aload_n 0, 1) := by decide +kernel
theorem dX12_single_74 : decode cX12_single 74 = .ok (.iconst 1, 1) := by decide +kernel
theorem dX12_single_75 : decode cX12_single 75 = .ok (.invokevirtual 121, 3) := by decide +kernel
theorem dX12_single_78 : decode cX12_single 78 = .ok (.istore_n 2, 1) := by decide +kernel
theorem dX12_single_79 : decode cX12_single 79 = .ok (.aload_n 0, 1) := by decide +kernel
theorem dX12_single_80 : decode cX12_single 80 = .ok (.bipush 16, 2) := by decide +kernel
theorem dX12_single_82 : decode cX12_single 82 = .ok (.iload_n 1, 1) := by decide +kernel
theorem dX12_single_83 : decode cX12_single 83 = .ok (.bipush 7, 2) := by decide +kernel
theorem dX12_single_85 : decode cX12_single 85 = .ok (.if_icmp .ne 11, 3) := by decide +kernel
theorem dX12_single_88 : decode cX12_single 88 = .ok (.iload_n 2, 1) := by decide +kernel
theorem dX12_single_89 : decode cX12_single 89 = .ok (.ifCond .eq 7, 3) := by decide +kernel
theorem dX12_single_92 : decode cX12_single 92 = .ok (.iconst 1, 1) := by decide +kernel
theorem dX12_single_93 : decode cX12_single 93 = .ok (.goto 4, 3) := by decide +kernel
theorem dX12_single_96 : decode cX12_single 96 = .ok (.iconst 0, 1) := by decide +kernel
theorem dX12_single_97 : decode cX12_single 97 = .ok (.invokevirtual 139, 3) := by decide +kernel
theorem dX12_single_100 : decode cX12_single 100 = .ok (.aload_n 0, 1) := by decide +kernel
theorem dX12_single_101 : decode cX12_single 101 = .ok (.iconst 2, 1) := by decide +kernel
theorem dX12_single_102 : decode cX12_single 102 = .ok (.iconst 0, 1) := by decide +kernel
theorem dX12_single_103 : decode cX12_single 103 = .ok (.invokevirtual 139, 3) := by decide +kernel
theorem dX12_single_106 : decode cX12_single 106 = .ok (.aload_n 0, 1) := by decide +kernel
theorem dX12_single_107 : decode cX12_single 107 = .ok (.iconst 1, 1) := by decide +kernel
theorem dX12_single_108 : decode cX12_single 108 = .ok (.iload_n 1, 1) := by decide +kernel
theorem dX12_single_109 : decode cX12_single 109 = .ok (.bipush 6, 2) := by decide +kernel
theorem dX12_single_111 : decode cX12_single 111 = .ok (.if_icmp .eq 7, 3) := by decide +kernel
theorem dX12_single_114 : decode cX12_single 114 = .ok (.iload_n 2, 1) := by decide +kernel
theorem dX12_single_115 : decode cX12_single 115 = .ok (.ifCond .ne 7, 3) := by decide +kernel
theorem dX12_single_118 : decode cX12_single 118 = .ok (.iconst 1, 1) := by decide +kernel
theorem dX12_single_119 : decode cX12_single 119 = .ok (.goto 4, 3) := by decide +kernel
theorem dX12_single_122 : decode cX12_single 122 = .ok (.iconst 0, 1) := by decide +kernel
theorem dX12_single_123 : decode cX12_single 123 = .ok (.invokevirtual 139, 3) := by decide +kernel
theorem dX12_single_126 : decode cX12_single 126 = .ok (.iconst 4, 1) := by decide +kernel
theorem dX12_single_127 : decode cX12_single 127 = .ok (.ireturn, 1) := by decide +kernel
theorem dX12_low_0 : decode cX12_low 0 = .ok (.iload_n 2, 1) := by decide +kernel
theorem dX12_low_1 : decode cX12_low 1 = .ok (.ifCond .ne 9, 3) := by decide +kernel
theorem dX12_low_4 : decode cX12_low 4 = .ok (.aload_n 0, 1) := by decide +kernel
theorem dX12_low_5 : decode cX12_low 5 = .ok (.iload_n 1, 1) := by decide +kernel
theorem dX12_low_6 : decode cX12_low 6 = .ok (.invokevirtual 179, 3) := by decide +kernel
theorem dX12_low_9 : decode cX12_low 9 = .ok (.ireturn, 1) := by decide +kernel
theorem dX12_low_10 : decode cX12_low 10 = .ok (.iload_n 2, 1) := by decide +kernel
theorem dX12_low_11 : decode cX12_low 11 = .ok (.iconst 1, 1) := by decide +kernel
theorem dX12_low_12 : decode cX12_low 12 = .ok (.if_icmp .ne 48, 3) := by decide +kernel
theorem dX12_low_15 : decode cX12_low 15 = .ok (.iload_n 1, 1) := by decide +kernel
theorem dX12_low_16 : decode cX12_low 16 = .ok (.iconst 1, 1) := by decide +kernel
theorem dX12_low_17 : decode cX12_low 17 = .ok (.iand, 1) := by decide +kernel
theorem dX12_low_18 : decode cX12_low 18 = .ok (.ifCond .ne 17, 3) := by decide +kernel
theorem dX12_low_21 : decode cX12_low 21 = .ok (.aload_n 0, 1) := by decide +kernel
theorem dX12_low_22 : decode cX12_low 22 = .ok (.iload_n 1, 1) := by decide +kernel
theorem dX12_low_23 : decode cX12_low 23 = .ok (.iconst 1, 1) := by decide +kernel
theorem dX12_low_24 : decode cX12_low 24 = .ok (.ishr, 1) := by decide +kernel
theorem dX12_low_25 : decode cX12_low 25 = .ok (.aload_n 0, 1) := by decide +kernel
theorem dX12_low_26 : decode cX12_low 26 = .ok (.invokevirtual 182, 3) := by decide +kernel
theorem dX12_low_29 : decode cX12_low 29 = .ok (.invokevirtual 185, 3) := by decide +kernel
theorem dX12_low_32 : decode cX12_low 32 = .ok (.goto 14, 3) := by decide +kernel
theorem dX12_low_35 : decode cX12_low 35 = .ok (.aload_n 0, 1) := by decide +kernel
theorem dX12_low_36 : decode cX12_low 36 = .ok (.aload_n 0, 1) := by decide +kernel
theorem dX12_low_37 : decode cX12_low 37 = .ok (.iload_n 1, 1) := by decide +kernel
theorem dX12_low_38 : decode cX12_low 38 = .ok (.iconst 1, 1) := by decide +kernel
theorem dX12_low_39 : decode cX12_low 39 = .ok (.ishr, 1) := by decide +kernel
theorem dX12_low_40 : decode cX12_low 40 = .ok (.invokevirtual 188, 3) := by decide +kernel
theorem dX12_low_43 : decode cX12_low 43 = .ok (.invokevirtual 191, 3) := by decide +kernel
theorem dX12_low_46 : decode cX12_low 46 = .ok (.iload_n 1, 1) := by decide +kernel
theorem dX12_low_47 : decode cX12_low 47 = .ok (.iconst 1, 1) := by decide +kernel
theorem dX12_low_48 : decode cX12_low 48 = .ok (.iand, 1) := by decide +kernel
theorem dX12_low_49 : decode cX12_low 49 = .ok (.ifCond .ne 8, 3) := by decide +kernel
theorem dX12_low_52 : decode cX12_low 52 = .ok (.bipush 10, 2) := by decide +kernel
theorem dX12_low_54 : decode cX12_low 54 = .ok (.goto 5, 3) := by decide +kernel
theorem dX12_low_57 : decode cX12_low 57 = .ok (.bipush 11, 2) := by decide +kernel
theorem dX12_low_59 : decode cX12_low 59 = .ok (.ireturn, 1) := by decide +kernel
theorem dX12_low_60 : decode cX12_low 60 = .ok (.iload_n 2, 1) := by decide +kernel
theorem dX12_low_61 : decode cX12_low 61 = .ok (.iconst 2, 1) := by decide +kernel
theorem dX12_low_62 : decode cX12_low 62 = .ok (.if_icmp .ne 9, 3) := by decide +kernel
theorem dX12_low_65 : decode cX12_low 65 = .ok (.aload_n 0, 1) := by decide +kernel
theorem dX12_low_66 : decode cX12_low 66 = .ok (.iload_n 1, 1) := by decide +kernel
theorem dX12_low_67 : decode cX12_low 67 = .ok (.invokevirtual 194, 3) := by decide +kernel
theorem dX12_low_70 : decode cX12_low 70 = .ok (.ireturn, 1) := by decide +kernel
theorem dX12_low_71 : decode cX12_low 71 = .ok (.iload_n 2, 1) := by decide +kernel
theorem dX12_low_72 : decode cX12_low 72 = .ok (.iconst 3, 1) := by decide +kernel
theorem dX12_low_73 : decode cX12_low 73 = .ok (.if_icmp .ne 32, 3) := by decide +kernel
theorem dX12_low_76 : decode cX12_low 76 = .ok (.aload_n 0, 1) := by decide +kernel
theorem dX12_low_77 : decode cX12_low 77 = .ok (.iload_n 1, 1) := by decide +kernel
theorem dX12_low_78 : decode cX12_low 78 = .ok (.iconst 1, 1) := by decide +kernel
theorem dX12_low_79 : decode cX12_low 79 = .ok (.ishr, 1) := by decide +kernel
theorem dX12_low_80 : decode cX12_low 80 = .ok (.aload_n 0, 1) := by decide +kernel
theorem dX12_low_81 : decode cX12_low 81 = .ok (.iload_n 1, 1) := by decide +kernel
theorem dX12_low_82 : decode cX12_low 82 = .ok (.iconst 1, 1) := by decide +kernel
theorem dX12_low_83 : decode cX12_low 83 = .ok (.ishr, 1) := by decide +kernel
theorem dX12_low_84 : decode cX12_low 84 = .ok (.invokevirtual 188, 3) := by decide +kernel
theorem dX12_low_87 : decode cX12_low 87 = .ok (.iload_n 1, 1) := by decide +kernel
theorem dX12_low_88 : decode cX12_low 88 = .ok (.iconst 1, 1) := by decide +kernel
theorem dX12_low_89 : decode cX12_low 89 = .ok (.iand, 1) := by decide +kernel
theorem dX12_low_90 : decode cX12_low 90 = .ok (.ifCond .ne 7, 3) := by decide +kernel
theorem dX12_low_93 : decode cX12_low 93 = .ok (.iconst 1, 1) := by decide +kernel
theorem dX12_low_94 : decode cX12_low 94 = .ok (.goto 4, 3) := by decide +kernel
theorem dX12_low_97 : decode cX12_low 97 = .ok (.iconst (-1), 1) := by decide +kernel
theorem dX12_low_98 : decode cX12_low 98 = .ok (.iadd, 1) := by decide +kernel
theorem dX12_low_99 : decode cX12_low 99 = .ok (.invokevirtual 185, 3) := by decide +kernel
theorem dX12_low_102 : decode cX12_low 102 = .ok (.bipush 6, 2) := by decide +kernel
theorem dX12_low_104 : decode cX12_low 104 = .ok (.ireturn, 1) := by decide +kernel
theorem dX12_low_105 : decode cX12_low 105 = .ok (.iload_n 2, 1) := by decide +kernel
theorem dX12_low_106 : decode cX12_low 106 = .ok (.iconst 4, 1) := by decide +kernel
theorem dX12_low_107 : decode cX12_low 107 = .ok (.if_icmp .eq 8, 3) := by decide +kernel
theorem dX12_low_110 : decode cX12_low 110 = .ok (.iload_n 2, 1) := by decide +kernel
theorem dX12_low_111 : decode cX12_low 111 = .ok (.iconst 5, 1) := by decide +kernel
theorem dX12_low_112 : decode cX12_low 112 = .ok (.if_icmp .ne 40, 3) := by decide +kernel
theorem dX12_low_115 : decode cX12_low 115 = .ok (.aload_n 0, 1) := by decide +kernel
theorem dX12_low_116 : decode cX12_low 116 = .ok (.iload_n 1, 1) := by decide +kernel
theorem dX12_low_117 : decode cX12_low 117 = .ok (.aload_n 0, 1) := by decide +kernel
theorem dX12_low_118 : decode cX12_low 118 = .ok (.aload_n 0, 1) := by decide +kernel
theorem dX12_low_119 : decode cX12_low 119 = .ok (.iload_n 1, 1) := by decide +kernel
theorem dX12_low_120 : decode cX12_low 120 = .ok (.invokevirtual 170, 3) := by decide +kernel
theorem dX12_low_123 : decode cX12_low 123 = .ok (.iload_n 2, 1) := by decide +kernel
theorem dX12_low_124 : decode cX12_low 124 = .ok (.iconst 5, 1) := by decide +kernel
theorem dX12_low_125 : decode cX12_low 125 = .ok (.if_icmp .ne 7, 3) := by decide +kernel
theorem dX12_low_128 : decode cX12_low 128 = .ok (.iconst 1, 1) := by decide +kernel
theorem dX12_low_129 : decode cX12_low 129 = .ok (.goto 4, 3) := by decide +kernel
theorem dX12_low_132 : decode cX12_low 132 = .ok (.iconst 0, 1) := by decide +kernel
theorem dX12_low_133 : decode cX12_low 133 = .ok (.invokevirtual 197, 3) := by decide +kernel
theorem dX12_low_136 : decode cX12_low 136 = .ok (.invokevirtual 173, 3) := by decide +kernel
theorem dX12_low_139 : decode cX12_low 139 = .ok (.iload_n 1, 1) := by decide +kernel
theorem dX12_low_140 : decode cX12_low 140 = .ok (.bipush 6, 2) := by decide +kernel
theorem dX12_low_142 : decode cX12_low 142 = .ok (.if_icmp .ne 8, 3) := by decide +kernel
theorem dX12_low_145 : decode cX12_low 145 = .ok (.bipush 11, 2) := by decide +kernel
theorem dX12_low_147 : decode cX12_low 147 = .ok (.goto 4, 3) := by decide +kernel
theorem dX12_low_150 : decode cX12_low 150 = .ok (.iconst 4, 1) := by decide +kernel
theorem dX12_low_151 : decode cX12_low 151 = .ok (.ireturn, 1) := by decide +kernel
theorem dX12_low_152 : decode cX12_low 152 = .ok (.iload_n 2, 1) := by decide +kernel
theorem dX12_low_153 : decode cX12_low 153 = .ok (.bipush 6, 2) := by decide +kernel
theorem dX12_low_155 : decode cX12_low 155 = .ok (.if_icmp .ne 26, 3) := by decide +kernel
theorem dX12_low_158 : decode cX12_low 158 = .ok (.aload_n 0, 1) := by decide +kernel
theorem dX12_low_159 : decode cX12_low 159 = .ok (.iload_n 1, 1) := by decide +kernel
theorem dX12_low_160 : decode cX12_low 160 = .ok (.aload_n 0, 1) := by decide +kernel
theorem dX12_low_161 : decode cX12_low 161 = .ok (.invokevirtual 105, 3) := by decide +kernel
theorem dX12_low_164 : decode cX12_low 164 = .ok (.invokevirtual 173, 3) := by decide +kernel
theorem dX12_low_167 : decode cX12_low 167 = .ok (.iload_n 1, 1) := by decide +kernel
theorem dX12_low_168 : decode cX12_low 168 = .ok (.bipush 6, 2) := by decide +kernel
theorem dX12_low_170 : decode cX12_low 170 = .ok (.if_icmp .ne 8, 3) := by decide +kernel
theorem dX12_low_173 : decode cX12_low 173 = .ok (.bipush 10, 2) := by decide +kernel
theorem dX12_low_175 : decode cX12_low 175 = .ok (.goto 5, 3) := by decide +kernel
theorem dX12_low_178 : decode cX12_low 178 = .ok (.bipush 7, 2) := by decide +kernel
theorem dX12_low_180 : decode cX12_low 180 = .ok (.ireturn, 1) := by decide +kernel
theorem dX12_low_181 : decode cX12_low 181 = .ok (.aload_n 0, 1) := by decide +kernel
theorem dX12_low_182 : decode cX12_low 182 = .ok (.iload_n 1, 1) := by decide +kernel
theorem dX12_low_183 : decode cX12_low 183 = .ok (.invokevirtual 201, 3) := by decide +kernel
theorem dX12_low_186 : decode cX12_low 186 = .ok (.ireturn, 1) := by decide +kernel
theorem dX12_pop_0 : decode cX12_pop 0 = .ok (.aload_n 0, 1) := by decide +kernel
theorem dX12_pop_1 : decode cX12_pop 1 = .ok (.aload_n 0, 1) := by decide +kernel
theorem dX12_pop_2 : decode cX12_pop 2 = .ok (.getfield 17, 3) := by decide +kernel
theorem dX12_pop_5 : decode cX12_pop 5 = .ok (.invokevirtual 118, 3) := by decide +kernel
theorem dX12_pop_8 : decode cX12_pop 8 = .ok (.istore_n 1, 1) := by decide +kernel
theorem dX12_pop_9 : decode cX12_pop 9 = .ok (.aload_n 0, 1) := by decide +kernel
theorem dX12_pop_10 : decode cX12_pop 10 = .ok (.aload_n 0, 1) := by decide +kernel
theorem dX12_pop_11 : decode cX12_pop 11 = .ok (.getfield 17, 3) := by decide +kernel
theorem dX12_pop_14 : decode cX12_pop 14 = .ok (.iconst 2, 1) := by decide +kernel
theorem dX12_pop_15 : decode cX12_pop 15 = .ok (.iadd, 1) := by decide +kernel
theorem dX12_pop_16 : decode cX12_pop 16 = .ok (.ldc 16, 2) := by decide +kernel
theorem dX12_pop_18 : decode cX12_pop 18 = .ok (.iand, 1) := by decide +kernel
theorem dX12_pop_19 : decode cX12_pop 19 = .ok (.putfield 17, 3) := by decide +kernel
theorem dX12_pop_22 : decode cX12_pop 22 = .ok (.iload_n 1, 1) := by decide +kernel
theorem dX12_pop_23 : decode cX12_pop 23 = .ok (.ireturn, 1) := by decide +kernel
theorem dX12_pops_0 : decode cX12_pops 0 = .ok (.iload_n 1, 1) := by decide +kernel
theorem dX12_pops_1 : decode cX12_pops 1 = .ok (.iconst 1, 1) := by decide +kernel
theorem dX12_pops_2 : decode cX12_pops 2 = .ok (.iand, 1) := by decide +kernel
theorem dX12_pops_3 : decode cX12_pops 3 = .ok (.ifCond .ne 32, 3) := by decide +kernel
theorem dX12_pops_6 : decode cX12_pops 6 = .ok (.aload_n 0, 1) := by decide +kernel
theorem dX12_pops_7 : decode cX12_pops 7 = .ok (.invokevirtual 216, 3) := by decide +kernel
theorem dX12_pops_10 : decode cX12_pops 10 = .ok (.istore_n 2, 1) := by decide +kernel
theorem dX12_pops_11 : decode cX12_pops 11 = .ok (.iload_n 1, 1) := by decide +kernel
theorem dX12_pops_12 : decode cX12_pops 12 = .ok (.bipush 6, 2) := by decide +kernel
theorem dX12_pops_14 : decode cX12_pops 14 = .ok (.if_icmp .ne 12, 3) := by decide +kernel
theorem dX12_pops_17 : decode cX12_pops 17 = .ok (.aload_n 0, 1) := by decide +kernel
theorem dX12_pops_18 : decode cX12_pops 18 = .ok (.iconst 0, 1) := by decide +kernel
theorem dX12_pops_19 : decode cX12_pops 19 = .ok (.iload_n 2, 1) := by decide +kernel
theorem dX12_pops_20 : decode cX12_pops 20 = .ok (.invokevirtual 207, 3) := by decide +kernel
theorem dX12_pops_23 : decode cX12_pops 23 = .ok (.goto 9, 3) := by decide +kernel
theorem dX12_pops_26 : decode cX12_pops 26 = .ok (.aload_n 0, 1) := by decide +kernel
theorem dX12_pops_27 : decode cX12_pops 27 = .ok (.iload_n 1, 1) := by decide +kernel
theorem dX12_pops_28 : decode cX12_pops 28 = .ok (.iload_n 2, 1) := by decide +kernel
theorem dX12_pops_29 : decode cX12_pops 29 = .ok (.invokevirtual 112, 3) := by decide +kernel
theorem dX12_pops_32 : decode cX12_pops 32 = .ok (.bipush 10, 2) := by decide +kernel
theorem dX12_pops_34 : decode cX12_pops 34 = .ok (.ireturn, 1) := by decide +kernel
theorem dX12_pops_35 : decode cX12_pops 35 = .ok (.iload_n 1, 1) := by decide +kernel
theorem dX12_pops_36 : decode cX12_pops 36 = .ok (.iconst 1, 1) := by decide +kernel
theorem dX12_pops_37 : decode cX12_pops 37 = .ok (.if_icmp .ne 14, 3) := by decide +kernel
theorem dX12_pops_40 : decode cX12_pops 40 = .ok (.aload_n 0, 1) := by decide +kernel
theorem dX12_pops_41 : decode cX12_pops 41 = .ok (.aload_n 0, 1) := by decide +kernel
theorem dX12_pops_42 : decode cX12_pops 42 = .ok (.invokevirtual 216, 3) := by decide +kernel
theorem dX12_pops_45 : decode cX12_pops 45 = .ok (.putfield 102, 3) := by decide +kernel
theorem dX12_pops_48 : decode cX12_pops 48 = .ok (.goto 83, 3) := by decide +kernel
theorem dX12_pops_51 : decode cX12_pops 51 = .ok (.iload_n 1, 1) := by decide +kernel
theorem dX12_pops_52 : decode cX12_pops 52 = .ok (.iconst 3, 1) := by decide +kernel
theorem dX12_pops_53 : decode cX12_pops 53 = .ok (.if_icmp .ne 52, 3) := by decide +kernel
theorem dX12_pops_56 : decode cX12_pops 56 = .ok (.iconst 0, 1) := by decide +kernel
theorem dX12_pops_57 : decode cX12_pops 57 = .ok (.istore_n 2, 1) := by decide +kernel
theorem dX12_pops_58 : decode cX12_pops 58 = .ok (.iload_n 2, 1) := by decide +kernel
theorem dX12_pops_59 : decode cX12_pops 59 = .ok (.bipush 6, 2) := by decide +kernel
theorem dX12_pops_61 : decode cX12_pops 61 = .ok (.if_icmp .ge 41, 3) := by decide +kernel
theorem dX12_pops_64 : decode cX12_pops 64 = .ok (.aload_n 0, 1) := by decide +kernel
theorem dX12_pops_65 : decode cX12_pops 65 = .ok (.getfield 13, 3) := by decide +kernel
theorem dX12_pops_68 : decode cX12_pops 68 = .ok (.iload_n 2, 1) := by decide +kernel
theorem dX12_pops_69 : decode cX12_pops 69 = .ok (.iaload, 1) := by decide +kernel
theorem dX12_pops_70 : decode cX12_pops 70 = .ok (.istore_n 3, 1) := by decide +kernel
theorem dX12_pops_71 : decode cX12_pops 71 = .ok (.aload_n 0, 1) := by decide +kernel
theorem dX12_pops_72 : decode cX12_pops 72 = .ok (.getfield 13, 3) := by decide +kernel
theorem dX12_pops_75 : decode cX12_pops 75 = .ok (.iload_n 2, 1) := by decide +kernel
theorem dX12_pops_76 : decode cX12_pops 76 = .ok (.aload_n 0, 1) := by decide +kernel
theorem dX12_pops_77 : decode cX12_pops 77 = .ok (.getfield 13, 3) := by decide +kernel
theorem dX12_pops_80 : decode cX12_pops 80 = .ok (.bipush 8, 2) := by decide +kernel
theorem dX12_pops_82 : decode cX12_pops 82 = .ok (.iload_n 2, 1) := by decide +kernel
theorem dX12_pops_83 : decode cX12_pops 83 = .ok (.iadd, 1) := by decide +kernel
theorem dX12_pops_84 : decode cX12_pops 84 = .ok (.iaload, 1) := by decide +kernel
theorem dX12_pops_85 : decode cX12_pops 85 = .ok (.iastore, 1) := by decide +kernel
theorem dX12_pops_86 : decode cX12_pops 86 = .ok (.aload_n 0, 1) := by decide +kernel
theorem dX12_pops_87 : decode cX12_pops 87 = .ok (.getfield 13, 3) := by decide +kernel
theorem dX12_pops_90 : decode cX12_pops 90 = .ok (.bipush 8, 2) := by decide +kernel
theorem dX12_pops_92 : decode cX12_pops 92 = .ok (.iload_n 2, 1) := by decide +kernel
theorem dX12_pops_93 : decode cX12_pops 93 = .ok (.iadd, 1) := by decide +kernel
theorem dX12_pops_94 : decode cX12_pops 94 = .ok (.iload_n 3, 1) := by decide +kernel
theorem dX12_pops_95 : decode cX12_pops 95 = .ok (.iastore, 1) := by decide +kernel
theorem dX12_pops_96 : decode cX12_pops 96 = .ok (.iinc 2 1, 3) := by decide +kernel
theorem dX12_pops_99 : decode cX12_pops 99 = .ok (.goto (-41), 3) := by decide +kernel
theorem dX12_pops_102 : decode cX12_pops 102 = .ok (.goto 29, 3) := by decide +kernel
theorem dX12_pops_105 : decode cX12_pops 105 = .ok (.iload_n 1, 1) := by decide +kernel
theorem dX12_pops_106 : decode cX12_pops 106 = .ok (.iconst 5, 1) := by decide +kernel
theorem dX12_pops_107 : decode cX12_pops 107 = .ok (.if_icmp .ne 15, 3) := by decide +kernel
theorem dX12_pops_110 : decode cX12_pops 110 = .ok (.aload_n 0, 1) := by decide +kernel
theorem dX12_pops_111 : decode cX12_pops 111 = .ok (.aload_n 0, 1) := by decide +kernel
theorem dX12_pops_112 : decode cX12_pops 112 = .ok (.iconst 4, 1) := by decide +kernel
theorem dX12_pops_113 : decode cX12_pops 113 = .ok (.invokevirtual 109, 3) := by decide +kernel
theorem dX12_pops_116 : decode cX12_pops 116 = .ok (.putfield 102, 3) := by decide +kernel
theorem dX12_pops_119 : decode cX12_pops 119 = .ok (.goto 12, 3) := by decide +kernel
theorem dX12_pops_122 : decode cX12_pops 122 = .ok (.aload_n 0, 1) := by decide +kernel
theorem dX12_pops_123 : decode cX12_pops 123 = .ok (.aload_n 0, 1) := by decide +kernel
theorem dX12_pops_124 : decode cX12_pops 124 = .ok (.iconst 4, 1) := by decide +kernel
theorem dX12_pops_125 : decode cX12_pops 125 = .ok (.invokevirtual 109, 3) := by decide +kernel
theorem dX12_pops_128 : decode cX12_pops 128 = .ok (.putfield 17, 3) := by decide +kernel
theorem dX12_pops_131 : decode cX12_pops 131 = .ok (.iload_n 1, 1) := by decide +kernel
theorem dX12_pops_132 : decode cX12_pops 132 = .ok (.iconst 1, 1) := by decide +kernel
theorem dX12_pops_133 : decode cX12_pops 133 = .ok (.if_icmp .ne 8, 3) := by decide +kernel
theorem dX12_pops_136 : decode cX12_pops 136 = .ok (.bipush 10, 2) := by decide +kernel
theorem dX12_pops_138 : decode cX12_pops 138 = .ok (.goto 15, 3) := by decide +kernel
theorem dX12_pops_141 : decode cX12_pops 141 = .ok (.iload_n 1, 1) := by decide +kernel
theorem dX12_pops_142 : decode cX12_pops 142 = .ok (.bipush 7, 2) := by decide +kernel
theorem dX12_pops_144 : decode cX12_pops 144 = .ok (.if_icmp .ne 8, 3) := by decide +kernel
theorem dX12_pops_147 : decode cX12_pops 147 = .ok (.bipush 6, 2) := by decide +kernel
theorem dX12_pops_149 : decode cX12_pops 149 = .ok (.goto 4, 3) := by decide +kernel
theorem dX12_pops_152 : decode cX12_pops 152 = .ok (.iconst 4, 1) := by decide +kernel
theorem dX12_pops_153 : decode cX12_pops 153 = .ok (.ireturn, 1) := by decide +kernel
theorem dX12_push_0 : decode cX12_push 0 = .ok (.aload_n 0, 1) := by decide +kernel
theorem dX12_push_1 : decode cX12_push 1 = .ok (.aload_n 0, 1) := by decide +kernel
theorem dX12_push_2 : decode cX12_push 2 = .ok (.getfield 17, 3) := by decide +kernel
theorem dX12_push_5 : decode cX12_push 5 = .ok (.iconst 2, 1) := by decide +kernel
theorem dX12_push_6 : decode cX12_push 6 = .ok (.isub, 1) := by decide +kernel
theorem dX12_push_7 : decode cX12_push 7 = .ok (.ldc 16, 2) := by decide +kernel
theorem dX12_push_9 : decode cX12_push 9 = .ok (.iand, 1) := by decide +kernel
theorem dX12_push_10 : decode cX12_push 10 = .ok (.putfield 17, 3) := by decide +kernel
theorem dX12_push_13 : decode cX12_push 13 = .ok (.aload_n 0, 1) := by decide +kernel
theorem dX12_push_14 : decode cX12_push 14 = .ok (.aload_n 0, 1) := by decide +kernel
theorem dX12_push_15 : decode cX12_push 15 = .ok (.getfield 17, 3) := by decide +kernel
theorem dX12_push_18 : decode cX12_push 18 = .ok (.iload_n 1, 1) := by decide +kernel
theorem dX12_push_19 : decode cX12_push 19 = .ok (.invokevirtual 115, 3) := by decide +kernel
theorem dX12_push_22 : decode cX12_push 22 = .ok (.return_, 1) := by decide +kernel
theorem dX12_even_0 : decode cX12_even 0 = .ok (.iconst 0, 1) := by decide +kernel
theorem dX12_even_1 : decode cX12_even 1 = .ok (.istore_n 1, 1) := by decide +kernel
theorem dX12_even_2 : decode cX12_even 2 = .ok (.iconst 0, 1) := by decide +kernel
theorem dX12_even_3 : decode cX12_even 3 = .ok (.istore_n 2, 1) := by decide +kernel
theorem dX12_even_4 : decode cX12_even 4 = .ok (.iload_n 2, 1) := by decide +kernel
theorem dX12_even_5 : decode cX12_even 5 = .ok (.bipush 8, 2) := by decide +kernel
theorem dX12_even_7 : decode cX12_even 7 = .ok (.if_icmp .ge 17, 3) := by decide +kernel
theorem dX12_even_10 : decode cX12_even 10 = .ok (.iload_n 1, 1) := by decide +kernel
theorem dX12_even_11 : decode cX12_even 11 = .ok (.iload_n 0, 1) := by decide +kernel
theorem dX12_even_12 : decode cX12_even 12 = .ok (.iload_n 2, 1) := by decide +kernel
theorem dX12_even_13 : decode cX12_even 13 = .ok (.ishr, 1) := by decide +kernel
theorem dX12_even_14 : decode cX12_even 14 = .ok (.iconst 1, 1) := by decide +kernel
theorem dX12_even_15 : decode cX12_even 15 = .ok (.iand, 1) := by decide +kernel
theorem dX12_even_16 : decode cX12_even 16 = .ok (.iadd, 1) := by decide +kernel
theorem dX12_even_17 : decode cX12_even 17 = .ok (.istore_n 1, 1) := by decide +kernel
theorem dX12_even_18 : decode cX12_even 18 = .ok (.iinc 2 1, 3) := by decide +kernel
theorem dX12_even_21 : decode cX12_even 21 = .ok (.goto (-17), 3) := by decide +kernel
theorem dX12_even_24 : decode cX12_even 24 = .ok (.iload_n 1, 1) := by decide +kernel
theorem dX12_even_25 : decode cX12_even 25 = .ok (.iconst 2, 1) := by decide +kernel
theorem dX12_even_26 : decode cX12_even 26 = .ok (.irem, 1) := by decide +kernel
theorem dX12_even_27 : decode cX12_even 27 = .ok (.ifCond .ne 7, 3) := by decide +kernel
theorem dX12_even_30 : decode cX12_even 30 = .ok (.iconst 1, 1) := by decide +kernel
theorem dX12_even_31 : decode cX12_even 31 = .ok (.goto 4, 3) := by decide +kernel
theorem dX12_even_34 : decode cX12_even 34 = .ok (.iconst 0, 1) := by decide +kernel
theorem dX12_even_35 : decode cX12_even 35 = .ok (.ireturn, 1) := by decide +kernel
theorem dX12_shown_0 : decode cX12_shown 0 = .ok (.aload_n 0, 1) := by decide +kernel
theorem dX12_shown_1 : decode cX12_shown 1 = .ok (.sipush 128, 3) := by decide +kernel
theorem dX12_shown_4 : decode cX12_shown 4 = .ok (.iload_n 1, 1) := by decide +kernel
theorem dX12_shown_5 : decode cX12_shown 5 = .ok (.bipush 127, 2) := by decide +kernel
theorem dX12_shown_7 : decode cX12_shown 7 = .ok (.if_icmp .le 7, 3) := by decide +kernel
theorem dX12_shown_10 : decode cX12_shown 10 = .ok (.iconst 1, 1) := by decide +kernel
theorem dX12_shown_11 : decode cX12_shown 11 = .ok (.goto 4, 3) := by decide +kernel
theorem dX12_shown_14 : decode cX12_shown 14 = .ok (.iconst 0, 1) := by decide +kernel
theorem dX12_shown_15 : decode cX12_shown 15 = .ok (.invokevirtual 139, 3) := by decide +kernel
theorem dX12_shown_18 : decode cX12_shown 18 = .ok (.aload_n 0, 1) := by decide +kernel
theorem dX12_shown_19 : decode cX12_shown 19 = .ok (.bipush 64, 2) := by decide +kernel
theorem dX12_shown_21 : decode cX12_shown 21 = .ok (.iload_n 1, 1) := by decide +kernel
theorem dX12_shown_22 : decode cX12_shown 22 = .ok (.ifCond .ne 7, 3) := by decide +kernel
theorem dX12_shown_25 : decode cX12_shown 25 = .ok (.iconst 1, 1) := by decide +kernel
theorem dX12_shown_26 : decode cX12_shown 26 = .ok (.goto 4, 3) := by decide +kernel
theorem dX12_shown_29 : decode cX12_shown 29 = .ok (.iconst 0, 1) := by decide +kernel
theorem dX12_shown_30 : decode cX12_shown 30 = .ok (.invokevirtual 139, 3) := by decide +kernel
theorem dX12_shown_33 : decode cX12_shown 33 = .ok (.aload_n 0, 1) := by decide +kernel
theorem dX12_shown_34 : decode cX12_shown 34 = .ok (.iconst 4, 1) := by decide +kernel
theorem dX12_shown_35 : decode cX12_shown 35 = .ok (.iload_n 1, 1) := by decide +kernel
theorem dX12_shown_36 : decode cX12_shown 36 = .ok (.invokestatic 147, 3) := by decide +kernel
theorem dX12_shown_39 : decode cX12_shown 39 = .ok (.invokevirtual 139, 3) := by decide +kernel
theorem dX12_shown_42 : decode cX12_shown 42 = .ok (.return_, 1) := by decide +kernel
theorem dX12_bits_0 : decode cX12_bits 0 = .ok (.aload_n 0, 1) := by decide +kernel
theorem dX12_bits_1 : decode cX12_bits 1 = .ok (.invokevirtual 105, 3) := by decide +kernel
theorem dX12_bits_4 : decode cX12_bits 4 = .ok (.istore_n 1, 1) := by decide +kernel
theorem dX12_bits_5 : decode cX12_bits 5 = .ok (.iload_n 1, 1) := by decide +kernel
theorem dX12_bits_6 : decode cX12_bits 6 = .ok (.bipush 7, 2) := by decide +kernel
theorem dX12_bits_8 : decode cX12_bits 8 = .ok (.iand, 1) := by decide +kernel
theorem dX12_bits_9 : decode cX12_bits 9 = .ok (.istore_n 2, 1) := by decide +kernel
theorem dX12_bits_10 : decode cX12_bits 10 = .ok (.iload_n 1, 1) := by decide +kernel
theorem dX12_bits_11 : decode cX12_bits 11 = .ok (.iconst 3, 1) := by decide +kernel
theorem dX12_bits_12 : decode cX12_bits 12 = .ok (.ishr, 1) := by decide +kernel
theorem dX12_bits_13 : decode cX12_bits 13 = .ok (.bipush 7, 2) := by decide +kernel
theorem dX12_bits_15 : decode cX12_bits 15 = .ok (.iand, 1) := by decide +kernel
theorem dX12_bits_16 : decode cX12_bits 16 = .ok (.istore_n 3, 1) := by decide +kernel
theorem dX12_bits_17 : decode cX12_bits 17 = .ok (.aload_n 0, 1) := by decide +kernel
theorem dX12_bits_18 : decode cX12_bits 18 = .ok (.iload_n 2, 1) := by decide +kernel
theorem dX12_bits_19 : decode cX12_bits 19 = .ok (.invokevirtual 170, 3) := by decide +kernel
theorem dX12_bits_22 : decode cX12_bits 22 = .ok (.istore 4, 2) := by decide +kernel
theorem dX12_bits_24 : decode cX12_bits 24 = .ok (.iload_n 1, 1) := by decide +kernel
theorem dX12_bits_25 : decode cX12_bits 25 = .ok (.bipush 64, 2) := by decide +kernel
theorem dX12_bits_27 : decode cX12_bits 27 = .ok (.if_icmp .ge 36, 3) := by decide +kernel
theorem dX12_bits_30 : decode cX12_bits 30 = .ok (.iload_n 3, 1) := by decide +kernel
theorem dX12_bits_31 : decode cX12_bits 31 = .ok (.bipush 6, 2) := by decide +kernel
theorem dX12_bits_33 : decode cX12_bits 33 = .ok (.if_icmp .ne 5, 3) := by decide +kernel
theorem dX12_bits_36 : decode cX12_bits 36 = .ok (.iconst 0, 1) := by decide +kernel
theorem dX12_bits_37 : decode cX12_bits 37 = .ok (.ireturn, 1) := by decide +kernel
theorem dX12_bits_38 : decode cX12_bits 38 = .ok (.aload_n 0, 1) := by decide +kernel
theorem dX12_bits_39 : decode cX12_bits 39 = .ok (.iload_n 3, 1) := by decide +kernel
theorem dX12_bits_40 : decode cX12_bits 40 = .ok (.iload 4, 2) := by decide +kernel
theorem dX12_bits_42 : decode cX12_bits 42 = .ok (.invokevirtual 213, 3) := by decide +kernel
theorem dX12_bits_45 : decode cX12_bits 45 = .ok (.istore 5, 2) := by decide +kernel
theorem dX12_bits_47 : decode cX12_bits 47 = .ok (.aload_n 0, 1) := by decide +kernel
theorem dX12_bits_48 : decode cX12_bits 48 = .ok (.iload_n 2, 1) := by decide +kernel
theorem dX12_bits_49 : decode cX12_bits 49 = .ok (.iload 5, 2) := by decide +kernel
theorem dX12_bits_51 : decode cX12_bits 51 = .ok (.invokevirtual 173, 3) := by decide +kernel
theorem dX12_bits_54 : decode cX12_bits 54 = .ok (.aload_n 0, 1) := by decide +kernel
theorem dX12_bits_55 : decode cX12_bits 55 = .ok (.iload 5, 2) := by decide +kernel
theorem dX12_bits_57 : decode cX12_bits 57 = .ok (.invokevirtual 143, 3) := by decide +kernel
theorem dX12_bits_60 : decode cX12_bits 60 = .ok (.goto 126, 3) := by decide +kernel
theorem dX12_bits_63 : decode cX12_bits 63 = .ok (.iload_n 1, 1) := by decide +kernel
theorem dX12_bits_64 : decode cX12_bits 64 = .ok (.sipush 128, 3) := by decide +kernel
theorem dX12_bits_67 : decode cX12_bits 67 = .ok (.if_icmp .ge 90, 3) := by decide +kernel
theorem dX12_bits_70 : decode cX12_bits 70 = .ok (.iload 4, 2) := by decide +kernel
theorem dX12_bits_72 : decode cX12_bits 72 = .ok (.iload_n 3, 1) := by decide +kernel
theorem dX12_bits_73 : decode cX12_bits 73 = .ok (.ishr, 1) := by decide +kernel
theorem dX12_bits_74 : decode cX12_bits 74 = .ok (.iconst 1, 1) := by decide +kernel
theorem dX12_bits_75 : decode cX12_bits 75 = .ok (.iand, 1) := by decide +kernel
theorem dX12_bits_76 : decode cX12_bits 76 = .ok (.iconst 1, 1) := by decide +kernel
theorem dX12_bits_77 : decode cX12_bits 77 = .ok (.if_icmp .ne 7, 3) := by decide +kernel
theorem dX12_bits_80 : decode cX12_bits 80 = .ok (.iconst 1, 1) := by decide +kernel
theorem dX12_bits_81 : decode cX12_bits 81 = .ok (.goto 4, 3) := by decide +kernel
theorem dX12_bits_84 : decode cX12_bits 84 = .ok (.iconst 0, 1) := by decide +kernel
theorem dX12_bits_85 : decode cX12_bits 85 = .ok (.istore 5, 2) := by decide +kernel
theorem dX12_bits_87 : decode cX12_bits 87 = .ok (.aload_n 0, 1) := by decide +kernel
theorem dX12_bits_88 : decode cX12_bits 88 = .ok (.bipush 64, 2) := by decide +kernel
theorem dX12_bits_90 : decode cX12_bits 90 = .ok (.iload 5, 2) := by decide +kernel
theorem dX12_bits_92 : decode cX12_bits 92 = .ok (.ifCond .ne 7, 3) := by decide +kernel
theorem dX12_bits_95 : decode cX12_bits 95 = .ok (.iconst 1, 1) := by decide +kernel
theorem dX12_bits_96 : decode cX12_bits 96 = .ok (.goto 4, 3) := by decide +kernel
theorem dX12_bits_99 : decode cX12_bits 99 = .ok (.iconst 0, 1) := by decide +kernel
theorem dX12_bits_100 : decode cX12_bits 100 = .ok (.invokevirtual 139, 3) := by decide +kernel
theorem dX12_bits_103 : decode cX12_bits 103 = .ok (.aload_n 0, 1) := by decide +kernel
theorem dX12_bits_104 : decode cX12_bits 104 = .ok (.iconst 4, 1) := by decide +kernel
theorem dX12_bits_105 : decode cX12_bits 105 = .ok (.iload 5, 2) := by decide +kernel
theorem dX12_bits_107 : decode cX12_bits 107 = .ok (.ifCond .ne 7, 3) := by decide +kernel
theorem dX12_bits_110 : decode cX12_bits 110 = .ok (.iconst 1, 1) := by decide +kernel
theorem dX12_bits_111 : decode cX12_bits 111 = .ok (.goto 4, 3) := by decide +kernel
theorem dX12_bits_114 : decode cX12_bits 114 = .ok (.iconst 0, 1) := by decide +kernel
theorem dX12_bits_115 : decode cX12_bits 115 = .ok (.invokevirtual 139, 3) := by decide +kernel
theorem dX12_bits_118 : decode cX12_bits 118 = .ok (.aload_n 0, 1) := by decide +kernel
theorem dX12_bits_119 : decode cX12_bits 119 = .ok (.bipush 16, 2) := by decide +kernel
theorem dX12_bits_121 : decode cX12_bits 121 = .ok (.iconst 1, 1) := by decide +kernel
theorem dX12_bits_122 : decode cX12_bits 122 = .ok (.invokevirtual 139, 3) := by decide +kernel
theorem dX12_bits_125 : decode cX12_bits 125 = .ok (.aload_n 0, 1) := by decide +kernel
theorem dX12_bits_126 : decode cX12_bits 126 = .ok (.iconst 2, 1) := by decide +kernel
theorem dX12_bits_127 : decode cX12_bits 127 = .ok (.iconst 0, 1) := by decide +kernel
theorem dX12_bits_128 : decode cX12_bits 128 = .ok (.invokevirtual 139, 3) := by decide +kernel
theorem dX12_bits_131 : decode cX12_bits 131 = .ok (.aload_n 0, 1) := by decide +kernel
theorem dX12_bits_132 : decode cX12_bits 132 = .ok (.sipush 128, 3) := by decide +kernel
theorem dX12_bits_135 : decode cX12_bits 135 = .ok (.iload_n 3, 1) := by decide +kernel
theorem dX12_bits_136 : decode cX12_bits 136 = .ok (.bipush 7, 2) := by decide +kernel
theorem dX12_bits_138 : decode cX12_bits 138 = .ok (.if_icmp .ne 12, 3) := by decide +kernel
theorem dX12_bits_141 : decode cX12_bits 141 = .ok (.iload 5, 2) := by decide +kernel
theorem dX12_bits_143 : decode cX12_bits 143 = .ok (.ifCond .eq 7, 3) := by decide +kernel
theorem dX12_bits_146 : decode cX12_bits 146 = .ok (.iconst 1, 1) := by decide +kernel
theorem dX12_bits_147 : decode cX12_bits 147 = .ok (.goto 4, 3) := by decide +kernel
theorem dX12_bits_150 : decode cX12_bits 150 = .ok (.iconst 0, 1) := by decide +kernel
theorem dX12_bits_151 : decode cX12_bits 151 = .ok (.invokevirtual 139, 3) := by decide +kernel
theorem dX12_bits_154 : decode cX12_bits 154 = .ok (.goto 32, 3) := by decide +kernel
theorem dX12_bits_157 : decode cX12_bits 157 = .ok (.aload_n 0, 1) := by decide +kernel
theorem dX12_bits_158 : decode cX12_bits 158 = .ok (.iload_n 2, 1) := by decide +kernel
theorem dX12_bits_159 : decode cX12_bits 159 = .ok (.iload_n 1, 1) := by decide +kernel
theorem dX12_bits_160 : decode cX12_bits 160 = .ok (.sipush 192, 3) := by decide +kernel
theorem dX12_bits_163 : decode cX12_bits 163 = .ok (.if_icmp .ge 14, 3) := by decide +kernel
theorem dX12_bits_166 : decode cX12_bits 166 = .ok (.iload 4, 2) := by decide +kernel
theorem dX12_bits_168 : decode cX12_bits 168 = .ok (.iconst 1, 1) := by decide +kernel
theorem dX12_bits_169 : decode cX12_bits 169 = .ok (.iload_n 3, 1) := by decide +kernel
theorem dX12_bits_170 : decode cX12_bits 170 = .ok (.ishl, 1) := by decide +kernel
theorem dX12_bits_171 : decode cX12_bits 171 = .ok (.iconst (-1), 1) := by decide +kernel
theorem dX12_bits_172 : decode cX12_bits 172 = .ok (.ixor, 1) := by decide +kernel
theorem dX12_bits_173 : decode cX12_bits 173 = .ok (.iand, 1) := by decide +kernel
theorem dX12_bits_174 : decode cX12_bits 174 = .ok (.goto 9, 3) := by decide +kernel
theorem dX12_bits_177 : decode cX12_bits 177 = .ok (.iload 4, 2) := by decide +kernel
theorem dX12_bits_179 : decode cX12_bits 179 = .ok (.iconst 1, 1) := by decide +kernel
theorem dX12_bits_180 : decode cX12_bits 180 = .ok (.iload_n 3, 1) := by decide +kernel
theorem dX12_bits_181 : decode cX12_bits 181 = .ok (.ishl, 1) := by decide +kernel
theorem dX12_bits_182 : decode cX12_bits 182 = .ok (.ior, 1) := by decide +kernel
theorem dX12_bits_183 : decode cX12_bits 183 = .ok (.invokevirtual 173, 3) := by decide +kernel
theorem dX12_bits_186 : decode cX12_bits 186 = .ok (.iload_n 2, 1) := by decide +kernel
theorem dX12_bits_187 : decode cX12_bits 187 = .ok (.bipush 6, 2) := by decide +kernel
theorem dX12_bits_189 : decode cX12_bits 189 = .ok (.if_icmp .eq 8, 3) := by decide +kernel
theorem dX12_bits_192 : decode cX12_bits 192 = .ok (.bipush 8, 2) := by decide +kernel
theorem dX12_bits_194 : decode cX12_bits 194 = .ok (.goto 23, 3) := by decide +kernel
theorem dX12_bits_197 : decode cX12_bits 197 = .ok (.iload_n 1, 1) := by decide +kernel
theorem dX12_bits_198 : decode cX12_bits 198 = .ok (.bipush 64, 2) := by decide +kernel
theorem dX12_bits_200 : decode cX12_bits 200 = .ok (.if_icmp .lt 15, 3) := by decide +kernel
theorem dX12_bits_203 : decode cX12_bits 203 = .ok (.iload_n 1, 1) := by decide +kernel
theorem dX12_bits_204 : decode cX12_bits 204 = .ok (.sipush 128, 3) := by decide +kernel
theorem dX12_bits_207 : decode cX12_bits 207 = .ok (.if_icmp .ge 8, 3) := by decide +kernel
theorem dX12_bits_210 : decode cX12_bits 210 = .ok (.bipush 12, 2) := by decide +kernel
theorem dX12_bits_212 : decode cX12_bits 212 = .ok (.goto 5, 3) := by decide +kernel
theorem dX12_bits_215 : decode cX12_bits 215 = .ok (.bipush 15, 2) := by decide +kernel
theorem dX12_bits_217 : decode cX12_bits 217 = .ok (.ireturn, 1) := by decide +kernel
theorem dX12_control_0 : decode cX12_control 0 = .ok (.aload_n 0, 1) := by decide +kernel
theorem dX12_control_1 : decode cX12_control 1 = .ok (.getfield 52, 3) := by decide +kernel
theorem dX12_control_4 : decode cX12_control 4 = .ok (.iload_n 1, 1) := by decide +kernel
theorem dX12_control_5 : decode cX12_control 5 = .ok (.baload, 1) := by decide +kernel
theorem dX12_control_6 : decode cX12_control 6 = .ok (.ifCond .eq 56, 3) := by decide +kernel
theorem dX12_control_9 : decode cX12_control 9 = .ok (.aload_n 0, 1) := by decide +kernel
theorem dX12_control_10 : decode cX12_control 10 = .ok (.getfield 34, 3) := by decide +kernel
theorem dX12_control_13 : decode cX12_control 13 = .ok (.iload_n 1, 1) := by decide +kernel
theorem dX12_control_14 : decode cX12_control 14 = .ok (.iload_n 2, 1) := by decide +kernel
theorem dX12_control_15 : decode cX12_control 15 = .ok (.ifCond .ne 9, 3) := by decide +kernel
theorem dX12_control_18 : decode cX12_control 18 = .ok (.sipush 256, 3) := by decide +kernel
theorem dX12_control_21 : decode cX12_control 21 = .ok (.goto 4, 3) := by decide +kernel
theorem dX12_control_24 : decode cX12_control 24 = .ok (.iload_n 2, 1) := by decide +kernel
theorem dX12_control_25 : decode cX12_control 25 = .ok (.iastore, 1) := by decide +kernel
theorem dX12_control_26 : decode cX12_control 26 = .ok (.aload_n 0, 1) := by decide +kernel
theorem dX12_control_27 : decode cX12_control 27 = .ok (.getfield 37, 3) := by decide +kernel
theorem dX12_control_30 : decode cX12_control 30 = .ok (.iload_n 1, 1) := by decide +kernel
theorem dX12_control_31 : decode cX12_control 31 = .ok (.aload_n 0, 1) := by decide +kernel
theorem dX12_control_32 : decode cX12_control 32 = .ok (.getfield 34, 3) := by decide +kernel
theorem dX12_control_35 : decode cX12_control 35 = .ok (.iload_n 1, 1) := by decide +kernel
theorem dX12_control_36 : decode cX12_control 36 = .ok (.iaload, 1) := by decide +kernel
theorem dX12_control_37 : decode cX12_control 37 = .ok (.iastore, 1) := by decide +kernel
theorem dX12_control_38 : decode cX12_control 38 = .ok (.aload_n 0, 1) := by decide +kernel
theorem dX12_control_39 : decode cX12_control 39 = .ok (.getfield 40, 3) := by decide +kernel
theorem dX12_control_42 : decode cX12_control 42 = .ok (.iload_n 1, 1) := by decide +kernel
theorem dX12_control_43 : decode cX12_control 43 = .ok (.iconst 0, 1) := by decide +kernel
theorem dX12_control_44 : decode cX12_control 44 = .ok (.iastore, 1) := by decide +kernel
theorem dX12_control_45 : decode cX12_control 45 = .ok (.aload_n 0, 1) := by decide +kernel
theorem dX12_control_46 : decode cX12_control 46 = .ok (.getfield 43, 3) := by decide +kernel
theorem dX12_control_49 : decode cX12_control 49 = .ok (.iload_n 1, 1) := by decide +kernel
theorem dX12_control_50 : decode cX12_control 50 = .ok (.iconst 1, 1) := by decide +kernel
theorem dX12_control_51 : decode cX12_control 51 = .ok (.bastore, 1) := by decide +kernel
theorem dX12_control_52 : decode cX12_control 52 = .ok (.aload_n 0, 1) := by decide +kernel
theorem dX12_control_53 : decode cX12_control 53 = .ok (.getfield 52, 3) := by decide +kernel
theorem dX12_control_56 : decode cX12_control 56 = .ok (.iload_n 1, 1) := by decide +kernel
theorem dX12_control_57 : decode cX12_control 57 = .ok (.iconst 0, 1) := by decide +kernel
theorem dX12_control_58 : decode cX12_control 58 = .ok (.bastore, 1) := by decide +kernel
theorem dX12_control_59 : decode cX12_control 59 = .ok (.goto 158, 3) := by decide +kernel
theorem dX12_control_62 : decode cX12_control 62 = .ok (.iload_n 2, 1) := by decide +kernel
theorem dX12_control_63 : decode cX12_control 63 = .ok (.iconst 1, 1) := by decide +kernel
theorem dX12_control_64 : decode cX12_control 64 = .ok (.iand, 1) := by decide +kernel
theorem dX12_control_65 : decode cX12_control 65 = .ok (.ifCond .ne 15, 3) := by decide +kernel
theorem dX12_control_68 : decode cX12_control 68 = .ok (.aload_n 0, 1) := by decide +kernel
theorem dX12_control_69 : decode cX12_control 69 = .ok (.iload_n 2, 1) := by decide +kernel
theorem dX12_control_70 : decode cX12_control 70 = .ok (.sipush 248, 3) := by decide +kernel
theorem dX12_control_73 : decode cX12_control 73 = .ok (.iand, 1) := by decide +kernel
theorem dX12_control_74 : decode cX12_control 74 = .ok (.putfield 262, 3) := by decide +kernel
theorem dX12_control_77 : decode cX12_control 77 = .ok (.goto 140, 3) := by decide +kernel
theorem dX12_control_80 : decode cX12_control 80 = .ok (.aload_n 0, 1) := by decide +kernel
theorem dX12_control_81 : decode cX12_control 81 = .ok (.getfield 31, 3) := by decide +kernel
theorem dX12_control_84 : decode cX12_control 84 = .ok (.iload_n 1, 1) := by decide +kernel
theorem dX12_control_85 : decode cX12_control 85 = .ok (.iload_n 2, 1) := by decide +kernel
theorem dX12_control_86 : decode cX12_control 86 = .ok (.sipush 128, 3) := by decide +kernel
theorem dX12_control_89 : decode cX12_control 89 = .ok (.iand, 1) := by decide +kernel
theorem dX12_control_90 : decode cX12_control 90 = .ok (.ifCond .eq 7, 3) := by decide +kernel
theorem dX12_control_93 : decode cX12_control 93 = .ok (.iconst 1, 1) := by decide +kernel
theorem dX12_control_94 : decode cX12_control 94 = .ok (.goto 4, 3) := by decide +kernel
theorem dX12_control_97 : decode cX12_control 97 = .ok (.iconst 0, 1) := by decide +kernel
theorem dX12_control_98 : decode cX12_control 98 = .ok (.bastore, 1) := by decide +kernel
theorem dX12_control_99 : decode cX12_control 99 = .ok (.aload_n 0, 1) := by decide +kernel
theorem dX12_control_100 : decode cX12_control 100 = .ok (.getfield 24, 3) := by decide +kernel
theorem dX12_control_103 : decode cX12_control 103 = .ok (.iload_n 1, 1) := by decide +kernel
theorem dX12_control_104 : decode cX12_control 104 = .ok (.aload_n 0, 1) := by decide +kernel
theorem dX12_control_105 : decode cX12_control 105 = .ok (.getfield 24, 3) := by decide +kernel
theorem dX12_control_108 : decode cX12_control 108 = .ok (.iload_n 1, 1) := by decide +kernel
theorem dX12_control_109 : decode cX12_control 109 = .ok (.baload, 1) := by decide +kernel
theorem dX12_control_110 : decode cX12_control 110 = .ok (.ifCond .eq 16, 3) := by decide +kernel
theorem dX12_control_113 : decode cX12_control 113 = .ok (.aload_n 0, 1) := by decide +kernel
theorem dX12_control_114 : decode cX12_control 114 = .ok (.getfield 31, 3) := by decide +kernel
theorem dX12_control_117 : decode cX12_control 117 = .ok (.iload_n 1, 1) := by decide +kernel
theorem dX12_control_118 : decode cX12_control 118 = .ok (.baload, 1) := by decide +kernel
theorem dX12_control_119 : decode cX12_control 119 = .ok (.ifCond .eq 7, 3) := by decide +kernel
theorem dX12_control_122 : decode cX12_control 122 = .ok (.iconst 1, 1) := by decide +kernel
theorem dX12_control_123 : decode cX12_control 123 = .ok (.goto 4, 3) := by decide +kernel
theorem dX12_control_126 : decode cX12_control 126 = .ok (.iconst 0, 1) := by decide +kernel
theorem dX12_control_127 : decode cX12_control 127 = .ok (.bastore, 1) := by decide +kernel
theorem dX12_control_128 : decode cX12_control 128 = .ok (.aload_n 0, 1) := by decide +kernel
theorem dX12_control_129 : decode cX12_control 129 = .ok (.getfield 46, 3) := by decide +kernel
theorem dX12_control_132 : decode cX12_control 132 = .ok (.iload_n 1, 1) := by decide +kernel
theorem dX12_control_133 : decode cX12_control 133 = .ok (.iload_n 2, 1) := by decide +kernel
theorem dX12_control_134 : decode cX12_control 134 = .ok (.bipush 64, 2) := by decide +kernel
theorem dX12_control_136 : decode cX12_control 136 = .ok (.iand, 1) := by decide +kernel
theorem dX12_control_137 : decode cX12_control 137 = .ok (.ifCond .eq 7, 3) := by decide +kernel
theorem dX12_control_140 : decode cX12_control 140 = .ok (.iconst 1, 1) := by decide +kernel
theorem dX12_control_141 : decode cX12_control 141 = .ok (.goto 4, 3) := by decide +kernel
theorem dX12_control_144 : decode cX12_control 144 = .ok (.iconst 0, 1) := by decide +kernel
theorem dX12_control_145 : decode cX12_control 145 = .ok (.bastore, 1) := by decide +kernel
theorem dX12_control_146 : decode cX12_control 146 = .ok (.aload_n 0, 1) := by decide +kernel
theorem dX12_control_147 : decode cX12_control 147 = .ok (.getfield 49, 3) := by decide +kernel
theorem dX12_control_150 : decode cX12_control 150 = .ok (.iload_n 1, 1) := by decide +kernel
theorem dX12_control_151 : decode cX12_control 151 = .ok (.iload_n 2, 1) := by decide +kernel
theorem dX12_control_152 : decode cX12_control 152 = .ok (.bipush 32, 2) := by decide +kernel
theorem dX12_control_154 : decode cX12_control 154 = .ok (.iand, 1) := by decide +kernel
theorem dX12_control_155 : decode cX12_control 155 = .ok (.ifCond .eq 9, 3) := by decide +kernel
theorem dX12_control_158 : decode cX12_control 158 = .ok (.sipush 256, 3) := by decide +kernel
theorem dX12_control_161 : decode cX12_control 161 = .ok (.goto 5, 3) := by decide +kernel
theorem dX12_control_164 : decode cX12_control 164 = .ok (.bipush 16, 2) := by decide +kernel
theorem dX12_control_166 : decode cX12_control 166 = .ok (.iastore, 1) := by decide +kernel
theorem dX12_control_167 : decode cX12_control 167 = .ok (.aload_n 0, 1) := by decide +kernel
theorem dX12_control_168 : decode cX12_control 168 = .ok (.getfield 52, 3) := by decide +kernel
theorem dX12_control_171 : decode cX12_control 171 = .ok (.iload_n 1, 1) := by decide +kernel
theorem dX12_control_172 : decode cX12_control 172 = .ok (.iload_n 2, 1) := by decide +kernel
theorem dX12_control_173 : decode cX12_control 173 = .ok (.iconst 4, 1) := by decide +kernel
theorem dX12_control_174 : decode cX12_control 174 = .ok (.iand, 1) := by decide +kernel
theorem dX12_control_175 : decode cX12_control 175 = .ok (.ifCond .eq 7, 3) := by decide +kernel
theorem dX12_control_178 : decode cX12_control 178 = .ok (.iconst 1, 1) := by decide +kernel
theorem dX12_control_179 : decode cX12_control 179 = .ok (.goto 4, 3) := by decide +kernel
theorem dX12_control_182 : decode cX12_control 182 = .ok (.iconst 0, 1) := by decide +kernel
theorem dX12_control_183 : decode cX12_control 183 = .ok (.bastore, 1) := by decide +kernel
theorem dX12_control_184 : decode cX12_control 184 = .ok (.aload_n 0, 1) := by decide +kernel
theorem dX12_control_185 : decode cX12_control 185 = .ok (.getfield 43, 3) := by decide +kernel
theorem dX12_control_188 : decode cX12_control 188 = .ok (.iload_n 1, 1) := by decide +kernel
theorem dX12_control_189 : decode cX12_control 189 = .ok (.aload_n 0, 1) := by decide +kernel
theorem dX12_control_190 : decode cX12_control 190 = .ok (.getfield 43, 3) := by decide +kernel
theorem dX12_control_193 : decode cX12_control 193 = .ok (.iload_n 1, 1) := by decide +kernel
theorem dX12_control_194 : decode cX12_control 194 = .ok (.baload, 1) := by decide +kernel
theorem dX12_control_195 : decode cX12_control 195 = .ok (.ifCond .eq 13, 3) := by decide +kernel
theorem dX12_control_198 : decode cX12_control 198 = .ok (.iload_n 2, 1) := by decide +kernel
theorem dX12_control_199 : decode cX12_control 199 = .ok (.iconst 2, 1) := by decide +kernel
theorem dX12_control_200 : decode cX12_control 200 = .ok (.iand, 1) := by decide +kernel
theorem dX12_control_201 : decode cX12_control 201 = .ok (.ifCond .ne 7, 3) := by decide +kernel
theorem dX12_control_204 : decode cX12_control 204 = .ok (.iconst 1, 1) := by decide +kernel
theorem dX12_control_205 : decode cX12_control 205 = .ok (.goto 4, 3) := by decide +kernel
theorem dX12_control_208 : decode cX12_control 208 = .ok (.iconst 0, 1) := by decide +kernel
theorem dX12_control_209 : decode cX12_control 209 = .ok (.bastore, 1) := by decide +kernel
theorem dX12_control_210 : decode cX12_control 210 = .ok (.aload_n 0, 1) := by decide +kernel
theorem dX12_control_211 : decode cX12_control 211 = .ok (.getfield 40, 3) := by decide +kernel
theorem dX12_control_214 : decode cX12_control 214 = .ok (.iload_n 1, 1) := by decide +kernel
theorem dX12_control_215 : decode cX12_control 215 = .ok (.iconst 0, 1) := by decide +kernel
theorem dX12_control_216 : decode cX12_control 216 = .ok (.iastore, 1) := by decide +kernel
theorem dX12_control_217 : decode cX12_control 217 = .ok (.return_, 1) := by decide +kernel
theorem dX12_request_0 : decode cX12_request 0 = .ok (.aload_n 0, 1) := by decide +kernel
theorem dX12_request_1 : decode cX12_request 1 = .ok (.getfield 31, 3) := by decide +kernel
theorem dX12_request_4 : decode cX12_request 4 = .ok (.iload_n 1, 1) := by decide +kernel
theorem dX12_request_5 : decode cX12_request 5 = .ok (.baload, 1) := by decide +kernel
theorem dX12_request_6 : decode cX12_request 6 = .ok (.ifCond .eq 10, 3) := by decide +kernel
theorem dX12_request_9 : decode cX12_request 9 = .ok (.aload_n 0, 1) := by decide +kernel
theorem dX12_request_10 : decode cX12_request 10 = .ok (.getfield 24, 3) := by decide +kernel
theorem dX12_request_13 : decode cX12_request 13 = .ok (.iload_n 1, 1) := by decide +kernel
theorem dX12_request_14 : decode cX12_request 14 = .ok (.iconst 1, 1) := by decide +kernel
theorem dX12_request_15 : decode cX12_request 15 = .ok (.bastore, 1) := by decide +kernel
theorem dX12_request_16 : decode cX12_request 16 = .ok (.return_, 1) := by decide +kernel
theorem dX12_watch_0 : decode cX12_watch 0 = .ok (.aload_n 0, 1) := by decide +kernel
theorem dX12_watch_1 : decode cX12_watch 1 = .ok (.getfield 64, 3) := by decide +kernel
theorem dX12_watch_4 : decode cX12_watch 4 = .ok (.iload_n 1, 1) := by decide +kernel
theorem dX12_watch_5 : decode cX12_watch 5 = .ok (.iaload, 1) := by decide +kernel
theorem dX12_watch_6 : decode cX12_watch 6 = .ok (.aload_n 0, 1) := by decide +kernel
theorem dX12_watch_7 : decode cX12_watch 7 = .ok (.getfield 67, 3) := by decide +kernel
theorem dX12_watch_10 : decode cX12_watch 10 = .ok (.iload_n 1, 1) := by decide +kernel
theorem dX12_watch_11 : decode cX12_watch 11 = .ok (.iaload, 1) := by decide +kernel
theorem dX12_watch_12 : decode cX12_watch 12 = .ok (.iconst (-1), 1) := by decide +kernel
theorem dX12_watch_13 : decode cX12_watch 13 = .ok (.ixor, 1) := by decide +kernel
theorem dX12_watch_14 : decode cX12_watch 14 = .ok (.iand, 1) := by decide +kernel
theorem dX12_watch_15 : decode cX12_watch 15 = .ok (.sipush 255, 3) := by decide +kernel
theorem dX12_watch_18 : decode cX12_watch 18 = .ok (.iand, 1) := by decide +kernel
theorem dX12_watch_19 : decode cX12_watch 19 = .ok (.istore_n 2, 1) := by decide +kernel
theorem dX12_watch_20 : decode cX12_watch 20 = .ok (.aload_n 0, 1) := by decide +kernel
theorem dX12_watch_21 : decode cX12_watch 21 = .ok (.getfield 73, 3) := by decide +kernel
theorem dX12_watch_24 : decode cX12_watch 24 = .ok (.iload_n 1, 1) := by decide +kernel
theorem dX12_watch_25 : decode cX12_watch 25 = .ok (.baload, 1) := by decide +kernel
theorem dX12_watch_26 : decode cX12_watch 26 = .ok (.ifCond .eq 12, 3) := by decide +kernel
theorem dX12_watch_29 : decode cX12_watch 29 = .ok (.aload_n 0, 1) := by decide +kernel
theorem dX12_watch_30 : decode cX12_watch 30 = .ok (.getfield 85, 3) := by decide +kernel
theorem dX12_watch_33 : decode cX12_watch 33 = .ok (.iload_n 1, 1) := by decide +kernel
theorem dX12_watch_34 : decode cX12_watch 34 = .ok (.iaload, 1) := by decide +kernel
theorem dX12_watch_35 : decode cX12_watch 35 = .ok (.goto 11, 3) := by decide +kernel
theorem dX12_watch_38 : decode cX12_watch 38 = .ok (.aload_n 0, 1) := by decide +kernel
theorem dX12_watch_39 : decode cX12_watch 39 = .ok (.getfield 85, 3) := by decide +kernel
theorem dX12_watch_42 : decode cX12_watch 42 = .ok (.iload_n 1, 1) := by decide +kernel
theorem dX12_watch_43 : decode cX12_watch 43 = .ok (.iaload, 1) := by decide +kernel
theorem dX12_watch_44 : decode cX12_watch 44 = .ok (.iconst (-1), 1) := by decide +kernel
theorem dX12_watch_45 : decode cX12_watch 45 = .ok (.ixor, 1) := by decide +kernel
theorem dX12_watch_46 : decode cX12_watch 46 = .ok (.iload_n 2, 1) := by decide +kernel
theorem dX12_watch_47 : decode cX12_watch 47 = .ok (.iand, 1) := by decide +kernel
theorem dX12_watch_48 : decode cX12_watch 48 = .ok (.istore_n 3, 1) := by decide +kernel
theorem dX12_watch_49 : decode cX12_watch 49 = .ok (.aload_n 0, 1) := by decide +kernel
theorem dX12_watch_50 : decode cX12_watch 50 = .ok (.getfield 55, 3) := by decide +kernel
theorem dX12_watch_53 : decode cX12_watch 53 = .ok (.iload_n 1, 1) := by decide +kernel
theorem dX12_watch_54 : decode cX12_watch 54 = .ok (.iaload, 1) := by decide +kernel
theorem dX12_watch_55 : decode cX12_watch 55 = .ok (.iconst 3, 1) := by decide +kernel
theorem dX12_watch_56 : decode cX12_watch 56 = .ok (.if_icmp .ne 32, 3) := by decide +kernel
theorem dX12_watch_59 : decode cX12_watch 59 = .ok (.iload_n 2, 1) := by decide +kernel
theorem dX12_watch_60 : decode cX12_watch 60 = .ok (.ifCond .eq 28, 3) := by decide +kernel
theorem dX12_watch_63 : decode cX12_watch 63 = .ok (.aload_n 0, 1) := by decide +kernel
theorem dX12_watch_64 : decode cX12_watch 64 = .ok (.getfield 70, 3) := by decide +kernel
theorem dX12_watch_67 : decode cX12_watch 67 = .ok (.iload_n 1, 1) := by decide +kernel
theorem dX12_watch_68 : decode cX12_watch 68 = .ok (.baload, 1) := by decide +kernel
theorem dX12_watch_69 : decode cX12_watch 69 = .ok (.ifCond .eq 11, 3) := by decide +kernel
theorem dX12_watch_72 : decode cX12_watch 72 = .ok (.iload_n 3, 1) := by decide +kernel
theorem dX12_watch_73 : decode cX12_watch 73 = .ok (.iload_n 2, 1) := by decide +kernel
theorem dX12_watch_74 : decode cX12_watch 74 = .ok (.if_icmp .ne 14, 3) := by decide +kernel
theorem dX12_watch_77 : decode cX12_watch 77 = .ok (.goto 7, 3) := by decide +kernel
theorem dX12_watch_80 : decode cX12_watch 80 = .ok (.iload_n 3, 1) := by decide +kernel
theorem dX12_watch_81 : decode cX12_watch 81 = .ok (.ifCond .eq 7, 3) := by decide +kernel
theorem dX12_watch_84 : decode cX12_watch 84 = .ok (.iconst 1, 1) := by decide +kernel
theorem dX12_watch_85 : decode cX12_watch 85 = .ok (.goto 4, 3) := by decide +kernel
theorem dX12_watch_88 : decode cX12_watch 88 = .ok (.iconst 0, 1) := by decide +kernel
theorem dX12_watch_89 : decode cX12_watch 89 = .ok (.istore 4, 2) := by decide +kernel
theorem dX12_watch_91 : decode cX12_watch 91 = .ok (.iload 4, 2) := by decide +kernel
theorem dX12_watch_93 : decode cX12_watch 93 = .ok (.ifCond .eq 19, 3) := by decide +kernel
theorem dX12_watch_96 : decode cX12_watch 96 = .ok (.aload_n 0, 1) := by decide +kernel
theorem dX12_watch_97 : decode cX12_watch 97 = .ok (.getfield 88, 3) := by decide +kernel
theorem dX12_watch_100 : decode cX12_watch 100 = .ok (.iload_n 1, 1) := by decide +kernel
theorem dX12_watch_101 : decode cX12_watch 101 = .ok (.baload, 1) := by decide +kernel
theorem dX12_watch_102 : decode cX12_watch 102 = .ok (.ifCond .ne 10, 3) := by decide +kernel
theorem dX12_watch_105 : decode cX12_watch 105 = .ok (.aload_n 0, 1) := by decide +kernel
theorem dX12_watch_106 : decode cX12_watch 106 = .ok (.iconst 2, 1) := by decide +kernel
theorem dX12_watch_107 : decode cX12_watch 107 = .ok (.iload_n 1, 1) := by decide +kernel
theorem dX12_watch_108 : decode cX12_watch 108 = .ok (.iadd, 1) := by decide +kernel
theorem dX12_watch_109 : decode cX12_watch 109 = .ok (.invokevirtual 271, 3) := by decide +kernel
theorem dX12_watch_112 : decode cX12_watch 112 = .ok (.aload_n 0, 1) := by decide +kernel
theorem dX12_watch_113 : decode cX12_watch 113 = .ok (.getfield 88, 3) := by decide +kernel
theorem dX12_watch_116 : decode cX12_watch 116 = .ok (.iload_n 1, 1) := by decide +kernel
theorem dX12_watch_117 : decode cX12_watch 117 = .ok (.iload 4, 2) := by decide +kernel
theorem dX12_watch_119 : decode cX12_watch 119 = .ok (.bastore, 1) := by decide +kernel
theorem dX12_watch_120 : decode cX12_watch 120 = .ok (.return_, 1) := by decide +kernel
theorem dX12_portControl_0 : decode cX12_portControl 0 = .ok (.aload_n 0, 1) := by decide +kernel
theorem dX12_portControl_1 : decode cX12_portControl 1 = .ok (.getfield 61, 3) := by decide +kernel
theorem dX12_portControl_4 : decode cX12_portControl 4 = .ok (.iload_n 1, 1) := by decide +kernel
theorem dX12_portControl_5 : decode cX12_portControl 5 = .ok (.iaload, 1) := by decide +kernel
theorem dX12_portControl_6 : decode cX12_portControl 6 = .ok (.istore_n 3, 1) := by decide +kernel
theorem dX12_portControl_7 : decode cX12_portControl 7 = .ok (.aload_n 0, 1) := by decide +kernel
theorem dX12_portControl_8 : decode cX12_portControl 8 = .ok (.getfield 61, 3) := by decide +kernel
theorem dX12_portControl_11 : decode cX12_portControl 11 = .ok (.iload_n 1, 1) := by decide +kernel
theorem dX12_portControl_12 : decode cX12_portControl 12 = .ok (.iconst 0, 1) := by decide +kernel
theorem dX12_portControl_13 : decode cX12_portControl 13 = .ok (.iastore, 1) := by decide +kernel
theorem dX12_portControl_14 : decode cX12_portControl 14 = .ok (.iload_n 3, 1) := by decide +kernel
theorem dX12_portControl_15 : decode cX12_portControl 15 = .ok (.iconst 1, 1) := by decide +kernel
theorem dX12_portControl_16 : decode cX12_portControl 16 = .ok (.if_icmp .ne 13, 3) := by decide +kernel
theorem dX12_portControl_19 : decode cX12_portControl 19 = .ok (.aload_n 0, 1) := by decide +kernel
theorem dX12_portControl_20 : decode cX12_portControl 20 = .ok (.getfield 64, 3) := by decide +kernel
theorem dX12_portControl_23 : decode cX12_portControl 23 = .ok (.iload_n 1, 1) := by decide +kernel
theorem dX12_portControl_24 : decode cX12_portControl 24 = .ok (.iload_n 2, 1) := by decide +kernel
theorem dX12_portControl_25 : decode cX12_portControl 25 = .ok (.iastore, 1) := by decide +kernel
theorem dX12_portControl_26 : decode cX12_portControl 26 = .ok (.goto 241, 3) := by decide +kernel
theorem dX12_portControl_29 : decode cX12_portControl 29 = .ok (.iload_n 3, 1) := by decide +kernel
theorem dX12_portControl_30 : decode cX12_portControl 30 = .ok (.iconst 2, 1) := by decide +kernel
theorem dX12_portControl_31 : decode cX12_portControl 31 = .ok (.if_icmp .ne 13, 3) := by decide +kernel
theorem dX12_portControl_34 : decode cX12_portControl 34 = .ok (.aload_n 0, 1) := by decide +kernel
theorem dX12_portControl_35 : decode cX12_portControl 35 = .ok (.getfield 67, 3) := by decide +kernel
theorem dX12_portControl_38 : decode cX12_portControl 38 = .ok (.iload_n 1, 1) := by decide +kernel
theorem dX12_portControl_39 : decode cX12_portControl 39 = .ok (.iload_n 2, 1) := by decide +kernel
theorem dX12_portControl_40 : decode cX12_portControl 40 = .ok (.iastore, 1) := by decide +kernel
theorem dX12_portControl_41 : decode cX12_portControl 41 = .ok (.goto 226, 3) := by decide +kernel
theorem dX12_portControl_44 : decode cX12_portControl 44 = .ok (.iload_n 2, 1) := by decide +kernel
theorem dX12_portControl_45 : decode cX12_portControl 45 = .ok (.iconst 1, 1) := by decide +kernel
theorem dX12_portControl_46 : decode cX12_portControl 46 = .ok (.iand, 1) := by decide +kernel
theorem dX12_portControl_47 : decode cX12_portControl 47 = .ok (.ifCond .ne 13, 3) := by decide +kernel
theorem dX12_portControl_50 : decode cX12_portControl 50 = .ok (.aload_n 0, 1) := by decide +kernel
theorem dX12_portControl_51 : decode cX12_portControl 51 = .ok (.getfield 58, 3) := by decide +kernel
theorem dX12_portControl_54 : decode cX12_portControl 54 = .ok (.iload_n 1, 1) := by decide +kernel
theorem dX12_portControl_55 : decode cX12_portControl 55 = .ok (.iload_n 2, 1) := by decide +kernel
theorem dX12_portControl_56 : decode cX12_portControl 56 = .ok (.iastore, 1) := by decide +kernel
theorem dX12_portControl_57 : decode cX12_portControl 57 = .ok (.goto 210, 3) := by decide +kernel
theorem dX12_portControl_60 : decode cX12_portControl 60 = .ok (.iload_n 2, 1) := by decide +kernel
theorem dX12_portControl_61 : decode cX12_portControl 61 = .ok (.bipush 15, 2) := by decide +kernel
theorem dX12_portControl_63 : decode cX12_portControl 63 = .ok (.iand, 1) := by decide +kernel
theorem dX12_portControl_64 : decode cX12_portControl 64 = .ok (.bipush 15, 2) := by decide +kernel
theorem dX12_portControl_66 : decode cX12_portControl 66 = .ok (.if_icmp .ne 56, 3) := by decide +kernel
theorem dX12_portControl_69 : decode cX12_portControl 69 = .ok (.aload_n 0, 1) := by decide +kernel
theorem dX12_portControl_70 : decode cX12_portControl 70 = .ok (.getfield 55, 3) := by decide +kernel
theorem dX12_portControl_73 : decode cX12_portControl 73 = .ok (.iload_n 1, 1) := by decide +kernel
theorem dX12_portControl_74 : decode cX12_portControl 74 = .ok (.iload_n 2, 1) := by decide +kernel
theorem dX12_portControl_75 : decode cX12_portControl 75 = .ok (.bipush 6, 2) := by decide +kernel
theorem dX12_portControl_77 : decode cX12_portControl 77 = .ok (.ishr, 1) := by decide +kernel
theorem dX12_portControl_78 : decode cX12_portControl 78 = .ok (.iconst 2, 1) := by decide +kernel
theorem dX12_portControl_79 : decode cX12_portControl 79 = .ok (.if_icmp .ne 7, 3) := by decide +kernel
theorem dX12_portControl_82 : decode cX12_portControl 82 = .ok (.iconst 3, 1) := by decide +kernel
theorem dX12_portControl_83 : decode cX12_portControl 83 = .ok (.goto 7, 3) := by decide +kernel
theorem dX12_portControl_86 : decode cX12_portControl 86 = .ok (.iload_n 2, 1) := by decide +kernel
theorem dX12_portControl_87 : decode cX12_portControl 87 = .ok (.bipush 6, 2) := by decide +kernel
theorem dX12_portControl_89 : decode cX12_portControl 89 = .ok (.ishr, 1) := by decide +kernel
theorem dX12_portControl_90 : decode cX12_portControl 90 = .ok (.iastore, 1) := by decide +kernel
theorem dX12_portControl_91 : decode cX12_portControl 91 = .ok (.aload_n 0, 1) := by decide +kernel
theorem dX12_portControl_92 : decode cX12_portControl 92 = .ok (.getfield 76, 3) := by decide +kernel
theorem dX12_portControl_95 : decode cX12_portControl 95 = .ok (.iload_n 1, 1) := by decide +kernel
theorem dX12_portControl_96 : decode cX12_portControl 96 = .ok (.iconst 0, 1) := by decide +kernel
theorem dX12_portControl_97 : decode cX12_portControl 97 = .ok (.bastore, 1) := by decide +kernel
theorem dX12_portControl_98 : decode cX12_portControl 98 = .ok (.aload_n 0, 1) := by decide +kernel
theorem dX12_portControl_99 : decode cX12_portControl 99 = .ok (.getfield 61, 3) := by decide +kernel
theorem dX12_portControl_102 : decode cX12_portControl 102 = .ok (.iload_n 1, 1) := by decide +kernel
theorem dX12_portControl_103 : decode cX12_portControl 103 = .ok (.aload_n 0, 1) := by decide +kernel
theorem dX12_portControl_104 : decode cX12_portControl 104 = .ok (.getfield 55, 3) := by decide +kernel
theorem dX12_portControl_107 : decode cX12_portControl 107 = .ok (.iload_n 1, 1) := by decide +kernel
theorem dX12_portControl_108 : decode cX12_portControl 108 = .ok (.iaload, 1) := by decide +kernel
theorem dX12_portControl_109 : decode cX12_portControl 109 = .ok (.iconst 3, 1) := by decide +kernel
theorem dX12_portControl_110 : decode cX12_portControl 110 = .ok (.if_icmp .ne 7, 3) := by decide +kernel
theorem dX12_portControl_113 : decode cX12_portControl 113 = .ok (.iconst 1, 1) := by decide +kernel
theorem dX12_portControl_114 : decode cX12_portControl 114 = .ok (.goto 4, 3) := by decide +kernel
theorem dX12_portControl_117 : decode cX12_portControl 117 = .ok (.iconst 0, 1) := by decide +kernel
theorem dX12_portControl_118 : decode cX12_portControl 118 = .ok (.iastore, 1) := by decide +kernel
theorem dX12_portControl_119 : decode cX12_portControl 119 = .ok (.goto 148, 3) := by decide +kernel
theorem dX12_portControl_122 : decode cX12_portControl 122 = .ok (.iload_n 2, 1) := by decide +kernel
theorem dX12_portControl_123 : decode cX12_portControl 123 = .ok (.bipush 15, 2) := by decide +kernel
theorem dX12_portControl_125 : decode cX12_portControl 125 = .ok (.iand, 1) := by decide +kernel
theorem dX12_portControl_126 : decode cX12_portControl 126 = .ok (.bipush 7, 2) := by decide +kernel
theorem dX12_portControl_128 : decode cX12_portControl 128 = .ok (.if_icmp .ne 112, 3) := by decide +kernel
theorem dX12_portControl_131 : decode cX12_portControl 131 = .ok (.aload_n 0, 1) := by decide +kernel
theorem dX12_portControl_132 : decode cX12_portControl 132 = .ok (.getfield 31, 3) := by decide +kernel
theorem dX12_portControl_135 : decode cX12_portControl 135 = .ok (.iconst 2, 1) := by decide +kernel
theorem dX12_portControl_136 : decode cX12_portControl 136 = .ok (.iload_n 1, 1) := by decide +kernel
theorem dX12_portControl_137 : decode cX12_portControl 137 = .ok (.iadd, 1) := by decide +kernel
theorem dX12_portControl_138 : decode cX12_portControl 138 = .ok (.iload_n 2, 1) := by decide +kernel
theorem dX12_portControl_139 : decode cX12_portControl 139 = .ok (.bipush 127, 2) := by decide +kernel
theorem dX12_portControl_141 : decode cX12_portControl 141 = .ok (.if_icmp .le 7, 3) := by decide +kernel
theorem dX12_portControl_144 : decode cX12_portControl 144 = .ok (.iconst 1, 1) := by decide +kernel
theorem dX12_portControl_145 : decode cX12_portControl 145 = .ok (.goto 4, 3) := by decide +kernel
theorem dX12_portControl_148 : decode cX12_portControl 148 = .ok (.iconst 0, 1) := by decide +kernel
theorem dX12_portControl_149 : decode cX12_portControl 149 = .ok (.bastore, 1) := by decide +kernel
theorem dX12_portControl_150 : decode cX12_portControl 150 = .ok (.aload_n 0, 1) := by decide +kernel
theorem dX12_portControl_151 : decode cX12_portControl 151 = .ok (.getfield 70, 3) := by decide +kernel
theorem dX12_portControl_154 : decode cX12_portControl 154 = .ok (.iload_n 1, 1) := by decide +kernel
theorem dX12_portControl_155 : decode cX12_portControl 155 = .ok (.iload_n 2, 1) := by decide +kernel
theorem dX12_portControl_156 : decode cX12_portControl 156 = .ok (.bipush 64, 2) := by decide +kernel
theorem dX12_portControl_158 : decode cX12_portControl 158 = .ok (.iand, 1) := by decide +kernel
theorem dX12_portControl_159 : decode cX12_portControl 159 = .ok (.ifCond .eq 7, 3) := by decide +kernel
theorem dX12_portControl_162 : decode cX12_portControl 162 = .ok (.iconst 1, 1) := by decide +kernel
theorem dX12_portControl_163 : decode cX12_portControl 163 = .ok (.goto 4, 3) := by decide +kernel
theorem dX12_portControl_166 : decode cX12_portControl 166 = .ok (.iconst 0, 1) := by decide +kernel
theorem dX12_portControl_167 : decode cX12_portControl 167 = .ok (.bastore, 1) := by decide +kernel
theorem dX12_portControl_168 : decode cX12_portControl 168 = .ok (.aload_n 0, 1) := by decide +kernel
theorem dX12_portControl_169 : decode cX12_portControl 169 = .ok (.getfield 73, 3) := by decide +kernel
theorem dX12_portControl_172 : decode cX12_portControl 172 = .ok (.iload_n 1, 1) := by decide +kernel
theorem dX12_portControl_173 : decode cX12_portControl 173 = .ok (.iload_n 2, 1) := by decide +kernel
theorem dX12_portControl_174 : decode cX12_portControl 174 = .ok (.bipush 32, 2) := by decide +kernel
theorem dX12_portControl_176 : decode cX12_portControl 176 = .ok (.iand, 1) := by decide +kernel
theorem dX12_portControl_177 : decode cX12_portControl 177 = .ok (.ifCond .eq 7, 3) := by decide +kernel
theorem dX12_portControl_180 : decode cX12_portControl 180 = .ok (.iconst 1, 1) := by decide +kernel
theorem dX12_portControl_181 : decode cX12_portControl 181 = .ok (.goto 4, 3) := by decide +kernel
theorem dX12_portControl_184 : decode cX12_portControl 184 = .ok (.iconst 0, 1) := by decide +kernel
theorem dX12_portControl_185 : decode cX12_portControl 185 = .ok (.bastore, 1) := by decide +kernel
theorem dX12_portControl_186 : decode cX12_portControl 186 = .ok (.aload_n 0, 1) := by decide +kernel
theorem dX12_portControl_187 : decode cX12_portControl 187 = .ok (.getfield 61, 3) := by decide +kernel
theorem dX12_portControl_190 : decode cX12_portControl 190 = .ok (.iload_n 1, 1) := by decide +kernel
theorem dX12_portControl_191 : decode cX12_portControl 191 = .ok (.iload_n 2, 1) := by decide +kernel
theorem dX12_portControl_192 : decode cX12_portControl 192 = .ok (.bipush 16, 2) := by decide +kernel
theorem dX12_portControl_194 : decode cX12_portControl 194 = .ok (.iand, 1) := by decide +kernel
theorem dX12_portControl_195 : decode cX12_portControl 195 = .ok (.ifCond .eq 7, 3) := by decide +kernel
theorem dX12_portControl_198 : decode cX12_portControl 198 = .ok (.iconst 2, 1) := by decide +kernel
theorem dX12_portControl_199 : decode cX12_portControl 199 = .ok (.goto 4, 3) := by decide +kernel
theorem dX12_portControl_202 : decode cX12_portControl 202 = .ok (.iconst 0, 1) := by decide +kernel
theorem dX12_portControl_203 : decode cX12_portControl 203 = .ok (.iastore, 1) := by decide +kernel
theorem dX12_portControl_204 : decode cX12_portControl 204 = .ok (.aload_n 0, 1) := by decide +kernel
theorem dX12_portControl_205 : decode cX12_portControl 205 = .ok (.getfield 24, 3) := by decide +kernel
theorem dX12_portControl_208 : decode cX12_portControl 208 = .ok (.iconst 2, 1) := by decide +kernel
theorem dX12_portControl_209 : decode cX12_portControl 209 = .ok (.iload_n 1, 1) := by decide +kernel
theorem dX12_portControl_210 : decode cX12_portControl 210 = .ok (.iadd, 1) := by decide +kernel
theorem dX12_portControl_211 : decode cX12_portControl 211 = .ok (.aload_n 0, 1) := by decide +kernel
theorem dX12_portControl_212 : decode cX12_portControl 212 = .ok (.getfield 24, 3) := by decide +kernel
theorem dX12_portControl_215 : decode cX12_portControl 215 = .ok (.iconst 2, 1) := by decide +kernel
theorem dX12_portControl_216 : decode cX12_portControl 216 = .ok (.iload_n 1, 1) := by decide +kernel
theorem dX12_portControl_217 : decode cX12_portControl 217 = .ok (.iadd, 1) := by decide +kernel
theorem dX12_portControl_218 : decode cX12_portControl 218 = .ok (.baload, 1) := by decide +kernel
theorem dX12_portControl_219 : decode cX12_portControl 219 = .ok (.ifCond .eq 16, 3) := by decide +kernel
theorem dX12_portControl_222 : decode cX12_portControl 222 = .ok (.aload_n 0, 1) := by decide +kernel
theorem dX12_portControl_223 : decode cX12_portControl 223 = .ok (.getfield 61, 3) := by decide +kernel
theorem dX12_portControl_226 : decode cX12_portControl 226 = .ok (.iload_n 1, 1) := by decide +kernel
theorem dX12_portControl_227 : decode cX12_portControl 227 = .ok (.iaload, 1) := by decide +kernel
theorem dX12_portControl_228 : decode cX12_portControl 228 = .ok (.ifCond .ne 7, 3) := by decide +kernel
theorem dX12_portControl_231 : decode cX12_portControl 231 = .ok (.iconst 1, 1) := by decide +kernel
theorem dX12_portControl_232 : decode cX12_portControl 232 = .ok (.goto 4, 3) := by decide +kernel
theorem dX12_portControl_235 : decode cX12_portControl 235 = .ok (.iconst 0, 1) := by decide +kernel
theorem dX12_portControl_236 : decode cX12_portControl 236 = .ok (.bastore, 1) := by decide +kernel
theorem dX12_portControl_237 : decode cX12_portControl 237 = .ok (.goto 30, 3) := by decide +kernel
theorem dX12_portControl_240 : decode cX12_portControl 240 = .ok (.iload_n 2, 1) := by decide +kernel
theorem dX12_portControl_241 : decode cX12_portControl 241 = .ok (.bipush 15, 2) := by decide +kernel
theorem dX12_portControl_243 : decode cX12_portControl 243 = .ok (.iand, 1) := by decide +kernel
theorem dX12_portControl_244 : decode cX12_portControl 244 = .ok (.iconst 3, 1) := by decide +kernel
theorem dX12_portControl_245 : decode cX12_portControl 245 = .ok (.if_icmp .ne 22, 3) := by decide +kernel
theorem dX12_portControl_248 : decode cX12_portControl 248 = .ok (.aload_n 0, 1) := by decide +kernel
theorem dX12_portControl_249 : decode cX12_portControl 249 = .ok (.getfield 31, 3) := by decide +kernel
theorem dX12_portControl_252 : decode cX12_portControl 252 = .ok (.iconst 2, 1) := by decide +kernel
theorem dX12_portControl_253 : decode cX12_portControl 253 = .ok (.iload_n 1, 1) := by decide +kernel
theorem dX12_portControl_254 : decode cX12_portControl 254 = .ok (.iadd, 1) := by decide +kernel
theorem dX12_portControl_255 : decode cX12_portControl 255 = .ok (.iload_n 2, 1) := by decide +kernel
theorem dX12_portControl_256 : decode cX12_portControl 256 = .ok (.bipush 127, 2) := by decide +kernel
theorem dX12_portControl_258 : decode cX12_portControl 258 = .ok (.if_icmp .le 7, 3) := by decide +kernel
theorem dX12_portControl_261 : decode cX12_portControl 261 = .ok (.iconst 1, 1) := by decide +kernel
theorem dX12_portControl_262 : decode cX12_portControl 262 = .ok (.goto 4, 3) := by decide +kernel
theorem dX12_portControl_265 : decode cX12_portControl 265 = .ok (.iconst 0, 1) := by decide +kernel
theorem dX12_portControl_266 : decode cX12_portControl 266 = .ok (.bastore, 1) := by decide +kernel
theorem dX12_portControl_267 : decode cX12_portControl 267 = .ok (.aload_n 0, 1) := by decide +kernel
theorem dX12_portControl_268 : decode cX12_portControl 268 = .ok (.iload_n 1, 1) := by decide +kernel
theorem dX12_portControl_269 : decode cX12_portControl 269 = .ok (.invokevirtual 274, 3) := by decide +kernel
theorem dX12_portControl_272 : decode cX12_portControl 272 = .ok (.return_, 1) := by decide +kernel
theorem dX12_outTo_0 : decode cX12_outTo 0 = .ok (.iload_n 1, 1) := by decide +kernel
theorem dX12_outTo_1 : decode cX12_outTo 1 = .ok (.iconst 2, 1) := by decide +kernel
theorem dX12_outTo_2 : decode cX12_outTo 2 = .ok (.if_icmp .ge 12, 3) := by decide +kernel
theorem dX12_outTo_5 : decode cX12_outTo 5 = .ok (.aload_n 0, 1) := by decide +kernel
theorem dX12_outTo_6 : decode cX12_outTo 6 = .ok (.iload_n 1, 1) := by decide +kernel
theorem dX12_outTo_7 : decode cX12_outTo 7 = .ok (.iload_n 2, 1) := by decide +kernel
theorem dX12_outTo_8 : decode cX12_outTo 8 = .ok (.invokevirtual 277, 3) := by decide +kernel
theorem dX12_outTo_11 : decode cX12_outTo 11 = .ok (.goto 87, 3) := by decide +kernel
theorem dX12_outTo_14 : decode cX12_outTo 14 = .ok (.iload_n 1, 1) := by decide +kernel
theorem dX12_outTo_15 : decode cX12_outTo 15 = .ok (.bipush 6, 2) := by decide +kernel
theorem dX12_outTo_17 : decode cX12_outTo 17 = .ok (.if_icmp .ge 23, 3) := by decide +kernel
theorem dX12_outTo_20 : decode cX12_outTo 20 = .ok (.iload_n 1, 1) := by decide +kernel
theorem dX12_outTo_21 : decode cX12_outTo 21 = .ok (.iconst 2, 1) := by decide +kernel
theorem dX12_outTo_22 : decode cX12_outTo 22 = .ok (.irem, 1) := by decide +kernel
theorem dX12_outTo_23 : decode cX12_outTo 23 = .ok (.iconst 1, 1) := by decide +kernel
theorem dX12_outTo_24 : decode cX12_outTo 24 = .ok (.if_icmp .ne 16, 3) := by decide +kernel
theorem dX12_outTo_27 : decode cX12_outTo 27 = .ok (.aload_n 0, 1) := by decide +kernel
theorem dX12_outTo_28 : decode cX12_outTo 28 = .ok (.iload_n 1, 1) := by decide +kernel
theorem dX12_outTo_29 : decode cX12_outTo 29 = .ok (.iconst 2, 1) := by decide +kernel
theorem dX12_outTo_30 : decode cX12_outTo 30 = .ok (.idiv, 1) := by decide +kernel
theorem dX12_outTo_31 : decode cX12_outTo 31 = .ok (.iconst 1, 1) := by decide +kernel
theorem dX12_outTo_32 : decode cX12_outTo 32 = .ok (.isub, 1) := by decide +kernel
theorem dX12_outTo_33 : decode cX12_outTo 33 = .ok (.iload_n 2, 1) := by decide +kernel
theorem dX12_outTo_34 : decode cX12_outTo 34 = .ok (.invokevirtual 280, 3) := by decide +kernel
