theorem dX9_copyByte_27 : decode cX9_copyByte 27 = .ok (.iload_n 2, 1) := by decide +kernel
theorem dX9_copyByte_28 : decode cX9_copyByte 28 = .ok (.invokevirtual 190, 3) := by decide +kernel
theorem dX9_copyByte_31 : decode cX9_copyByte 31 = .ok (.invokevirtual 187, 3) := by decide +kernel
theorem dX9_copyByte_34 : decode cX9_copyByte 34 = .ok (.aload_n 0, 1) := by decide +kernel
theorem dX9_copyByte_35 : decode cX9_copyByte 35 = .ok (.getfield 54, 3) := by decide +kernel
theorem dX9_copyByte_38 : decode cX9_copyByte 38 = .ok (.iconst 1, 1) := by decide +kernel
theorem dX9_copyByte_39 : decode cX9_copyByte 39 = .ok (.iload_n 1, 1) := by decide +kernel
theorem dX9_copyByte_40 : decode cX9_copyByte 40 = .ok (.iconst 1, 1) := by decide +kernel
theorem dX9_copyByte_41 : decode cX9_copyByte 41 = .ok (.iadd, 1) := by decide +kernel
theorem dX9_copyByte_42 : decode cX9_copyByte 42 = .ok (.invokevirtual 181, 3) := by decide +kernel
theorem dX9_copyByte_45 : decode cX9_copyByte 45 = .ok (.aload_n 0, 1) := by decide +kernel
theorem dX9_copyByte_46 : decode cX9_copyByte 46 = .ok (.getfield 54, 3) := by decide +kernel
theorem dX9_copyByte_49 : decode cX9_copyByte 49 = .ok (.iconst 2, 1) := by decide +kernel
theorem dX9_copyByte_50 : decode cX9_copyByte 50 = .ok (.iload_n 2, 1) := by decide +kernel
theorem dX9_copyByte_51 : decode cX9_copyByte 51 = .ok (.iconst 1, 1) := by decide +kernel
theorem dX9_copyByte_52 : decode cX9_copyByte 52 = .ok (.iadd, 1) := by decide +kernel
theorem dX9_copyByte_53 : decode cX9_copyByte 53 = .ok (.invokevirtual 181, 3) := by decide +kernel
theorem dX9_copyByte_56 : decode cX9_copyByte 56 = .ok (.aload_n 0, 1) := by decide +kernel
theorem dX9_copyByte_57 : decode cX9_copyByte 57 = .ok (.getfield 54, 3) := by decide +kernel
theorem dX9_copyByte_60 : decode cX9_copyByte 60 = .ok (.iconst 0, 1) := by decide +kernel
theorem dX9_copyByte_61 : decode cX9_copyByte 61 = .ok (.aload_n 0, 1) := by decide +kernel
theorem dX9_copyByte_62 : decode cX9_copyByte 62 = .ok (.getfield 54, 3) := by decide +kernel
theorem dX9_copyByte_65 : decode cX9_copyByte 65 = .ok (.iconst 0, 1) := by decide +kernel
theorem dX9_copyByte_66 : decode cX9_copyByte 66 = .ok (.invokevirtual 175, 3) := by decide +kernel
theorem dX9_copyByte_69 : decode cX9_copyByte 69 = .ok (.iconst 1, 1) := by decide +kernel
theorem dX9_copyByte_70 : decode cX9_copyByte 70 = .ok (.isub, 1) := by decide +kernel
theorem dX9_copyByte_71 : decode cX9_copyByte 71 = .ok (.invokevirtual 181, 3) := by decide +kernel
theorem dX9_copyByte_74 : decode cX9_copyByte 74 = .ok (.aload_n 0, 1) := by decide +kernel
theorem dX9_copyByte_75 : decode cX9_copyByte 75 = .ok (.getfield 54, 3) := by decide +kernel
theorem dX9_copyByte_78 : decode cX9_copyByte 78 = .ok (.iconst 0, 1) := by decide +kernel
theorem dX9_copyByte_79 : decode cX9_copyByte 79 = .ok (.invokevirtual 175, 3) := by decide +kernel
theorem dX9_copyByte_82 : decode cX9_copyByte 82 = .ok (.ifCond .eq 7, 3) := by decide +kernel
theorem dX9_copyByte_85 : decode cX9_copyByte 85 = .ok (.iconst 1, 1) := by decide +kernel
theorem dX9_copyByte_86 : decode cX9_copyByte 86 = .ok (.goto 4, 3) := by decide +kernel
theorem dX9_copyByte_89 : decode cX9_copyByte 89 = .ok (.iconst 0, 1) := by decide +kernel
theorem dX9_copyByte_90 : decode cX9_copyByte 90 = .ok (.istore_n 3, 1) := by decide +kernel
theorem dX9_copyByte_91 : decode cX9_copyByte 91 = .ok (.aload_n 0, 1) := by decide +kernel
theorem dX9_copyByte_92 : decode cX9_copyByte 92 = .ok (.bipush 22, 2) := by decide +kernel
theorem dX9_copyByte_94 : decode cX9_copyByte 94 = .ok (.iload_n 3, 1) := by decide +kernel
theorem dX9_copyByte_95 : decode cX9_copyByte 95 = .ok (.ifCond .eq 7, 3) := by decide +kernel
theorem dX9_copyByte_98 : decode cX9_copyByte 98 = .ok (.iconst 4, 1) := by decide +kernel
theorem dX9_copyByte_99 : decode cX9_copyByte 99 = .ok (.goto 4, 3) := by decide +kernel
theorem dX9_copyByte_102 : decode cX9_copyByte 102 = .ok (.iconst 0, 1) := by decide +kernel
theorem dX9_copyByte_103 : decode cX9_copyByte 103 = .ok (.invokevirtual 184, 3) := by decide +kernel
theorem dX9_copyByte_106 : decode cX9_copyByte 106 = .ok (.iload_n 3, 1) := by decide +kernel
theorem dX9_copyByte_107 : decode cX9_copyByte 107 = .ok (.ireturn, 1) := by decide +kernel
theorem dX9_pop_0 : decode cX9_pop 0 = .ok (.aload_n 0, 1) := by decide +kernel
theorem dX9_pop_1 : decode cX9_pop 1 = .ok (.getfield 42, 3) := by decide +kernel
theorem dX9_pop_4 : decode cX9_pop 4 = .ok (.aload_n 0, 1) := by decide +kernel
theorem dX9_pop_5 : decode cX9_pop 5 = .ok (.getfield 10, 3) := by decide +kernel
theorem dX9_pop_8 : decode cX9_pop 8 = .ok (.getfield 214, 3) := by decide +kernel
theorem dX9_pop_11 : decode cX9_pop 11 = .ok (.invokevirtual 118, 3) := by decide +kernel
theorem dX9_pop_14 : decode cX9_pop 14 = .ok (.istore_n 1, 1) := by decide +kernel
theorem dX9_pop_15 : decode cX9_pop 15 = .ok (.aload_n 0, 1) := by decide +kernel
theorem dX9_pop_16 : decode cX9_pop 16 = .ok (.getfield 10, 3) := by decide +kernel
theorem dX9_pop_19 : decode cX9_pop 19 = .ok (.aload_n 0, 1) := by decide +kernel
theorem dX9_pop_20 : decode cX9_pop 20 = .ok (.getfield 10, 3) := by decide +kernel
theorem dX9_pop_23 : decode cX9_pop 23 = .ok (.getfield 214, 3) := by decide +kernel
theorem dX9_pop_26 : decode cX9_pop 26 = .ok (.iconst 2, 1) := by decide +kernel
theorem dX9_pop_27 : decode cX9_pop 27 = .ok (.iadd, 1) := by decide +kernel
theorem dX9_pop_28 : decode cX9_pop 28 = .ok (.ldc 171, 2) := by decide +kernel
theorem dX9_pop_30 : decode cX9_pop 30 = .ok (.iand, 1) := by decide +kernel
theorem dX9_pop_31 : decode cX9_pop 31 = .ok (.putfield 214, 3) := by decide +kernel
theorem dX9_pop_34 : decode cX9_pop 34 = .ok (.iload_n 1, 1) := by decide +kernel
theorem dX9_pop_35 : decode cX9_pop 35 = .ok (.ireturn, 1) := by decide +kernel
theorem dX3_endService_0 : decode cX3_endService 0 = .ok (.iconst 0, 1) := by decide +kernel
theorem dX3_endService_1 : decode cX3_endService 1 = .ok (.istore_n 1, 1) := by decide +kernel
theorem dX3_endService_2 : decode cX3_endService 2 = .ok (.iload_n 1, 1) := by decide +kernel
theorem dX3_endService_3 : decode cX3_endService 3 = .ok (.aload_n 0, 1) := by decide +kernel
theorem dX3_endService_4 : decode cX3_endService 4 = .ok (.getfield 33, 3) := by decide +kernel
theorem dX3_endService_7 : decode cX3_endService 7 = .ok (.arraylength, 1) := by decide +kernel
theorem dX3_endService_8 : decode cX3_endService 8 = .ok (.if_icmp .ge 32, 3) := by decide +kernel
theorem dX3_endService_11 : decode cX3_endService 11 = .ok (.aload_n 0, 1) := by decide +kernel
theorem dX3_endService_12 : decode cX3_endService 12 = .ok (.getfield 33, 3) := by decide +kernel
theorem dX3_endService_15 : decode cX3_endService 15 = .ok (.iload_n 1, 1) := by decide +kernel
theorem dX3_endService_16 : decode cX3_endService 16 = .ok (.aaload, 1) := by decide +kernel
theorem dX3_endService_17 : decode cX3_endService 17 = .ok (.getfield 70, 3) := by decide +kernel
theorem dX3_endService_20 : decode cX3_endService 20 = .ok (.ifCond .eq 14, 3) := by decide +kernel
theorem dX3_endService_23 : decode cX3_endService 23 = .ok (.aload_n 0, 1) := by decide +kernel
theorem dX3_endService_24 : decode cX3_endService 24 = .ok (.getfield 33, 3) := by decide +kernel
theorem dX3_endService_27 : decode cX3_endService 27 = .ok (.iload_n 1, 1) := by decide +kernel
theorem dX3_endService_28 : decode cX3_endService 28 = .ok (.aaload, 1) := by decide +kernel
theorem dX3_endService_29 : decode cX3_endService 29 = .ok (.iconst 0, 1) := by decide +kernel
theorem dX3_endService_30 : decode cX3_endService 30 = .ok (.putfield 70, 3) := by decide +kernel
theorem dX3_endService_33 : decode cX3_endService 33 = .ok (.return_, 1) := by decide +kernel
theorem dX3_endService_34 : decode cX3_endService 34 = .ok (.iinc 1 1, 3) := by decide +kernel
theorem dX3_endService_37 : decode cX3_endService 37 = .ok (.goto (-35), 3) := by decide +kernel
theorem dX3_endService_40 : decode cX3_endService 40 = .ok (.return_, 1) := by decide +kernel
theorem dX9_extended_0 : decode cX9_extended 0 = .ok (.iload_n 1, 1) := by decide +kernel
theorem dX9_extended_1 : decode cX9_extended 1 = .ok (.lookupswitch 256 #[(66, 156), (68, 131), (71, 202), (74, 156), (77, 235), (82, 156), (86, 219), (90, 156), (94, 227), (98, 156), (106, 156), (114, 156), (122, 156), (160, 162), (176, 170)], 131) := by decide +kernel
theorem dX9_extended_132 : decode cX9_extended 132 = .ok (.iconst 0, 1) := by decide +kernel
theorem dX9_extended_133 : decode cX9_extended 133 = .ok (.aload_n 0, 1) := by decide +kernel
theorem dX9_extended_134 : decode cX9_extended 134 = .ok (.getfield 61, 3) := by decide +kernel
theorem dX9_extended_137 : decode cX9_extended 137 = .ok (.bipush 7, 2) := by decide +kernel
theorem dX9_extended_139 : decode cX9_extended 139 = .ok (.iaload, 1) := by decide +kernel
theorem dX9_extended_140 : decode cX9_extended 140 = .ok (.iconst 0, 1) := by decide +kernel
theorem dX9_extended_141 : decode cX9_extended 141 = .ok (.invokestatic 151, 3) := by decide +kernel
theorem dX9_extended_144 : decode cX9_extended 144 = .ok (.istore_n 2, 1) := by decide +kernel
theorem dX9_extended_145 : decode cX9_extended 145 = .ok (.aload_n 0, 1) := by decide +kernel
theorem dX9_extended_146 : decode cX9_extended 146 = .ok (.getfield 54, 3) := by decide +kernel
theorem dX9_extended_149 : decode cX9_extended 149 = .ok (.iconst 3, 1) := by decide +kernel
theorem dX9_extended_150 : decode cX9_extended 150 = .ok (.iload_n 2, 1) := by decide +kernel
theorem dX9_extended_151 : decode cX9_extended 151 = .ok (.invokevirtual 181, 3) := by decide +kernel
theorem dX9_extended_154 : decode cX9_extended 154 = .ok (.bipush 8, 2) := by decide +kernel
theorem dX9_extended_156 : decode cX9_extended 156 = .ok (.ireturn, 1) := by decide +kernel
theorem dX9_extended_157 : decode cX9_extended 157 = .ok (.aload_n 0, 1) := by decide +kernel
theorem dX9_extended_158 : decode cX9_extended 158 = .ok (.iload_n 1, 1) := by decide +kernel
theorem dX9_extended_159 : decode cX9_extended 159 = .ok (.invokevirtual 232, 3) := by decide +kernel
theorem dX9_extended_162 : decode cX9_extended 162 = .ok (.ireturn, 1) := by decide +kernel
theorem dX9_extended_163 : decode cX9_extended 163 = .ok (.aload_n 0, 1) := by decide +kernel
theorem dX9_extended_164 : decode cX9_extended 164 = .ok (.invokevirtual 235, 3) := by decide +kernel
theorem dX9_extended_167 : decode cX9_extended 167 = .ok (.pop, 1) := by decide +kernel
theorem dX9_extended_168 : decode cX9_extended 168 = .ok (.bipush 16, 2) := by decide +kernel
theorem dX9_extended_170 : decode cX9_extended 170 = .ok (.ireturn, 1) := by decide +kernel
theorem dX9_extended_171 : decode cX9_extended 171 = .ok (.aload_n 0, 1) := by decide +kernel
theorem dX9_extended_172 : decode cX9_extended 172 = .ok (.invokevirtual 235, 3) := by decide +kernel
theorem dX9_extended_175 : decode cX9_extended 175 = .ok (.ifCond .ne 6, 3) := by decide +kernel
theorem dX9_extended_178 : decode cX9_extended 178 = .ok (.bipush 16, 2) := by decide +kernel
theorem dX9_extended_180 : decode cX9_extended 180 = .ok (.ireturn, 1) := by decide +kernel
theorem dX9_extended_181 : decode cX9_extended 181 = .ok (.aload_n 0, 1) := by decide +kernel
theorem dX9_extended_182 : decode cX9_extended 182 = .ok (.getfield 10, 3) := by decide +kernel
theorem dX9_extended_185 : decode cX9_extended 185 = .ok (.aload_n 0, 1) := by decide +kernel
theorem dX9_extended_186 : decode cX9_extended 186 = .ok (.getfield 10, 3) := by decide +kernel
theorem dX9_extended_189 : decode cX9_extended 189 = .ok (.getfield 64, 3) := by decide +kernel
theorem dX9_extended_192 : decode cX9_extended 192 = .ok (.iconst 2, 1) := by decide +kernel
theorem dX9_extended_193 : decode cX9_extended 193 = .ok (.isub, 1) := by decide +kernel
theorem dX9_extended_194 : decode cX9_extended 194 = .ok (.ldc 171, 2) := by decide +kernel
theorem dX9_extended_196 : decode cX9_extended 196 = .ok (.iand, 1) := by decide +kernel
theorem dX9_extended_197 : decode cX9_extended 197 = .ok (.putfield 64, 3) := by decide +kernel
theorem dX9_extended_200 : decode cX9_extended 200 = .ok (.bipush 21, 2) := by decide +kernel
theorem dX9_extended_202 : decode cX9_extended 202 = .ok (.ireturn, 1) := by decide +kernel
theorem dX9_extended_203 : decode cX9_extended 203 = .ok (.aload_n 0, 1) := by decide +kernel
theorem dX9_extended_204 : decode cX9_extended 204 = .ok (.getfield 10, 3) := by decide +kernel
theorem dX9_extended_207 : decode cX9_extended 207 = .ok (.aload_n 0, 1) := by decide +kernel
theorem dX9_extended_208 : decode cX9_extended 208 = .ok (.getfield 61, 3) := by decide +kernel
theorem dX9_extended_211 : decode cX9_extended 211 = .ok (.bipush 7, 2) := by decide +kernel
theorem dX9_extended_213 : decode cX9_extended 213 = .ok (.iaload, 1) := by decide +kernel
theorem dX9_extended_214 : decode cX9_extended 214 = .ok (.putfield 112, 3) := by decide +kernel
theorem dX9_extended_217 : decode cX9_extended 217 = .ok (.bipush 9, 2) := by decide +kernel
theorem dX9_extended_219 : decode cX9_extended 219 = .ok (.ireturn, 1) := by decide +kernel
theorem dX9_extended_220 : decode cX9_extended 220 = .ok (.aload_n 0, 1) := by decide +kernel
theorem dX9_extended_221 : decode cX9_extended 221 = .ok (.iconst 1, 1) := by decide +kernel
theorem dX9_extended_222 : decode cX9_extended 222 = .ok (.putfield 20, 3) := by decide +kernel
theorem dX9_extended_225 : decode cX9_extended 225 = .ok (.bipush 8, 2) := by decide +kernel
theorem dX9_extended_227 : decode cX9_extended 227 = .ok (.ireturn, 1) := by decide +kernel
theorem dX9_extended_228 : decode cX9_extended 228 = .ok (.aload_n 0, 1) := by decide +kernel
theorem dX9_extended_229 : decode cX9_extended 229 = .ok (.iconst 2, 1) := by decide +kernel
theorem dX9_extended_230 : decode cX9_extended 230 = .ok (.putfield 20, 3) := by decide +kernel
theorem dX9_extended_233 : decode cX9_extended 233 = .ok (.bipush 8, 2) := by decide +kernel
theorem dX9_extended_235 : decode cX9_extended 235 = .ok (.ireturn, 1) := by decide +kernel
theorem dX9_extended_236 : decode cX9_extended 236 = .ok (.aload_n 0, 1) := by decide +kernel
theorem dX9_extended_237 : decode cX9_extended 237 = .ok (.getfield 10, 3) := by decide +kernel
theorem dX9_extended_240 : decode cX9_extended 240 = .ok (.aload_n 0, 1) := by decide +kernel
theorem dX9_extended_241 : decode cX9_extended 241 = .ok (.invokevirtual 229, 3) := by decide +kernel
theorem dX9_extended_244 : decode cX9_extended 244 = .ok (.putfield 64, 3) := by decide +kernel
theorem dX9_extended_247 : decode cX9_extended 247 = .ok (.aload_n 0, 1) := by decide +kernel
theorem dX9_extended_248 : decode cX9_extended 248 = .ok (.getfield 46, 3) := by decide +kernel
theorem dX9_extended_251 : decode cX9_extended 251 = .ok (.invokevirtual 239, 3) := by decide +kernel
theorem dX9_extended_254 : decode cX9_extended 254 = .ok (.bipush 14, 2) := by decide +kernel
theorem dX9_extended_256 : decode cX9_extended 256 = .ok (.ireturn, 1) := by decide +kernel
theorem dX9_extended_257 : decode cX9_extended 257 = .ok (.iconst 0, 1) := by decide +kernel
theorem dX9_extended_258 : decode cX9_extended 258 = .ok (.ireturn, 1) := by decide +kernel
theorem dX9_highAlone_0 : decode cX9_highAlone 0 = .ok (.iload_n 1, 1) := by decide +kernel
theorem dX9_highAlone_1 : decode cX9_highAlone 1 = .ok (.lookupswitch 275 #[(195, 91), (203, 105), (205, 114), (211, 120), (219, 141), (227, 162), (235, 211), (237, 247), (243, 256), (251, 263)], 91) := by decide +kernel
theorem dX9_highAlone_92 : decode cX9_highAlone 92 = .ok (.aload_n 0, 1) := by decide +kernel
theorem dX9_highAlone_93 : decode cX9_highAlone 93 = .ok (.getfield 10, 3) := by decide +kernel
theorem dX9_highAlone_96 : decode cX9_highAlone 96 = .ok (.aload_n 0, 1) := by decide +kernel
theorem dX9_highAlone_97 : decode cX9_highAlone 97 = .ok (.invokevirtual 172, 3) := by decide +kernel
theorem dX9_highAlone_100 : decode cX9_highAlone 100 = .ok (.putfield 64, 3) := by decide +kernel
theorem dX9_highAlone_103 : decode cX9_highAlone 103 = .ok (.bipush 10, 2) := by decide +kernel
theorem dX9_highAlone_105 : decode cX9_highAlone 105 = .ok (.ireturn, 1) := by decide +kernel
theorem dX9_highAlone_106 : decode cX9_highAlone 106 = .ok (.aload_n 0, 1) := by decide +kernel
theorem dX9_highAlone_107 : decode cX9_highAlone 107 = .ok (.aload_n 0, 1) := by decide +kernel
theorem dX9_highAlone_108 : decode cX9_highAlone 108 = .ok (.invokevirtual 67, 3) := by decide +kernel
theorem dX9_highAlone_111 : decode cX9_highAlone 111 = .ok (.invokevirtual 202, 3) := by decide +kernel
theorem dX9_highAlone_114 : decode cX9_highAlone 114 = .ok (.ireturn, 1) := by decide +kernel
theorem dX9_highAlone_115 : decode cX9_highAlone 115 = .ok (.aload_n 0, 1) := by decide +kernel
theorem dX9_highAlone_116 : decode cX9_highAlone 116 = .ok (.iconst 1, 1) := by decide +kernel
theorem dX9_highAlone_117 : decode cX9_highAlone 117 = .ok (.invokevirtual 205, 3) := by decide +kernel
theorem dX9_highAlone_120 : decode cX9_highAlone 120 = .ok (.ireturn, 1) := by decide +kernel
theorem dX9_highAlone_121 : decode cX9_highAlone 121 = .ok (.aload_n 0, 1) := by decide +kernel
theorem dX9_highAlone_122 : decode cX9_highAlone 122 = .ok (.getfield 46, 3) := by decide +kernel
theorem dX9_highAlone_125 : decode cX9_highAlone 125 = .ok (.aload_n 0, 1) := by decide +kernel
theorem dX9_highAlone_126 : decode cX9_highAlone 126 = .ok (.invokevirtual 67, 3) := by decide +kernel
theorem dX9_highAlone_129 : decode cX9_highAlone 129 = .ok (.aload_n 0, 1) := by decide +kernel
theorem dX9_highAlone_130 : decode cX9_highAlone 130 = .ok (.getfield 61, 3) := by decide +kernel
theorem dX9_highAlone_133 : decode cX9_highAlone 133 = .ok (.bipush 7, 2) := by decide +kernel
theorem dX9_highAlone_135 : decode cX9_highAlone 135 = .ok (.iaload, 1) := by decide +kernel
theorem dX9_highAlone_136 : decode cX9_highAlone 136 = .ok (.invokevirtual 208, 3) := by decide +kernel
theorem dX9_highAlone_139 : decode cX9_highAlone 139 = .ok (.bipush 11, 2) := by decide +kernel
theorem dX9_highAlone_141 : decode cX9_highAlone 141 = .ok (.ireturn, 1) := by decide +kernel
theorem dX9_highAlone_142 : decode cX9_highAlone 142 = .ok (.aload_n 0, 1) := by decide +kernel
theorem dX9_highAlone_143 : decode cX9_highAlone 143 = .ok (.getfield 61, 3) := by decide +kernel
theorem dX9_highAlone_146 : decode cX9_highAlone 146 = .ok (.bipush 7, 2) := by decide +kernel
theorem dX9_highAlone_148 : decode cX9_highAlone 148 = .ok (.aload_n 0, 1) := by decide +kernel
theorem dX9_highAlone_149 : decode cX9_highAlone 149 = .ok (.getfield 46, 3) := by decide +kernel
theorem dX9_highAlone_152 : decode cX9_highAlone 152 = .ok (.aload_n 0, 1) := by decide +kernel
theorem dX9_highAlone_153 : decode cX9_highAlone 153 = .ok (.invokevirtual 67, 3) := by decide +kernel
theorem dX9_highAlone_156 : decode cX9_highAlone 156 = .ok (.invokevirtual 211, 3) := by decide +kernel
theorem dX9_highAlone_159 : decode cX9_highAlone 159 = .ok (.iastore, 1) := by decide +kernel
theorem dX9_highAlone_160 : decode cX9_highAlone 160 = .ok (.bipush 11, 2) := by decide +kernel
theorem dX9_highAlone_162 : decode cX9_highAlone 162 = .ok (.ireturn, 1) := by decide +kernel
theorem dX9_highAlone_163 : decode cX9_highAlone 163 = .ok (.aload_n 0, 1) := by decide +kernel
theorem dX9_highAlone_164 : decode cX9_highAlone 164 = .ok (.getfield 42, 3) := by decide +kernel
theorem dX9_highAlone_167 : decode cX9_highAlone 167 = .ok (.aload_n 0, 1) := by decide +kernel
theorem dX9_highAlone_168 : decode cX9_highAlone 168 = .ok (.getfield 10, 3) := by decide +kernel
theorem dX9_highAlone_171 : decode cX9_highAlone 171 = .ok (.getfield 214, 3) := by decide +kernel
theorem dX9_highAlone_174 : decode cX9_highAlone 174 = .ok (.invokevirtual 118, 3) := by decide +kernel
theorem dX9_highAlone_177 : decode cX9_highAlone 177 = .ok (.istore_n 2, 1) := by decide +kernel
theorem dX9_highAlone_178 : decode cX9_highAlone 178 = .ok (.aload_n 0, 1) := by decide +kernel
theorem dX9_highAlone_179 : decode cX9_highAlone 179 = .ok (.getfield 42, 3) := by decide +kernel
theorem dX9_highAlone_182 : decode cX9_highAlone 182 = .ok (.aload_n 0, 1) := by decide +kernel
theorem dX9_highAlone_183 : decode cX9_highAlone 183 = .ok (.getfield 10, 3) := by decide +kernel
theorem dX9_highAlone_186 : decode cX9_highAlone 186 = .ok (.getfield 214, 3) := by decide +kernel
theorem dX9_highAlone_189 : decode cX9_highAlone 189 = .ok (.aload_n 0, 1) := by decide +kernel
theorem dX9_highAlone_190 : decode cX9_highAlone 190 = .ok (.getfield 54, 3) := by decide +kernel
theorem dX9_highAlone_193 : decode cX9_highAlone 193 = .ok (.iconst 2, 1) := by decide +kernel
theorem dX9_highAlone_194 : decode cX9_highAlone 194 = .ok (.invokevirtual 175, 3) := by decide +kernel
theorem dX9_highAlone_197 : decode cX9_highAlone 197 = .ok (.invokevirtual 193, 3) := by decide +kernel
theorem dX9_highAlone_200 : decode cX9_highAlone 200 = .ok (.aload_n 0, 1) := by decide +kernel
theorem dX9_highAlone_201 : decode cX9_highAlone 201 = .ok (.getfield 54, 3) := by decide +kernel
theorem dX9_highAlone_204 : decode cX9_highAlone 204 = .ok (.iconst 2, 1) := by decide +kernel
theorem dX9_highAlone_205 : decode cX9_highAlone 205 = .ok (.iload_n 2, 1) := by decide +kernel
theorem dX9_highAlone_206 : decode cX9_highAlone 206 = .ok (.invokevirtual 181, 3) := by decide +kernel
theorem dX9_highAlone_209 : decode cX9_highAlone 209 = .ok (.bipush 19, 2) := by decide +kernel
theorem dX9_highAlone_211 : decode cX9_highAlone 211 = .ok (.ireturn, 1) := by decide +kernel
theorem dX9_highAlone_212 : decode cX9_highAlone 212 = .ok (.aload_n 0, 1) := by decide +kernel
theorem dX9_highAlone_213 : decode cX9_highAlone 213 = .ok (.getfield 54, 3) := by decide +kernel
theorem dX9_highAlone_216 : decode cX9_highAlone 216 = .ok (.iconst 1, 1) := by decide +kernel
theorem dX9_highAlone_217 : decode cX9_highAlone 217 = .ok (.invokevirtual 175, 3) := by decide +kernel
theorem dX9_highAlone_220 : decode cX9_highAlone 220 = .ok (.istore_n 3, 1) := by decide +kernel
theorem dX9_highAlone_221 : decode cX9_highAlone 221 = .ok (.aload_n 0, 1) := by decide +kernel
theorem dX9_highAlone_222 : decode cX9_highAlone 222 = .ok (.getfield 54, 3) := by decide +kernel
theorem dX9_highAlone_225 : decode cX9_highAlone 225 = .ok (.iconst 1, 1) := by decide +kernel
theorem dX9_highAlone_226 : decode cX9_highAlone 226 = .ok (.aload_n 0, 1) := by decide +kernel
theorem dX9_highAlone_227 : decode cX9_highAlone 227 = .ok (.getfield 54, 3) := by decide +kernel
theorem dX9_highAlone_230 : decode cX9_highAlone 230 = .ok (.iconst 2, 1) := by decide +kernel
theorem dX9_highAlone_231 : decode cX9_highAlone 231 = .ok (.invokevirtual 175, 3) := by decide +kernel
theorem dX9_highAlone_234 : decode cX9_highAlone 234 = .ok (.invokevirtual 181, 3) := by decide +kernel
theorem dX9_highAlone_237 : decode cX9_highAlone 237 = .ok (.aload_n 0, 1) := by decide +kernel
theorem dX9_highAlone_238 : decode cX9_highAlone 238 = .ok (.getfield 54, 3) := by decide +kernel
theorem dX9_highAlone_241 : decode cX9_highAlone 241 = .ok (.iconst 2, 1) := by decide +kernel
theorem dX9_highAlone_242 : decode cX9_highAlone 242 = .ok (.iload_n 3, 1) := by decide +kernel
theorem dX9_highAlone_243 : decode cX9_highAlone 243 = .ok (.invokevirtual 181, 3) := by decide +kernel
theorem dX9_highAlone_246 : decode cX9_highAlone 246 = .ok (.iconst 4, 1) := by decide +kernel
theorem dX9_highAlone_247 : decode cX9_highAlone 247 = .ok (.ireturn, 1) := by decide +kernel
theorem dX9_highAlone_248 : decode cX9_highAlone 248 = .ok (.aload_n 0, 1) := by decide +kernel
theorem dX9_highAlone_249 : decode cX9_highAlone 249 = .ok (.aload_n 0, 1) := by decide +kernel
theorem dX9_highAlone_250 : decode cX9_highAlone 250 = .ok (.invokevirtual 67, 3) := by decide +kernel
theorem dX9_highAlone_253 : decode cX9_highAlone 253 = .ok (.invokevirtual 217, 3) := by decide +kernel
theorem dX9_highAlone_256 : decode cX9_highAlone 256 = .ok (.ireturn, 1) := by decide +kernel
theorem dX9_highAlone_257 : decode cX9_highAlone 257 = .ok (.aload_n 0, 1) := by decide +kernel
theorem dX9_highAlone_258 : decode cX9_highAlone 258 = .ok (.iconst 0, 1) := by decide +kernel
theorem dX9_highAlone_259 : decode cX9_highAlone 259 = .ok (.putfield 16, 3) := by decide +kernel
theorem dX9_highAlone_262 : decode cX9_highAlone 262 = .ok (.iconst 4, 1) := by decide +kernel
theorem dX9_highAlone_263 : decode cX9_highAlone 263 = .ok (.ireturn, 1) := by decide +kernel
theorem dX9_highAlone_264 : decode cX9_highAlone 264 = .ok (.aload_n 0, 1) := by decide +kernel
theorem dX9_highAlone_265 : decode cX9_highAlone 265 = .ok (.iconst 1, 1) := by decide +kernel
theorem dX9_highAlone_266 : decode cX9_highAlone 266 = .ok (.putfield 16, 3) := by decide +kernel
theorem dX9_highAlone_269 : decode cX9_highAlone 269 = .ok (.aload_n 0, 1) := by decide +kernel
theorem dX9_highAlone_270 : decode cX9_highAlone 270 = .ok (.iconst 1, 1) := by decide +kernel
theorem dX9_highAlone_271 : decode cX9_highAlone 271 = .ok (.putfield 30, 3) := by decide +kernel
theorem dX9_highAlone_274 : decode cX9_highAlone 274 = .ok (.iconst 4, 1) := by decide +kernel
theorem dX9_highAlone_275 : decode cX9_highAlone 275 = .ok (.ireturn, 1) := by decide +kernel
theorem dX9_highAlone_276 : decode cX9_highAlone 276 = .ok (.iconst 0, 1) := by decide +kernel
theorem dX9_highAlone_277 : decode cX9_highAlone 277 = .ok (.ireturn, 1) := by decide +kernel
theorem dX9_returnIf_0 : decode cX9_returnIf 0 = .ok (.aload_n 0, 1) := by decide +kernel
theorem dX9_returnIf_1 : decode cX9_returnIf 1 = .ok (.iload_n 1, 1) := by decide +kernel
theorem dX9_returnIf_2 : decode cX9_returnIf 2 = .ok (.invokevirtual 167, 3) := by decide +kernel
theorem dX9_returnIf_5 : decode cX9_returnIf 5 = .ok (.ifCond .ne 5, 3) := by decide +kernel
theorem dX9_returnIf_8 : decode cX9_returnIf 8 = .ok (.iconst 5, 1) := by decide +kernel
theorem dX9_returnIf_9 : decode cX9_returnIf 9 = .ok (.ireturn, 1) := by decide +kernel
theorem dX9_returnIf_10 : decode cX9_returnIf 10 = .ok (.aload_n 0, 1) := by decide +kernel
theorem dX9_returnIf_11 : decode cX9_returnIf 11 = .ok (.getfield 10, 3) := by decide +kernel
theorem dX9_returnIf_14 : decode cX9_returnIf 14 = .ok (.aload_n 0, 1) := by decide +kernel
theorem dX9_returnIf_15 : decode cX9_returnIf 15 = .ok (.invokevirtual 229, 3) := by decide +kernel
theorem dX9_returnIf_18 : decode cX9_returnIf 18 = .ok (.putfield 64, 3) := by decide +kernel
theorem dX9_returnIf_21 : decode cX9_returnIf 21 = .ok (.bipush 11, 2) := by decide +kernel
theorem dX9_returnIf_23 : decode cX9_returnIf 23 = .ok (.ireturn, 1) := by decide +kernel
theorem dX9_popOrLeap_0 : decode cX9_popOrLeap 0 = .ok (.iload_n 1, 1) := by decide +kernel
theorem dX9_popOrLeap_1 : decode cX9_popOrLeap 1 = .ok (.iconst 4, 1) := by decide +kernel
theorem dX9_popOrLeap_2 : decode cX9_popOrLeap 2 = .ok (.ishr, 1) := by decide +kernel
theorem dX9_popOrLeap_3 : decode cX9_popOrLeap 3 = .ok (.iconst 3, 1) := by decide +kernel
theorem dX9_popOrLeap_4 : decode cX9_popOrLeap 4 = .ok (.iand, 1) := by decide +kernel
theorem dX9_popOrLeap_5 : decode cX9_popOrLeap 5 = .ok (.istore_n 2, 1) := by decide +kernel
theorem dX9_popOrLeap_6 : decode cX9_popOrLeap 6 = .ok (.iload_n 1, 1) := by decide +kernel
theorem dX9_popOrLeap_7 : decode cX9_popOrLeap 7 = .ok (.bipush 8, 2) := by decide +kernel
theorem dX9_popOrLeap_9 : decode cX9_popOrLeap 9 = .ok (.iand, 1) := by decide +kernel
theorem dX9_popOrLeap_10 : decode cX9_popOrLeap 10 = .ok (.ifCond .ne 18, 3) := by decide +kernel
theorem dX9_popOrLeap_13 : decode cX9_popOrLeap 13 = .ok (.aload_n 0, 1) := by decide +kernel
theorem dX9_popOrLeap_14 : decode cX9_popOrLeap 14 = .ok (.getfield 54, 3) := by decide +kernel
theorem dX9_popOrLeap_17 : decode cX9_popOrLeap 17 = .ok (.iload_n 2, 1) := by decide +kernel
theorem dX9_popOrLeap_18 : decode cX9_popOrLeap 18 = .ok (.aload_n 0, 1) := by decide +kernel
theorem dX9_popOrLeap_19 : decode cX9_popOrLeap 19 = .ok (.invokevirtual 229, 3) := by decide +kernel
theorem dX9_popOrLeap_22 : decode cX9_popOrLeap 22 = .ok (.invokevirtual 181, 3) := by decide +kernel
theorem dX9_popOrLeap_25 : decode cX9_popOrLeap 25 = .ok (.bipush 10, 2) := by decide +kernel
theorem dX9_popOrLeap_27 : decode cX9_popOrLeap 27 = .ok (.ireturn, 1) := by decide +kernel
theorem dX9_popOrLeap_28 : decode cX9_popOrLeap 28 = .ok (.iload_n 2, 1) := by decide +kernel
theorem dX9_popOrLeap_29 : decode cX9_popOrLeap 29 = .ok (.tableswitch 84 0 2 #[27, 41, 67], 27) := by decide +kernel
theorem dX9_popOrLeap_56 : decode cX9_popOrLeap 56 = .ok (.aload_n 0, 1) := by decide +kernel
theorem dX9_popOrLeap_57 : decode cX9_popOrLeap 57 = .ok (.getfield 10, 3) := by decide +kernel
theorem dX9_popOrLeap_60 : decode cX9_popOrLeap 60 = .ok (.aload_n 0, 1) := by decide +kernel
theorem dX9_popOrLeap_61 : decode cX9_popOrLeap 61 = .ok (.invokevirtual 229, 3) := by decide +kernel
theorem dX9_popOrLeap_64 : decode cX9_popOrLeap 64 = .ok (.putfield 64, 3) := by decide +kernel
theorem dX9_popOrLeap_67 : decode cX9_popOrLeap 67 = .ok (.bipush 10, 2) := by decide +kernel
theorem dX9_popOrLeap_69 : decode cX9_popOrLeap 69 = .ok (.ireturn, 1) := by decide +kernel
theorem dX9_popOrLeap_70 : decode cX9_popOrLeap 70 = .ok (.aload_n 0, 1) := by decide +kernel
theorem dX9_popOrLeap_71 : decode cX9_popOrLeap 71 = .ok (.getfield 10, 3) := by decide +kernel
theorem dX9_popOrLeap_74 : decode cX9_popOrLeap 74 = .ok (.iconst 0, 1) := by decide +kernel
theorem dX9_popOrLeap_75 : decode cX9_popOrLeap 75 = .ok (.invokevirtual 160, 3) := by decide +kernel
theorem dX9_popOrLeap_78 : decode cX9_popOrLeap 78 = .ok (.aload_n 0, 1) := by decide +kernel
theorem dX9_popOrLeap_79 : decode cX9_popOrLeap 79 = .ok (.getfield 10, 3) := by decide +kernel
theorem dX9_popOrLeap_82 : decode cX9_popOrLeap 82 = .ok (.iconst 1, 1) := by decide +kernel
theorem dX9_popOrLeap_83 : decode cX9_popOrLeap 83 = .ok (.invokevirtual 160, 3) := by decide +kernel
theorem dX9_popOrLeap_86 : decode cX9_popOrLeap 86 = .ok (.aload_n 0, 1) := by decide +kernel
theorem dX9_popOrLeap_87 : decode cX9_popOrLeap 87 = .ok (.getfield 10, 3) := by decide +kernel
theorem dX9_popOrLeap_90 : decode cX9_popOrLeap 90 = .ok (.iconst 2, 1) := by decide +kernel
theorem dX9_popOrLeap_91 : decode cX9_popOrLeap 91 = .ok (.invokevirtual 160, 3) := by decide +kernel
theorem dX9_popOrLeap_94 : decode cX9_popOrLeap 94 = .ok (.iconst 4, 1) := by decide +kernel
theorem dX9_popOrLeap_95 : decode cX9_popOrLeap 95 = .ok (.ireturn, 1) := by decide +kernel
theorem dX9_popOrLeap_96 : decode cX9_popOrLeap 96 = .ok (.aload_n 0, 1) := by decide +kernel
theorem dX9_popOrLeap_97 : decode cX9_popOrLeap 97 = .ok (.getfield 10, 3) := by decide +kernel
theorem dX9_popOrLeap_100 : decode cX9_popOrLeap 100 = .ok (.aload_n 0, 1) := by decide +kernel
theorem dX9_popOrLeap_101 : decode cX9_popOrLeap 101 = .ok (.getfield 54, 3) := by decide +kernel
theorem dX9_popOrLeap_104 : decode cX9_popOrLeap 104 = .ok (.iconst 2, 1) := by decide +kernel
theorem dX9_popOrLeap_105 : decode cX9_popOrLeap 105 = .ok (.invokevirtual 175, 3) := by decide +kernel
theorem dX9_popOrLeap_108 : decode cX9_popOrLeap 108 = .ok (.putfield 64, 3) := by decide +kernel
theorem dX9_popOrLeap_111 : decode cX9_popOrLeap 111 = .ok (.iconst 4, 1) := by decide +kernel
theorem dX9_popOrLeap_112 : decode cX9_popOrLeap 112 = .ok (.ireturn, 1) := by decide +kernel
theorem dX9_popOrLeap_113 : decode cX9_popOrLeap 113 = .ok (.aload_n 0, 1) := by decide +kernel
theorem dX9_popOrLeap_114 : decode cX9_popOrLeap 114 = .ok (.getfield 10, 3) := by decide +kernel
theorem dX9_popOrLeap_117 : decode cX9_popOrLeap 117 = .ok (.aload_n 0, 1) := by decide +kernel
theorem dX9_popOrLeap_118 : decode cX9_popOrLeap 118 = .ok (.getfield 54, 3) := by decide +kernel
theorem dX9_popOrLeap_121 : decode cX9_popOrLeap 121 = .ok (.iconst 2, 1) := by decide +kernel
theorem dX9_popOrLeap_122 : decode cX9_popOrLeap 122 = .ok (.invokevirtual 175, 3) := by decide +kernel
theorem dX9_popOrLeap_125 : decode cX9_popOrLeap 125 = .ok (.putfield 214, 3) := by decide +kernel
theorem dX9_popOrLeap_128 : decode cX9_popOrLeap 128 = .ok (.bipush 6, 2) := by decide +kernel
theorem dX9_popOrLeap_130 : decode cX9_popOrLeap 130 = .ok (.ireturn, 1) := by decide +kernel
theorem dX9_goIf_0 : decode cX9_goIf 0 = .ok (.aload_n 0, 1) := by decide +kernel
theorem dX9_goIf_1 : decode cX9_goIf 1 = .ok (.invokevirtual 172, 3) := by decide +kernel
theorem dX9_goIf_4 : decode cX9_goIf 4 = .ok (.istore_n 2, 1) := by decide +kernel
theorem dX9_goIf_5 : decode cX9_goIf 5 = .ok (.aload_n 0, 1) := by decide +kernel
theorem dX9_goIf_6 : decode cX9_goIf 6 = .ok (.iload_n 1, 1) := by decide +kernel
theorem dX9_goIf_7 : decode cX9_goIf 7 = .ok (.invokevirtual 167, 3) := by decide +kernel
theorem dX9_goIf_10 : decode cX9_goIf 10 = .ok (.ifCond .eq 11, 3) := by decide +kernel
theorem dX9_goIf_13 : decode cX9_goIf 13 = .ok (.aload_n 0, 1) := by decide +kernel
theorem dX9_goIf_14 : decode cX9_goIf 14 = .ok (.getfield 10, 3) := by decide +kernel
theorem dX9_goIf_17 : decode cX9_goIf 17 = .ok (.iload_n 2, 1) := by decide +kernel
theorem dX9_goIf_18 : decode cX9_goIf 18 = .ok (.putfield 64, 3) := by decide +kernel
theorem dX9_goIf_21 : decode cX9_goIf 21 = .ok (.bipush 10, 2) := by decide +kernel
theorem dX9_goIf_23 : decode cX9_goIf 23 = .ok (.ireturn, 1) := by decide +kernel
theorem dX9_highColumns_0 : decode cX9_highColumns 0 = .ok (.iload_n 1, 1) := by decide +kernel
theorem dX9_highColumns_1 : decode cX9_highColumns 1 = .ok (.iconst 3, 1) := by decide +kernel
theorem dX9_highColumns_2 : decode cX9_highColumns 2 = .ok (.ishr, 1) := by decide +kernel
theorem dX9_highColumns_3 : decode cX9_highColumns 3 = .ok (.bipush 7, 2) := by decide +kernel
theorem dX9_highColumns_5 : decode cX9_highColumns 5 = .ok (.iand, 1) := by decide +kernel
theorem dX9_highColumns_6 : decode cX9_highColumns 6 = .ok (.istore_n 2, 1) := by decide +kernel
theorem dX9_highColumns_7 : decode cX9_highColumns 7 = .ok (.iload_n 1, 1) := by decide +kernel
theorem dX9_highColumns_8 : decode cX9_highColumns 8 = .ok (.bipush 7, 2) := by decide +kernel
theorem dX9_highColumns_10 : decode cX9_highColumns 10 = .ok (.iand, 1) := by decide +kernel
theorem dX9_highColumns_11 : decode cX9_highColumns 11 = .ok (.tableswitch 98 0 6 #[41, 47, 53, 98, 59, 69, 86], 41) := by decide +kernel
theorem dX9_highColumns_52 : decode cX9_highColumns 52 = .ok (.aload_n 0, 1) := by decide +kernel
theorem dX9_highColumns_53 : decode cX9_highColumns 53 = .ok (.iload_n 2, 1) := by decide +kernel
theorem dX9_highColumns_54 : decode cX9_highColumns 54 = .ok (.invokevirtual 220, 3) := by decide +kernel
theorem dX9_highColumns_57 : decode cX9_highColumns 57 = .ok (.ireturn, 1) := by decide +kernel
theorem dX9_highColumns_58 : decode cX9_highColumns 58 = .ok (.aload_n 0, 1) := by decide +kernel
theorem dX9_highColumns_59 : decode cX9_highColumns 59 = .ok (.iload_n 1, 1) := by decide +kernel
theorem dX9_highColumns_60 : decode cX9_highColumns 60 = .ok (.invokevirtual 223, 3) := by decide +kernel
theorem dX9_highColumns_63 : decode cX9_highColumns 63 = .ok (.ireturn, 1) := by decide +kernel
theorem dX9_highColumns_64 : decode cX9_highColumns 64 = .ok (.aload_n 0, 1) := by decide +kernel
theorem dX9_highColumns_65 : decode cX9_highColumns 65 = .ok (.iload_n 2, 1) := by decide +kernel
theorem dX9_highColumns_66 : decode cX9_highColumns 66 = .ok (.invokevirtual 226, 3) := by decide +kernel
theorem dX9_highColumns_69 : decode cX9_highColumns 69 = .ok (.ireturn, 1) := by decide +kernel
theorem dX9_highColumns_70 : decode cX9_highColumns 70 = .ok (.aload_n 0, 1) := by decide +kernel
theorem dX9_highColumns_71 : decode cX9_highColumns 71 = .ok (.aload_n 0, 1) := by decide +kernel
theorem dX9_highColumns_72 : decode cX9_highColumns 72 = .ok (.iload_n 2, 1) := by decide +kernel
theorem dX9_highColumns_73 : decode cX9_highColumns 73 = .ok (.invokevirtual 167, 3) := by decide +kernel
theorem dX9_highColumns_76 : decode cX9_highColumns 76 = .ok (.invokevirtual 205, 3) := by decide +kernel
theorem dX9_highColumns_79 : decode cX9_highColumns 79 = .ok (.ireturn, 1) := by decide +kernel
theorem dX9_highColumns_80 : decode cX9_highColumns 80 = .ok (.aload_n 0, 1) := by decide +kernel
theorem dX9_highColumns_81 : decode cX9_highColumns 81 = .ok (.aload_n 0, 1) := by decide +kernel
theorem dX9_highColumns_82 : decode cX9_highColumns 82 = .ok (.getfield 54, 3) := by decide +kernel
theorem dX9_highColumns_85 : decode cX9_highColumns 85 = .ok (.iload_n 2, 1) := by decide +kernel
theorem dX9_highColumns_86 : decode cX9_highColumns 86 = .ok (.iconst 1, 1) := by decide +kernel
theorem dX9_highColumns_87 : decode cX9_highColumns 87 = .ok (.ishr, 1) := by decide +kernel
theorem dX9_highColumns_88 : decode cX9_highColumns 88 = .ok (.invokevirtual 175, 3) := by decide +kernel
theorem dX9_highColumns_91 : decode cX9_highColumns 91 = .ok (.invokevirtual 109, 3) := by decide +kernel
theorem dX9_highColumns_94 : decode cX9_highColumns 94 = .ok (.bipush 11, 2) := by decide +kernel
theorem dX9_highColumns_96 : decode cX9_highColumns 96 = .ok (.ireturn, 1) := by decide +kernel
theorem dX9_highColumns_97 : decode cX9_highColumns 97 = .ok (.aload_n 0, 1) := by decide +kernel
theorem dX9_highColumns_98 : decode cX9_highColumns 98 = .ok (.iload_n 2, 1) := by decide +kernel
theorem dX9_highColumns_99 : decode cX9_highColumns 99 = .ok (.aload_n 0, 1) := by decide +kernel
theorem dX9_highColumns_100 : decode cX9_highColumns 100 = .ok (.invokevirtual 67, 3) := by decide +kernel
theorem dX9_highColumns_103 : decode cX9_highColumns 103 = .ok (.invokevirtual 81, 3) := by decide +kernel
theorem dX9_highColumns_106 : decode cX9_highColumns 106 = .ok (.bipush 7, 2) := by decide +kernel
theorem dX9_highColumns_108 : decode cX9_highColumns 108 = .ok (.ireturn, 1) := by decide +kernel
theorem dX9_highColumns_109 : decode cX9_highColumns 109 = .ok (.aload_n 0, 1) := by decide +kernel
theorem dX9_highColumns_110 : decode cX9_highColumns 110 = .ok (.aload_n 0, 1) := by decide +kernel
theorem dX9_highColumns_111 : decode cX9_highColumns 111 = .ok (.getfield 10, 3) := by decide +kernel
theorem dX9_highColumns_114 : decode cX9_highColumns 114 = .ok (.getfield 64, 3) := by decide +kernel
theorem dX9_highColumns_117 : decode cX9_highColumns 117 = .ok (.invokevirtual 109, 3) := by decide +kernel
theorem dX9_highColumns_120 : decode cX9_highColumns 120 = .ok (.aload_n 0, 1) := by decide +kernel
theorem dX9_highColumns_121 : decode cX9_highColumns 121 = .ok (.getfield 10, 3) := by decide +kernel
theorem dX9_highColumns_124 : decode cX9_highColumns 124 = .ok (.bipush 8, 2) := by decide +kernel
theorem dX9_highColumns_126 : decode cX9_highColumns 126 = .ok (.iload_n 2, 1) := by decide +kernel
theorem dX9_highColumns_127 : decode cX9_highColumns 127 = .ok (.imul, 1) := by decide +kernel
theorem dX9_highColumns_128 : decode cX9_highColumns 128 = .ok (.putfield 64, 3) := by decide +kernel
theorem dX9_highColumns_131 : decode cX9_highColumns 131 = .ok (.bipush 11, 2) := by decide +kernel
theorem dX9_highColumns_133 : decode cX9_highColumns 133 = .ok (.ireturn, 1) := by decide +kernel
theorem dX4_fall_0 : decode cX4_fall 0 = .ok (.aload_n 0, 1) := by decide +kernel
theorem dX4_fall_1 : decode cX4_fall 1 = .ok (.dup, 1) := by decide +kernel
theorem dX4_fall_2 : decode cX4_fall 2 = .ok (.getfield 9, 3) := by decide +kernel
theorem dX4_fall_5 : decode cX4_fall 5 = .ok (.iconst 1, 1) := by decide +kernel
theorem dX4_fall_6 : decode cX4_fall 6 = .ok (.isub, 1) := by decide +kernel
theorem dX4_fall_7 : decode cX4_fall 7 = .ok (.putfield 9, 3) := by decide +kernel
theorem dX4_fall_10 : decode cX4_fall 10 = .ok (.aload_n 0, 1) := by decide +kernel
theorem dX4_fall_11 : decode cX4_fall 11 = .ok (.getfield 9, 3) := by decide +kernel
theorem dX4_fall_14 : decode cX4_fall 14 = .ok (.ifCond .le 5, 3) := by decide +kernel
theorem dX4_fall_17 : decode cX4_fall 17 = .ok (.iconst 0, 1) := by decide +kernel
theorem dX4_fall_18 : decode cX4_fall 18 = .ok (.ireturn, 1) := by decide +kernel
theorem dX4_fall_19 : decode cX4_fall 19 = .ok (.aload_n 0, 1) := by decide +kernel
theorem dX4_fall_20 : decode cX4_fall 20 = .ok (.aload_n 0, 1) := by decide +kernel
theorem dX4_fall_21 : decode cX4_fall 21 = .ok (.getfield 15, 3) := by decide +kernel
theorem dX4_fall_24 : decode cX4_fall 24 = .ok (.putfield 9, 3) := by decide +kernel
theorem dX4_fall_27 : decode cX4_fall 27 = .ok (.aload_n 0, 1) := by decide +kernel
theorem dX4_fall_28 : decode cX4_fall 28 = .ok (.invokevirtual 54, 3) := by decide +kernel
theorem dX4_fall_31 : decode cX4_fall 31 = .ok (.iconst 1, 1) := by decide +kernel
theorem dX4_fall_32 : decode cX4_fall 32 = .ok (.ireturn, 1) := by decide +kernel
theorem dX4_takeClocks_0 : decode cX4_takeClocks 0 = .ok (.aload_n 0, 1) := by decide +kernel
theorem dX4_takeClocks_1 : decode cX4_takeClocks 1 = .ok (.getfield 21, 3) := by decide +kernel
theorem dX4_takeClocks_4 : decode cX4_takeClocks 4 = .ok (.ifCond .eq 10, 3) := by decide +kernel
theorem dX4_takeClocks_7 : decode cX4_takeClocks 7 = .ok (.aload_n 0, 1) := by decide +kernel
theorem dX4_takeClocks_8 : decode cX4_takeClocks 8 = .ok (.getfield 25, 3) := by decide +kernel
theorem dX4_takeClocks_11 : decode cX4_takeClocks 11 = .ok (.ifCond .eq 5, 3) := by decide +kernel
theorem dX4_takeClocks_14 : decode cX4_takeClocks 14 = .ok (.iconst 0, 1) := by decide +kernel
theorem dX4_takeClocks_15 : decode cX4_takeClocks 15 = .ok (.ireturn, 1) := by decide +kernel
theorem dX4_takeClocks_16 : decode cX4_takeClocks 16 = .ok (.aload_n 0, 1) := by decide +kernel
theorem dX4_takeClocks_17 : decode cX4_takeClocks 17 = .ok (.getfield 18, 3) := by decide +kernel
theorem dX4_takeClocks_20 : decode cX4_takeClocks 20 = .ok (.iload_n 1, 1) := by decide +kernel
theorem dX4_takeClocks_21 : decode cX4_takeClocks 21 = .ok (.iadd, 1) := by decide +kernel
theorem dX4_takeClocks_22 : decode cX4_takeClocks 22 = .ok (.istore_n 2, 1) := by decide +kernel
theorem dX4_takeClocks_23 : decode cX4_takeClocks 23 = .ok (.aload_n 0, 1) := by decide +kernel
theorem dX4_takeClocks_24 : decode cX4_takeClocks 24 = .ok (.getfield 28, 3) := by decide +kernel
theorem dX4_takeClocks_27 : decode cX4_takeClocks 27 = .ok (.ifCond .eq 8, 3) := by decide +kernel
theorem dX4_takeClocks_30 : decode cX4_takeClocks 30 = .ok (.bipush 8, 2) := by decide +kernel
theorem dX4_takeClocks_32 : decode cX4_takeClocks 32 = .ok (.goto 4, 3) := by decide +kernel
theorem dX4_takeClocks_35 : decode cX4_takeClocks 35 = .ok (.iconst 4, 1) := by decide +kernel
theorem dX4_takeClocks_36 : decode cX4_takeClocks 36 = .ok (.istore_n 3, 1) := by decide +kernel
theorem dX4_takeClocks_37 : decode cX4_takeClocks 37 = .ok (.iload_n 2, 1) := by decide +kernel
theorem dX4_takeClocks_38 : decode cX4_takeClocks 38 = .ok (.iload_n 3, 1) := by decide +kernel
theorem dX4_takeClocks_39 : decode cX4_takeClocks 39 = .ok (.ishr, 1) := by decide +kernel
theorem dX4_takeClocks_40 : decode cX4_takeClocks 40 = .ok (.istore 4, 2) := by decide +kernel
theorem dX4_takeClocks_42 : decode cX4_takeClocks 42 = .ok (.aload_n 0, 1) := by decide +kernel
theorem dX4_takeClocks_43 : decode cX4_takeClocks 43 = .ok (.iload_n 2, 1) := by decide +kernel
theorem dX4_takeClocks_44 : decode cX4_takeClocks 44 = .ok (.iconst 1, 1) := by decide +kernel
theorem dX4_takeClocks_45 : decode cX4_takeClocks 45 = .ok (.iload_n 3, 1) := by decide +kernel
theorem dX4_takeClocks_46 : decode cX4_takeClocks 46 = .ok (.ishl, 1) := by decide +kernel
theorem dX4_takeClocks_47 : decode cX4_takeClocks 47 = .ok (.iconst 1, 1) := by decide +kernel
theorem dX4_takeClocks_48 : decode cX4_takeClocks 48 = .ok (.isub, 1) := by decide +kernel
theorem dX4_takeClocks_49 : decode cX4_takeClocks 49 = .ok (.iand, 1) := by decide +kernel
theorem dX4_takeClocks_50 : decode cX4_takeClocks 50 = .ok (.putfield 18, 3) := by decide +kernel
theorem dX4_takeClocks_53 : decode cX4_takeClocks 53 = .ok (.iconst 0, 1) := by decide +kernel
theorem dX4_takeClocks_54 : decode cX4_takeClocks 54 = .ok (.istore 5, 2) := by decide +kernel
theorem dX4_takeClocks_56 : decode cX4_takeClocks 56 = .ok (.iconst 0, 1) := by decide +kernel
theorem dX4_takeClocks_57 : decode cX4_takeClocks 57 = .ok (.istore 6, 2) := by decide +kernel
theorem dX4_takeClocks_59 : decode cX4_takeClocks 59 = .ok (.iload 6, 2) := by decide +kernel
theorem dX4_takeClocks_61 : decode cX4_takeClocks 61 = .ok (.iload 4, 2) := by decide +kernel
theorem dX4_takeClocks_63 : decode cX4_takeClocks 63 = .ok (.if_icmp .ge 19, 3) := by decide +kernel
theorem dX4_takeClocks_66 : decode cX4_takeClocks 66 = .ok (.aload_n 0, 1) := by decide +kernel
theorem dX4_takeClocks_67 : decode cX4_takeClocks 67 = .ok (.invokevirtual 50, 3) := by decide +kernel
theorem dX4_takeClocks_70 : decode cX4_takeClocks 70 = .ok (.ifCond .eq 6, 3) := by decide +kernel
theorem dX4_takeClocks_73 : decode cX4_takeClocks 73 = .ok (.iinc 5 1, 3) := by decide +kernel
theorem dX4_takeClocks_76 : decode cX4_takeClocks 76 = .ok (.iinc 6 1, 3) := by decide +kernel
theorem dX4_takeClocks_79 : decode cX4_takeClocks 79 = .ok (.goto (-20), 3) := by decide +kernel
theorem dX4_takeClocks_82 : decode cX4_takeClocks 82 = .ok (.iload 5, 2) := by decide +kernel
theorem dX4_takeClocks_84 : decode cX4_takeClocks 84 = .ok (.ireturn, 1) := by decide +kernel
theorem dX4_takeTrigger_0 : decode cX4_takeTrigger 0 = .ok (.aload_n 0, 1) := by decide +kernel
theorem dX4_takeTrigger_1 : decode cX4_takeTrigger 1 = .ok (.getfield 21, 3) := by decide +kernel
theorem dX4_takeTrigger_4 : decode cX4_takeTrigger 4 = .ok (.ifCond .eq 21, 3) := by decide +kernel
theorem dX4_takeTrigger_7 : decode cX4_takeTrigger 7 = .ok (.aload_n 0, 1) := by decide +kernel
theorem dX4_takeTrigger_8 : decode cX4_takeTrigger 8 = .ok (.getfield 25, 3) := by decide +kernel
theorem dX4_takeTrigger_11 : decode cX4_takeTrigger 11 = .ok (.ifCond .eq 14, 3) := by decide +kernel
theorem dX4_takeTrigger_14 : decode cX4_takeTrigger 14 = .ok (.aload_n 0, 1) := by decide +kernel
theorem dX4_takeTrigger_15 : decode cX4_takeTrigger 15 = .ok (.invokevirtual 50, 3) := by decide +kernel
theorem dX4_takeTrigger_18 : decode cX4_takeTrigger 18 = .ok (.ifCond .eq 7, 3) := by decide +kernel
theorem dX4_takeTrigger_21 : decode cX4_takeTrigger 21 = .ok (.iconst 1, 1) := by decide +kernel
theorem dX4_takeTrigger_22 : decode cX4_takeTrigger 22 = .ok (.goto 4, 3) := by decide +kernel
theorem dX4_takeTrigger_25 : decode cX4_takeTrigger 25 = .ok (.iconst 0, 1) := by decide +kernel
theorem dX4_takeTrigger_26 : decode cX4_takeTrigger 26 = .ok (.ireturn, 1) := by decide +kernel
theorem dX3_takeClocks_0 : decode cX3_takeClocks 0 = .ok (.aload_n 0, 1) := by decide +kernel
theorem dX3_takeClocks_1 : decode cX3_takeClocks 1 = .ok (.getfield 12, 3) := by decide +kernel
theorem dX3_takeClocks_4 : decode cX3_takeClocks 4 = .ok (.iload_n 1, 1) := by decide +kernel
theorem dX3_takeClocks_5 : decode cX3_takeClocks 5 = .ok (.invokevirtual 37, 3) := by decide +kernel
theorem dX3_takeClocks_8 : decode cX3_takeClocks 8 = .ok (.istore_n 2, 1) := by decide +kernel
theorem dX3_takeClocks_9 : decode cX3_takeClocks 9 = .ok (.iconst 0, 1) := by decide +kernel
theorem dX3_takeClocks_10 : decode cX3_takeClocks 10 = .ok (.istore_n 3, 1) := by decide +kernel
theorem dX3_takeClocks_11 : decode cX3_takeClocks 11 = .ok (.iload_n 3, 1) := by decide +kernel
theorem dX3_takeClocks_12 : decode cX3_takeClocks 12 = .ok (.iload_n 2, 1) := by decide +kernel
theorem dX3_takeClocks_13 : decode cX3_takeClocks 13 = .ok (.if_icmp .ge 17, 3) := by decide +kernel
theorem dX3_takeClocks_16 : decode cX3_takeClocks 16 = .ok (.aload_n 0, 1) := by decide +kernel
theorem dX3_takeClocks_17 : decode cX3_takeClocks 17 = .ok (.getfield 18, 3) := by decide +kernel
theorem dX3_takeClocks_20 : decode cX3_takeClocks 20 = .ok (.invokevirtual 41, 3) := by decide +kernel
theorem dX3_takeClocks_23 : decode cX3_takeClocks 23 = .ok (.pop, 1) := by decide +kernel
theorem dX3_takeClocks_24 : decode cX3_takeClocks 24 = .ok (.iinc 3 1, 3) := by decide +kernel
theorem dX3_takeClocks_27 : decode cX3_takeClocks 27 = .ok (.goto (-16), 3) := by decide +kernel
theorem dX3_takeClocks_30 : decode cX3_takeClocks 30 = .ok (.aload_n 0, 1) := by decide +kernel
theorem dX3_takeClocks_31 : decode cX3_takeClocks 31 = .ok (.getfield 18, 3) := by decide +kernel
theorem dX3_takeClocks_34 : decode cX3_takeClocks 34 = .ok (.iload_n 1, 1) := by decide +kernel
theorem dX3_takeClocks_35 : decode cX3_takeClocks 35 = .ok (.invokevirtual 37, 3) := by decide +kernel
theorem dX3_takeClocks_38 : decode cX3_takeClocks 38 = .ok (.pop, 1) := by decide +kernel
theorem dX3_takeClocks_39 : decode cX3_takeClocks 39 = .ok (.return_, 1) := by decide +kernel
theorem dX9_spend_0 : decode cX9_spend 0 = .ok (.aload_n 0, 1) := by decide +kernel
theorem dX9_spend_1 : decode cX9_spend 1 = .ok (.dup, 1) := by decide +kernel
theorem dX9_spend_2 : decode cX9_spend 2 = .ok (.getfield 33, 3) := by decide +kernel
theorem dX9_spend_5 : decode cX9_spend 5 = .ok (.iload_n 1, 1) := by decide +kernel
theorem dX9_spend_6 : decode cX9_spend 6 = .ok (.iadd, 1) := by decide +kernel
theorem dX9_spend_7 : decode cX9_spend 7 = .ok (.putfield 33, 3) := by decide +kernel
theorem dX9_spend_10 : decode cX9_spend 10 = .ok (.aload_n 0, 1) := by decide +kernel
theorem dX9_spend_11 : decode cX9_spend 11 = .ok (.getfield 46, 3) := by decide +kernel
theorem dX9_spend_14 : decode cX9_spend 14 = .ok (.iload_n 1, 1) := by decide +kernel
theorem dX9_spend_15 : decode cX9_spend 15 = .ok (.invokevirtual 123, 3) := by decide +kernel
theorem dX9_spend_18 : decode cX9_spend 18 = .ok (.return_, 1) := by decide +kernel
theorem dX9_carryOut_0 : decode cX9_carryOut 0 = .ok (.aload_n 0, 1) := by decide +kernel
theorem dX9_carryOut_1 : decode cX9_carryOut 1 = .ok (.iconst 0, 1) := by decide +kernel
theorem dX9_carryOut_2 : decode cX9_carryOut 2 = .ok (.putfield 30, 3) := by decide +kernel
theorem dX9_carryOut_5 : decode cX9_carryOut 5 = .ok (.aload_n 0, 1) := by decide +kernel
theorem dX9_carryOut_6 : decode cX9_carryOut 6 = .ok (.getfield 10, 3) := by decide +kernel
theorem dX9_carryOut_9 : decode cX9_carryOut 9 = .ok (.getfield 64, 3) := by decide +kernel
theorem dX9_carryOut_12 : decode cX9_carryOut 12 = .ok (.istore_n 1, 1) := by decide +kernel
theorem dX9_carryOut_13 : decode cX9_carryOut 13 = .ok (.iconst 4, 1) := by decide +kernel
theorem dX9_carryOut_14 : decode cX9_carryOut 14 = .ok (.istore_n 2, 1) := by decide +kernel
theorem dX9_carryOut_15 : decode cX9_carryOut 15 = .ok (.aload_n 0, 1) := by decide +kernel
theorem dX9_carryOut_16 : decode cX9_carryOut 16 = .ok (.getfield 24, 3) := by decide +kernel
theorem dX9_carryOut_19 : decode cX9_carryOut 19 = .ok (.ifCond .ne 135, 3) := by decide +kernel
theorem dX9_carryOut_22 : decode cX9_carryOut 22 = .ok (.aload_n 0, 1) := by decide +kernel
theorem dX9_carryOut_23 : decode cX9_carryOut 23 = .ok (.invokevirtual 67, 3) := by decide +kernel
theorem dX9_carryOut_26 : decode cX9_carryOut 26 = .ok (.istore_n 3, 1) := by decide +kernel
theorem dX9_carryOut_27 : decode cX9_carryOut 27 = .ok (.iload_n 3, 1) := by decide +kernel
theorem dX9_carryOut_28 : decode cX9_carryOut 28 = .ok (.bipush 6, 2) := by decide +kernel
theorem dX9_carryOut_30 : decode cX9_carryOut 30 = .ok (.ishr, 1) := by decide +kernel
theorem dX9_carryOut_31 : decode cX9_carryOut 31 = .ok (.tableswitch 80 0 2 #[25, 34, 43], 25) := by decide +kernel
theorem dX9_carryOut_56 : decode cX9_carryOut 56 = .ok (.aload_n 0, 1) := by decide +kernel
theorem dX9_carryOut_57 : decode cX9_carryOut 57 = .ok (.iload_n 3, 1) := by decide +kernel
theorem dX9_carryOut_58 : decode cX9_carryOut 58 = .ok (.invokevirtual 71, 3) := by decide +kernel
theorem dX9_carryOut_61 : decode cX9_carryOut 61 = .ok (.istore_n 2, 1) := by decide +kernel
theorem dX9_carryOut_62 : decode cX9_carryOut 62 = .ok (.goto 92, 3) := by decide +kernel
theorem dX9_carryOut_65 : decode cX9_carryOut 65 = .ok (.aload_n 0, 1) := by decide +kernel
theorem dX9_carryOut_66 : decode cX9_carryOut 66 = .ok (.iload_n 3, 1) := by decide +kernel
theorem dX9_carryOut_67 : decode cX9_carryOut 67 = .ok (.invokevirtual 75, 3) := by decide +kernel
theorem dX9_carryOut_70 : decode cX9_carryOut 70 = .ok (.istore_n 2, 1) := by decide +kernel
theorem dX9_carryOut_71 : decode cX9_carryOut 71 = .ok (.goto 83, 3) := by decide +kernel
theorem dX9_carryOut_74 : decode cX9_carryOut 74 = .ok (.aload_n 0, 1) := by decide +kernel
theorem dX9_carryOut_75 : decode cX9_carryOut 75 = .ok (.iload_n 3, 1) := by decide +kernel
theorem dX9_carryOut_76 : decode cX9_carryOut 76 = .ok (.iconst 3, 1) := by decide +kernel
theorem dX9_carryOut_77 : decode cX9_carryOut 77 = .ok (.ishr, 1) := by decide +kernel
theorem dX9_carryOut_78 : decode cX9_carryOut 78 = .ok (.bipush 7, 2) := by decide +kernel
theorem dX9_carryOut_80 : decode cX9_carryOut 80 = .ok (.iand, 1) := by decide +kernel
theorem dX9_carryOut_81 : decode cX9_carryOut 81 = .ok (.aload_n 0, 1) := by decide +kernel
theorem dX9_carryOut_82 : decode cX9_carryOut 82 = .ok (.iload_n 3, 1) := by decide +kernel
theorem dX9_carryOut_83 : decode cX9_carryOut 83 = .ok (.bipush 7, 2) := by decide +kernel
theorem dX9_carryOut_85 : decode cX9_carryOut 85 = .ok (.iand, 1) := by decide +kernel
theorem dX9_carryOut_86 : decode cX9_carryOut 86 = .ok (.invokevirtual 78, 3) := by decide +kernel
theorem dX9_carryOut_89 : decode cX9_carryOut 89 = .ok (.invokevirtual 81, 3) := by decide +kernel
theorem dX9_carryOut_92 : decode cX9_carryOut 92 = .ok (.iload_n 3, 1) := by decide +kernel
theorem dX9_carryOut_93 : decode cX9_carryOut 93 = .ok (.bipush 7, 2) := by decide +kernel
theorem dX9_carryOut_95 : decode cX9_carryOut 95 = .ok (.iand, 1) := by decide +kernel
theorem dX9_carryOut_96 : decode cX9_carryOut 96 = .ok (.bipush 6, 2) := by decide +kernel
theorem dX9_carryOut_98 : decode cX9_carryOut 98 = .ok (.if_icmp .ne 8, 3) := by decide +kernel
theorem dX9_carryOut_101 : decode cX9_carryOut 101 = .ok (.bipush 7, 2) := by decide +kernel
theorem dX9_carryOut_103 : decode cX9_carryOut 103 = .ok (.goto 4, 3) := by decide +kernel
theorem dX9_carryOut_106 : decode cX9_carryOut 106 = .ok (.iconst 4, 1) := by decide +kernel
theorem dX9_carryOut_107 : decode cX9_carryOut 107 = .ok (.istore_n 2, 1) := by decide +kernel
theorem dX9_carryOut_108 : decode cX9_carryOut 108 = .ok (.goto 46, 3) := by decide +kernel
theorem dX9_carryOut_111 : decode cX9_carryOut 111 = .ok (.iload_n 3, 1) := by decide +kernel
theorem dX9_carryOut_112 : decode cX9_carryOut 112 = .ok (.bipush 7, 2) := by decide +kernel
theorem dX9_carryOut_114 : decode cX9_carryOut 114 = .ok (.iand, 1) := by decide +kernel
theorem dX9_carryOut_115 : decode cX9_carryOut 115 = .ok (.iconst 3, 1) := by decide +kernel
theorem dX9_carryOut_116 : decode cX9_carryOut 116 = .ok (.if_icmp .eq 12, 3) := by decide +kernel
theorem dX9_carryOut_119 : decode cX9_carryOut 119 = .ok (.iload_n 3, 1) := by decide +kernel
theorem dX9_carryOut_120 : decode cX9_carryOut 120 = .ok (.bipush 15, 2) := by decide +kernel
theorem dX9_carryOut_122 : decode cX9_carryOut 122 = .ok (.iand, 1) := by decide +kernel
theorem dX9_carryOut_123 : decode cX9_carryOut 123 = .ok (.bipush 13, 2) := by decide +kernel
theorem dX9_carryOut_125 : decode cX9_carryOut 125 = .ok (.if_icmp .ne 7, 3) := by decide +kernel
theorem dX9_carryOut_128 : decode cX9_carryOut 128 = .ok (.iconst 1, 1) := by decide +kernel
theorem dX9_carryOut_129 : decode cX9_carryOut 129 = .ok (.goto 4, 3) := by decide +kernel
theorem dX9_carryOut_132 : decode cX9_carryOut 132 = .ok (.iconst 0, 1) := by decide +kernel
theorem dX9_carryOut_133 : decode cX9_carryOut 133 = .ok (.istore 4, 2) := by decide +kernel
theorem dX9_carryOut_135 : decode cX9_carryOut 135 = .ok (.iload 4, 2) := by decide +kernel
theorem dX9_carryOut_137 : decode cX9_carryOut 137 = .ok (.ifCond .eq 11, 3) := by decide +kernel
theorem dX9_carryOut_140 : decode cX9_carryOut 140 = .ok (.aload_n 0, 1) := by decide +kernel
theorem dX9_carryOut_141 : decode cX9_carryOut 141 = .ok (.iload_n 3, 1) := by decide +kernel
theorem dX9_carryOut_142 : decode cX9_carryOut 142 = .ok (.invokevirtual 85, 3) := by decide +kernel
theorem dX9_carryOut_145 : decode cX9_carryOut 145 = .ok (.goto 8, 3) := by decide +kernel
theorem dX9_carryOut_148 : decode cX9_carryOut 148 = .ok (.aload_n 0, 1) := by decide +kernel
theorem dX9_carryOut_149 : decode cX9_carryOut 149 = .ok (.iload_n 3, 1) := by decide +kernel
theorem dX9_carryOut_150 : decode cX9_carryOut 150 = .ok (.invokevirtual 88, 3) := by decide +kernel
theorem dX9_carryOut_153 : decode cX9_carryOut 153 = .ok (.istore_n 2, 1) := by decide +kernel
theorem dX9_carryOut_154 : decode cX9_carryOut 154 = .ok (.iload_n 2, 1) := by decide +kernel
theorem dX9_carryOut_155 : decode cX9_carryOut 155 = .ok (.ifCond .ne 18, 3) := by decide +kernel
theorem dX9_carryOut_158 : decode cX9_carryOut 158 = .ok (.aload_n 0, 1) := by decide +kernel
theorem dX9_carryOut_159 : decode cX9_carryOut 159 = .ok (.getfield 10, 3) := by decide +kernel
theorem dX9_carryOut_162 : decode cX9_carryOut 162 = .ok (.iload_n 1, 1) := by decide +kernel
theorem dX9_carryOut_163 : decode cX9_carryOut 163 = .ok (.putfield 64, 3) := by decide +kernel
theorem dX9_carryOut_166 : decode cX9_carryOut 166 = .ok (.aload_n 0, 1) := by decide +kernel
theorem dX9_carryOut_167 : decode cX9_carryOut 167 = .ok (.iconst 1, 1) := by decide +kernel
theorem dX9_carryOut_168 : decode cX9_carryOut 168 = .ok (.putfield 27, 3) := by decide +kernel
theorem dX9_carryOut_171 : decode cX9_carryOut 171 = .ok (.iconst 0, 1) := by decide +kernel
theorem dX9_carryOut_172 : decode cX9_carryOut 172 = .ok (.ireturn, 1) := by decide +kernel
theorem dX9_carryOut_173 : decode cX9_carryOut 173 = .ok (.aload_n 0, 1) := by decide +kernel
theorem dX9_carryOut_174 : decode cX9_carryOut 174 = .ok (.dup, 1) := by decide +kernel
theorem dX9_carryOut_175 : decode cX9_carryOut 175 = .ok (.getfield 36, 3) := by decide +kernel
theorem dX9_carryOut_178 : decode cX9_carryOut 178 = .ok (.iconst 1, 1) := by decide +kernel
theorem dX9_carryOut_179 : decode cX9_carryOut 179 = .ok (.iadd, 1) := by decide +kernel
theorem dX9_carryOut_180 : decode cX9_carryOut 180 = .ok (.putfield 36, 3) := by decide +kernel
theorem dX9_carryOut_183 : decode cX9_carryOut 183 = .ok (.aload_n 0, 1) := by decide +kernel
theorem dX9_carryOut_184 : decode cX9_carryOut 184 = .ok (.iload_n 2, 1) := by decide +kernel
theorem dX9_carryOut_185 : decode cX9_carryOut 185 = .ok (.invokevirtual 91, 3) := by decide +kernel
theorem dX9_carryOut_188 : decode cX9_carryOut 188 = .ok (.iload_n 2, 1) := by decide +kernel
theorem dX9_carryOut_189 : decode cX9_carryOut 189 = .ok (.ireturn, 1) := by decide +kernel
theorem dX3_firstToAttend_0 : decode cX3_firstToAttend 0 = .ok (.iconst 0, 1) := by decide +kernel
theorem dX3_firstToAttend_1 : decode cX3_firstToAttend 1 = .ok (.istore_n 1, 1) := by decide +kernel
theorem dX3_firstToAttend_2 : decode cX3_firstToAttend 2 = .ok (.iload_n 1, 1) := by decide +kernel
theorem dX3_firstToAttend_3 : decode cX3_firstToAttend 3 = .ok (.aload_n 0, 1) := by decide +kernel
theorem dX3_firstToAttend_4 : decode cX3_firstToAttend 4 = .ok (.getfield 33, 3) := by decide +kernel
theorem dX3_firstToAttend_7 : decode cX3_firstToAttend 7 = .ok (.arraylength, 1) := by decide +kernel
theorem dX3_firstToAttend_8 : decode cX3_firstToAttend 8 = .ok (.if_icmp .ge 34, 3) := by decide +kernel
theorem dX3_firstToAttend_11 : decode cX3_firstToAttend 11 = .ok (.aload_n 0, 1) := by decide +kernel
theorem dX3_firstToAttend_12 : decode cX3_firstToAttend 12 = .ok (.getfield 33, 3) := by decide +kernel
theorem dX3_firstToAttend_15 : decode cX3_firstToAttend 15 = .ok (.iload_n 1, 1) := by decide +kernel
theorem dX3_firstToAttend_16 : decode cX3_firstToAttend 16 = .ok (.aaload, 1) := by decide +kernel
theorem dX3_firstToAttend_17 : decode cX3_firstToAttend 17 = .ok (.astore_n 2, 1) := by decide +kernel
theorem dX3_firstToAttend_18 : decode cX3_firstToAttend 18 = .ok (.aload_n 2, 1) := by decide +kernel
theorem dX3_firstToAttend_19 : decode cX3_firstToAttend 19 = .ok (.getfield 70, 3) := by decide +kernel
theorem dX3_firstToAttend_22 : decode cX3_firstToAttend 22 = .ok (.ifCond .eq 5, 3) := by decide +kernel
theorem dX3_firstToAttend_25 : decode cX3_firstToAttend 25 = .ok (.aconst_null, 1) := by decide +kernel
theorem dX3_firstToAttend_26 : decode cX3_firstToAttend 26 = .ok (.areturn, 1) := by decide +kernel
theorem dX3_firstToAttend_27 : decode cX3_firstToAttend 27 = .ok (.aload_n 2, 1) := by decide +kernel
theorem dX3_firstToAttend_28 : decode cX3_firstToAttend 28 = .ok (.getfield 74, 3) := by decide +kernel
theorem dX3_firstToAttend_31 : decode cX3_firstToAttend 31 = .ok (.ifCond .eq 5, 3) := by decide +kernel
theorem dX3_firstToAttend_34 : decode cX3_firstToAttend 34 = .ok (.aload_n 2, 1) := by decide +kernel
theorem dX3_firstToAttend_35 : decode cX3_firstToAttend 35 = .ok (.areturn, 1) := by decide +kernel
theorem dX3_firstToAttend_36 : decode cX3_firstToAttend 36 = .ok (.iinc 1 1, 3) := by decide +kernel
theorem dX3_firstToAttend_39 : decode cX3_firstToAttend 39 = .ok (.goto (-37), 3) := by decide +kernel
theorem dX3_firstToAttend_42 : decode cX3_firstToAttend 42 = .ok (.aconst_null, 1) := by decide +kernel
theorem dX3_firstToAttend_43 : decode cX3_firstToAttend 43 = .ok (.areturn, 1) := by decide +kernel
theorem dX9_attend_0 : decode cX9_attend 0 = .ok (.aload_n 0, 1) := by decide +kernel
theorem dX9_attend_1 : decode cX9_attend 1 = .ok (.getfield 16, 3) := by decide +kernel
theorem dX9_attend_4 : decode cX9_attend 4 = .ok (.ifCond .eq 17, 3) := by decide +kernel
theorem dX9_attend_7 : decode cX9_attend 7 = .ok (.aload_n 0, 1) := by decide +kernel
theorem dX9_attend_8 : decode cX9_attend 8 = .ok (.getfield 30, 3) := by decide +kernel
theorem dX9_attend_11 : decode cX9_attend 11 = .ok (.ifCond .ne 10, 3) := by decide +kernel
theorem dX9_attend_14 : decode cX9_attend 14 = .ok (.aload_n 0, 1) := by decide +kernel
theorem dX9_attend_15 : decode cX9_attend 15 = .ok (.getfield 27, 3) := by decide +kernel
theorem dX9_attend_18 : decode cX9_attend 18 = .ok (.ifCond .eq 5, 3) := by decide +kernel
theorem dX9_attend_21 : decode cX9_attend 21 = .ok (.iconst 0, 1) := by decide +kernel
theorem dX9_attend_22 : decode cX9_attend 22 = .ok (.ireturn, 1) := by decide +kernel
theorem dX9_attend_23 : decode cX9_attend 23 = .ok (.aload_n 0, 1) := by decide +kernel
theorem dX9_attend_24 : decode cX9_attend 24 = .ok (.getfield 46, 3) := by decide +kernel
theorem dX9_attend_27 : decode cX9_attend 27 = .ok (.invokevirtual 95, 3) := by decide +kernel
theorem dX9_attend_30 : decode cX9_attend 30 = .ok (.astore_n 1, 1) := by decide +kernel
theorem dX9_attend_31 : decode cX9_attend 31 = .ok (.aload_n 1, 1) := by decide +kernel
theorem dX9_attend_32 : decode cX9_attend 32 = .ok (.ifnonnull 5, 3) := by decide +kernel
theorem dX9_attend_35 : decode cX9_attend 35 = .ok (.iconst 0, 1) := by decide +kernel
theorem dX9_attend_36 : decode cX9_attend 36 = .ok (.ireturn, 1) := by decide +kernel
theorem dX9_attend_37 : decode cX9_attend 37 = .ok (.aload_n 1, 1) := by decide +kernel
theorem dX9_attend_38 : decode cX9_attend 38 = .ok (.iconst 0, 1) := by decide +kernel
theorem dX9_attend_39 : decode cX9_attend 39 = .ok (.putfield 101, 3) := by decide +kernel
theorem dX9_attend_42 : decode cX9_attend 42 = .ok (.aload_n 1, 1) := by decide +kernel
theorem dX9_attend_43 : decode cX9_attend 43 = .ok (.iconst 1, 1) := by decide +kernel
theorem dX9_attend_44 : decode cX9_attend 44 = .ok (.putfield 106, 3) := by decide +kernel
theorem dX9_attend_47 : decode cX9_attend 47 = .ok (.aload_n 0, 1) := by decide +kernel
theorem dX9_attend_48 : decode cX9_attend 48 = .ok (.iconst 0, 1) := by decide +kernel
theorem dX9_attend_49 : decode cX9_attend 49 = .ok (.putfield 16, 3) := by decide +kernel
theorem dX9_attend_52 : decode cX9_attend 52 = .ok (.aload_n 0, 1) := by decide +kernel
theorem dX9_attend_53 : decode cX9_attend 53 = .ok (.iconst 0, 1) := by decide +kernel
theorem dX9_attend_54 : decode cX9_attend 54 = .ok (.putfield 24, 3) := by decide +kernel
theorem dX9_attend_57 : decode cX9_attend 57 = .ok (.aload_n 0, 1) := by decide +kernel
theorem dX9_attend_58 : decode cX9_attend 58 = .ok (.dup, 1) := by decide +kernel
theorem dX9_attend_59 : decode cX9_attend 59 = .ok (.getfield 39, 3) := by decide +kernel
theorem dX9_attend_62 : decode cX9_attend 62 = .ok (.iconst 1, 1) := by decide +kernel
theorem dX9_attend_63 : decode cX9_attend 63 = .ok (.iadd, 1) := by decide +kernel
theorem dX9_attend_64 : decode cX9_attend 64 = .ok (.putfield 39, 3) := by decide +kernel
theorem dX9_attend_67 : decode cX9_attend 67 = .ok (.aload_n 0, 1) := by decide +kernel
theorem dX9_attend_68 : decode cX9_attend 68 = .ok (.getfield 20, 3) := by decide +kernel
theorem dX9_attend_71 : decode cX9_attend 71 = .ok (.iconst 2, 1) := by decide +kernel
theorem dX9_attend_72 : decode cX9_attend 72 = .ok (.if_icmp .ne 7, 3) := by decide +kernel
theorem dX9_attend_75 : decode cX9_attend 75 = .ok (.iconst 1, 1) := by decide +kernel
theorem dX9_attend_76 : decode cX9_attend 76 = .ok (.goto 4, 3) := by decide +kernel
theorem dX9_attend_79 : decode cX9_attend 79 = .ok (.iconst 0, 1) := by decide +kernel
theorem dX9_attend_80 : decode cX9_attend 80 = .ok (.istore_n 2, 1) := by decide +kernel
theorem dX9_attend_81 : decode cX9_attend 81 = .ok (.aload_n 0, 1) := by decide +kernel
theorem dX9_attend_82 : decode cX9_attend 82 = .ok (.aload_n 0, 1) := by decide +kernel
theorem dX9_attend_83 : decode cX9_attend 83 = .ok (.getfield 10, 3) := by decide +kernel
theorem dX9_attend_86 : decode cX9_attend 86 = .ok (.getfield 64, 3) := by decide +kernel
theorem dX9_attend_89 : decode cX9_attend 89 = .ok (.invokevirtual 109, 3) := by decide +kernel
theorem dX9_attend_92 : decode cX9_attend 92 = .ok (.aload_n 0, 1) := by decide +kernel
theorem dX9_attend_93 : decode cX9_attend 93 = .ok (.getfield 10, 3) := by decide +kernel
theorem dX9_attend_96 : decode cX9_attend 96 = .ok (.iload_n 2, 1) := by decide +kernel
theorem dX9_attend_97 : decode cX9_attend 97 = .ok (.ifCond .eq 29, 3) := by decide +kernel
theorem dX9_attend_100 : decode cX9_attend 100 = .ok (.aload_n 0, 1) := by decide +kernel
theorem dX9_attend_101 : decode cX9_attend 101 = .ok (.getfield 42, 3) := by decide +kernel
theorem dX9_attend_104 : decode cX9_attend 104 = .ok (.aload_n 0, 1) := by decide +kernel
theorem dX9_attend_105 : decode cX9_attend 105 = .ok (.getfield 10, 3) := by decide +kernel
theorem dX9_attend_108 : decode cX9_attend 108 = .ok (.getfield 112, 3) := by decide +kernel
theorem dX9_attend_111 : decode cX9_attend 111 = .ok (.sipush 256, 3) := by decide +kernel
theorem dX9_attend_114 : decode cX9_attend 114 = .ok (.imul, 1) := by decide +kernel
theorem dX9_attend_115 : decode cX9_attend 115 = .ok (.aload_n 1, 1) := by decide +kernel
theorem dX9_attend_116 : decode cX9_attend 116 = .ok (.getfield 115, 3) := by decide +kernel
theorem dX9_attend_119 : decode cX9_attend 119 = .ok (.iadd, 1) := by decide +kernel
theorem dX9_attend_120 : decode cX9_attend 120 = .ok (.invokevirtual 118, 3) := by decide +kernel
theorem dX9_attend_123 : decode cX9_attend 123 = .ok (.goto 5, 3) := by decide +kernel
theorem dX9_attend_126 : decode cX9_attend 126 = .ok (.bipush 56, 2) := by decide +kernel
theorem dX9_attend_128 : decode cX9_attend 128 = .ok (.putfield 64, 3) := by decide +kernel
theorem dX9_attend_131 : decode cX9_attend 131 = .ok (.iload_n 2, 1) := by decide +kernel
theorem dX9_attend_132 : decode cX9_attend 132 = .ok (.ifCond .eq 8, 3) := by decide +kernel
theorem dX9_attend_135 : decode cX9_attend 135 = .ok (.bipush 19, 2) := by decide +kernel
theorem dX9_attend_137 : decode cX9_attend 137 = .ok (.goto 5, 3) := by decide +kernel
theorem dX9_attend_140 : decode cX9_attend 140 = .ok (.bipush 13, 2) := by decide +kernel
theorem dX9_attend_142 : decode cX9_attend 142 = .ok (.istore_n 3, 1) := by decide +kernel
theorem dX9_attend_143 : decode cX9_attend 143 = .ok (.aload_n 0, 1) := by decide +kernel
theorem dX9_attend_144 : decode cX9_attend 144 = .ok (.iload_n 3, 1) := by decide +kernel
theorem dX9_attend_145 : decode cX9_attend 145 = .ok (.invokevirtual 91, 3) := by decide +kernel
theorem dX9_attend_148 : decode cX9_attend 148 = .ok (.iload_n 3, 1) := by decide +kernel
theorem dX9_attend_149 : decode cX9_attend 149 = .ok (.ireturn, 1) := by decide +kernel
theorem dX1_run_0 : decode cX1_run 0 = .ok (.iload_n 1, 1) := by decide +kernel
theorem dX1_run_1 : decode cX1_run 1 = .ok (.ifCond .lt 10, 3) := by decide +kernel
theorem dX1_run_4 : decode cX1_run 4 = .ok (.iload_n 1, 1) := by decide +kernel
theorem dX1_run_5 : decode cX1_run 5 = .ok (.sipush 5000, 3) := by decide +kernel
theorem dX1_run_8 : decode cX1_run 8 = .ok (.if_icmp .le 5, 3) := by decide +kernel
theorem dX1_run_11 : decode cX1_run 11 = .ok (.iconst 0, 1) := by decide +kernel
theorem dX1_run_12 : decode cX1_run 12 = .ok (.ireturn, 1) := by decide +kernel
theorem dX1_run_13 : decode cX1_run 13 = .ok (.iconst 0, 1) := by decide +kernel
theorem dX1_run_14 : decode cX1_run 14 = .ok (.istore_n 2, 1) := by decide +kernel
theorem dX1_run_15 : decode cX1_run 15 = .ok (.iconst 0, 1) := by decide +kernel
theorem dX1_run_16 : decode cX1_run 16 = .ok (.istore_n 3, 1) := by decide +kernel
theorem dX1_run_17 : decode cX1_run 17 = .ok (.iload_n 3, 1) := by decide +kernel
theorem dX1_run_18 : decode cX1_run 18 = .ok (.iload_n 1, 1) := by decide +kernel
theorem dX1_run_19 : decode cX1_run 19 = .ok (.if_icmp .ge 44, 3) := by decide +kernel
theorem dX1_run_22 : decode cX1_run 22 = .ok (.iload_n 2, 1) := by decide +kernel
theorem dX1_run_23 : decode cX1_run 23 = .ok (.iload_n 1, 1) := by decide +kernel
theorem dX1_run_24 : decode cX1_run 24 = .ok (.if_icmp .ge 39, 3) := by decide +kernel
theorem dX1_run_27 : decode cX1_run 27 = .ok (.aload_n 0, 1) := by decide +kernel
theorem dX1_run_28 : decode cX1_run 28 = .ok (.getfield 28, 3) := by decide +kernel
theorem dX1_run_31 : decode cX1_run 31 = .ok (.getfield 61, 3) := by decide +kernel
theorem dX1_run_34 : decode cX1_run 34 = .ok (.ifCond .ne 29, 3) := by decide +kernel
theorem dX1_run_37 : decode cX1_run 37 = .ok (.iload_n 2, 1) := by decide +kernel
theorem dX1_run_38 : decode cX1_run 38 = .ok (.aload_n 0, 1) := by decide +kernel
theorem dX1_run_39 : decode cX1_run 39 = .ok (.getfield 28, 3) := by decide +kernel
theorem dX1_run_42 : decode cX1_run 42 = .ok (.invokevirtual 64, 3) := by decide +kernel
theorem dX1_run_45 : decode cX1_run 45 = .ok (.iadd, 1) := by decide +kernel
theorem dX1_run_46 : decode cX1_run 46 = .ok (.istore_n 2, 1) := by decide +kernel
theorem dX1_run_47 : decode cX1_run 47 = .ok (.iload_n 2, 1) := by decide +kernel
theorem dX1_run_48 : decode cX1_run 48 = .ok (.aload_n 0, 1) := by decide +kernel
theorem dX1_run_49 : decode cX1_run 49 = .ok (.getfield 28, 3) := by decide +kernel
theorem dX1_run_52 : decode cX1_run 52 = .ok (.invokevirtual 68, 3) := by decide +kernel
theorem dX1_run_55 : decode cX1_run 55 = .ok (.iadd, 1) := by decide +kernel
theorem dX1_run_56 : decode cX1_run 56 = .ok (.istore_n 2, 1) := by decide +kernel
theorem dX1_run_57 : decode cX1_run 57 = .ok (.iinc 3 1, 3) := by decide +kernel
theorem dX1_run_60 : decode cX1_run 60 = .ok (.goto (-43), 3) := by decide +kernel
theorem dX1_run_63 : decode cX1_run 63 = .ok (.iload_n 2, 1) := by decide +kernel
theorem dX1_run_64 : decode cX1_run 64 = .ok (.ireturn, 1) := by decide +kernel
theorem dX1_state_0 : decode cX1_state 0 = .ok (.aload_n 0, 1) := by decide +kernel
theorem dX1_state_1 : decode cX1_state 1 = .ok (.getfield 28, 3) := by decide +kernel
theorem dX1_state_4 : decode cX1_state 4 = .ok (.getfield 61, 3) := by decide +kernel
theorem dX1_state_7 : decode cX1_state 7 = .ok (.ifCond .eq 5, 3) := by decide +kernel
theorem dX1_state_10 : decode cX1_state 10 = .ok (.iconst 2, 1) := by decide +kernel
theorem dX1_state_11 : decode cX1_state 11 = .ok (.ireturn, 1) := by decide +kernel
theorem dX1_state_12 : decode cX1_state 12 = .ok (.aload_n 0, 1) := by decide +kernel
theorem dX1_state_13 : decode cX1_state 13 = .ok (.getfield 28, 3) := by decide +kernel
theorem dX1_state_16 : decode cX1_state 16 = .ok (.getfield 71, 3) := by decide +kernel
theorem dX1_state_19 : decode cX1_state 19 = .ok (.ifCond .eq 7, 3) := by decide +kernel
theorem dX1_state_22 : decode cX1_state 22 = .ok (.iconst 1, 1) := by decide +kernel
theorem dX1_state_23 : decode cX1_state 23 = .ok (.goto 4, 3) := by decide +kernel
theorem dX1_state_26 : decode cX1_state 26 = .ok (.iconst 0, 1) := by decide +kernel
theorem dX1_state_27 : decode cX1_state 27 = .ok (.ireturn, 1) := by decide +kernel
theorem dX3_pulse_0 : decode cX3_pulse 0 = .ok (.iload_n 1, 1) := by decide +kernel
theorem dX3_pulse_1 : decode cX3_pulse 1 = .ok (.iconst 1, 1) := by decide +kernel
theorem dX3_pulse_2 : decode cX3_pulse 2 = .ok (.if_icmp .eq 13, 3) := by decide +kernel
theorem dX3_pulse_5 : decode cX3_pulse 5 = .ok (.aload_n 0, 1) := by decide +kernel
theorem dX3_pulse_6 : decode cX3_pulse 6 = .ok (.getfield 12, 3) := by decide +kernel
theorem dX3_pulse_9 : decode cX3_pulse 9 = .ok (.invokevirtual 41, 3) := by decide +kernel
theorem dX3_pulse_12 : decode cX3_pulse 12 = .ok (.ifCond .eq 11, 3) := by decide +kernel
theorem dX3_pulse_15 : decode cX3_pulse 15 = .ok (.aload_n 0, 1) := by decide +kernel
theorem dX3_pulse_16 : decode cX3_pulse 16 = .ok (.getfield 18, 3) := by decide +kernel
theorem dX3_pulse_19 : decode cX3_pulse 19 = .ok (.invokevirtual 41, 3) := by decide +kernel
theorem dX3_pulse_22 : decode cX3_pulse 22 = .ok (.pop, 1) := by decide +kernel
theorem dX3_pulse_23 : decode cX3_pulse 23 = .ok (.return_, 1) := by decide +kernel
theorem dX1_trigger_0 : decode cX1_trigger 0 = .ok (.iload_n 1, 1) := by decide +kernel
theorem dX1_trigger_1 : decode cX1_trigger 1 = .ok (.ifCond .lt 8, 3) := by decide +kernel
theorem dX1_trigger_4 : decode cX1_trigger 4 = .ok (.iload_n 1, 1) := by decide +kernel
theorem dX1_trigger_5 : decode cX1_trigger 5 = .ok (.iconst 1, 1) := by decide +kernel
theorem dX1_trigger_6 : decode cX1_trigger 6 = .ok (.if_icmp .le 5, 3) := by decide +kernel
theorem dX1_trigger_9 : decode cX1_trigger 9 = .ok (.iconst 0, 1) := by decide +kernel
theorem dX1_trigger_10 : decode cX1_trigger 10 = .ok (.ireturn, 1) := by decide +kernel
theorem dX1_trigger_11 : decode cX1_trigger 11 = .ok (.aload_n 0, 1) := by decide +kernel
theorem dX1_trigger_12 : decode cX1_trigger 12 = .ok (.getfield 19, 3) := by decide +kernel
theorem dX1_trigger_15 : decode cX1_trigger 15 = .ok (.iload_n 1, 1) := by decide +kernel
theorem dX1_trigger_16 : decode cX1_trigger 16 = .ok (.invokevirtual 74, 3) := by decide +kernel
theorem dX1_trigger_19 : decode cX1_trigger 19 = .ok (.iconst 1, 1) := by decide +kernel
theorem dX1_trigger_20 : decode cX1_trigger 20 = .ok (.ireturn, 1) := by decide +kernel
theorem dX3_portOf_0 : decode cX3_portOf 0 = .ok (.iload_n 1, 1) := by decide +kernel
theorem dX3_portOf_1 : decode cX3_portOf 1 = .ok (.ifCond .ne 8, 3) := by decide +kernel
theorem dX3_portOf_4 : decode cX3_portOf 4 = .ok (.aload_n 0, 1) := by decide +kernel
theorem dX3_portOf_5 : decode cX3_portOf 5 = .ok (.getfield 24, 3) := by decide +kernel
theorem dX3_portOf_8 : decode cX3_portOf 8 = .ok (.areturn, 1) := by decide +kernel
theorem dX3_portOf_9 : decode cX3_portOf 9 = .ok (.iload_n 1, 1) := by decide +kernel
theorem dX3_portOf_10 : decode cX3_portOf 10 = .ok (.iconst 1, 1) := by decide +kernel
theorem dX3_portOf_11 : decode cX3_portOf 11 = .ok (.if_icmp .ne 10, 3) := by decide +kernel
theorem dX3_portOf_14 : decode cX3_portOf 14 = .ok (.aload_n 0, 1) := by decide +kernel
theorem dX3_portOf_15 : decode cX3_portOf 15 = .ok (.getfield 28, 3) := by decide +kernel
theorem dX3_portOf_18 : decode cX3_portOf 18 = .ok (.goto 4, 3) := by decide +kernel
theorem dX3_portOf_21 : decode cX3_portOf 21 = .ok (.aconst_null, 1) := by decide +kernel
theorem dX3_portOf_22 : decode cX3_portOf 22 = .ok (.areturn, 1) := by decide +kernel
theorem dX8_takeStrobe_0 : decode cX8_takeStrobe 0 = .ok (.aload_n 0, 1) := by decide +kernel
theorem dX8_takeStrobe_1 : decode cX8_takeStrobe 1 = .ok (.getfield 15, 3) := by decide +kernel
theorem dX8_takeStrobe_4 : decode cX8_takeStrobe 4 = .ok (.ifCond .eq 11, 3) := by decide +kernel
theorem dX8_takeStrobe_7 : decode cX8_takeStrobe 7 = .ok (.aload_n 0, 1) := by decide +kernel
theorem dX8_takeStrobe_8 : decode cX8_takeStrobe 8 = .ok (.getfield 11, 3) := by decide +kernel
theorem dX8_takeStrobe_11 : decode cX8_takeStrobe 11 = .ok (.iconst 3, 1) := by decide +kernel
theorem dX8_takeStrobe_12 : decode cX8_takeStrobe 12 = .ok (.if_icmp .ne 5, 3) := by decide +kernel
theorem dX8_takeStrobe_15 : decode cX8_takeStrobe 15 = .ok (.iconst 0, 1) := by decide +kernel
theorem dX8_takeStrobe_16 : decode cX8_takeStrobe 16 = .ok (.ireturn, 1) := by decide +kernel
theorem dX8_takeStrobe_17 : decode cX8_takeStrobe 17 = .ok (.aload_n 0, 1) := by decide +kernel
theorem dX8_takeStrobe_18 : decode cX8_takeStrobe 18 = .ok (.getfield 11, 3) := by decide +kernel
theorem dX8_takeStrobe_21 : decode cX8_takeStrobe 21 = .ok (.iconst 1, 1) := by decide +kernel
theorem dX8_takeStrobe_22 : decode cX8_takeStrobe 22 = .ok (.if_icmp .ne 12, 3) := by decide +kernel
theorem dX8_takeStrobe_25 : decode cX8_takeStrobe 25 = .ok (.aload_n 0, 1) := by decide +kernel
theorem dX8_takeStrobe_26 : decode cX8_takeStrobe 26 = .ok (.iload_n 1, 1) := by decide +kernel
theorem dX8_takeStrobe_27 : decode cX8_takeStrobe 27 = .ok (.sipush 255, 3) := by decide +kernel
theorem dX8_takeStrobe_30 : decode cX8_takeStrobe 30 = .ok (.iand, 1) := by decide +kernel
theorem dX8_takeStrobe_31 : decode cX8_takeStrobe 31 = .ok (.putfield 22, 3) := by decide +kernel
theorem dX8_takeStrobe_34 : decode cX8_takeStrobe 34 = .ok (.aload_n 0, 1) := by decide +kernel
theorem dX8_takeStrobe_35 : decode cX8_takeStrobe 35 = .ok (.iconst 0, 1) := by decide +kernel
theorem dX8_takeStrobe_36 : decode cX8_takeStrobe 36 = .ok (.putfield 15, 3) := by decide +kernel
theorem dX8_takeStrobe_39 : decode cX8_takeStrobe 39 = .ok (.aload_n 0, 1) := by decide +kernel
theorem dX8_takeStrobe_40 : decode cX8_takeStrobe 40 = .ok (.invokevirtual 65, 3) := by decide +kernel
theorem dX8_takeStrobe_43 : decode cX8_takeStrobe 43 = .ok (.iconst 1, 1) := by decide +kernel
theorem dX8_takeStrobe_44 : decode cX8_takeStrobe 44 = .ok (.ireturn, 1) := by decide +kernel
theorem dX1_strobe_0 : decode cX1_strobe 0 = .ok (.aload_n 0, 1) := by decide +kernel
theorem dX1_strobe_1 : decode cX1_strobe 1 = .ok (.getfield 19, 3) := by decide +kernel
theorem dX1_strobe_4 : decode cX1_strobe 4 = .ok (.iload_n 1, 1) := by decide +kernel
theorem dX1_strobe_5 : decode cX1_strobe 5 = .ok (.invokevirtual 78, 3) := by decide +kernel
theorem dX1_strobe_8 : decode cX1_strobe 8 = .ok (.astore_n 3, 1) := by decide +kernel
theorem dX1_strobe_9 : decode cX1_strobe 9 = .ok (.aload_n 3, 1) := by decide +kernel
theorem dX1_strobe_10 : decode cX1_strobe 10 = .ok (.ifnull 15, 3) := by decide +kernel
theorem dX1_strobe_13 : decode cX1_strobe 13 = .ok (.aload_n 3, 1) := by decide +kernel
theorem dX1_strobe_14 : decode cX1_strobe 14 = .ok (.iload_n 2, 1) := by decide +kernel
theorem dX1_strobe_15 : decode cX1_strobe 15 = .ok (.invokevirtual 82, 3) := by decide +kernel
theorem dX1_strobe_18 : decode cX1_strobe 18 = .ok (.ifCond .eq 7, 3) := by decide +kernel
theorem dX1_strobe_21 : decode cX1_strobe 21 = .ok (.iconst 1, 1) := by decide +kernel
theorem dX1_strobe_22 : decode cX1_strobe 22 = .ok (.goto 4, 3) := by decide +kernel
theorem dX1_strobe_25 : decode cX1_strobe 25 = .ok (.iconst 0, 1) := by decide +kernel
theorem dX1_strobe_26 : decode cX1_strobe 26 = .ok (.ireturn, 1) := by decide +kernel
theorem dX8_takeLevels_0 : decode cX8_takeLevels 0 = .ok (.aload_n 0, 1) := by decide +kernel
theorem dX8_takeLevels_1 : decode cX8_takeLevels 1 = .ok (.iload_n 1, 1) := by decide +kernel
theorem dX8_takeLevels_2 : decode cX8_takeLevels 2 = .ok (.sipush 255, 3) := by decide +kernel
theorem dX8_takeLevels_5 : decode cX8_takeLevels 5 = .ok (.iand, 1) := by decide +kernel
theorem dX8_takeLevels_6 : decode cX8_takeLevels 6 = .ok (.putfield 25, 3) := by decide +kernel
theorem dX8_takeLevels_9 : decode cX8_takeLevels 9 = .ok (.aload_n 0, 1) := by decide +kernel
theorem dX8_takeLevels_10 : decode cX8_takeLevels 10 = .ok (.invokevirtual 56, 3) := by decide +kernel
theorem dX8_takeLevels_13 : decode cX8_takeLevels 13 = .ok (.return_, 1) := by decide +kernel
theorem dX1_lines_0 : decode cX1_lines 0 = .ok (.aload_n 0, 1) := by decide +kernel
theorem dX1_lines_1 : decode cX1_lines 1 = .ok (.getfield 19, 3) := by decide +kernel
theorem dX1_lines_4 : decode cX1_lines 4 = .ok (.iload_n 1, 1) := by decide +kernel
theorem dX1_lines_5 : decode cX1_lines 5 = .ok (.invokevirtual 78, 3) := by decide +kernel
theorem dX1_lines_8 : decode cX1_lines 8 = .ok (.astore_n 3, 1) := by decide +kernel
theorem dX1_lines_9 : decode cX1_lines 9 = .ok (.aload_n 3, 1) := by decide +kernel
theorem dX1_lines_10 : decode cX1_lines 10 = .ok (.ifnonnull 5, 3) := by decide +kernel
theorem dX1_lines_13 : decode cX1_lines 13 = .ok (.iconst 0, 1) := by decide +kernel
theorem dX1_lines_14 : decode cX1_lines 14 = .ok (.ireturn, 1) := by decide +kernel
theorem dX1_lines_15 : decode cX1_lines 15 = .ok (.aload_n 3, 1) := by decide +kernel
theorem dX1_lines_16 : decode cX1_lines 16 = .ok (.iload_n 2, 1) := by decide +kernel
theorem dX1_lines_17 : decode cX1_lines 17 = .ok (.invokevirtual 88, 3) := by decide +kernel
theorem dX1_lines_20 : decode cX1_lines 20 = .ok (.iconst 1, 1) := by decide +kernel
theorem dX1_lines_21 : decode cX1_lines 21 = .ok (.ireturn, 1) := by decide +kernel
theorem dX4_detail_0 : decode cX4_detail 0 = .ok (.iload_n 1, 1) := by decide +kernel
theorem dX4_detail_1 : decode cX4_detail 1 = .ok (.tableswitch 50 3 5 #[27, 32, 45], 27) := by decide +kernel
theorem dX4_detail_28 : decode cX4_detail 28 = .ok (.aload_n 0, 1) := by decide +kernel
theorem dX4_detail_29 : decode cX4_detail 29 = .ok (.getfield 9, 3) := by decide +kernel
theorem dX4_detail_32 : decode cX4_detail 32 = .ok (.ireturn, 1) := by decide +kernel
theorem dX4_detail_33 : decode cX4_detail 33 = .ok (.aload_n 0, 1) := by decide +kernel
theorem dX4_detail_34 : decode cX4_detail 34 = .ok (.getfield 21, 3) := by decide +kernel
theorem dX4_detail_37 : decode cX4_detail 37 = .ok (.ifCond .eq 7, 3) := by decide +kernel
theorem dX4_detail_40 : decode cX4_detail 40 = .ok (.iconst 1, 1) := by decide +kernel
theorem dX4_detail_41 : decode cX4_detail 41 = .ok (.goto 4, 3) := by decide +kernel
theorem dX4_detail_44 : decode cX4_detail 44 = .ok (.iconst 0, 1) := by decide +kernel
theorem dX4_detail_45 : decode cX4_detail 45 = .ok (.ireturn, 1) := by decide +kernel
theorem dX4_detail_46 : decode cX4_detail 46 = .ok (.aload_n 0, 1) := by decide +kernel
theorem dX4_detail_47 : decode cX4_detail 47 = .ok (.getfield 18, 3) := by decide +kernel
theorem dX4_detail_50 : decode cX4_detail 50 = .ok (.ireturn, 1) := by decide +kernel
theorem dX4_detail_51 : decode cX4_detail 51 = .ok (.iconst (-1), 1) := by decide +kernel
theorem dX4_detail_52 : decode cX4_detail 52 = .ok (.ireturn, 1) := by decide +kernel
theorem dX8_detail_0 : decode cX8_detail 0 = .ok (.iload_n 1, 1) := by decide +kernel
theorem dX8_detail_1 : decode cX8_detail 1 = .ok (.tableswitch 50 3 5 #[27, 32, 45], 27) := by decide +kernel
theorem dX8_detail_28 : decode cX8_detail 28 = .ok (.aload_n 0, 1) := by decide +kernel
theorem dX8_detail_29 : decode cX8_detail 29 = .ok (.getfield 11, 3) := by decide +kernel
theorem dX8_detail_32 : decode cX8_detail 32 = .ok (.ireturn, 1) := by decide +kernel
theorem dX8_detail_33 : decode cX8_detail 33 = .ok (.aload_n 0, 1) := by decide +kernel
theorem dX8_detail_34 : decode cX8_detail 34 = .ok (.getfield 15, 3) := by decide +kernel
theorem dX8_detail_37 : decode cX8_detail 37 = .ok (.ifCond .eq 7, 3) := by decide +kernel
