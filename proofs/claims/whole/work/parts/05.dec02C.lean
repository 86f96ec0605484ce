theorem dX6_shift_93 : decode cX6_shift 93 = .ok (.iload_n 3, 1) := by decide +kernel
theorem dX6_shift_94 : decode cX6_shift 94 = .ok (.ifCond .eq 16, 3) := by decide +kernel
theorem dX6_shift_97 : decode cX6_shift 97 = .ok (.iload_n 1, 1) := by decide +kernel
theorem dX6_shift_98 : decode cX6_shift 98 = .ok (.iconst 1, 1) := by decide +kernel
theorem dX6_shift_99 : decode cX6_shift 99 = .ok (.ishl, 1) := by decide +kernel
theorem dX6_shift_100 : decode cX6_shift 100 = .ok (.sipush 255, 3) := by decide +kernel
theorem dX6_shift_103 : decode cX6_shift 103 = .ok (.iand, 1) := by decide +kernel
theorem dX6_shift_104 : decode cX6_shift 104 = .ok (.iload 5, 2) := by decide +kernel
theorem dX6_shift_106 : decode cX6_shift 106 = .ok (.ior, 1) := by decide +kernel
theorem dX6_shift_107 : decode cX6_shift 107 = .ok (.goto 12, 3) := by decide +kernel
theorem dX6_shift_110 : decode cX6_shift 110 = .ok (.iload_n 1, 1) := by decide +kernel
theorem dX6_shift_111 : decode cX6_shift 111 = .ok (.iconst 1, 1) := by decide +kernel
theorem dX6_shift_112 : decode cX6_shift 112 = .ok (.ishr, 1) := by decide +kernel
theorem dX6_shift_113 : decode cX6_shift 113 = .ok (.iload 5, 2) := by decide +kernel
theorem dX6_shift_115 : decode cX6_shift 115 = .ok (.bipush 7, 2) := by decide +kernel
theorem dX6_shift_117 : decode cX6_shift 117 = .ok (.ishl, 1) := by decide +kernel
theorem dX6_shift_118 : decode cX6_shift 118 = .ok (.ior, 1) := by decide +kernel
theorem dX6_shift_119 : decode cX6_shift 119 = .ok (.istore 6, 2) := by decide +kernel
theorem dX6_shift_121 : decode cX6_shift 121 = .ok (.iload 6, 2) := by decide +kernel
theorem dX6_shift_123 : decode cX6_shift 123 = .ok (.invokestatic 25, 3) := by decide +kernel
theorem dX6_shift_126 : decode cX6_shift 126 = .ok (.iload 4, 2) := by decide +kernel
theorem dX6_shift_128 : decode cX6_shift 128 = .ok (.ior, 1) := by decide +kernel
theorem dX6_shift_129 : decode cX6_shift 129 = .ok (.ireturn, 1) := by decide +kernel
theorem dX9_onA_0 : decode cX9_onA 0 = .ok (.aload_n 0, 1) := by decide +kernel
theorem dX9_onA_1 : decode cX9_onA 1 = .ok (.getfield 61, 3) := by decide +kernel
theorem dX9_onA_4 : decode cX9_onA 4 = .ok (.bipush 6, 2) := by decide +kernel
theorem dX9_onA_6 : decode cX9_onA 6 = .ok (.iaload, 1) := by decide +kernel
theorem dX9_onA_7 : decode cX9_onA 7 = .ok (.iconst 1, 1) := by decide +kernel
theorem dX9_onA_8 : decode cX9_onA 8 = .ok (.iand, 1) := by decide +kernel
theorem dX9_onA_9 : decode cX9_onA 9 = .ok (.istore_n 2, 1) := by decide +kernel
theorem dX9_onA_10 : decode cX9_onA 10 = .ok (.iload_n 1, 1) := by decide +kernel
theorem dX9_onA_11 : decode cX9_onA 11 = .ok (.tableswitch 128 0 7 #[45, 45, 45, 45, 128, 78, 101, 110], 45) := by decide +kernel
theorem dX9_onA_56 : decode cX9_onA 56 = .ok (.iload_n 1, 1) := by decide +kernel
theorem dX9_onA_57 : decode cX9_onA 57 = .ok (.aload_n 0, 1) := by decide +kernel
theorem dX9_onA_58 : decode cX9_onA 58 = .ok (.getfield 61, 3) := by decide +kernel
theorem dX9_onA_61 : decode cX9_onA 61 = .ok (.bipush 7, 2) := by decide +kernel
theorem dX9_onA_63 : decode cX9_onA 63 = .ok (.iaload, 1) := by decide +kernel
theorem dX9_onA_64 : decode cX9_onA 64 = .ok (.iload_n 2, 1) := by decide +kernel
theorem dX9_onA_65 : decode cX9_onA 65 = .ok (.invokestatic 196, 3) := by decide +kernel
theorem dX9_onA_68 : decode cX9_onA 68 = .ok (.istore_n 3, 1) := by decide +kernel
theorem dX9_onA_69 : decode cX9_onA 69 = .ok (.aload_n 0, 1) := by decide +kernel
theorem dX9_onA_70 : decode cX9_onA 70 = .ok (.getfield 61, 3) := by decide +kernel
theorem dX9_onA_73 : decode cX9_onA 73 = .ok (.bipush 7, 2) := by decide +kernel
theorem dX9_onA_75 : decode cX9_onA 75 = .ok (.iload_n 3, 1) := by decide +kernel
theorem dX9_onA_76 : decode cX9_onA 76 = .ok (.bipush 8, 2) := by decide +kernel
theorem dX9_onA_78 : decode cX9_onA 78 = .ok (.ishr, 1) := by decide +kernel
theorem dX9_onA_79 : decode cX9_onA 79 = .ok (.iastore, 1) := by decide +kernel
theorem dX9_onA_80 : decode cX9_onA 80 = .ok (.aload_n 0, 1) := by decide +kernel
theorem dX9_onA_81 : decode cX9_onA 81 = .ok (.bipush 19, 2) := by decide +kernel
theorem dX9_onA_83 : decode cX9_onA 83 = .ok (.iload_n 3, 1) := by decide +kernel
theorem dX9_onA_84 : decode cX9_onA 84 = .ok (.invokevirtual 184, 3) := by decide +kernel
theorem dX9_onA_87 : decode cX9_onA 87 = .ok (.iconst 4, 1) := by decide +kernel
theorem dX9_onA_88 : decode cX9_onA 88 = .ok (.ireturn, 1) := by decide +kernel
theorem dX9_onA_89 : decode cX9_onA 89 = .ok (.aload_n 0, 1) := by decide +kernel
theorem dX9_onA_90 : decode cX9_onA 90 = .ok (.getfield 61, 3) := by decide +kernel
theorem dX9_onA_93 : decode cX9_onA 93 = .ok (.bipush 7, 2) := by decide +kernel
theorem dX9_onA_95 : decode cX9_onA 95 = .ok (.dup2, 1) := by decide +kernel
theorem dX9_onA_96 : decode cX9_onA 96 = .ok (.iaload, 1) := by decide +kernel
theorem dX9_onA_97 : decode cX9_onA 97 = .ok (.sipush 255, 3) := by decide +kernel
theorem dX9_onA_100 : decode cX9_onA 100 = .ok (.ixor, 1) := by decide +kernel
theorem dX9_onA_101 : decode cX9_onA 101 = .ok (.iastore, 1) := by decide +kernel
theorem dX9_onA_102 : decode cX9_onA 102 = .ok (.aload_n 0, 1) := by decide +kernel
theorem dX9_onA_103 : decode cX9_onA 103 = .ok (.bipush 18, 2) := by decide +kernel
theorem dX9_onA_105 : decode cX9_onA 105 = .ok (.bipush 18, 2) := by decide +kernel
theorem dX9_onA_107 : decode cX9_onA 107 = .ok (.invokevirtual 184, 3) := by decide +kernel
theorem dX9_onA_110 : decode cX9_onA 110 = .ok (.iconst 4, 1) := by decide +kernel
theorem dX9_onA_111 : decode cX9_onA 111 = .ok (.ireturn, 1) := by decide +kernel
theorem dX9_onA_112 : decode cX9_onA 112 = .ok (.aload_n 0, 1) := by decide +kernel
theorem dX9_onA_113 : decode cX9_onA 113 = .ok (.bipush 19, 2) := by decide +kernel
theorem dX9_onA_115 : decode cX9_onA 115 = .ok (.iconst 1, 1) := by decide +kernel
theorem dX9_onA_116 : decode cX9_onA 116 = .ok (.invokevirtual 184, 3) := by decide +kernel
theorem dX9_onA_119 : decode cX9_onA 119 = .ok (.iconst 4, 1) := by decide +kernel
theorem dX9_onA_120 : decode cX9_onA 120 = .ok (.ireturn, 1) := by decide +kernel
theorem dX9_onA_121 : decode cX9_onA 121 = .ok (.aload_n 0, 1) := by decide +kernel
theorem dX9_onA_122 : decode cX9_onA 122 = .ok (.bipush 19, 2) := by decide +kernel
theorem dX9_onA_124 : decode cX9_onA 124 = .ok (.iload_n 2, 1) := by decide +kernel
theorem dX9_onA_125 : decode cX9_onA 125 = .ok (.ifCond .ne 7, 3) := by decide +kernel
theorem dX9_onA_128 : decode cX9_onA 128 = .ok (.iconst 1, 1) := by decide +kernel
theorem dX9_onA_129 : decode cX9_onA 129 = .ok (.goto 5, 3) := by decide +kernel
theorem dX9_onA_132 : decode cX9_onA 132 = .ok (.bipush 16, 2) := by decide +kernel
theorem dX9_onA_134 : decode cX9_onA 134 = .ok (.invokevirtual 184, 3) := by decide +kernel
theorem dX9_onA_137 : decode cX9_onA 137 = .ok (.iconst 4, 1) := by decide +kernel
theorem dX9_onA_138 : decode cX9_onA 138 = .ok (.ireturn, 1) := by decide +kernel
theorem dX9_onA_139 : decode cX9_onA 139 = .ok (.iconst 0, 1) := by decide +kernel
theorem dX9_onA_140 : decode cX9_onA 140 = .ok (.ireturn, 1) := by decide +kernel
theorem dX9_lowQuarter_0 : decode cX9_lowQuarter 0 = .ok (.iload_n 1, 1) := by decide +kernel
theorem dX9_lowQuarter_1 : decode cX9_lowQuarter 1 = .ok (.iconst 3, 1) := by decide +kernel
theorem dX9_lowQuarter_2 : decode cX9_lowQuarter 2 = .ok (.ishr, 1) := by decide +kernel
theorem dX9_lowQuarter_3 : decode cX9_lowQuarter 3 = .ok (.istore_n 2, 1) := by decide +kernel
theorem dX9_lowQuarter_4 : decode cX9_lowQuarter 4 = .ok (.iload_n 1, 1) := by decide +kernel
theorem dX9_lowQuarter_5 : decode cX9_lowQuarter 5 = .ok (.bipush 7, 2) := by decide +kernel
theorem dX9_lowQuarter_7 : decode cX9_lowQuarter 7 = .ok (.iand, 1) := by decide +kernel
theorem dX9_lowQuarter_8 : decode cX9_lowQuarter 8 = .ok (.tableswitch 147 0 6 #[44, 50, 56, 62, 92, 108, 124], 44) := by decide +kernel
theorem dX9_lowQuarter_52 : decode cX9_lowQuarter 52 = .ok (.aload_n 0, 1) := by decide +kernel
theorem dX9_lowQuarter_53 : decode cX9_lowQuarter 53 = .ok (.iload_n 2, 1) := by decide +kernel
theorem dX9_lowQuarter_54 : decode cX9_lowQuarter 54 = .ok (.invokevirtual 126, 3) := by decide +kernel
theorem dX9_lowQuarter_57 : decode cX9_lowQuarter 57 = .ok (.ireturn, 1) := by decide +kernel
theorem dX9_lowQuarter_58 : decode cX9_lowQuarter 58 = .ok (.aload_n 0, 1) := by decide +kernel
theorem dX9_lowQuarter_59 : decode cX9_lowQuarter 59 = .ok (.iload_n 1, 1) := by decide +kernel
theorem dX9_lowQuarter_60 : decode cX9_lowQuarter 60 = .ok (.invokevirtual 129, 3) := by decide +kernel
theorem dX9_lowQuarter_63 : decode cX9_lowQuarter 63 = .ok (.ireturn, 1) := by decide +kernel
theorem dX9_lowQuarter_64 : decode cX9_lowQuarter 64 = .ok (.aload_n 0, 1) := by decide +kernel
theorem dX9_lowQuarter_65 : decode cX9_lowQuarter 65 = .ok (.iload_n 2, 1) := by decide +kernel
theorem dX9_lowQuarter_66 : decode cX9_lowQuarter 66 = .ok (.invokevirtual 132, 3) := by decide +kernel
theorem dX9_lowQuarter_69 : decode cX9_lowQuarter 69 = .ok (.ireturn, 1) := by decide +kernel
theorem dX9_lowQuarter_70 : decode cX9_lowQuarter 70 = .ok (.aload_n 0, 1) := by decide +kernel
theorem dX9_lowQuarter_71 : decode cX9_lowQuarter 71 = .ok (.iload_n 1, 1) := by decide +kernel
theorem dX9_lowQuarter_72 : decode cX9_lowQuarter 72 = .ok (.iconst 4, 1) := by decide +kernel
theorem dX9_lowQuarter_73 : decode cX9_lowQuarter 73 = .ok (.ishr, 1) := by decide +kernel
theorem dX9_lowQuarter_74 : decode cX9_lowQuarter 74 = .ok (.aload_n 0, 1) := by decide +kernel
theorem dX9_lowQuarter_75 : decode cX9_lowQuarter 75 = .ok (.iload_n 1, 1) := by decide +kernel
theorem dX9_lowQuarter_76 : decode cX9_lowQuarter 76 = .ok (.iconst 4, 1) := by decide +kernel
theorem dX9_lowQuarter_77 : decode cX9_lowQuarter 77 = .ok (.ishr, 1) := by decide +kernel
theorem dX9_lowQuarter_78 : decode cX9_lowQuarter 78 = .ok (.invokevirtual 135, 3) := by decide +kernel
theorem dX9_lowQuarter_81 : decode cX9_lowQuarter 81 = .ok (.iload_n 1, 1) := by decide +kernel
theorem dX9_lowQuarter_82 : decode cX9_lowQuarter 82 = .ok (.bipush 8, 2) := by decide +kernel
theorem dX9_lowQuarter_84 : decode cX9_lowQuarter 84 = .ok (.iand, 1) := by decide +kernel
theorem dX9_lowQuarter_85 : decode cX9_lowQuarter 85 = .ok (.ifCond .ne 7, 3) := by decide +kernel
theorem dX9_lowQuarter_88 : decode cX9_lowQuarter 88 = .ok (.iconst 1, 1) := by decide +kernel
theorem dX9_lowQuarter_89 : decode cX9_lowQuarter 89 = .ok (.goto 4, 3) := by decide +kernel
theorem dX9_lowQuarter_92 : decode cX9_lowQuarter 92 = .ok (.iconst (-1), 1) := by decide +kernel
theorem dX9_lowQuarter_93 : decode cX9_lowQuarter 93 = .ok (.iadd, 1) := by decide +kernel
theorem dX9_lowQuarter_94 : decode cX9_lowQuarter 94 = .ok (.invokevirtual 138, 3) := by decide +kernel
theorem dX9_lowQuarter_97 : decode cX9_lowQuarter 97 = .ok (.bipush 6, 2) := by decide +kernel
theorem dX9_lowQuarter_99 : decode cX9_lowQuarter 99 = .ok (.ireturn, 1) := by decide +kernel
theorem dX9_lowQuarter_100 : decode cX9_lowQuarter 100 = .ok (.aload_n 0, 1) := by decide +kernel
theorem dX9_lowQuarter_101 : decode cX9_lowQuarter 101 = .ok (.iload_n 2, 1) := by decide +kernel
theorem dX9_lowQuarter_102 : decode cX9_lowQuarter 102 = .ok (.aload_n 0, 1) := by decide +kernel
theorem dX9_lowQuarter_103 : decode cX9_lowQuarter 103 = .ok (.iload_n 2, 1) := by decide +kernel
theorem dX9_lowQuarter_104 : decode cX9_lowQuarter 104 = .ok (.invokevirtual 78, 3) := by decide +kernel
theorem dX9_lowQuarter_107 : decode cX9_lowQuarter 107 = .ok (.iconst 1, 1) := by decide +kernel
theorem dX9_lowQuarter_108 : decode cX9_lowQuarter 108 = .ok (.iconst 0, 1) := by decide +kernel
theorem dX9_lowQuarter_109 : decode cX9_lowQuarter 109 = .ok (.invokestatic 141, 3) := by decide +kernel
theorem dX9_lowQuarter_112 : decode cX9_lowQuarter 112 = .ok (.invokevirtual 147, 3) := by decide +kernel
theorem dX9_lowQuarter_115 : decode cX9_lowQuarter 115 = .ok (.ireturn, 1) := by decide +kernel
theorem dX9_lowQuarter_116 : decode cX9_lowQuarter 116 = .ok (.aload_n 0, 1) := by decide +kernel
theorem dX9_lowQuarter_117 : decode cX9_lowQuarter 117 = .ok (.iload_n 2, 1) := by decide +kernel
theorem dX9_lowQuarter_118 : decode cX9_lowQuarter 118 = .ok (.aload_n 0, 1) := by decide +kernel
theorem dX9_lowQuarter_119 : decode cX9_lowQuarter 119 = .ok (.iload_n 2, 1) := by decide +kernel
theorem dX9_lowQuarter_120 : decode cX9_lowQuarter 120 = .ok (.invokevirtual 78, 3) := by decide +kernel
theorem dX9_lowQuarter_123 : decode cX9_lowQuarter 123 = .ok (.iconst 1, 1) := by decide +kernel
theorem dX9_lowQuarter_124 : decode cX9_lowQuarter 124 = .ok (.iconst 0, 1) := by decide +kernel
theorem dX9_lowQuarter_125 : decode cX9_lowQuarter 125 = .ok (.invokestatic 151, 3) := by decide +kernel
theorem dX9_lowQuarter_128 : decode cX9_lowQuarter 128 = .ok (.invokevirtual 147, 3) := by decide +kernel
theorem dX9_lowQuarter_131 : decode cX9_lowQuarter 131 = .ok (.ireturn, 1) := by decide +kernel
theorem dX9_lowQuarter_132 : decode cX9_lowQuarter 132 = .ok (.aload_n 0, 1) := by decide +kernel
theorem dX9_lowQuarter_133 : decode cX9_lowQuarter 133 = .ok (.iload_n 2, 1) := by decide +kernel
theorem dX9_lowQuarter_134 : decode cX9_lowQuarter 134 = .ok (.aload_n 0, 1) := by decide +kernel
theorem dX9_lowQuarter_135 : decode cX9_lowQuarter 135 = .ok (.invokevirtual 67, 3) := by decide +kernel
theorem dX9_lowQuarter_138 : decode cX9_lowQuarter 138 = .ok (.invokevirtual 154, 3) := by decide +kernel
theorem dX9_lowQuarter_141 : decode cX9_lowQuarter 141 = .ok (.iload_n 2, 1) := by decide +kernel
theorem dX9_lowQuarter_142 : decode cX9_lowQuarter 142 = .ok (.bipush 6, 2) := by decide +kernel
theorem dX9_lowQuarter_144 : decode cX9_lowQuarter 144 = .ok (.if_icmp .ne 8, 3) := by decide +kernel
theorem dX9_lowQuarter_147 : decode cX9_lowQuarter 147 = .ok (.bipush 10, 2) := by decide +kernel
theorem dX9_lowQuarter_149 : decode cX9_lowQuarter 149 = .ok (.goto 5, 3) := by decide +kernel
theorem dX9_lowQuarter_152 : decode cX9_lowQuarter 152 = .ok (.bipush 7, 2) := by decide +kernel
theorem dX9_lowQuarter_154 : decode cX9_lowQuarter 154 = .ok (.ireturn, 1) := by decide +kernel
theorem dX9_lowQuarter_155 : decode cX9_lowQuarter 155 = .ok (.aload_n 0, 1) := by decide +kernel
theorem dX9_lowQuarter_156 : decode cX9_lowQuarter 156 = .ok (.iload_n 2, 1) := by decide +kernel
theorem dX9_lowQuarter_157 : decode cX9_lowQuarter 157 = .ok (.invokevirtual 157, 3) := by decide +kernel
theorem dX9_lowQuarter_160 : decode cX9_lowQuarter 160 = .ok (.ireturn, 1) := by decide +kernel
theorem dX9_moveOrHalt_0 : decode cX9_moveOrHalt 0 = .ok (.iload_n 1, 1) := by decide +kernel
theorem dX9_moveOrHalt_1 : decode cX9_moveOrHalt 1 = .ok (.iconst 3, 1) := by decide +kernel
theorem dX9_moveOrHalt_2 : decode cX9_moveOrHalt 2 = .ok (.ishr, 1) := by decide +kernel
theorem dX9_moveOrHalt_3 : decode cX9_moveOrHalt 3 = .ok (.bipush 7, 2) := by decide +kernel
theorem dX9_moveOrHalt_5 : decode cX9_moveOrHalt 5 = .ok (.iand, 1) := by decide +kernel
theorem dX9_moveOrHalt_6 : decode cX9_moveOrHalt 6 = .ok (.istore_n 2, 1) := by decide +kernel
theorem dX9_moveOrHalt_7 : decode cX9_moveOrHalt 7 = .ok (.iload_n 1, 1) := by decide +kernel
theorem dX9_moveOrHalt_8 : decode cX9_moveOrHalt 8 = .ok (.bipush 7, 2) := by decide +kernel
theorem dX9_moveOrHalt_10 : decode cX9_moveOrHalt 10 = .ok (.iand, 1) := by decide +kernel
theorem dX9_moveOrHalt_11 : decode cX9_moveOrHalt 11 = .ok (.istore_n 3, 1) := by decide +kernel
theorem dX9_moveOrHalt_12 : decode cX9_moveOrHalt 12 = .ok (.iload_n 2, 1) := by decide +kernel
theorem dX9_moveOrHalt_13 : decode cX9_moveOrHalt 13 = .ok (.bipush 6, 2) := by decide +kernel
theorem dX9_moveOrHalt_15 : decode cX9_moveOrHalt 15 = .ok (.if_icmp .ne 16, 3) := by decide +kernel
theorem dX9_moveOrHalt_18 : decode cX9_moveOrHalt 18 = .ok (.iload_n 3, 1) := by decide +kernel
theorem dX9_moveOrHalt_19 : decode cX9_moveOrHalt 19 = .ok (.bipush 6, 2) := by decide +kernel
theorem dX9_moveOrHalt_21 : decode cX9_moveOrHalt 21 = .ok (.if_icmp .ne 10, 3) := by decide +kernel
theorem dX9_moveOrHalt_24 : decode cX9_moveOrHalt 24 = .ok (.aload_n 0, 1) := by decide +kernel
theorem dX9_moveOrHalt_25 : decode cX9_moveOrHalt 25 = .ok (.iconst 1, 1) := by decide +kernel
theorem dX9_moveOrHalt_26 : decode cX9_moveOrHalt 26 = .ok (.putfield 24, 3) := by decide +kernel
theorem dX9_moveOrHalt_29 : decode cX9_moveOrHalt 29 = .ok (.iconst 4, 1) := by decide +kernel
theorem dX9_moveOrHalt_30 : decode cX9_moveOrHalt 30 = .ok (.ireturn, 1) := by decide +kernel
theorem dX9_moveOrHalt_31 : decode cX9_moveOrHalt 31 = .ok (.aload_n 0, 1) := by decide +kernel
theorem dX9_moveOrHalt_32 : decode cX9_moveOrHalt 32 = .ok (.iload_n 2, 1) := by decide +kernel
theorem dX9_moveOrHalt_33 : decode cX9_moveOrHalt 33 = .ok (.aload_n 0, 1) := by decide +kernel
theorem dX9_moveOrHalt_34 : decode cX9_moveOrHalt 34 = .ok (.iload_n 3, 1) := by decide +kernel
theorem dX9_moveOrHalt_35 : decode cX9_moveOrHalt 35 = .ok (.invokevirtual 78, 3) := by decide +kernel
theorem dX9_moveOrHalt_38 : decode cX9_moveOrHalt 38 = .ok (.invokevirtual 154, 3) := by decide +kernel
theorem dX9_moveOrHalt_41 : decode cX9_moveOrHalt 41 = .ok (.iload_n 2, 1) := by decide +kernel
theorem dX9_moveOrHalt_42 : decode cX9_moveOrHalt 42 = .ok (.bipush 6, 2) := by decide +kernel
theorem dX9_moveOrHalt_44 : decode cX9_moveOrHalt 44 = .ok (.if_icmp .eq 9, 3) := by decide +kernel
theorem dX9_moveOrHalt_47 : decode cX9_moveOrHalt 47 = .ok (.iload_n 3, 1) := by decide +kernel
theorem dX9_moveOrHalt_48 : decode cX9_moveOrHalt 48 = .ok (.bipush 6, 2) := by decide +kernel
theorem dX9_moveOrHalt_50 : decode cX9_moveOrHalt 50 = .ok (.if_icmp .ne 8, 3) := by decide +kernel
theorem dX9_moveOrHalt_53 : decode cX9_moveOrHalt 53 = .ok (.bipush 7, 2) := by decide +kernel
theorem dX9_moveOrHalt_55 : decode cX9_moveOrHalt 55 = .ok (.goto 4, 3) := by decide +kernel
theorem dX9_moveOrHalt_58 : decode cX9_moveOrHalt 58 = .ok (.iconst 4, 1) := by decide +kernel
theorem dX9_moveOrHalt_59 : decode cX9_moveOrHalt 59 = .ok (.ireturn, 1) := by decide +kernel
theorem dX6_operate_0 : decode cX6_operate 0 = .ok (.iload_n 0, 1) := by decide +kernel
theorem dX6_operate_1 : decode cX6_operate 1 = .ok (.tableswitch 88 0 6 #[43, 50, 88, 57, 64, 74, 81], 43) := by decide +kernel
theorem dX6_operate_44 : decode cX6_operate 44 = .ok (.iload_n 1, 1) := by decide +kernel
theorem dX6_operate_45 : decode cX6_operate 45 = .ok (.iload_n 2, 1) := by decide +kernel
theorem dX6_operate_46 : decode cX6_operate 46 = .ok (.iconst 0, 1) := by decide +kernel
theorem dX6_operate_47 : decode cX6_operate 47 = .ok (.invokestatic 18, 3) := by decide +kernel
theorem dX6_operate_50 : decode cX6_operate 50 = .ok (.ireturn, 1) := by decide +kernel
theorem dX6_operate_51 : decode cX6_operate 51 = .ok (.iload_n 1, 1) := by decide +kernel
theorem dX6_operate_52 : decode cX6_operate 52 = .ok (.iload_n 2, 1) := by decide +kernel
theorem dX6_operate_53 : decode cX6_operate 53 = .ok (.iload_n 3, 1) := by decide +kernel
theorem dX6_operate_54 : decode cX6_operate 54 = .ok (.invokestatic 18, 3) := by decide +kernel
theorem dX6_operate_57 : decode cX6_operate 57 = .ok (.ireturn, 1) := by decide +kernel
theorem dX6_operate_58 : decode cX6_operate 58 = .ok (.iload_n 1, 1) := by decide +kernel
theorem dX6_operate_59 : decode cX6_operate 59 = .ok (.iload_n 2, 1) := by decide +kernel
theorem dX6_operate_60 : decode cX6_operate 60 = .ok (.iload_n 3, 1) := by decide +kernel
theorem dX6_operate_61 : decode cX6_operate 61 = .ok (.invokestatic 22, 3) := by decide +kernel
theorem dX6_operate_64 : decode cX6_operate 64 = .ok (.ireturn, 1) := by decide +kernel
theorem dX6_operate_65 : decode cX6_operate 65 = .ok (.iload_n 1, 1) := by decide +kernel
theorem dX6_operate_66 : decode cX6_operate 66 = .ok (.iload_n 2, 1) := by decide +kernel
theorem dX6_operate_67 : decode cX6_operate 67 = .ok (.iand, 1) := by decide +kernel
theorem dX6_operate_68 : decode cX6_operate 68 = .ok (.invokestatic 25, 3) := by decide +kernel
theorem dX6_operate_71 : decode cX6_operate 71 = .ok (.bipush 16, 2) := by decide +kernel
theorem dX6_operate_73 : decode cX6_operate 73 = .ok (.ior, 1) := by decide +kernel
theorem dX6_operate_74 : decode cX6_operate 74 = .ok (.ireturn, 1) := by decide +kernel
theorem dX6_operate_75 : decode cX6_operate 75 = .ok (.iload_n 1, 1) := by decide +kernel
theorem dX6_operate_76 : decode cX6_operate 76 = .ok (.iload_n 2, 1) := by decide +kernel
theorem dX6_operate_77 : decode cX6_operate 77 = .ok (.ixor, 1) := by decide +kernel
theorem dX6_operate_78 : decode cX6_operate 78 = .ok (.invokestatic 25, 3) := by decide +kernel
theorem dX6_operate_81 : decode cX6_operate 81 = .ok (.ireturn, 1) := by decide +kernel
theorem dX6_operate_82 : decode cX6_operate 82 = .ok (.iload_n 1, 1) := by decide +kernel
theorem dX6_operate_83 : decode cX6_operate 83 = .ok (.iload_n 2, 1) := by decide +kernel
theorem dX6_operate_84 : decode cX6_operate 84 = .ok (.ior, 1) := by decide +kernel
theorem dX6_operate_85 : decode cX6_operate 85 = .ok (.invokestatic 25, 3) := by decide +kernel
theorem dX6_operate_88 : decode cX6_operate 88 = .ok (.ireturn, 1) := by decide +kernel
theorem dX6_operate_89 : decode cX6_operate 89 = .ok (.iload_n 1, 1) := by decide +kernel
theorem dX6_operate_90 : decode cX6_operate 90 = .ok (.iload_n 2, 1) := by decide +kernel
theorem dX6_operate_91 : decode cX6_operate 91 = .ok (.iconst 0, 1) := by decide +kernel
theorem dX6_operate_92 : decode cX6_operate 92 = .ok (.invokestatic 22, 3) := by decide +kernel
theorem dX6_operate_95 : decode cX6_operate 95 = .ok (.ireturn, 1) := by decide +kernel
theorem dX9_operate_0 : decode cX9_operate 0 = .ok (.iload_n 1, 1) := by decide +kernel
theorem dX9_operate_1 : decode cX9_operate 1 = .ok (.aload_n 0, 1) := by decide +kernel
theorem dX9_operate_2 : decode cX9_operate 2 = .ok (.getfield 61, 3) := by decide +kernel
theorem dX9_operate_5 : decode cX9_operate 5 = .ok (.bipush 7, 2) := by decide +kernel
theorem dX9_operate_7 : decode cX9_operate 7 = .ok (.iaload, 1) := by decide +kernel
theorem dX9_operate_8 : decode cX9_operate 8 = .ok (.iload_n 2, 1) := by decide +kernel
theorem dX9_operate_9 : decode cX9_operate 9 = .ok (.aload_n 0, 1) := by decide +kernel
theorem dX9_operate_10 : decode cX9_operate 10 = .ok (.getfield 61, 3) := by decide +kernel
theorem dX9_operate_13 : decode cX9_operate 13 = .ok (.bipush 6, 2) := by decide +kernel
theorem dX9_operate_15 : decode cX9_operate 15 = .ok (.iaload, 1) := by decide +kernel
theorem dX9_operate_16 : decode cX9_operate 16 = .ok (.iconst 1, 1) := by decide +kernel
theorem dX9_operate_17 : decode cX9_operate 17 = .ok (.iand, 1) := by decide +kernel
theorem dX9_operate_18 : decode cX9_operate 18 = .ok (.invokestatic 199, 3) := by decide +kernel
theorem dX9_operate_21 : decode cX9_operate 21 = .ok (.istore_n 3, 1) := by decide +kernel
theorem dX9_operate_22 : decode cX9_operate 22 = .ok (.iload_n 1, 1) := by decide +kernel
theorem dX9_operate_23 : decode cX9_operate 23 = .ok (.bipush 7, 2) := by decide +kernel
theorem dX9_operate_25 : decode cX9_operate 25 = .ok (.if_icmp .eq 14, 3) := by decide +kernel
theorem dX9_operate_28 : decode cX9_operate 28 = .ok (.aload_n 0, 1) := by decide +kernel
theorem dX9_operate_29 : decode cX9_operate 29 = .ok (.getfield 61, 3) := by decide +kernel
theorem dX9_operate_32 : decode cX9_operate 32 = .ok (.bipush 7, 2) := by decide +kernel
theorem dX9_operate_34 : decode cX9_operate 34 = .ok (.iload_n 3, 1) := by decide +kernel
theorem dX9_operate_35 : decode cX9_operate 35 = .ok (.bipush 8, 2) := by decide +kernel
theorem dX9_operate_37 : decode cX9_operate 37 = .ok (.ishr, 1) := by decide +kernel
theorem dX9_operate_38 : decode cX9_operate 38 = .ok (.iastore, 1) := by decide +kernel
theorem dX9_operate_39 : decode cX9_operate 39 = .ok (.aload_n 0, 1) := by decide +kernel
theorem dX9_operate_40 : decode cX9_operate 40 = .ok (.sipush 215, 3) := by decide +kernel
theorem dX9_operate_43 : decode cX9_operate 43 = .ok (.iload_n 3, 1) := by decide +kernel
theorem dX9_operate_44 : decode cX9_operate 44 = .ok (.invokevirtual 184, 3) := by decide +kernel
theorem dX9_operate_47 : decode cX9_operate 47 = .ok (.return_, 1) := by decide +kernel
theorem dX9_bits_0 : decode cX9_bits 0 = .ok (.iload_n 1, 1) := by decide +kernel
theorem dX9_bits_1 : decode cX9_bits 1 = .ok (.iconst 3, 1) := by decide +kernel
theorem dX9_bits_2 : decode cX9_bits 2 = .ok (.ishr, 1) := by decide +kernel
theorem dX9_bits_3 : decode cX9_bits 3 = .ok (.bipush 7, 2) := by decide +kernel
theorem dX9_bits_5 : decode cX9_bits 5 = .ok (.iand, 1) := by decide +kernel
theorem dX9_bits_6 : decode cX9_bits 6 = .ok (.istore_n 2, 1) := by decide +kernel
theorem dX9_bits_7 : decode cX9_bits 7 = .ok (.iload_n 1, 1) := by decide +kernel
theorem dX9_bits_8 : decode cX9_bits 8 = .ok (.bipush 7, 2) := by decide +kernel
theorem dX9_bits_10 : decode cX9_bits 10 = .ok (.iand, 1) := by decide +kernel
theorem dX9_bits_11 : decode cX9_bits 11 = .ok (.istore_n 3, 1) := by decide +kernel
theorem dX9_bits_12 : decode cX9_bits 12 = .ok (.aload_n 0, 1) := by decide +kernel
theorem dX9_bits_13 : decode cX9_bits 13 = .ok (.iload_n 3, 1) := by decide +kernel
theorem dX9_bits_14 : decode cX9_bits 14 = .ok (.invokevirtual 78, 3) := by decide +kernel
theorem dX9_bits_17 : decode cX9_bits 17 = .ok (.istore 4, 2) := by decide +kernel
theorem dX9_bits_19 : decode cX9_bits 19 = .ok (.iload_n 1, 1) := by decide +kernel
theorem dX9_bits_20 : decode cX9_bits 20 = .ok (.bipush 6, 2) := by decide +kernel
theorem dX9_bits_22 : decode cX9_bits 22 = .ok (.ishr, 1) := by decide +kernel
theorem dX9_bits_23 : decode cX9_bits 23 = .ok (.tableswitch 140 0 2 #[25, 72, 124], 25) := by decide +kernel
theorem dX9_bits_48 : decode cX9_bits 48 = .ok (.iload_n 2, 1) := by decide +kernel
theorem dX9_bits_49 : decode cX9_bits 49 = .ok (.bipush 6, 2) := by decide +kernel
theorem dX9_bits_51 : decode cX9_bits 51 = .ok (.if_icmp .ne 5, 3) := by decide +kernel
theorem dX9_bits_54 : decode cX9_bits 54 = .ok (.iconst 0, 1) := by decide +kernel
theorem dX9_bits_55 : decode cX9_bits 55 = .ok (.ireturn, 1) := by decide +kernel
theorem dX9_bits_56 : decode cX9_bits 56 = .ok (.iload_n 2, 1) := by decide +kernel
theorem dX9_bits_57 : decode cX9_bits 57 = .ok (.iload 4, 2) := by decide +kernel
theorem dX9_bits_59 : decode cX9_bits 59 = .ok (.aload_n 0, 1) := by decide +kernel
theorem dX9_bits_60 : decode cX9_bits 60 = .ok (.getfield 61, 3) := by decide +kernel
theorem dX9_bits_63 : decode cX9_bits 63 = .ok (.bipush 6, 2) := by decide +kernel
theorem dX9_bits_65 : decode cX9_bits 65 = .ok (.iaload, 1) := by decide +kernel
theorem dX9_bits_66 : decode cX9_bits 66 = .ok (.iconst 1, 1) := by decide +kernel
theorem dX9_bits_67 : decode cX9_bits 67 = .ok (.iand, 1) := by decide +kernel
theorem dX9_bits_68 : decode cX9_bits 68 = .ok (.invokestatic 196, 3) := by decide +kernel
theorem dX9_bits_71 : decode cX9_bits 71 = .ok (.istore 5, 2) := by decide +kernel
theorem dX9_bits_73 : decode cX9_bits 73 = .ok (.aload_n 0, 1) := by decide +kernel
theorem dX9_bits_74 : decode cX9_bits 74 = .ok (.iload_n 3, 1) := by decide +kernel
theorem dX9_bits_75 : decode cX9_bits 75 = .ok (.iload 5, 2) := by decide +kernel
theorem dX9_bits_77 : decode cX9_bits 77 = .ok (.bipush 8, 2) := by decide +kernel
theorem dX9_bits_79 : decode cX9_bits 79 = .ok (.ishr, 1) := by decide +kernel
theorem dX9_bits_80 : decode cX9_bits 80 = .ok (.invokevirtual 154, 3) := by decide +kernel
theorem dX9_bits_83 : decode cX9_bits 83 = .ok (.aload_n 0, 1) := by decide +kernel
theorem dX9_bits_84 : decode cX9_bits 84 = .ok (.sipush 215, 3) := by decide +kernel
theorem dX9_bits_87 : decode cX9_bits 87 = .ok (.iload 5, 2) := by decide +kernel
theorem dX9_bits_89 : decode cX9_bits 89 = .ok (.invokevirtual 184, 3) := by decide +kernel
theorem dX9_bits_92 : decode cX9_bits 92 = .ok (.goto 82, 3) := by decide +kernel
theorem dX9_bits_95 : decode cX9_bits 95 = .ok (.iload 4, 2) := by decide +kernel
theorem dX9_bits_97 : decode cX9_bits 97 = .ok (.iconst 1, 1) := by decide +kernel
theorem dX9_bits_98 : decode cX9_bits 98 = .ok (.iload_n 2, 1) := by decide +kernel
theorem dX9_bits_99 : decode cX9_bits 99 = .ok (.ishl, 1) := by decide +kernel
theorem dX9_bits_100 : decode cX9_bits 100 = .ok (.iand, 1) := by decide +kernel
theorem dX9_bits_101 : decode cX9_bits 101 = .ok (.istore 6, 2) := by decide +kernel
theorem dX9_bits_103 : decode cX9_bits 103 = .ok (.iload 6, 2) := by decide +kernel
theorem dX9_bits_105 : decode cX9_bits 105 = .ok (.ifCond .ne 8, 3) := by decide +kernel
theorem dX9_bits_108 : decode cX9_bits 108 = .ok (.bipush 68, 2) := by decide +kernel
theorem dX9_bits_110 : decode cX9_bits 110 = .ok (.goto 9, 3) := by decide +kernel
theorem dX9_bits_113 : decode cX9_bits 113 = .ok (.iload 6, 2) := by decide +kernel
theorem dX9_bits_115 : decode cX9_bits 115 = .ok (.sipush 128, 3) := by decide +kernel
theorem dX9_bits_118 : decode cX9_bits 118 = .ok (.iand, 1) := by decide +kernel
theorem dX9_bits_119 : decode cX9_bits 119 = .ok (.istore 7, 2) := by decide +kernel
theorem dX9_bits_121 : decode cX9_bits 121 = .ok (.aload_n 0, 1) := by decide +kernel
theorem dX9_bits_122 : decode cX9_bits 122 = .ok (.sipush 214, 3) := by decide +kernel
theorem dX9_bits_125 : decode cX9_bits 125 = .ok (.iload 7, 2) := by decide +kernel
theorem dX9_bits_127 : decode cX9_bits 127 = .ok (.bipush 16, 2) := by decide +kernel
theorem dX9_bits_129 : decode cX9_bits 129 = .ok (.ior, 1) := by decide +kernel
theorem dX9_bits_130 : decode cX9_bits 130 = .ok (.invokevirtual 184, 3) := by decide +kernel
theorem dX9_bits_133 : decode cX9_bits 133 = .ok (.iload_n 3, 1) := by decide +kernel
theorem dX9_bits_134 : decode cX9_bits 134 = .ok (.bipush 6, 2) := by decide +kernel
theorem dX9_bits_136 : decode cX9_bits 136 = .ok (.if_icmp .ne 8, 3) := by decide +kernel
theorem dX9_bits_139 : decode cX9_bits 139 = .ok (.bipush 12, 2) := by decide +kernel
theorem dX9_bits_141 : decode cX9_bits 141 = .ok (.goto 5, 3) := by decide +kernel
theorem dX9_bits_144 : decode cX9_bits 144 = .ok (.bipush 8, 2) := by decide +kernel
theorem dX9_bits_146 : decode cX9_bits 146 = .ok (.ireturn, 1) := by decide +kernel
theorem dX9_bits_147 : decode cX9_bits 147 = .ok (.aload_n 0, 1) := by decide +kernel
theorem dX9_bits_148 : decode cX9_bits 148 = .ok (.iload_n 3, 1) := by decide +kernel
theorem dX9_bits_149 : decode cX9_bits 149 = .ok (.iload 4, 2) := by decide +kernel
theorem dX9_bits_151 : decode cX9_bits 151 = .ok (.iconst 1, 1) := by decide +kernel
theorem dX9_bits_152 : decode cX9_bits 152 = .ok (.iload_n 2, 1) := by decide +kernel
theorem dX9_bits_153 : decode cX9_bits 153 = .ok (.ishl, 1) := by decide +kernel
theorem dX9_bits_154 : decode cX9_bits 154 = .ok (.iconst (-1), 1) := by decide +kernel
theorem dX9_bits_155 : decode cX9_bits 155 = .ok (.ixor, 1) := by decide +kernel
theorem dX9_bits_156 : decode cX9_bits 156 = .ok (.iand, 1) := by decide +kernel
theorem dX9_bits_157 : decode cX9_bits 157 = .ok (.invokevirtual 154, 3) := by decide +kernel
theorem dX9_bits_160 : decode cX9_bits 160 = .ok (.goto 14, 3) := by decide +kernel
theorem dX9_bits_163 : decode cX9_bits 163 = .ok (.aload_n 0, 1) := by decide +kernel
theorem dX9_bits_164 : decode cX9_bits 164 = .ok (.iload_n 3, 1) := by decide +kernel
theorem dX9_bits_165 : decode cX9_bits 165 = .ok (.iload 4, 2) := by decide +kernel
theorem dX9_bits_167 : decode cX9_bits 167 = .ok (.iconst 1, 1) := by decide +kernel
theorem dX9_bits_168 : decode cX9_bits 168 = .ok (.iload_n 2, 1) := by decide +kernel
theorem dX9_bits_169 : decode cX9_bits 169 = .ok (.ishl, 1) := by decide +kernel
theorem dX9_bits_170 : decode cX9_bits 170 = .ok (.ior, 1) := by decide +kernel
theorem dX9_bits_171 : decode cX9_bits 171 = .ok (.invokevirtual 154, 3) := by decide +kernel
theorem dX9_bits_174 : decode cX9_bits 174 = .ok (.iload_n 3, 1) := by decide +kernel
theorem dX9_bits_175 : decode cX9_bits 175 = .ok (.bipush 6, 2) := by decide +kernel
theorem dX9_bits_177 : decode cX9_bits 177 = .ok (.if_icmp .ne 8, 3) := by decide +kernel
theorem dX9_bits_180 : decode cX9_bits 180 = .ok (.bipush 15, 2) := by decide +kernel
theorem dX9_bits_182 : decode cX9_bits 182 = .ok (.goto 5, 3) := by decide +kernel
theorem dX9_bits_185 : decode cX9_bits 185 = .ok (.bipush 8, 2) := by decide +kernel
theorem dX9_bits_187 : decode cX9_bits 187 = .ok (.ireturn, 1) := by decide +kernel
theorem dX9_push_0 : decode cX9_push 0 = .ok (.aload_n 0, 1) := by decide +kernel
theorem dX9_push_1 : decode cX9_push 1 = .ok (.getfield 10, 3) := by decide +kernel
theorem dX9_push_4 : decode cX9_push 4 = .ok (.aload_n 0, 1) := by decide +kernel
theorem dX9_push_5 : decode cX9_push 5 = .ok (.getfield 10, 3) := by decide +kernel
theorem dX9_push_8 : decode cX9_push 8 = .ok (.getfield 214, 3) := by decide +kernel
theorem dX9_push_11 : decode cX9_push 11 = .ok (.iconst 2, 1) := by decide +kernel
theorem dX9_push_12 : decode cX9_push 12 = .ok (.isub, 1) := by decide +kernel
theorem dX9_push_13 : decode cX9_push 13 = .ok (.ldc 171, 2) := by decide +kernel
theorem dX9_push_15 : decode cX9_push 15 = .ok (.iand, 1) := by decide +kernel
theorem dX9_push_16 : decode cX9_push 16 = .ok (.putfield 214, 3) := by decide +kernel
theorem dX9_push_19 : decode cX9_push 19 = .ok (.aload_n 0, 1) := by decide +kernel
theorem dX9_push_20 : decode cX9_push 20 = .ok (.getfield 42, 3) := by decide +kernel
theorem dX9_push_23 : decode cX9_push 23 = .ok (.aload_n 0, 1) := by decide +kernel
theorem dX9_push_24 : decode cX9_push 24 = .ok (.getfield 10, 3) := by decide +kernel
theorem dX9_push_27 : decode cX9_push 27 = .ok (.getfield 214, 3) := by decide +kernel
theorem dX9_push_30 : decode cX9_push 30 = .ok (.iload_n 1, 1) := by decide +kernel
theorem dX9_push_31 : decode cX9_push 31 = .ok (.invokevirtual 193, 3) := by decide +kernel
theorem dX9_push_34 : decode cX9_push 34 = .ok (.return_, 1) := by decide +kernel
theorem dX9_callIf_0 : decode cX9_callIf 0 = .ok (.aload_n 0, 1) := by decide +kernel
theorem dX9_callIf_1 : decode cX9_callIf 1 = .ok (.invokevirtual 172, 3) := by decide +kernel
theorem dX9_callIf_4 : decode cX9_callIf 4 = .ok (.istore_n 2, 1) := by decide +kernel
theorem dX9_callIf_5 : decode cX9_callIf 5 = .ok (.iload_n 1, 1) := by decide +kernel
theorem dX9_callIf_6 : decode cX9_callIf 6 = .ok (.ifCond .ne 6, 3) := by decide +kernel
theorem dX9_callIf_9 : decode cX9_callIf 9 = .ok (.bipush 10, 2) := by decide +kernel
theorem dX9_callIf_11 : decode cX9_callIf 11 = .ok (.ireturn, 1) := by decide +kernel
theorem dX9_callIf_12 : decode cX9_callIf 12 = .ok (.aload_n 0, 1) := by decide +kernel
theorem dX9_callIf_13 : decode cX9_callIf 13 = .ok (.aload_n 0, 1) := by decide +kernel
theorem dX9_callIf_14 : decode cX9_callIf 14 = .ok (.getfield 10, 3) := by decide +kernel
theorem dX9_callIf_17 : decode cX9_callIf 17 = .ok (.getfield 64, 3) := by decide +kernel
theorem dX9_callIf_20 : decode cX9_callIf 20 = .ok (.invokevirtual 109, 3) := by decide +kernel
theorem dX9_callIf_23 : decode cX9_callIf 23 = .ok (.aload_n 0, 1) := by decide +kernel
theorem dX9_callIf_24 : decode cX9_callIf 24 = .ok (.getfield 10, 3) := by decide +kernel
theorem dX9_callIf_27 : decode cX9_callIf 27 = .ok (.iload_n 2, 1) := by decide +kernel
theorem dX9_callIf_28 : decode cX9_callIf 28 = .ok (.putfield 64, 3) := by decide +kernel
theorem dX9_callIf_31 : decode cX9_callIf 31 = .ok (.bipush 17, 2) := by decide +kernel
theorem dX9_callIf_33 : decode cX9_callIf 33 = .ok (.ireturn, 1) := by decide +kernel
theorem dX4_takeConstant_0 : decode cX4_takeConstant 0 = .ok (.aload_n 0, 1) := by decide +kernel
theorem dX4_takeConstant_1 : decode cX4_takeConstant 1 = .ok (.iload_n 1, 1) := by decide +kernel
theorem dX4_takeConstant_2 : decode cX4_takeConstant 2 = .ok (.ifCond .ne 9, 3) := by decide +kernel
theorem dX4_takeConstant_5 : decode cX4_takeConstant 5 = .ok (.sipush 256, 3) := by decide +kernel
theorem dX4_takeConstant_8 : decode cX4_takeConstant 8 = .ok (.goto 4, 3) := by decide +kernel
theorem dX4_takeConstant_11 : decode cX4_takeConstant 11 = .ok (.iload_n 1, 1) := by decide +kernel
theorem dX4_takeConstant_12 : decode cX4_takeConstant 12 = .ok (.putfield 15, 3) := by decide +kernel
theorem dX4_takeConstant_15 : decode cX4_takeConstant 15 = .ok (.aload_n 0, 1) := by decide +kernel
theorem dX4_takeConstant_16 : decode cX4_takeConstant 16 = .ok (.aload_n 0, 1) := by decide +kernel
theorem dX4_takeConstant_17 : decode cX4_takeConstant 17 = .ok (.getfield 15, 3) := by decide +kernel
theorem dX4_takeConstant_20 : decode cX4_takeConstant 20 = .ok (.putfield 9, 3) := by decide +kernel
theorem dX4_takeConstant_23 : decode cX4_takeConstant 23 = .ok (.aload_n 0, 1) := by decide +kernel
theorem dX4_takeConstant_24 : decode cX4_takeConstant 24 = .ok (.iconst 0, 1) := by decide +kernel
theorem dX4_takeConstant_25 : decode cX4_takeConstant 25 = .ok (.putfield 18, 3) := by decide +kernel
theorem dX4_takeConstant_28 : decode cX4_takeConstant 28 = .ok (.aload_n 0, 1) := by decide +kernel
theorem dX4_takeConstant_29 : decode cX4_takeConstant 29 = .ok (.iconst 1, 1) := by decide +kernel
theorem dX4_takeConstant_30 : decode cX4_takeConstant 30 = .ok (.putfield 21, 3) := by decide +kernel
theorem dX4_takeConstant_33 : decode cX4_takeConstant 33 = .ok (.aload_n 0, 1) := by decide +kernel
theorem dX4_takeConstant_34 : decode cX4_takeConstant 34 = .ok (.iconst 0, 1) := by decide +kernel
theorem dX4_takeConstant_35 : decode cX4_takeConstant 35 = .ok (.putfield 31, 3) := by decide +kernel
theorem dX4_takeConstant_38 : decode cX4_takeConstant 38 = .ok (.return_, 1) := by decide +kernel
theorem dX4_takeControl_0 : decode cX4_takeControl 0 = .ok (.aload_n 0, 1) := by decide +kernel
theorem dX4_takeControl_1 : decode cX4_takeControl 1 = .ok (.iload_n 1, 1) := by decide +kernel
theorem dX4_takeControl_2 : decode cX4_takeControl 2 = .ok (.sipush 128, 3) := by decide +kernel
theorem dX4_takeControl_5 : decode cX4_takeControl 5 = .ok (.iand, 1) := by decide +kernel
theorem dX4_takeControl_6 : decode cX4_takeControl 6 = .ok (.ifCond .eq 7, 3) := by decide +kernel
theorem dX4_takeControl_9 : decode cX4_takeControl 9 = .ok (.iconst 1, 1) := by decide +kernel
theorem dX4_takeControl_10 : decode cX4_takeControl 10 = .ok (.goto 4, 3) := by decide +kernel
theorem dX4_takeControl_13 : decode cX4_takeControl 13 = .ok (.iconst 0, 1) := by decide +kernel
theorem dX4_takeControl_14 : decode cX4_takeControl 14 = .ok (.putfield 44, 3) := by decide +kernel
theorem dX4_takeControl_17 : decode cX4_takeControl 17 = .ok (.aload_n 0, 1) := by decide +kernel
theorem dX4_takeControl_18 : decode cX4_takeControl 18 = .ok (.getfield 44, 3) := by decide +kernel
theorem dX4_takeControl_21 : decode cX4_takeControl 21 = .ok (.ifCond .ne 8, 3) := by decide +kernel
theorem dX4_takeControl_24 : decode cX4_takeControl 24 = .ok (.aload_n 0, 1) := by decide +kernel
theorem dX4_takeControl_25 : decode cX4_takeControl 25 = .ok (.iconst 0, 1) := by decide +kernel
theorem dX4_takeControl_26 : decode cX4_takeControl 26 = .ok (.putfield 47, 3) := by decide +kernel
theorem dX4_takeControl_29 : decode cX4_takeControl 29 = .ok (.aload_n 0, 1) := by decide +kernel
theorem dX4_takeControl_30 : decode cX4_takeControl 30 = .ok (.iload_n 1, 1) := by decide +kernel
theorem dX4_takeControl_31 : decode cX4_takeControl 31 = .ok (.bipush 64, 2) := by decide +kernel
theorem dX4_takeControl_33 : decode cX4_takeControl 33 = .ok (.iand, 1) := by decide +kernel
theorem dX4_takeControl_34 : decode cX4_takeControl 34 = .ok (.ifCond .eq 7, 3) := by decide +kernel
theorem dX4_takeControl_37 : decode cX4_takeControl 37 = .ok (.iconst 1, 1) := by decide +kernel
theorem dX4_takeControl_38 : decode cX4_takeControl 38 = .ok (.goto 4, 3) := by decide +kernel
theorem dX4_takeControl_41 : decode cX4_takeControl 41 = .ok (.iconst 0, 1) := by decide +kernel
theorem dX4_takeControl_42 : decode cX4_takeControl 42 = .ok (.putfield 25, 3) := by decide +kernel
theorem dX4_takeControl_45 : decode cX4_takeControl 45 = .ok (.aload_n 0, 1) := by decide +kernel
theorem dX4_takeControl_46 : decode cX4_takeControl 46 = .ok (.iload_n 1, 1) := by decide +kernel
theorem dX4_takeControl_47 : decode cX4_takeControl 47 = .ok (.bipush 32, 2) := by decide +kernel
theorem dX4_takeControl_49 : decode cX4_takeControl 49 = .ok (.iand, 1) := by decide +kernel
theorem dX4_takeControl_50 : decode cX4_takeControl 50 = .ok (.ifCond .eq 7, 3) := by decide +kernel
theorem dX4_takeControl_53 : decode cX4_takeControl 53 = .ok (.iconst 1, 1) := by decide +kernel
theorem dX4_takeControl_54 : decode cX4_takeControl 54 = .ok (.goto 4, 3) := by decide +kernel
theorem dX4_takeControl_57 : decode cX4_takeControl 57 = .ok (.iconst 0, 1) := by decide +kernel
theorem dX4_takeControl_58 : decode cX4_takeControl 58 = .ok (.putfield 28, 3) := by decide +kernel
theorem dX4_takeControl_61 : decode cX4_takeControl 61 = .ok (.aload_n 0, 1) := by decide +kernel
theorem dX4_takeControl_62 : decode cX4_takeControl 62 = .ok (.iload_n 1, 1) := by decide +kernel
theorem dX4_takeControl_63 : decode cX4_takeControl 63 = .ok (.iconst 4, 1) := by decide +kernel
theorem dX4_takeControl_64 : decode cX4_takeControl 64 = .ok (.iand, 1) := by decide +kernel
theorem dX4_takeControl_65 : decode cX4_takeControl 65 = .ok (.ifCond .eq 7, 3) := by decide +kernel
theorem dX4_takeControl_68 : decode cX4_takeControl 68 = .ok (.iconst 1, 1) := by decide +kernel
theorem dX4_takeControl_69 : decode cX4_takeControl 69 = .ok (.goto 4, 3) := by decide +kernel
theorem dX4_takeControl_72 : decode cX4_takeControl 72 = .ok (.iconst 0, 1) := by decide +kernel
theorem dX4_takeControl_73 : decode cX4_takeControl 73 = .ok (.putfield 31, 3) := by decide +kernel
theorem dX4_takeControl_76 : decode cX4_takeControl 76 = .ok (.iload_n 1, 1) := by decide +kernel
theorem dX4_takeControl_77 : decode cX4_takeControl 77 = .ok (.iconst 2, 1) := by decide +kernel
theorem dX4_takeControl_78 : decode cX4_takeControl 78 = .ok (.iand, 1) := by decide +kernel
theorem dX4_takeControl_79 : decode cX4_takeControl 79 = .ok (.ifCond .eq 8, 3) := by decide +kernel
theorem dX4_takeControl_82 : decode cX4_takeControl 82 = .ok (.aload_n 0, 1) := by decide +kernel
theorem dX4_takeControl_83 : decode cX4_takeControl 83 = .ok (.iconst 0, 1) := by decide +kernel
theorem dX4_takeControl_84 : decode cX4_takeControl 84 = .ok (.putfield 21, 3) := by decide +kernel
theorem dX4_takeControl_87 : decode cX4_takeControl 87 = .ok (.aload_n 0, 1) := by decide +kernel
theorem dX4_takeControl_88 : decode cX4_takeControl 88 = .ok (.iconst 0, 1) := by decide +kernel
theorem dX4_takeControl_89 : decode cX4_takeControl 89 = .ok (.putfield 18, 3) := by decide +kernel
theorem dX4_takeControl_92 : decode cX4_takeControl 92 = .ok (.return_, 1) := by decide +kernel
theorem dX4_takeByte_0 : decode cX4_takeByte 0 = .ok (.aload_n 0, 1) := by decide +kernel
theorem dX4_takeByte_1 : decode cX4_takeByte 1 = .ok (.getfield 31, 3) := by decide +kernel
theorem dX4_takeByte_4 : decode cX4_takeByte 4 = .ok (.ifCond .eq 10, 3) := by decide +kernel
theorem dX4_takeByte_7 : decode cX4_takeByte 7 = .ok (.aload_n 0, 1) := by decide +kernel
theorem dX4_takeByte_8 : decode cX4_takeByte 8 = .ok (.iload_n 1, 1) := by decide +kernel
theorem dX4_takeByte_9 : decode cX4_takeByte 9 = .ok (.invokevirtual 37, 3) := by decide +kernel
theorem dX4_takeByte_12 : decode cX4_takeByte 12 = .ok (.iconst 1, 1) := by decide +kernel
theorem dX4_takeByte_13 : decode cX4_takeByte 13 = .ok (.ireturn, 1) := by decide +kernel
theorem dX4_takeByte_14 : decode cX4_takeByte 14 = .ok (.iload_n 1, 1) := by decide +kernel
theorem dX4_takeByte_15 : decode cX4_takeByte 15 = .ok (.iconst 1, 1) := by decide +kernel
theorem dX4_takeByte_16 : decode cX4_takeByte 16 = .ok (.iand, 1) := by decide +kernel
theorem dX4_takeByte_17 : decode cX4_takeByte 17 = .ok (.ifCond .ne 5, 3) := by decide +kernel
theorem dX4_takeByte_20 : decode cX4_takeByte 20 = .ok (.iconst 0, 1) := by decide +kernel
theorem dX4_takeByte_21 : decode cX4_takeByte 21 = .ok (.ireturn, 1) := by decide +kernel
theorem dX4_takeByte_22 : decode cX4_takeByte 22 = .ok (.aload_n 0, 1) := by decide +kernel
theorem dX4_takeByte_23 : decode cX4_takeByte 23 = .ok (.iload_n 1, 1) := by decide +kernel
theorem dX4_takeByte_24 : decode cX4_takeByte 24 = .ok (.invokevirtual 41, 3) := by decide +kernel
theorem dX4_takeByte_27 : decode cX4_takeByte 27 = .ok (.iconst 1, 1) := by decide +kernel
theorem dX4_takeByte_28 : decode cX4_takeByte 28 = .ok (.ireturn, 1) := by decide +kernel
theorem dX3_toChannel_0 : decode cX3_toChannel 0 = .ok (.aload_n 1, 1) := by decide +kernel
theorem dX3_toChannel_1 : decode cX3_toChannel 1 = .ok (.iload_n 2, 1) := by decide +kernel
theorem dX3_toChannel_2 : decode cX3_toChannel 2 = .ok (.invokevirtual 63, 3) := by decide +kernel
theorem dX3_toChannel_5 : decode cX3_toChannel 5 = .ok (.ifCond .ne 29, 3) := by decide +kernel
theorem dX3_toChannel_8 : decode cX3_toChannel 8 = .ok (.aload_n 0, 1) := by decide +kernel
theorem dX3_toChannel_9 : decode cX3_toChannel 9 = .ok (.getfield 12, 3) := by decide +kernel
theorem dX3_toChannel_12 : decode cX3_toChannel 12 = .ok (.iload_n 2, 1) := by decide +kernel
theorem dX3_toChannel_13 : decode cX3_toChannel 13 = .ok (.sipush 248, 3) := by decide +kernel
theorem dX3_toChannel_16 : decode cX3_toChannel 16 = .ok (.iand, 1) := by decide +kernel
theorem dX3_toChannel_17 : decode cX3_toChannel 17 = .ok (.putfield 67, 3) := by decide +kernel
theorem dX3_toChannel_20 : decode cX3_toChannel 20 = .ok (.aload_n 0, 1) := by decide +kernel
theorem dX3_toChannel_21 : decode cX3_toChannel 21 = .ok (.getfield 18, 3) := by decide +kernel
theorem dX3_toChannel_24 : decode cX3_toChannel 24 = .ok (.iload_n 2, 1) := by decide +kernel
theorem dX3_toChannel_25 : decode cX3_toChannel 25 = .ok (.sipush 248, 3) := by decide +kernel
theorem dX3_toChannel_28 : decode cX3_toChannel 28 = .ok (.iand, 1) := by decide +kernel
theorem dX3_toChannel_29 : decode cX3_toChannel 29 = .ok (.iconst 2, 1) := by decide +kernel
theorem dX3_toChannel_30 : decode cX3_toChannel 30 = .ok (.iadd, 1) := by decide +kernel
theorem dX3_toChannel_31 : decode cX3_toChannel 31 = .ok (.putfield 67, 3) := by decide +kernel
theorem dX3_toChannel_34 : decode cX3_toChannel 34 = .ok (.return_, 1) := by decide +kernel
theorem dX8_takeData_0 : decode cX8_takeData 0 = .ok (.aload_n 0, 1) := by decide +kernel
theorem dX8_takeData_1 : decode cX8_takeData 1 = .ok (.iload_n 1, 1) := by decide +kernel
theorem dX8_takeData_2 : decode cX8_takeData 2 = .ok (.putfield 19, 3) := by decide +kernel
theorem dX8_takeData_5 : decode cX8_takeData 5 = .ok (.aload_n 0, 1) := by decide +kernel
theorem dX8_takeData_6 : decode cX8_takeData 6 = .ok (.getfield 11, 3) := by decide +kernel
theorem dX8_takeData_9 : decode cX8_takeData 9 = .ok (.ifCond .ne 8, 3) := by decide +kernel
theorem dX8_takeData_12 : decode cX8_takeData 12 = .ok (.aload_n 0, 1) := by decide +kernel
theorem dX8_takeData_13 : decode cX8_takeData 13 = .ok (.iconst 1, 1) := by decide +kernel
theorem dX8_takeData_14 : decode cX8_takeData 14 = .ok (.putfield 15, 3) := by decide +kernel
theorem dX8_takeData_17 : decode cX8_takeData 17 = .ok (.return_, 1) := by decide +kernel
theorem dX8_takeCommand_0 : decode cX8_takeCommand 0 = .ok (.iload_n 1, 1) := by decide +kernel
theorem dX8_takeCommand_1 : decode cX8_takeCommand 1 = .ok (.bipush 15, 2) := by decide +kernel
theorem dX8_takeCommand_3 : decode cX8_takeCommand 3 = .ok (.iand, 1) := by decide +kernel
theorem dX8_takeCommand_4 : decode cX8_takeCommand 4 = .ok (.lookupswitch 170 #[(3, 150), (7, 81), (15, 36)], 36) := by decide +kernel
theorem dX8_takeCommand_40 : decode cX8_takeCommand 40 = .ok (.aload_n 0, 1) := by decide +kernel
theorem dX8_takeCommand_41 : decode cX8_takeCommand 41 = .ok (.iload_n 1, 1) := by decide +kernel
theorem dX8_takeCommand_42 : decode cX8_takeCommand 42 = .ok (.bipush 6, 2) := by decide +kernel
theorem dX8_takeCommand_44 : decode cX8_takeCommand 44 = .ok (.ishr, 1) := by decide +kernel
theorem dX8_takeCommand_45 : decode cX8_takeCommand 45 = .ok (.iconst 2, 1) := by decide +kernel
theorem dX8_takeCommand_46 : decode cX8_takeCommand 46 = .ok (.if_icmp .ne 7, 3) := by decide +kernel
theorem dX8_takeCommand_49 : decode cX8_takeCommand 49 = .ok (.iconst 3, 1) := by decide +kernel
theorem dX8_takeCommand_50 : decode cX8_takeCommand 50 = .ok (.goto 7, 3) := by decide +kernel
theorem dX8_takeCommand_53 : decode cX8_takeCommand 53 = .ok (.iload_n 1, 1) := by decide +kernel
theorem dX8_takeCommand_54 : decode cX8_takeCommand 54 = .ok (.bipush 6, 2) := by decide +kernel
theorem dX8_takeCommand_56 : decode cX8_takeCommand 56 = .ok (.ishr, 1) := by decide +kernel
theorem dX8_takeCommand_57 : decode cX8_takeCommand 57 = .ok (.putfield 11, 3) := by decide +kernel
theorem dX8_takeCommand_60 : decode cX8_takeCommand 60 = .ok (.aload_n 0, 1) := by decide +kernel
theorem dX8_takeCommand_61 : decode cX8_takeCommand 61 = .ok (.iconst 0, 1) := by decide +kernel
theorem dX8_takeCommand_62 : decode cX8_takeCommand 62 = .ok (.putfield 15, 3) := by decide +kernel
theorem dX8_takeCommand_65 : decode cX8_takeCommand 65 = .ok (.aload_n 0, 1) := by decide +kernel
theorem dX8_takeCommand_66 : decode cX8_takeCommand 66 = .ok (.aload_n 0, 1) := by decide +kernel
theorem dX8_takeCommand_67 : decode cX8_takeCommand 67 = .ok (.getfield 11, 3) := by decide +kernel
theorem dX8_takeCommand_70 : decode cX8_takeCommand 70 = .ok (.iconst 3, 1) := by decide +kernel
theorem dX8_takeCommand_71 : decode cX8_takeCommand 71 = .ok (.if_icmp .ne 7, 3) := by decide +kernel
theorem dX8_takeCommand_74 : decode cX8_takeCommand 74 = .ok (.iconst 1, 1) := by decide +kernel
theorem dX8_takeCommand_75 : decode cX8_takeCommand 75 = .ok (.goto 4, 3) := by decide +kernel
theorem dX8_takeCommand_78 : decode cX8_takeCommand 78 = .ok (.iconst 0, 1) := by decide +kernel
theorem dX8_takeCommand_79 : decode cX8_takeCommand 79 = .ok (.putfield 40, 3) := by decide +kernel
theorem dX8_takeCommand_82 : decode cX8_takeCommand 82 = .ok (.goto 92, 3) := by decide +kernel
theorem dX8_takeCommand_85 : decode cX8_takeCommand 85 = .ok (.aload_n 0, 1) := by decide +kernel
theorem dX8_takeCommand_86 : decode cX8_takeCommand 86 = .ok (.iload_n 1, 1) := by decide +kernel
theorem dX8_takeCommand_87 : decode cX8_takeCommand 87 = .ok (.sipush 128, 3) := by decide +kernel
theorem dX8_takeCommand_90 : decode cX8_takeCommand 90 = .ok (.iand, 1) := by decide +kernel
theorem dX8_takeCommand_91 : decode cX8_takeCommand 91 = .ok (.ifCond .eq 7, 3) := by decide +kernel
theorem dX8_takeCommand_94 : decode cX8_takeCommand 94 = .ok (.iconst 1, 1) := by decide +kernel
theorem dX8_takeCommand_95 : decode cX8_takeCommand 95 = .ok (.goto 4, 3) := by decide +kernel
theorem dX8_takeCommand_98 : decode cX8_takeCommand 98 = .ok (.iconst 0, 1) := by decide +kernel
theorem dX8_takeCommand_99 : decode cX8_takeCommand 99 = .ok (.putfield 59, 3) := by decide +kernel
theorem dX8_takeCommand_102 : decode cX8_takeCommand 102 = .ok (.aload_n 0, 1) := by decide +kernel
theorem dX8_takeCommand_103 : decode cX8_takeCommand 103 = .ok (.iload_n 1, 1) := by decide +kernel
theorem dX8_takeCommand_104 : decode cX8_takeCommand 104 = .ok (.bipush 64, 2) := by decide +kernel
theorem dX8_takeCommand_106 : decode cX8_takeCommand 106 = .ok (.iand, 1) := by decide +kernel
theorem dX8_takeCommand_107 : decode cX8_takeCommand 107 = .ok (.ifCond .eq 7, 3) := by decide +kernel
theorem dX8_takeCommand_110 : decode cX8_takeCommand 110 = .ok (.iconst 1, 1) := by decide +kernel
theorem dX8_takeCommand_111 : decode cX8_takeCommand 111 = .ok (.goto 4, 3) := by decide +kernel
theorem dX8_takeCommand_114 : decode cX8_takeCommand 114 = .ok (.iconst 0, 1) := by decide +kernel
theorem dX8_takeCommand_115 : decode cX8_takeCommand 115 = .ok (.putfield 34, 3) := by decide +kernel
theorem dX8_takeCommand_118 : decode cX8_takeCommand 118 = .ok (.aload_n 0, 1) := by decide +kernel
theorem dX8_takeCommand_119 : decode cX8_takeCommand 119 = .ok (.iload_n 1, 1) := by decide +kernel
theorem dX8_takeCommand_120 : decode cX8_takeCommand 120 = .ok (.bipush 32, 2) := by decide +kernel
theorem dX8_takeCommand_122 : decode cX8_takeCommand 122 = .ok (.iand, 1) := by decide +kernel
theorem dX8_takeCommand_123 : decode cX8_takeCommand 123 = .ok (.ifCond .eq 7, 3) := by decide +kernel
theorem dX8_takeCommand_126 : decode cX8_takeCommand 126 = .ok (.iconst 1, 1) := by decide +kernel
theorem dX8_takeCommand_127 : decode cX8_takeCommand 127 = .ok (.goto 4, 3) := by decide +kernel
theorem dX8_takeCommand_130 : decode cX8_takeCommand 130 = .ok (.iconst 0, 1) := by decide +kernel
theorem dX8_takeCommand_131 : decode cX8_takeCommand 131 = .ok (.putfield 37, 3) := by decide +kernel
theorem dX8_takeCommand_134 : decode cX8_takeCommand 134 = .ok (.iload_n 1, 1) := by decide +kernel
theorem dX8_takeCommand_135 : decode cX8_takeCommand 135 = .ok (.bipush 16, 2) := by decide +kernel
theorem dX8_takeCommand_137 : decode cX8_takeCommand 137 = .ok (.iand, 1) := by decide +kernel
theorem dX8_takeCommand_138 : decode cX8_takeCommand 138 = .ok (.ifCond .eq 36, 3) := by decide +kernel
theorem dX8_takeCommand_141 : decode cX8_takeCommand 141 = .ok (.aload_n 0, 1) := by decide +kernel
theorem dX8_takeCommand_142 : decode cX8_takeCommand 142 = .ok (.iconst 1, 1) := by decide +kernel
theorem dX8_takeCommand_143 : decode cX8_takeCommand 143 = .ok (.putfield 43, 3) := by decide +kernel
theorem dX8_takeCommand_146 : decode cX8_takeCommand 146 = .ok (.aload_n 0, 1) := by decide +kernel
theorem dX8_takeCommand_147 : decode cX8_takeCommand 147 = .ok (.iconst 0, 1) := by decide +kernel
theorem dX8_takeCommand_148 : decode cX8_takeCommand 148 = .ok (.putfield 62, 3) := by decide +kernel
theorem dX8_takeCommand_151 : decode cX8_takeCommand 151 = .ok (.goto 23, 3) := by decide +kernel
theorem dX8_takeCommand_154 : decode cX8_takeCommand 154 = .ok (.aload_n 0, 1) := by decide +kernel
theorem dX8_takeCommand_155 : decode cX8_takeCommand 155 = .ok (.iload_n 1, 1) := by decide +kernel
theorem dX8_takeCommand_156 : decode cX8_takeCommand 156 = .ok (.sipush 128, 3) := by decide +kernel
theorem dX8_takeCommand_159 : decode cX8_takeCommand 159 = .ok (.iand, 1) := by decide +kernel
theorem dX8_takeCommand_160 : decode cX8_takeCommand 160 = .ok (.ifCond .eq 7, 3) := by decide +kernel
theorem dX8_takeCommand_163 : decode cX8_takeCommand 163 = .ok (.iconst 1, 1) := by decide +kernel
theorem dX8_takeCommand_164 : decode cX8_takeCommand 164 = .ok (.goto 4, 3) := by decide +kernel
theorem dX8_takeCommand_167 : decode cX8_takeCommand 167 = .ok (.iconst 0, 1) := by decide +kernel
theorem dX8_takeCommand_168 : decode cX8_takeCommand 168 = .ok (.putfield 59, 3) := by decide +kernel
theorem dX8_takeCommand_171 : decode cX8_takeCommand 171 = .ok (.goto 3, 3) := by decide +kernel
theorem dX8_takeCommand_174 : decode cX8_takeCommand 174 = .ok (.return_, 1) := by decide +kernel
theorem dX8_holds_0 : decode cX8_holds 0 = .ok (.aload_n 0, 1) := by decide +kernel
theorem dX8_holds_1 : decode cX8_holds 1 = .ok (.getfield 28, 3) := by decide +kernel
theorem dX8_holds_4 : decode cX8_holds 4 = .ok (.aload_n 0, 1) := by decide +kernel
theorem dX8_holds_5 : decode cX8_holds 5 = .ok (.getfield 31, 3) := by decide +kernel
theorem dX8_holds_8 : decode cX8_holds 8 = .ok (.iconst (-1), 1) := by decide +kernel
theorem dX8_holds_9 : decode cX8_holds 9 = .ok (.ixor, 1) := by decide +kernel
theorem dX8_holds_10 : decode cX8_holds 10 = .ok (.iand, 1) := by decide +kernel
theorem dX8_holds_11 : decode cX8_holds 11 = .ok (.istore_n 1, 1) := by decide +kernel
theorem dX8_holds_12 : decode cX8_holds 12 = .ok (.aload_n 0, 1) := by decide +kernel
theorem dX8_holds_13 : decode cX8_holds 13 = .ok (.getfield 11, 3) := by decide +kernel
theorem dX8_holds_16 : decode cX8_holds 16 = .ok (.iconst 3, 1) := by decide +kernel
theorem dX8_holds_17 : decode cX8_holds 17 = .ok (.if_icmp .ne 7, 3) := by decide +kernel
theorem dX8_holds_20 : decode cX8_holds 20 = .ok (.iload_n 1, 1) := by decide +kernel
theorem dX8_holds_21 : decode cX8_holds 21 = .ok (.ifCond .ne 5, 3) := by decide +kernel
theorem dX8_holds_24 : decode cX8_holds 24 = .ok (.iconst 0, 1) := by decide +kernel
theorem dX8_holds_25 : decode cX8_holds 25 = .ok (.ireturn, 1) := by decide +kernel
theorem dX8_holds_26 : decode cX8_holds 26 = .ok (.aload_n 0, 1) := by decide +kernel
theorem dX8_holds_27 : decode cX8_holds 27 = .ok (.getfield 37, 3) := by decide +kernel
theorem dX8_holds_30 : decode cX8_holds 30 = .ok (.ifCond .eq 10, 3) := by decide +kernel
theorem dX8_holds_33 : decode cX8_holds 33 = .ok (.aload_n 0, 1) := by decide +kernel
theorem dX8_holds_34 : decode cX8_holds 34 = .ok (.getfield 25, 3) := by decide +kernel
theorem dX8_holds_37 : decode cX8_holds 37 = .ok (.goto 9, 3) := by decide +kernel
theorem dX8_holds_40 : decode cX8_holds 40 = .ok (.aload_n 0, 1) := by decide +kernel
theorem dX8_holds_41 : decode cX8_holds 41 = .ok (.getfield 25, 3) := by decide +kernel
theorem dX8_holds_44 : decode cX8_holds 44 = .ok (.iconst (-1), 1) := by decide +kernel
theorem dX8_holds_45 : decode cX8_holds 45 = .ok (.ixor, 1) := by decide +kernel
theorem dX8_holds_46 : decode cX8_holds 46 = .ok (.iload_n 1, 1) := by decide +kernel
theorem dX8_holds_47 : decode cX8_holds 47 = .ok (.iand, 1) := by decide +kernel
theorem dX8_holds_48 : decode cX8_holds 48 = .ok (.istore_n 2, 1) := by decide +kernel
theorem dX8_holds_49 : decode cX8_holds 49 = .ok (.aload_n 0, 1) := by decide +kernel
theorem dX8_holds_50 : decode cX8_holds 50 = .ok (.getfield 34, 3) := by decide +kernel
theorem dX8_holds_53 : decode cX8_holds 53 = .ok (.ifCond .eq 16, 3) := by decide +kernel
theorem dX8_holds_56 : decode cX8_holds 56 = .ok (.iload_n 2, 1) := by decide +kernel
theorem dX8_holds_57 : decode cX8_holds 57 = .ok (.iload_n 1, 1) := by decide +kernel
theorem dX8_holds_58 : decode cX8_holds 58 = .ok (.if_icmp .ne 7, 3) := by decide +kernel
theorem dX8_holds_61 : decode cX8_holds 61 = .ok (.iconst 1, 1) := by decide +kernel
theorem dX8_holds_62 : decode cX8_holds 62 = .ok (.goto 16, 3) := by decide +kernel
theorem dX8_holds_65 : decode cX8_holds 65 = .ok (.iconst 0, 1) := by decide +kernel
theorem dX8_holds_66 : decode cX8_holds 66 = .ok (.goto 12, 3) := by decide +kernel
theorem dX8_holds_69 : decode cX8_holds 69 = .ok (.iload_n 2, 1) := by decide +kernel
theorem dX8_holds_70 : decode cX8_holds 70 = .ok (.ifCond .eq 7, 3) := by decide +kernel
theorem dX8_holds_73 : decode cX8_holds 73 = .ok (.iconst 1, 1) := by decide +kernel
theorem dX8_holds_74 : decode cX8_holds 74 = .ok (.goto 4, 3) := by decide +kernel
theorem dX8_holds_77 : decode cX8_holds 77 = .ok (.iconst 0, 1) := by decide +kernel
theorem dX8_holds_78 : decode cX8_holds 78 = .ok (.ireturn, 1) := by decide +kernel
theorem dX5_request_0 : decode cX5_request 0 = .ok (.aload_n 0, 1) := by decide +kernel
theorem dX5_request_1 : decode cX5_request 1 = .ok (.getfield 7, 3) := by decide +kernel
theorem dX5_request_4 : decode cX5_request 4 = .ok (.ifCond .eq 8, 3) := by decide +kernel
theorem dX5_request_7 : decode cX5_request 7 = .ok (.aload_n 0, 1) := by decide +kernel
theorem dX5_request_8 : decode cX5_request 8 = .ok (.iconst 1, 1) := by decide +kernel
theorem dX5_request_9 : decode cX5_request 9 = .ok (.putfield 13, 3) := by decide +kernel
theorem dX5_request_12 : decode cX5_request 12 = .ok (.return_, 1) := by decide +kernel
theorem dX8_look_0 : decode cX8_look 0 = .ok (.aload_n 0, 1) := by decide +kernel
theorem dX8_look_1 : decode cX8_look 1 = .ok (.getfield 46, 3) := by decide +kernel
theorem dX8_look_4 : decode cX8_look 4 = .ok (.istore_n 1, 1) := by decide +kernel
theorem dX8_look_5 : decode cX8_look 5 = .ok (.aload_n 0, 1) := by decide +kernel
theorem dX8_look_6 : decode cX8_look 6 = .ok (.aload_n 0, 1) := by decide +kernel
theorem dX8_look_7 : decode cX8_look 7 = .ok (.invokevirtual 68, 3) := by decide +kernel
theorem dX8_look_10 : decode cX8_look 10 = .ok (.putfield 46, 3) := by decide +kernel
theorem dX8_look_13 : decode cX8_look 13 = .ok (.aload_n 0, 1) := by decide +kernel
theorem dX8_look_14 : decode cX8_look 14 = .ok (.getfield 46, 3) := by decide +kernel
theorem dX8_look_17 : decode cX8_look 17 = .ok (.ifCond .eq 11, 3) := by decide +kernel
theorem dX8_look_20 : decode cX8_look 20 = .ok (.iload_n 1, 1) := by decide +kernel
theorem dX8_look_21 : decode cX8_look 21 = .ok (.ifCond .ne 7, 3) := by decide +kernel
theorem dX8_look_24 : decode cX8_look 24 = .ok (.aload_n 0, 1) := by decide +kernel
theorem dX8_look_25 : decode cX8_look 25 = .ok (.invokevirtual 65, 3) := by decide +kernel
theorem dX8_look_28 : decode cX8_look 28 = .ok (.return_, 1) := by decide +kernel
theorem dX8_takeControl_0 : decode cX8_takeControl 0 = .ok (.aload_n 0, 1) := by decide +kernel
theorem dX8_takeControl_1 : decode cX8_takeControl 1 = .ok (.getfield 40, 3) := by decide +kernel
theorem dX8_takeControl_4 : decode cX8_takeControl 4 = .ok (.ifCond .eq 16, 3) := by decide +kernel
theorem dX8_takeControl_7 : decode cX8_takeControl 7 = .ok (.aload_n 0, 1) := by decide +kernel
theorem dX8_takeControl_8 : decode cX8_takeControl 8 = .ok (.iload_n 1, 1) := by decide +kernel
theorem dX8_takeControl_9 : decode cX8_takeControl 9 = .ok (.putfield 28, 3) := by decide +kernel
theorem dX8_takeControl_12 : decode cX8_takeControl 12 = .ok (.aload_n 0, 1) := by decide +kernel
theorem dX8_takeControl_13 : decode cX8_takeControl 13 = .ok (.iconst 0, 1) := by decide +kernel
theorem dX8_takeControl_14 : decode cX8_takeControl 14 = .ok (.putfield 40, 3) := by decide +kernel
theorem dX8_takeControl_17 : decode cX8_takeControl 17 = .ok (.goto 42, 3) := by decide +kernel
theorem dX8_takeControl_20 : decode cX8_takeControl 20 = .ok (.aload_n 0, 1) := by decide +kernel
theorem dX8_takeControl_21 : decode cX8_takeControl 21 = .ok (.getfield 43, 3) := by decide +kernel
theorem dX8_takeControl_24 : decode cX8_takeControl 24 = .ok (.ifCond .eq 16, 3) := by decide +kernel
theorem dX8_takeControl_27 : decode cX8_takeControl 27 = .ok (.aload_n 0, 1) := by decide +kernel
theorem dX8_takeControl_28 : decode cX8_takeControl 28 = .ok (.iload_n 1, 1) := by decide +kernel
theorem dX8_takeControl_29 : decode cX8_takeControl 29 = .ok (.putfield 31, 3) := by decide +kernel
theorem dX8_takeControl_32 : decode cX8_takeControl 32 = .ok (.aload_n 0, 1) := by decide +kernel
theorem dX8_takeControl_33 : decode cX8_takeControl 33 = .ok (.iconst 0, 1) := by decide +kernel
theorem dX8_takeControl_34 : decode cX8_takeControl 34 = .ok (.putfield 43, 3) := by decide +kernel
theorem dX8_takeControl_37 : decode cX8_takeControl 37 = .ok (.goto 22, 3) := by decide +kernel
theorem dX8_takeControl_40 : decode cX8_takeControl 40 = .ok (.iload_n 1, 1) := by decide +kernel
theorem dX8_takeControl_41 : decode cX8_takeControl 41 = .ok (.iconst 1, 1) := by decide +kernel
theorem dX8_takeControl_42 : decode cX8_takeControl 42 = .ok (.iand, 1) := by decide +kernel
theorem dX8_takeControl_43 : decode cX8_takeControl 43 = .ok (.ifCond .ne 11, 3) := by decide +kernel
theorem dX8_takeControl_46 : decode cX8_takeControl 46 = .ok (.aload_n 0, 1) := by decide +kernel
theorem dX8_takeControl_47 : decode cX8_takeControl 47 = .ok (.iload_n 1, 1) := by decide +kernel
theorem dX8_takeControl_48 : decode cX8_takeControl 48 = .ok (.putfield 49, 3) := by decide +kernel
theorem dX8_takeControl_51 : decode cX8_takeControl 51 = .ok (.goto 8, 3) := by decide +kernel
theorem dX8_takeControl_54 : decode cX8_takeControl 54 = .ok (.aload_n 0, 1) := by decide +kernel
theorem dX8_takeControl_55 : decode cX8_takeControl 55 = .ok (.iload_n 1, 1) := by decide +kernel
theorem dX8_takeControl_56 : decode cX8_takeControl 56 = .ok (.invokevirtual 52, 3) := by decide +kernel
theorem dX8_takeControl_59 : decode cX8_takeControl 59 = .ok (.aload_n 0, 1) := by decide +kernel
theorem dX8_takeControl_60 : decode cX8_takeControl 60 = .ok (.invokevirtual 56, 3) := by decide +kernel
theorem dX8_takeControl_63 : decode cX8_takeControl 63 = .ok (.return_, 1) := by decide +kernel
theorem dX3_output_0 : decode cX3_output 0 = .ok (.iload_n 1, 1) := by decide +kernel
theorem dX3_output_1 : decode cX3_output 1 = .ok (.tableswitch 107 0 5 #[39, 51, 63, 74, 85, 96], 39) := by decide +kernel
theorem dX3_output_40 : decode cX3_output 40 = .ok (.aload_n 0, 1) := by decide +kernel
theorem dX3_output_41 : decode cX3_output 41 = .ok (.aload_n 0, 1) := by decide +kernel
theorem dX3_output_42 : decode cX3_output 42 = .ok (.getfield 12, 3) := by decide +kernel
theorem dX3_output_45 : decode cX3_output 45 = .ok (.iload_n 2, 1) := by decide +kernel
theorem dX3_output_46 : decode cX3_output 46 = .ok (.invokevirtual 53, 3) := by decide +kernel
theorem dX3_output_49 : decode cX3_output 49 = .ok (.goto 59, 3) := by decide +kernel
theorem dX3_output_52 : decode cX3_output 52 = .ok (.aload_n 0, 1) := by decide +kernel
theorem dX3_output_53 : decode cX3_output 53 = .ok (.aload_n 0, 1) := by decide +kernel
theorem dX3_output_54 : decode cX3_output 54 = .ok (.getfield 18, 3) := by decide +kernel
theorem dX3_output_57 : decode cX3_output 57 = .ok (.iload_n 2, 1) := by decide +kernel
theorem dX3_output_58 : decode cX3_output 58 = .ok (.invokevirtual 53, 3) := by decide +kernel
theorem dX3_output_61 : decode cX3_output 61 = .ok (.goto 47, 3) := by decide +kernel
theorem dX3_output_64 : decode cX3_output 64 = .ok (.aload_n 0, 1) := by decide +kernel
theorem dX3_output_65 : decode cX3_output 65 = .ok (.getfield 24, 3) := by decide +kernel
theorem dX3_output_68 : decode cX3_output 68 = .ok (.iload_n 2, 1) := by decide +kernel
theorem dX3_output_69 : decode cX3_output 69 = .ok (.invokevirtual 57, 3) := by decide +kernel
theorem dX3_output_72 : decode cX3_output 72 = .ok (.goto 36, 3) := by decide +kernel
theorem dX3_output_75 : decode cX3_output 75 = .ok (.aload_n 0, 1) := by decide +kernel
theorem dX3_output_76 : decode cX3_output 76 = .ok (.getfield 24, 3) := by decide +kernel
theorem dX3_output_79 : decode cX3_output 79 = .ok (.iload_n 2, 1) := by decide +kernel
theorem dX3_output_80 : decode cX3_output 80 = .ok (.invokevirtual 60, 3) := by decide +kernel
theorem dX3_output_83 : decode cX3_output 83 = .ok (.goto 25, 3) := by decide +kernel
theorem dX3_output_86 : decode cX3_output 86 = .ok (.aload_n 0, 1) := by decide +kernel
theorem dX3_output_87 : decode cX3_output 87 = .ok (.getfield 28, 3) := by decide +kernel
theorem dX3_output_90 : decode cX3_output 90 = .ok (.iload_n 2, 1) := by decide +kernel
theorem dX3_output_91 : decode cX3_output 91 = .ok (.invokevirtual 57, 3) := by decide +kernel
theorem dX3_output_94 : decode cX3_output 94 = .ok (.goto 14, 3) := by decide +kernel
theorem dX3_output_97 : decode cX3_output 97 = .ok (.aload_n 0, 1) := by decide +kernel
theorem dX3_output_98 : decode cX3_output 98 = .ok (.getfield 28, 3) := by decide +kernel
theorem dX3_output_101 : decode cX3_output 101 = .ok (.iload_n 2, 1) := by decide +kernel
theorem dX3_output_102 : decode cX3_output 102 = .ok (.invokevirtual 60, 3) := by decide +kernel
theorem dX3_output_105 : decode cX3_output 105 = .ok (.goto 3, 3) := by decide +kernel
theorem dX3_output_108 : decode cX3_output 108 = .ok (.return_, 1) := by decide +kernel
theorem dX8_giveData_0 : decode cX8_giveData 0 = .ok (.aload_n 0, 1) := by decide +kernel
theorem dX8_giveData_1 : decode cX8_giveData 1 = .ok (.getfield 11, 3) := by decide +kernel
theorem dX8_giveData_4 : decode cX8_giveData 4 = .ok (.lookupswitch 43 #[(0, 28), (1, 33)], 28) := by decide +kernel
theorem dX8_giveData_32 : decode cX8_giveData 32 = .ok (.aload_n 0, 1) := by decide +kernel
theorem dX8_giveData_33 : decode cX8_giveData 33 = .ok (.getfield 19, 3) := by decide +kernel
theorem dX8_giveData_36 : decode cX8_giveData 36 = .ok (.ireturn, 1) := by decide +kernel
theorem dX8_giveData_37 : decode cX8_giveData 37 = .ok (.aload_n 0, 1) := by decide +kernel
theorem dX8_giveData_38 : decode cX8_giveData 38 = .ok (.iconst 1, 1) := by decide +kernel
theorem dX8_giveData_39 : decode cX8_giveData 39 = .ok (.putfield 15, 3) := by decide +kernel
theorem dX8_giveData_42 : decode cX8_giveData 42 = .ok (.aload_n 0, 1) := by decide +kernel
theorem dX8_giveData_43 : decode cX8_giveData 43 = .ok (.getfield 22, 3) := by decide +kernel
theorem dX8_giveData_46 : decode cX8_giveData 46 = .ok (.ireturn, 1) := by decide +kernel
theorem dX8_giveData_47 : decode cX8_giveData 47 = .ok (.aload_n 0, 1) := by decide +kernel
theorem dX8_giveData_48 : decode cX8_giveData 48 = .ok (.getfield 25, 3) := by decide +kernel
theorem dX8_giveData_51 : decode cX8_giveData 51 = .ok (.aload_n 0, 1) := by decide +kernel
theorem dX8_giveData_52 : decode cX8_giveData 52 = .ok (.getfield 28, 3) := by decide +kernel
theorem dX8_giveData_55 : decode cX8_giveData 55 = .ok (.iand, 1) := by decide +kernel
theorem dX8_giveData_56 : decode cX8_giveData 56 = .ok (.aload_n 0, 1) := by decide +kernel
theorem dX8_giveData_57 : decode cX8_giveData 57 = .ok (.getfield 19, 3) := by decide +kernel
theorem dX8_giveData_60 : decode cX8_giveData 60 = .ok (.aload_n 0, 1) := by decide +kernel
theorem dX8_giveData_61 : decode cX8_giveData 61 = .ok (.getfield 28, 3) := by decide +kernel
theorem dX8_giveData_64 : decode cX8_giveData 64 = .ok (.iconst (-1), 1) := by decide +kernel
theorem dX8_giveData_65 : decode cX8_giveData 65 = .ok (.ixor, 1) := by decide +kernel
theorem dX8_giveData_66 : decode cX8_giveData 66 = .ok (.iand, 1) := by decide +kernel
theorem dX8_giveData_67 : decode cX8_giveData 67 = .ok (.ior, 1) := by decide +kernel
theorem dX8_giveData_68 : decode cX8_giveData 68 = .ok (.ireturn, 1) := by decide +kernel
theorem dX3_input_0 : decode cX3_input 0 = .ok (.iload_n 1, 1) := by decide +kernel
theorem dX3_input_1 : decode cX3_input 1 = .ok (.tableswitch 75 0 4 #[35, 47, 59, 75, 67], 35) := by decide +kernel
theorem dX3_input_36 : decode cX3_input 36 = .ok (.aload_n 0, 1) := by decide +kernel
theorem dX3_input_37 : decode cX3_input 37 = .ok (.getfield 12, 3) := by decide +kernel
theorem dX3_input_40 : decode cX3_input 40 = .ok (.getfield 45, 3) := by decide +kernel
theorem dX3_input_43 : decode cX3_input 43 = .ok (.sipush 255, 3) := by decide +kernel
theorem dX3_input_46 : decode cX3_input 46 = .ok (.iand, 1) := by decide +kernel
theorem dX3_input_47 : decode cX3_input 47 = .ok (.ireturn, 1) := by decide +kernel
theorem dX3_input_48 : decode cX3_input 48 = .ok (.aload_n 0, 1) := by decide +kernel
theorem dX3_input_49 : decode cX3_input 49 = .ok (.getfield 18, 3) := by decide +kernel
theorem dX3_input_52 : decode cX3_input 52 = .ok (.getfield 45, 3) := by decide +kernel
theorem dX3_input_55 : decode cX3_input 55 = .ok (.sipush 255, 3) := by decide +kernel
theorem dX3_input_58 : decode cX3_input 58 = .ok (.iand, 1) := by decide +kernel
theorem dX3_input_59 : decode cX3_input 59 = .ok (.ireturn, 1) := by decide +kernel
theorem dX3_input_60 : decode cX3_input 60 = .ok (.aload_n 0, 1) := by decide +kernel
theorem dX3_input_61 : decode cX3_input 61 = .ok (.getfield 24, 3) := by decide +kernel
theorem dX3_input_64 : decode cX3_input 64 = .ok (.invokevirtual 49, 3) := by decide +kernel
theorem dX3_input_67 : decode cX3_input 67 = .ok (.ireturn, 1) := by decide +kernel
theorem dX3_input_68 : decode cX3_input 68 = .ok (.aload_n 0, 1) := by decide +kernel
theorem dX3_input_69 : decode cX3_input 69 = .ok (.getfield 28, 3) := by decide +kernel
theorem dX3_input_72 : decode cX3_input 72 = .ok (.invokevirtual 49, 3) := by decide +kernel
theorem dX3_input_75 : decode cX3_input 75 = .ok (.ireturn, 1) := by decide +kernel
theorem dX3_input_76 : decode cX3_input 76 = .ok (.sipush 255, 3) := by decide +kernel
theorem dX3_input_79 : decode cX3_input 79 = .ok (.ireturn, 1) := by decide +kernel
theorem dX6_subtractWords_0 : decode cX6_subtractWords 0 = .ok (.iload_n 0, 1) := by decide +kernel
theorem dX6_subtractWords_1 : decode cX6_subtractWords 1 = .ok (.iload_n 1, 1) := by decide +kernel
theorem dX6_subtractWords_2 : decode cX6_subtractWords 2 = .ok (.isub, 1) := by decide +kernel
theorem dX6_subtractWords_3 : decode cX6_subtractWords 3 = .ok (.iload_n 2, 1) := by decide +kernel
theorem dX6_subtractWords_4 : decode cX6_subtractWords 4 = .ok (.isub, 1) := by decide +kernel
theorem dX6_subtractWords_5 : decode cX6_subtractWords 5 = .ok (.istore_n 3, 1) := by decide +kernel
theorem dX6_subtractWords_6 : decode cX6_subtractWords 6 = .ok (.iload_n 3, 1) := by decide +kernel
theorem dX6_subtractWords_7 : decode cX6_subtractWords 7 = .ok (.ldc 13, 2) := by decide +kernel
theorem dX6_subtractWords_9 : decode cX6_subtractWords 9 = .ok (.iand, 1) := by decide +kernel
theorem dX6_subtractWords_10 : decode cX6_subtractWords 10 = .ok (.istore 4, 2) := by decide +kernel
theorem dX6_subtractWords_12 : decode cX6_subtractWords 12 = .ok (.iload_n 0, 1) := by decide +kernel
theorem dX6_subtractWords_13 : decode cX6_subtractWords 13 = .ok (.iload_n 1, 1) := by decide +kernel
theorem dX6_subtractWords_14 : decode cX6_subtractWords 14 = .ok (.ixor, 1) := by decide +kernel
theorem dX6_subtractWords_15 : decode cX6_subtractWords 15 = .ok (.iload_n 3, 1) := by decide +kernel
theorem dX6_subtractWords_16 : decode cX6_subtractWords 16 = .ok (.ixor, 1) := by decide +kernel
theorem dX6_subtractWords_17 : decode cX6_subtractWords 17 = .ok (.bipush 8, 2) := by decide +kernel
theorem dX6_subtractWords_19 : decode cX6_subtractWords 19 = .ok (.ishr, 1) := by decide +kernel
theorem dX6_subtractWords_20 : decode cX6_subtractWords 20 = .ok (.bipush 16, 2) := by decide +kernel
theorem dX6_subtractWords_22 : decode cX6_subtractWords 22 = .ok (.iand, 1) := by decide +kernel
theorem dX6_subtractWords_23 : decode cX6_subtractWords 23 = .ok (.istore 5, 2) := by decide +kernel
theorem dX6_subtractWords_25 : decode cX6_subtractWords 25 = .ok (.iload_n 0, 1) := by decide +kernel
theorem dX6_subtractWords_26 : decode cX6_subtractWords 26 = .ok (.iload_n 1, 1) := by decide +kernel
theorem dX6_subtractWords_27 : decode cX6_subtractWords 27 = .ok (.ixor, 1) := by decide +kernel
theorem dX6_subtractWords_28 : decode cX6_subtractWords 28 = .ok (.iload_n 0, 1) := by decide +kernel
theorem dX6_subtractWords_29 : decode cX6_subtractWords 29 = .ok (.iload_n 3, 1) := by decide +kernel
theorem dX6_subtractWords_30 : decode cX6_subtractWords 30 = .ok (.ixor, 1) := by decide +kernel
theorem dX6_subtractWords_31 : decode cX6_subtractWords 31 = .ok (.iand, 1) := by decide +kernel
theorem dX6_subtractWords_32 : decode cX6_subtractWords 32 = .ok (.ldc 14, 2) := by decide +kernel
theorem dX6_subtractWords_34 : decode cX6_subtractWords 34 = .ok (.iand, 1) := by decide +kernel
theorem dX6_subtractWords_35 : decode cX6_subtractWords 35 = .ok (.bipush 13, 2) := by decide +kernel
theorem dX6_subtractWords_37 : decode cX6_subtractWords 37 = .ok (.ishr, 1) := by decide +kernel
theorem dX6_subtractWords_38 : decode cX6_subtractWords 38 = .ok (.istore 6, 2) := by decide +kernel
theorem dX6_subtractWords_40 : decode cX6_subtractWords 40 = .ok (.iload_n 3, 1) := by decide +kernel
theorem dX6_subtractWords_41 : decode cX6_subtractWords 41 = .ok (.bipush 16, 2) := by decide +kernel
theorem dX6_subtractWords_43 : decode cX6_subtractWords 43 = .ok (.ishr, 1) := by decide +kernel
theorem dX6_subtractWords_44 : decode cX6_subtractWords 44 = .ok (.iconst 1, 1) := by decide +kernel
theorem dX6_subtractWords_45 : decode cX6_subtractWords 45 = .ok (.iand, 1) := by decide +kernel
theorem dX6_subtractWords_46 : decode cX6_subtractWords 46 = .ok (.istore 7, 2) := by decide +kernel
theorem dX6_subtractWords_48 : decode cX6_subtractWords 48 = .ok (.iload 4, 2) := by decide +kernel
theorem dX6_subtractWords_50 : decode cX6_subtractWords 50 = .ok (.bipush 8, 2) := by decide +kernel
theorem dX6_subtractWords_52 : decode cX6_subtractWords 52 = .ok (.ishl, 1) := by decide +kernel
theorem dX6_subtractWords_53 : decode cX6_subtractWords 53 = .ok (.iload 4, 2) := by decide +kernel
theorem dX6_subtractWords_55 : decode cX6_subtractWords 55 = .ok (.invokestatic 15, 3) := by decide +kernel
theorem dX6_subtractWords_58 : decode cX6_subtractWords 58 = .ok (.ior, 1) := by decide +kernel
theorem dX6_subtractWords_59 : decode cX6_subtractWords 59 = .ok (.iload 5, 2) := by decide +kernel
theorem dX6_subtractWords_61 : decode cX6_subtractWords 61 = .ok (.ior, 1) := by decide +kernel
theorem dX6_subtractWords_62 : decode cX6_subtractWords 62 = .ok (.iload 6, 2) := by decide +kernel
theorem dX6_subtractWords_64 : decode cX6_subtractWords 64 = .ok (.ior, 1) := by decide +kernel
theorem dX6_subtractWords_65 : decode cX6_subtractWords 65 = .ok (.iconst 2, 1) := by decide +kernel
theorem dX6_subtractWords_66 : decode cX6_subtractWords 66 = .ok (.ior, 1) := by decide +kernel
theorem dX6_subtractWords_67 : decode cX6_subtractWords 67 = .ok (.iload 7, 2) := by decide +kernel
theorem dX6_subtractWords_69 : decode cX6_subtractWords 69 = .ok (.ior, 1) := by decide +kernel
theorem dX6_subtractWords_70 : decode cX6_subtractWords 70 = .ok (.ireturn, 1) := by decide +kernel
theorem dX9_wordsWithCarry_0 : decode cX9_wordsWithCarry 0 = .ok (.aload_n 0, 1) := by decide +kernel
theorem dX9_wordsWithCarry_1 : decode cX9_wordsWithCarry 1 = .ok (.getfield 54, 3) := by decide +kernel
theorem dX9_wordsWithCarry_4 : decode cX9_wordsWithCarry 4 = .ok (.iconst 2, 1) := by decide +kernel
theorem dX9_wordsWithCarry_5 : decode cX9_wordsWithCarry 5 = .ok (.invokevirtual 175, 3) := by decide +kernel
theorem dX9_wordsWithCarry_8 : decode cX9_wordsWithCarry 8 = .ok (.istore_n 2, 1) := by decide +kernel
theorem dX9_wordsWithCarry_9 : decode cX9_wordsWithCarry 9 = .ok (.aload_n 0, 1) := by decide +kernel
theorem dX9_wordsWithCarry_10 : decode cX9_wordsWithCarry 10 = .ok (.iload_n 1, 1) := by decide +kernel
theorem dX9_wordsWithCarry_11 : decode cX9_wordsWithCarry 11 = .ok (.iconst 4, 1) := by decide +kernel
theorem dX9_wordsWithCarry_12 : decode cX9_wordsWithCarry 12 = .ok (.ishr, 1) := by decide +kernel
theorem dX9_wordsWithCarry_13 : decode cX9_wordsWithCarry 13 = .ok (.iconst 3, 1) := by decide +kernel
theorem dX9_wordsWithCarry_14 : decode cX9_wordsWithCarry 14 = .ok (.iand, 1) := by decide +kernel
theorem dX9_wordsWithCarry_15 : decode cX9_wordsWithCarry 15 = .ok (.invokevirtual 135, 3) := by decide +kernel
theorem dX9_wordsWithCarry_18 : decode cX9_wordsWithCarry 18 = .ok (.istore_n 3, 1) := by decide +kernel
theorem dX9_wordsWithCarry_19 : decode cX9_wordsWithCarry 19 = .ok (.aload_n 0, 1) := by decide +kernel
theorem dX9_wordsWithCarry_20 : decode cX9_wordsWithCarry 20 = .ok (.getfield 61, 3) := by decide +kernel
theorem dX9_wordsWithCarry_23 : decode cX9_wordsWithCarry 23 = .ok (.bipush 6, 2) := by decide +kernel
theorem dX9_wordsWithCarry_25 : decode cX9_wordsWithCarry 25 = .ok (.iaload, 1) := by decide +kernel
theorem dX9_wordsWithCarry_26 : decode cX9_wordsWithCarry 26 = .ok (.iconst 1, 1) := by decide +kernel
theorem dX9_wordsWithCarry_27 : decode cX9_wordsWithCarry 27 = .ok (.iand, 1) := by decide +kernel
theorem dX9_wordsWithCarry_28 : decode cX9_wordsWithCarry 28 = .ok (.istore 4, 2) := by decide +kernel
theorem dX9_wordsWithCarry_30 : decode cX9_wordsWithCarry 30 = .ok (.iload_n 1, 1) := by decide +kernel
theorem dX9_wordsWithCarry_31 : decode cX9_wordsWithCarry 31 = .ok (.bipush 8, 2) := by decide +kernel
theorem dX9_wordsWithCarry_33 : decode cX9_wordsWithCarry 33 = .ok (.iand, 1) := by decide +kernel
theorem dX9_wordsWithCarry_34 : decode cX9_wordsWithCarry 34 = .ok (.ifCond .ne 13, 3) := by decide +kernel
theorem dX9_wordsWithCarry_37 : decode cX9_wordsWithCarry 37 = .ok (.iload_n 2, 1) := by decide +kernel
theorem dX9_wordsWithCarry_38 : decode cX9_wordsWithCarry 38 = .ok (.iload_n 3, 1) := by decide +kernel
theorem dX9_wordsWithCarry_39 : decode cX9_wordsWithCarry 39 = .ok (.iload 4, 2) := by decide +kernel
theorem dX9_wordsWithCarry_41 : decode cX9_wordsWithCarry 41 = .ok (.invokestatic 242, 3) := by decide +kernel
theorem dX9_wordsWithCarry_44 : decode cX9_wordsWithCarry 44 = .ok (.goto 10, 3) := by decide +kernel
theorem dX9_wordsWithCarry_47 : decode cX9_wordsWithCarry 47 = .ok (.iload_n 2, 1) := by decide +kernel
theorem dX9_wordsWithCarry_48 : decode cX9_wordsWithCarry 48 = .ok (.iload_n 3, 1) := by decide +kernel
theorem dX9_wordsWithCarry_49 : decode cX9_wordsWithCarry 49 = .ok (.iload 4, 2) := by decide +kernel
theorem dX9_wordsWithCarry_51 : decode cX9_wordsWithCarry 51 = .ok (.invokestatic 178, 3) := by decide +kernel
theorem dX9_wordsWithCarry_54 : decode cX9_wordsWithCarry 54 = .ok (.istore 5, 2) := by decide +kernel
theorem dX9_wordsWithCarry_56 : decode cX9_wordsWithCarry 56 = .ok (.aload_n 0, 1) := by decide +kernel
theorem dX9_wordsWithCarry_57 : decode cX9_wordsWithCarry 57 = .ok (.getfield 54, 3) := by decide +kernel
theorem dX9_wordsWithCarry_60 : decode cX9_wordsWithCarry 60 = .ok (.iconst 2, 1) := by decide +kernel
theorem dX9_wordsWithCarry_61 : decode cX9_wordsWithCarry 61 = .ok (.iload 5, 2) := by decide +kernel
theorem dX9_wordsWithCarry_63 : decode cX9_wordsWithCarry 63 = .ok (.bipush 8, 2) := by decide +kernel
theorem dX9_wordsWithCarry_65 : decode cX9_wordsWithCarry 65 = .ok (.ishr, 1) := by decide +kernel
theorem dX9_wordsWithCarry_66 : decode cX9_wordsWithCarry 66 = .ok (.invokevirtual 181, 3) := by decide +kernel
theorem dX9_wordsWithCarry_69 : decode cX9_wordsWithCarry 69 = .ok (.aload_n 0, 1) := by decide +kernel
theorem dX9_wordsWithCarry_70 : decode cX9_wordsWithCarry 70 = .ok (.sipush 215, 3) := by decide +kernel
theorem dX9_wordsWithCarry_73 : decode cX9_wordsWithCarry 73 = .ok (.iload 5, 2) := by decide +kernel
theorem dX9_wordsWithCarry_75 : decode cX9_wordsWithCarry 75 = .ok (.invokevirtual 184, 3) := by decide +kernel
theorem dX9_wordsWithCarry_78 : decode cX9_wordsWithCarry 78 = .ok (.bipush 15, 2) := by decide +kernel
theorem dX9_wordsWithCarry_80 : decode cX9_wordsWithCarry 80 = .ok (.ireturn, 1) := by decide +kernel
theorem dX9_copyByte_0 : decode cX9_copyByte 0 = .ok (.aload_n 0, 1) := by decide +kernel
theorem dX9_copyByte_1 : decode cX9_copyByte 1 = .ok (.getfield 54, 3) := by decide +kernel
theorem dX9_copyByte_4 : decode cX9_copyByte 4 = .ok (.iconst 1, 1) := by decide +kernel
theorem dX9_copyByte_5 : decode cX9_copyByte 5 = .ok (.invokevirtual 175, 3) := by decide +kernel
theorem dX9_copyByte_8 : decode cX9_copyByte 8 = .ok (.istore_n 1, 1) := by decide +kernel
theorem dX9_copyByte_9 : decode cX9_copyByte 9 = .ok (.aload_n 0, 1) := by decide +kernel
theorem dX9_copyByte_10 : decode cX9_copyByte 10 = .ok (.getfield 54, 3) := by decide +kernel
theorem dX9_copyByte_13 : decode cX9_copyByte 13 = .ok (.iconst 2, 1) := by decide +kernel
theorem dX9_copyByte_14 : decode cX9_copyByte 14 = .ok (.invokevirtual 175, 3) := by decide +kernel
theorem dX9_copyByte_17 : decode cX9_copyByte 17 = .ok (.istore_n 2, 1) := by decide +kernel
theorem dX9_copyByte_18 : decode cX9_copyByte 18 = .ok (.aload_n 0, 1) := by decide +kernel
theorem dX9_copyByte_19 : decode cX9_copyByte 19 = .ok (.getfield 42, 3) := by decide +kernel
theorem dX9_copyByte_22 : decode cX9_copyByte 22 = .ok (.iload_n 1, 1) := by decide +kernel
theorem dX9_copyByte_23 : decode cX9_copyByte 23 = .ok (.aload_n 0, 1) := by decide +kernel
theorem dX9_copyByte_24 : decode cX9_copyByte 24 = .ok (.getfield 42, 3) := by decide +kernel
