theorem dX12_outTo_37 : decode cX12_outTo 37 = .ok (.goto 61, 3) := by decide +kernel
theorem dX12_outTo_40 : decode cX12_outTo 40 = .ok (.iload_n 1, 1) := by decide +kernel
theorem dX12_outTo_41 : decode cX12_outTo 41 = .ok (.bipush 6, 2) := by decide +kernel
theorem dX12_outTo_43 : decode cX12_outTo 43 = .ok (.if_icmp .ge 55, 3) := by decide +kernel
theorem dX12_outTo_46 : decode cX12_outTo 46 = .ok (.aload_n 0, 1) := by decide +kernel
theorem dX12_outTo_47 : decode cX12_outTo 47 = .ok (.getfield 79, 3) := by decide +kernel
theorem dX12_outTo_50 : decode cX12_outTo 50 = .ok (.iload_n 1, 1) := by decide +kernel
theorem dX12_outTo_51 : decode cX12_outTo 51 = .ok (.iconst 2, 1) := by decide +kernel
theorem dX12_outTo_52 : decode cX12_outTo 52 = .ok (.idiv, 1) := by decide +kernel
theorem dX12_outTo_53 : decode cX12_outTo 53 = .ok (.iconst 1, 1) := by decide +kernel
theorem dX12_outTo_54 : decode cX12_outTo 54 = .ok (.isub, 1) := by decide +kernel
theorem dX12_outTo_55 : decode cX12_outTo 55 = .ok (.iload_n 2, 1) := by decide +kernel
theorem dX12_outTo_56 : decode cX12_outTo 56 = .ok (.iastore, 1) := by decide +kernel
theorem dX12_outTo_57 : decode cX12_outTo 57 = .ok (.aload_n 0, 1) := by decide +kernel
theorem dX12_outTo_58 : decode cX12_outTo 58 = .ok (.getfield 76, 3) := by decide +kernel
theorem dX12_outTo_61 : decode cX12_outTo 61 = .ok (.iload_n 1, 1) := by decide +kernel
theorem dX12_outTo_62 : decode cX12_outTo 62 = .ok (.iconst 2, 1) := by decide +kernel
theorem dX12_outTo_63 : decode cX12_outTo 63 = .ok (.idiv, 1) := by decide +kernel
theorem dX12_outTo_64 : decode cX12_outTo 64 = .ok (.iconst 1, 1) := by decide +kernel
theorem dX12_outTo_65 : decode cX12_outTo 65 = .ok (.isub, 1) := by decide +kernel
theorem dX12_outTo_66 : decode cX12_outTo 66 = .ok (.aload_n 0, 1) := by decide +kernel
theorem dX12_outTo_67 : decode cX12_outTo 67 = .ok (.getfield 76, 3) := by decide +kernel
theorem dX12_outTo_70 : decode cX12_outTo 70 = .ok (.iload_n 1, 1) := by decide +kernel
theorem dX12_outTo_71 : decode cX12_outTo 71 = .ok (.iconst 2, 1) := by decide +kernel
theorem dX12_outTo_72 : decode cX12_outTo 72 = .ok (.idiv, 1) := by decide +kernel
theorem dX12_outTo_73 : decode cX12_outTo 73 = .ok (.iconst 1, 1) := by decide +kernel
theorem dX12_outTo_74 : decode cX12_outTo 74 = .ok (.isub, 1) := by decide +kernel
theorem dX12_outTo_75 : decode cX12_outTo 75 = .ok (.baload, 1) := by decide +kernel
theorem dX12_outTo_76 : decode cX12_outTo 76 = .ok (.ifCond .ne 16, 3) := by decide +kernel
theorem dX12_outTo_79 : decode cX12_outTo 79 = .ok (.aload_n 0, 1) := by decide +kernel
theorem dX12_outTo_80 : decode cX12_outTo 80 = .ok (.getfield 55, 3) := by decide +kernel
theorem dX12_outTo_83 : decode cX12_outTo 83 = .ok (.iload_n 1, 1) := by decide +kernel
theorem dX12_outTo_84 : decode cX12_outTo 84 = .ok (.iconst 2, 1) := by decide +kernel
theorem dX12_outTo_85 : decode cX12_outTo 85 = .ok (.idiv, 1) := by decide +kernel
theorem dX12_outTo_86 : decode cX12_outTo 86 = .ok (.iconst 1, 1) := by decide +kernel
theorem dX12_outTo_87 : decode cX12_outTo 87 = .ok (.isub, 1) := by decide +kernel
theorem dX12_outTo_88 : decode cX12_outTo 88 = .ok (.iaload, 1) := by decide +kernel
theorem dX12_outTo_89 : decode cX12_outTo 89 = .ok (.ifCond .ne 7, 3) := by decide +kernel
theorem dX12_outTo_92 : decode cX12_outTo 92 = .ok (.iconst 1, 1) := by decide +kernel
theorem dX12_outTo_93 : decode cX12_outTo 93 = .ok (.goto 4, 3) := by decide +kernel
theorem dX12_outTo_96 : decode cX12_outTo 96 = .ok (.iconst 0, 1) := by decide +kernel
theorem dX12_outTo_97 : decode cX12_outTo 97 = .ok (.bastore, 1) := by decide +kernel
theorem dX12_outTo_98 : decode cX12_outTo 98 = .ok (.return_, 1) := by decide +kernel
theorem dX12_inFrom_0 : decode cX12_inFrom 0 = .ok (.iload_n 1, 1) := by decide +kernel
theorem dX12_inFrom_1 : decode cX12_inFrom 1 = .ok (.iconst 2, 1) := by decide +kernel
theorem dX12_inFrom_2 : decode cX12_inFrom 2 = .ok (.if_icmp .ge 14, 3) := by decide +kernel
theorem dX12_inFrom_5 : decode cX12_inFrom 5 = .ok (.aload_n 0, 1) := by decide +kernel
theorem dX12_inFrom_6 : decode cX12_inFrom 6 = .ok (.getfield 37, 3) := by decide +kernel
theorem dX12_inFrom_9 : decode cX12_inFrom 9 = .ok (.iload_n 1, 1) := by decide +kernel
theorem dX12_inFrom_10 : decode cX12_inFrom 10 = .ok (.iaload, 1) := by decide +kernel
theorem dX12_inFrom_11 : decode cX12_inFrom 11 = .ok (.sipush 255, 3) := by decide +kernel
theorem dX12_inFrom_14 : decode cX12_inFrom 14 = .ok (.iand, 1) := by decide +kernel
theorem dX12_inFrom_15 : decode cX12_inFrom 15 = .ok (.ireturn, 1) := by decide +kernel
theorem dX12_inFrom_16 : decode cX12_inFrom 16 = .ok (.iload_n 1, 1) := by decide +kernel
theorem dX12_inFrom_17 : decode cX12_inFrom 17 = .ok (.iconst 5, 1) := by decide +kernel
theorem dX12_inFrom_18 : decode cX12_inFrom 18 = .ok (.if_icmp .gt 10, 3) := by decide +kernel
theorem dX12_inFrom_21 : decode cX12_inFrom 21 = .ok (.iload_n 1, 1) := by decide +kernel
theorem dX12_inFrom_22 : decode cX12_inFrom 22 = .ok (.iconst 2, 1) := by decide +kernel
theorem dX12_inFrom_23 : decode cX12_inFrom 23 = .ok (.irem, 1) := by decide +kernel
theorem dX12_inFrom_24 : decode cX12_inFrom 24 = .ok (.iconst 1, 1) := by decide +kernel
theorem dX12_inFrom_25 : decode cX12_inFrom 25 = .ok (.if_icmp .ne 7, 3) := by decide +kernel
theorem dX12_inFrom_28 : decode cX12_inFrom 28 = .ok (.sipush 255, 3) := by decide +kernel
theorem dX12_inFrom_31 : decode cX12_inFrom 31 = .ok (.ireturn, 1) := by decide +kernel
theorem dX12_inFrom_32 : decode cX12_inFrom 32 = .ok (.iload_n 1, 1) := by decide +kernel
theorem dX12_inFrom_33 : decode cX12_inFrom 33 = .ok (.iconst 2, 1) := by decide +kernel
theorem dX12_inFrom_34 : decode cX12_inFrom 34 = .ok (.idiv, 1) := by decide +kernel
theorem dX12_inFrom_35 : decode cX12_inFrom 35 = .ok (.iconst 1, 1) := by decide +kernel
theorem dX12_inFrom_36 : decode cX12_inFrom 36 = .ok (.isub, 1) := by decide +kernel
theorem dX12_inFrom_37 : decode cX12_inFrom 37 = .ok (.istore_n 2, 1) := by decide +kernel
theorem dX12_inFrom_38 : decode cX12_inFrom 38 = .ok (.aload_n 0, 1) := by decide +kernel
theorem dX12_inFrom_39 : decode cX12_inFrom 39 = .ok (.getfield 55, 3) := by decide +kernel
theorem dX12_inFrom_42 : decode cX12_inFrom 42 = .ok (.iload_n 2, 1) := by decide +kernel
theorem dX12_inFrom_43 : decode cX12_inFrom 43 = .ok (.iaload, 1) := by decide +kernel
theorem dX12_inFrom_44 : decode cX12_inFrom 44 = .ok (.iconst 1, 1) := by decide +kernel
theorem dX12_inFrom_45 : decode cX12_inFrom 45 = .ok (.if_icmp .ne 17, 3) := by decide +kernel
theorem dX12_inFrom_48 : decode cX12_inFrom 48 = .ok (.aload_n 0, 1) := by decide +kernel
theorem dX12_inFrom_49 : decode cX12_inFrom 49 = .ok (.getfield 76, 3) := by decide +kernel
theorem dX12_inFrom_52 : decode cX12_inFrom 52 = .ok (.iload_n 2, 1) := by decide +kernel
theorem dX12_inFrom_53 : decode cX12_inFrom 53 = .ok (.iconst 1, 1) := by decide +kernel
theorem dX12_inFrom_54 : decode cX12_inFrom 54 = .ok (.bastore, 1) := by decide +kernel
theorem dX12_inFrom_55 : decode cX12_inFrom 55 = .ok (.aload_n 0, 1) := by decide +kernel
theorem dX12_inFrom_56 : decode cX12_inFrom 56 = .ok (.getfield 82, 3) := by decide +kernel
theorem dX12_inFrom_59 : decode cX12_inFrom 59 = .ok (.iload_n 2, 1) := by decide +kernel
theorem dX12_inFrom_60 : decode cX12_inFrom 60 = .ok (.iaload, 1) := by decide +kernel
theorem dX12_inFrom_61 : decode cX12_inFrom 61 = .ok (.ireturn, 1) := by decide +kernel
theorem dX12_inFrom_62 : decode cX12_inFrom 62 = .ok (.aload_n 0, 1) := by decide +kernel
theorem dX12_inFrom_63 : decode cX12_inFrom 63 = .ok (.getfield 55, 3) := by decide +kernel
theorem dX12_inFrom_66 : decode cX12_inFrom 66 = .ok (.iload_n 2, 1) := by decide +kernel
theorem dX12_inFrom_67 : decode cX12_inFrom 67 = .ok (.iaload, 1) := by decide +kernel
theorem dX12_inFrom_68 : decode cX12_inFrom 68 = .ok (.ifCond .ne 12, 3) := by decide +kernel
theorem dX12_inFrom_71 : decode cX12_inFrom 71 = .ok (.aload_n 0, 1) := by decide +kernel
theorem dX12_inFrom_72 : decode cX12_inFrom 72 = .ok (.getfield 79, 3) := by decide +kernel
theorem dX12_inFrom_75 : decode cX12_inFrom 75 = .ok (.iload_n 2, 1) := by decide +kernel
theorem dX12_inFrom_76 : decode cX12_inFrom 76 = .ok (.iaload, 1) := by decide +kernel
theorem dX12_inFrom_77 : decode cX12_inFrom 77 = .ok (.goto 32, 3) := by decide +kernel
theorem dX12_inFrom_80 : decode cX12_inFrom 80 = .ok (.aload_n 0, 1) := by decide +kernel
theorem dX12_inFrom_81 : decode cX12_inFrom 81 = .ok (.getfield 85, 3) := by decide +kernel
theorem dX12_inFrom_84 : decode cX12_inFrom 84 = .ok (.iload_n 2, 1) := by decide +kernel
theorem dX12_inFrom_85 : decode cX12_inFrom 85 = .ok (.iaload, 1) := by decide +kernel
theorem dX12_inFrom_86 : decode cX12_inFrom 86 = .ok (.aload_n 0, 1) := by decide +kernel
theorem dX12_inFrom_87 : decode cX12_inFrom 87 = .ok (.getfield 64, 3) := by decide +kernel
theorem dX12_inFrom_90 : decode cX12_inFrom 90 = .ok (.iload_n 2, 1) := by decide +kernel
theorem dX12_inFrom_91 : decode cX12_inFrom 91 = .ok (.iaload, 1) := by decide +kernel
theorem dX12_inFrom_92 : decode cX12_inFrom 92 = .ok (.iand, 1) := by decide +kernel
theorem dX12_inFrom_93 : decode cX12_inFrom 93 = .ok (.aload_n 0, 1) := by decide +kernel
theorem dX12_inFrom_94 : decode cX12_inFrom 94 = .ok (.getfield 79, 3) := by decide +kernel
theorem dX12_inFrom_97 : decode cX12_inFrom 97 = .ok (.iload_n 2, 1) := by decide +kernel
theorem dX12_inFrom_98 : decode cX12_inFrom 98 = .ok (.iaload, 1) := by decide +kernel
theorem dX12_inFrom_99 : decode cX12_inFrom 99 = .ok (.aload_n 0, 1) := by decide +kernel
theorem dX12_inFrom_100 : decode cX12_inFrom 100 = .ok (.getfield 64, 3) := by decide +kernel
theorem dX12_inFrom_103 : decode cX12_inFrom 103 = .ok (.iload_n 2, 1) := by decide +kernel
theorem dX12_inFrom_104 : decode cX12_inFrom 104 = .ok (.iaload, 1) := by decide +kernel
theorem dX12_inFrom_105 : decode cX12_inFrom 105 = .ok (.iconst (-1), 1) := by decide +kernel
theorem dX12_inFrom_106 : decode cX12_inFrom 106 = .ok (.ixor, 1) := by decide +kernel
theorem dX12_inFrom_107 : decode cX12_inFrom 107 = .ok (.iand, 1) := by decide +kernel
theorem dX12_inFrom_108 : decode cX12_inFrom 108 = .ok (.ior, 1) := by decide +kernel
theorem dX12_inFrom_109 : decode cX12_inFrom 109 = .ok (.ireturn, 1) := by decide +kernel
theorem dX12_others_0 : decode cX12_others 0 = .ok (.iload_n 1, 1) := by decide +kernel
theorem dX12_others_1 : decode cX12_others 1 = .ok (.ifCond .ne 14, 3) := by decide +kernel
theorem dX12_others_4 : decode cX12_others 4 = .ok (.aload_n 0, 1) := by decide +kernel
theorem dX12_others_5 : decode cX12_others 5 = .ok (.aload_n 0, 1) := by decide +kernel
theorem dX12_others_6 : decode cX12_others 6 = .ok (.invokevirtual 182, 3) := by decide +kernel
theorem dX12_others_9 : decode cX12_others 9 = .ok (.putfield 102, 3) := by decide +kernel
theorem dX12_others_12 : decode cX12_others 12 = .ok (.bipush 10, 2) := by decide +kernel
theorem dX12_others_14 : decode cX12_others 14 = .ok (.ireturn, 1) := by decide +kernel
theorem dX12_others_15 : decode cX12_others 15 = .ok (.iload_n 1, 1) := by decide +kernel
theorem dX12_others_16 : decode cX12_others 16 = .ok (.iconst 1, 1) := by decide +kernel
theorem dX12_others_17 : decode cX12_others 17 = .ok (.if_icmp .ne 8, 3) := by decide +kernel
theorem dX12_others_20 : decode cX12_others 20 = .ok (.aload_n 0, 1) := by decide +kernel
theorem dX12_others_21 : decode cX12_others 21 = .ok (.invokevirtual 234, 3) := by decide +kernel
theorem dX12_others_24 : decode cX12_others 24 = .ok (.ireturn, 1) := by decide +kernel
theorem dX12_others_25 : decode cX12_others 25 = .ok (.iload_n 1, 1) := by decide +kernel
theorem dX12_others_26 : decode cX12_others 26 = .ok (.iconst 2, 1) := by decide +kernel
theorem dX12_others_27 : decode cX12_others 27 = .ok (.if_icmp .eq 8, 3) := by decide +kernel
theorem dX12_others_30 : decode cX12_others 30 = .ok (.iload_n 1, 1) := by decide +kernel
theorem dX12_others_31 : decode cX12_others 31 = .ok (.iconst 3, 1) := by decide +kernel
theorem dX12_others_32 : decode cX12_others 32 = .ok (.if_icmp .ne 43, 3) := by decide +kernel
theorem dX12_others_35 : decode cX12_others 35 = .ok (.aload_n 0, 1) := by decide +kernel
theorem dX12_others_36 : decode cX12_others 36 = .ok (.invokevirtual 105, 3) := by decide +kernel
theorem dX12_others_39 : decode cX12_others 39 = .ok (.istore_n 2, 1) := by decide +kernel
theorem dX12_others_40 : decode cX12_others 40 = .ok (.iload_n 1, 1) := by decide +kernel
theorem dX12_others_41 : decode cX12_others 41 = .ok (.iconst 2, 1) := by decide +kernel
theorem dX12_others_42 : decode cX12_others 42 = .ok (.if_icmp .ne 18, 3) := by decide +kernel
theorem dX12_others_45 : decode cX12_others 45 = .ok (.aload_n 0, 1) := by decide +kernel
theorem dX12_others_46 : decode cX12_others 46 = .ok (.iload_n 2, 1) := by decide +kernel
theorem dX12_others_47 : decode cX12_others 47 = .ok (.aload_n 0, 1) := by decide +kernel
theorem dX12_others_48 : decode cX12_others 48 = .ok (.getfield 13, 3) := by decide +kernel
theorem dX12_others_51 : decode cX12_others 51 = .ok (.bipush 7, 2) := by decide +kernel
theorem dX12_others_53 : decode cX12_others 53 = .ok (.iaload, 1) := by decide +kernel
theorem dX12_others_54 : decode cX12_others 54 = .ok (.invokevirtual 237, 3) := by decide +kernel
theorem dX12_others_57 : decode cX12_others 57 = .ok (.goto 15, 3) := by decide +kernel
theorem dX12_others_60 : decode cX12_others 60 = .ok (.aload_n 0, 1) := by decide +kernel
theorem dX12_others_61 : decode cX12_others 61 = .ok (.getfield 13, 3) := by decide +kernel
theorem dX12_others_64 : decode cX12_others 64 = .ok (.bipush 7, 2) := by decide +kernel
theorem dX12_others_66 : decode cX12_others 66 = .ok (.aload_n 0, 1) := by decide +kernel
theorem dX12_others_67 : decode cX12_others 67 = .ok (.iload_n 2, 1) := by decide +kernel
theorem dX12_others_68 : decode cX12_others 68 = .ok (.invokevirtual 240, 3) := by decide +kernel
theorem dX12_others_71 : decode cX12_others 71 = .ok (.iastore, 1) := by decide +kernel
theorem dX12_others_72 : decode cX12_others 72 = .ok (.bipush 11, 2) := by decide +kernel
theorem dX12_others_74 : decode cX12_others 74 = .ok (.ireturn, 1) := by decide +kernel
theorem dX12_others_75 : decode cX12_others 75 = .ok (.iload_n 1, 1) := by decide +kernel
theorem dX12_others_76 : decode cX12_others 76 = .ok (.iconst 4, 1) := by decide +kernel
theorem dX12_others_77 : decode cX12_others 77 = .ok (.if_icmp .ne 34, 3) := by decide +kernel
theorem dX12_others_80 : decode cX12_others 80 = .ok (.aload_n 0, 1) := by decide +kernel
theorem dX12_others_81 : decode cX12_others 81 = .ok (.aload_n 0, 1) := by decide +kernel
theorem dX12_others_82 : decode cX12_others 82 = .ok (.getfield 17, 3) := by decide +kernel
theorem dX12_others_85 : decode cX12_others 85 = .ok (.invokevirtual 118, 3) := by decide +kernel
theorem dX12_others_88 : decode cX12_others 88 = .ok (.istore_n 2, 1) := by decide +kernel
theorem dX12_others_89 : decode cX12_others 89 = .ok (.aload_n 0, 1) := by decide +kernel
theorem dX12_others_90 : decode cX12_others 90 = .ok (.aload_n 0, 1) := by decide +kernel
theorem dX12_others_91 : decode cX12_others 91 = .ok (.getfield 17, 3) := by decide +kernel
theorem dX12_others_94 : decode cX12_others 94 = .ok (.aload_n 0, 1) := by decide +kernel
theorem dX12_others_95 : decode cX12_others 95 = .ok (.iconst 4, 1) := by decide +kernel
theorem dX12_others_96 : decode cX12_others 96 = .ok (.invokevirtual 109, 3) := by decide +kernel
theorem dX12_others_99 : decode cX12_others 99 = .ok (.invokevirtual 115, 3) := by decide +kernel
theorem dX12_others_102 : decode cX12_others 102 = .ok (.aload_n 0, 1) := by decide +kernel
theorem dX12_others_103 : decode cX12_others 103 = .ok (.iconst 4, 1) := by decide +kernel
theorem dX12_others_104 : decode cX12_others 104 = .ok (.iload_n 2, 1) := by decide +kernel
theorem dX12_others_105 : decode cX12_others 105 = .ok (.invokevirtual 112, 3) := by decide +kernel
theorem dX12_others_108 : decode cX12_others 108 = .ok (.bipush 19, 2) := by decide +kernel
theorem dX12_others_110 : decode cX12_others 110 = .ok (.ireturn, 1) := by decide +kernel
theorem dX12_others_111 : decode cX12_others 111 = .ok (.iload_n 1, 1) := by decide +kernel
theorem dX12_others_112 : decode cX12_others 112 = .ok (.iconst 5, 1) := by decide +kernel
theorem dX12_others_113 : decode cX12_others 113 = .ok (.if_icmp .ne 28, 3) := by decide +kernel
theorem dX12_others_116 : decode cX12_others 116 = .ok (.aload_n 0, 1) := by decide +kernel
theorem dX12_others_117 : decode cX12_others 117 = .ok (.iconst 2, 1) := by decide +kernel
theorem dX12_others_118 : decode cX12_others 118 = .ok (.invokevirtual 109, 3) := by decide +kernel
theorem dX12_others_121 : decode cX12_others 121 = .ok (.istore_n 2, 1) := by decide +kernel
theorem dX12_others_122 : decode cX12_others 122 = .ok (.aload_n 0, 1) := by decide +kernel
theorem dX12_others_123 : decode cX12_others 123 = .ok (.iconst 2, 1) := by decide +kernel
theorem dX12_others_124 : decode cX12_others 124 = .ok (.aload_n 0, 1) := by decide +kernel
theorem dX12_others_125 : decode cX12_others 125 = .ok (.iconst 4, 1) := by decide +kernel
theorem dX12_others_126 : decode cX12_others 126 = .ok (.invokevirtual 109, 3) := by decide +kernel
theorem dX12_others_129 : decode cX12_others 129 = .ok (.invokevirtual 112, 3) := by decide +kernel
theorem dX12_others_132 : decode cX12_others 132 = .ok (.aload_n 0, 1) := by decide +kernel
theorem dX12_others_133 : decode cX12_others 133 = .ok (.iconst 4, 1) := by decide +kernel
theorem dX12_others_134 : decode cX12_others 134 = .ok (.iload_n 2, 1) := by decide +kernel
theorem dX12_others_135 : decode cX12_others 135 = .ok (.invokevirtual 112, 3) := by decide +kernel
theorem dX12_others_138 : decode cX12_others 138 = .ok (.goto 18, 3) := by decide +kernel
theorem dX12_others_141 : decode cX12_others 141 = .ok (.aload_n 0, 1) := by decide +kernel
theorem dX12_others_142 : decode cX12_others 142 = .ok (.iload_n 1, 1) := by decide +kernel
theorem dX12_others_143 : decode cX12_others 143 = .ok (.bipush 7, 2) := by decide +kernel
theorem dX12_others_145 : decode cX12_others 145 = .ok (.if_icmp .ne 7, 3) := by decide +kernel
theorem dX12_others_148 : decode cX12_others 148 = .ok (.iconst 1, 1) := by decide +kernel
theorem dX12_others_149 : decode cX12_others 149 = .ok (.goto 4, 3) := by decide +kernel
theorem dX12_others_152 : decode cX12_others 152 = .ok (.iconst 0, 1) := by decide +kernel
theorem dX12_others_153 : decode cX12_others 153 = .ok (.putfield 243, 3) := by decide +kernel
theorem dX12_others_156 : decode cX12_others 156 = .ok (.iconst 4, 1) := by decide +kernel
theorem dX12_others_157 : decode cX12_others 157 = .ok (.ireturn, 1) := by decide +kernel
theorem dX12_logicFlags_0 : decode cX12_logicFlags 0 = .ok (.aload_n 0, 1) := by decide +kernel
theorem dX12_logicFlags_1 : decode cX12_logicFlags 1 = .ok (.getfield 13, 3) := by decide +kernel
theorem dX12_logicFlags_4 : decode cX12_logicFlags 4 = .ok (.bipush 6, 2) := by decide +kernel
theorem dX12_logicFlags_6 : decode cX12_logicFlags 6 = .ok (.iconst 0, 1) := by decide +kernel
theorem dX12_logicFlags_7 : decode cX12_logicFlags 7 = .ok (.iastore, 1) := by decide +kernel
theorem dX12_logicFlags_8 : decode cX12_logicFlags 8 = .ok (.aload_n 0, 1) := by decide +kernel
theorem dX12_logicFlags_9 : decode cX12_logicFlags 9 = .ok (.iload_n 1, 1) := by decide +kernel
theorem dX12_logicFlags_10 : decode cX12_logicFlags 10 = .ok (.invokevirtual 143, 3) := by decide +kernel
theorem dX12_logicFlags_13 : decode cX12_logicFlags 13 = .ok (.aload_n 0, 1) := by decide +kernel
theorem dX12_logicFlags_14 : decode cX12_logicFlags 14 = .ok (.bipush 16, 2) := by decide +kernel
theorem dX12_logicFlags_16 : decode cX12_logicFlags 16 = .ok (.iload_n 2, 1) := by decide +kernel
theorem dX12_logicFlags_17 : decode cX12_logicFlags 17 = .ok (.invokevirtual 139, 3) := by decide +kernel
theorem dX12_logicFlags_20 : decode cX12_logicFlags 20 = .ok (.aload_n 0, 1) := by decide +kernel
theorem dX12_logicFlags_21 : decode cX12_logicFlags 21 = .ok (.iconst 1, 1) := by decide +kernel
theorem dX12_logicFlags_22 : decode cX12_logicFlags 22 = .ok (.iload_n 3, 1) := by decide +kernel
theorem dX12_logicFlags_23 : decode cX12_logicFlags 23 = .ok (.invokevirtual 139, 3) := by decide +kernel
theorem dX12_logicFlags_26 : decode cX12_logicFlags 26 = .ok (.return_, 1) := by decide +kernel
theorem dX12_operate_0 : decode cX12_operate 0 = .ok (.iload_n 1, 1) := by decide +kernel
theorem dX12_operate_1 : decode cX12_operate 1 = .ok (.iconst 1, 1) := by decide +kernel
theorem dX12_operate_2 : decode cX12_operate 2 = .ok (.if_icmp .eq 8, 3) := by decide +kernel
theorem dX12_operate_5 : decode cX12_operate 5 = .ok (.iload_n 1, 1) := by decide +kernel
theorem dX12_operate_6 : decode cX12_operate 6 = .ok (.iconst 3, 1) := by decide +kernel
theorem dX12_operate_7 : decode cX12_operate 7 = .ok (.if_icmp .ne 15, 3) := by decide +kernel
theorem dX12_operate_10 : decode cX12_operate 10 = .ok (.aload_n 0, 1) := by decide +kernel
theorem dX12_operate_11 : decode cX12_operate 11 = .ok (.iconst 1, 1) := by decide +kernel
theorem dX12_operate_12 : decode cX12_operate 12 = .ok (.invokevirtual 121, 3) := by decide +kernel
theorem dX12_operate_15 : decode cX12_operate 15 = .ok (.ifCond .eq 7, 3) := by decide +kernel
theorem dX12_operate_18 : decode cX12_operate 18 = .ok (.iconst 1, 1) := by decide +kernel
theorem dX12_operate_19 : decode cX12_operate 19 = .ok (.goto 4, 3) := by decide +kernel
theorem dX12_operate_22 : decode cX12_operate 22 = .ok (.iconst 0, 1) := by decide +kernel
theorem dX12_operate_23 : decode cX12_operate 23 = .ok (.istore_n 3, 1) := by decide +kernel
theorem dX12_operate_24 : decode cX12_operate 24 = .ok (.iload_n 1, 1) := by decide +kernel
theorem dX12_operate_25 : decode cX12_operate 25 = .ok (.iconst 2, 1) := by decide +kernel
theorem dX12_operate_26 : decode cX12_operate 26 = .ok (.if_icmp .ge 51, 3) := by decide +kernel
theorem dX12_operate_29 : decode cX12_operate 29 = .ok (.aload_n 0, 1) := by decide +kernel
theorem dX12_operate_30 : decode cX12_operate 30 = .ok (.getfield 13, 3) := by decide +kernel
theorem dX12_operate_33 : decode cX12_operate 33 = .ok (.bipush 7, 2) := by decide +kernel
theorem dX12_operate_35 : decode cX12_operate 35 = .ok (.aload_n 0, 1) := by decide +kernel
theorem dX12_operate_36 : decode cX12_operate 36 = .ok (.aload_n 0, 1) := by decide +kernel
theorem dX12_operate_37 : decode cX12_operate 37 = .ok (.getfield 13, 3) := by decide +kernel
theorem dX12_operate_40 : decode cX12_operate 40 = .ok (.bipush 7, 2) := by decide +kernel
theorem dX12_operate_42 : decode cX12_operate 42 = .ok (.iaload, 1) := by decide +kernel
theorem dX12_operate_43 : decode cX12_operate 43 = .ok (.iload_n 2, 1) := by decide +kernel
theorem dX12_operate_44 : decode cX12_operate 44 = .ok (.iload_n 3, 1) := by decide +kernel
theorem dX12_operate_45 : decode cX12_operate 45 = .ok (.bipush 8, 2) := by decide +kernel
theorem dX12_operate_47 : decode cX12_operate 47 = .ok (.invokevirtual 135, 3) := by decide +kernel
theorem dX12_operate_50 : decode cX12_operate 50 = .ok (.iastore, 1) := by decide +kernel
theorem dX12_operate_51 : decode cX12_operate 51 = .ok (.aload_n 0, 1) := by decide +kernel
theorem dX12_operate_52 : decode cX12_operate 52 = .ok (.aload_n 0, 1) := by decide +kernel
theorem dX12_operate_53 : decode cX12_operate 53 = .ok (.getfield 13, 3) := by decide +kernel
theorem dX12_operate_56 : decode cX12_operate 56 = .ok (.bipush 7, 2) := by decide +kernel
theorem dX12_operate_58 : decode cX12_operate 58 = .ok (.iaload, 1) := by decide +kernel
theorem dX12_operate_59 : decode cX12_operate 59 = .ok (.bipush 8, 2) := by decide +kernel
theorem dX12_operate_61 : decode cX12_operate 61 = .ok (.iconst 0, 1) := by decide +kernel
theorem dX12_operate_62 : decode cX12_operate 62 = .ok (.invokevirtual 150, 3) := by decide +kernel
theorem dX12_operate_65 : decode cX12_operate 65 = .ok (.aload_n 0, 1) := by decide +kernel
theorem dX12_operate_66 : decode cX12_operate 66 = .ok (.iconst 1, 1) := by decide +kernel
theorem dX12_operate_67 : decode cX12_operate 67 = .ok (.aload_n 0, 1) := by decide +kernel
theorem dX12_operate_68 : decode cX12_operate 68 = .ok (.getfield 132, 3) := by decide +kernel
theorem dX12_operate_71 : decode cX12_operate 71 = .ok (.invokevirtual 139, 3) := by decide +kernel
theorem dX12_operate_74 : decode cX12_operate 74 = .ok (.goto 154, 3) := by decide +kernel
theorem dX12_operate_77 : decode cX12_operate 77 = .ok (.iload_n 1, 1) := by decide +kernel
theorem dX12_operate_78 : decode cX12_operate 78 = .ok (.iconst 2, 1) := by decide +kernel
theorem dX12_operate_79 : decode cX12_operate 79 = .ok (.if_icmp .eq 14, 3) := by decide +kernel
theorem dX12_operate_82 : decode cX12_operate 82 = .ok (.iload_n 1, 1) := by decide +kernel
theorem dX12_operate_83 : decode cX12_operate 83 = .ok (.iconst 3, 1) := by decide +kernel
theorem dX12_operate_84 : decode cX12_operate 84 = .ok (.if_icmp .eq 9, 3) := by decide +kernel
theorem dX12_operate_87 : decode cX12_operate 87 = .ok (.iload_n 1, 1) := by decide +kernel
theorem dX12_operate_88 : decode cX12_operate 88 = .ok (.bipush 7, 2) := by decide +kernel
theorem dX12_operate_90 : decode cX12_operate 90 = .ok (.if_icmp .ne 66, 3) := by decide +kernel
theorem dX12_operate_93 : decode cX12_operate 93 = .ok (.aload_n 0, 1) := by decide +kernel
theorem dX12_operate_94 : decode cX12_operate 94 = .ok (.aload_n 0, 1) := by decide +kernel
theorem dX12_operate_95 : decode cX12_operate 95 = .ok (.getfield 13, 3) := by decide +kernel
theorem dX12_operate_98 : decode cX12_operate 98 = .ok (.bipush 7, 2) := by decide +kernel
theorem dX12_operate_100 : decode cX12_operate 100 = .ok (.iaload, 1) := by decide +kernel
theorem dX12_operate_101 : decode cX12_operate 101 = .ok (.iload_n 2, 1) := by decide +kernel
theorem dX12_operate_102 : decode cX12_operate 102 = .ok (.iload_n 3, 1) := by decide +kernel
theorem dX12_operate_103 : decode cX12_operate 103 = .ok (.bipush 8, 2) := by decide +kernel
theorem dX12_operate_105 : decode cX12_operate 105 = .ok (.invokevirtual 154, 3) := by decide +kernel
theorem dX12_operate_108 : decode cX12_operate 108 = .ok (.istore 4, 2) := by decide +kernel
theorem dX12_operate_110 : decode cX12_operate 110 = .ok (.aload_n 0, 1) := by decide +kernel
theorem dX12_operate_111 : decode cX12_operate 111 = .ok (.iload 4, 2) := by decide +kernel
theorem dX12_operate_113 : decode cX12_operate 113 = .ok (.bipush 8, 2) := by decide +kernel
theorem dX12_operate_115 : decode cX12_operate 115 = .ok (.iconst 1, 1) := by decide +kernel
theorem dX12_operate_116 : decode cX12_operate 116 = .ok (.invokevirtual 150, 3) := by decide +kernel
theorem dX12_operate_119 : decode cX12_operate 119 = .ok (.aload_n 0, 1) := by decide +kernel
theorem dX12_operate_120 : decode cX12_operate 120 = .ok (.iconst 1, 1) := by decide +kernel
theorem dX12_operate_121 : decode cX12_operate 121 = .ok (.aload_n 0, 1) := by decide +kernel
theorem dX12_operate_122 : decode cX12_operate 122 = .ok (.getfield 132, 3) := by decide +kernel
theorem dX12_operate_125 : decode cX12_operate 125 = .ok (.invokevirtual 139, 3) := by decide +kernel
theorem dX12_operate_128 : decode cX12_operate 128 = .ok (.aload_n 0, 1) := by decide +kernel
theorem dX12_operate_129 : decode cX12_operate 129 = .ok (.getfield 13, 3) := by decide +kernel
theorem dX12_operate_132 : decode cX12_operate 132 = .ok (.bipush 7, 2) := by decide +kernel
theorem dX12_operate_134 : decode cX12_operate 134 = .ok (.iload_n 1, 1) := by decide +kernel
theorem dX12_operate_135 : decode cX12_operate 135 = .ok (.bipush 7, 2) := by decide +kernel
theorem dX12_operate_137 : decode cX12_operate 137 = .ok (.if_icmp .ne 13, 3) := by decide +kernel
theorem dX12_operate_140 : decode cX12_operate 140 = .ok (.aload_n 0, 1) := by decide +kernel
theorem dX12_operate_141 : decode cX12_operate 141 = .ok (.getfield 13, 3) := by decide +kernel
theorem dX12_operate_144 : decode cX12_operate 144 = .ok (.bipush 7, 2) := by decide +kernel
theorem dX12_operate_146 : decode cX12_operate 146 = .ok (.iaload, 1) := by decide +kernel
theorem dX12_operate_147 : decode cX12_operate 147 = .ok (.goto 5, 3) := by decide +kernel
theorem dX12_operate_150 : decode cX12_operate 150 = .ok (.iload 4, 2) := by decide +kernel
theorem dX12_operate_152 : decode cX12_operate 152 = .ok (.iastore, 1) := by decide +kernel
theorem dX12_operate_153 : decode cX12_operate 153 = .ok (.goto 75, 3) := by decide +kernel
theorem dX12_operate_156 : decode cX12_operate 156 = .ok (.aload_n 0, 1) := by decide +kernel
theorem dX12_operate_157 : decode cX12_operate 157 = .ok (.getfield 13, 3) := by decide +kernel
theorem dX12_operate_160 : decode cX12_operate 160 = .ok (.bipush 7, 2) := by decide +kernel
theorem dX12_operate_162 : decode cX12_operate 162 = .ok (.iload_n 1, 1) := by decide +kernel
theorem dX12_operate_163 : decode cX12_operate 163 = .ok (.iconst 4, 1) := by decide +kernel
theorem dX12_operate_164 : decode cX12_operate 164 = .ok (.if_icmp .ne 15, 3) := by decide +kernel
theorem dX12_operate_167 : decode cX12_operate 167 = .ok (.aload_n 0, 1) := by decide +kernel
theorem dX12_operate_168 : decode cX12_operate 168 = .ok (.getfield 13, 3) := by decide +kernel
theorem dX12_operate_171 : decode cX12_operate 171 = .ok (.bipush 7, 2) := by decide +kernel
theorem dX12_operate_173 : decode cX12_operate 173 = .ok (.iaload, 1) := by decide +kernel
theorem dX12_operate_174 : decode cX12_operate 174 = .ok (.iload_n 2, 1) := by decide +kernel
theorem dX12_operate_175 : decode cX12_operate 175 = .ok (.iand, 1) := by decide +kernel
theorem dX12_operate_176 : decode cX12_operate 176 = .ok (.goto 29, 3) := by decide +kernel
theorem dX12_operate_179 : decode cX12_operate 179 = .ok (.iload_n 1, 1) := by decide +kernel
theorem dX12_operate_180 : decode cX12_operate 180 = .ok (.iconst 5, 1) := by decide +kernel
theorem dX12_operate_181 : decode cX12_operate 181 = .ok (.if_icmp .ne 15, 3) := by decide +kernel
theorem dX12_operate_184 : decode cX12_operate 184 = .ok (.aload_n 0, 1) := by decide +kernel
theorem dX12_operate_185 : decode cX12_operate 185 = .ok (.getfield 13, 3) := by decide +kernel
theorem dX12_operate_188 : decode cX12_operate 188 = .ok (.bipush 7, 2) := by decide +kernel
theorem dX12_operate_190 : decode cX12_operate 190 = .ok (.iaload, 1) := by decide +kernel
theorem dX12_operate_191 : decode cX12_operate 191 = .ok (.iload_n 2, 1) := by decide +kernel
theorem dX12_operate_192 : decode cX12_operate 192 = .ok (.ixor, 1) := by decide +kernel
theorem dX12_operate_193 : decode cX12_operate 193 = .ok (.goto 12, 3) := by decide +kernel
theorem dX12_operate_196 : decode cX12_operate 196 = .ok (.aload_n 0, 1) := by decide +kernel
theorem dX12_operate_197 : decode cX12_operate 197 = .ok (.getfield 13, 3) := by decide +kernel
theorem dX12_operate_200 : decode cX12_operate 200 = .ok (.bipush 7, 2) := by decide +kernel
theorem dX12_operate_202 : decode cX12_operate 202 = .ok (.iaload, 1) := by decide +kernel
theorem dX12_operate_203 : decode cX12_operate 203 = .ok (.iload_n 2, 1) := by decide +kernel
theorem dX12_operate_204 : decode cX12_operate 204 = .ok (.ior, 1) := by decide +kernel
theorem dX12_operate_205 : decode cX12_operate 205 = .ok (.iastore, 1) := by decide +kernel
theorem dX12_operate_206 : decode cX12_operate 206 = .ok (.aload_n 0, 1) := by decide +kernel
theorem dX12_operate_207 : decode cX12_operate 207 = .ok (.aload_n 0, 1) := by decide +kernel
theorem dX12_operate_208 : decode cX12_operate 208 = .ok (.getfield 13, 3) := by decide +kernel
theorem dX12_operate_211 : decode cX12_operate 211 = .ok (.bipush 7, 2) := by decide +kernel
theorem dX12_operate_213 : decode cX12_operate 213 = .ok (.iaload, 1) := by decide +kernel
theorem dX12_operate_214 : decode cX12_operate 214 = .ok (.iload_n 1, 1) := by decide +kernel
theorem dX12_operate_215 : decode cX12_operate 215 = .ok (.iconst 4, 1) := by decide +kernel
theorem dX12_operate_216 : decode cX12_operate 216 = .ok (.if_icmp .ne 7, 3) := by decide +kernel
theorem dX12_operate_219 : decode cX12_operate 219 = .ok (.iconst 1, 1) := by decide +kernel
theorem dX12_operate_220 : decode cX12_operate 220 = .ok (.goto 4, 3) := by decide +kernel
theorem dX12_operate_223 : decode cX12_operate 223 = .ok (.iconst 0, 1) := by decide +kernel
theorem dX12_operate_224 : decode cX12_operate 224 = .ok (.iconst 0, 1) := by decide +kernel
theorem dX12_operate_225 : decode cX12_operate 225 = .ok (.invokevirtual 157, 3) := by decide +kernel
theorem dX12_operate_228 : decode cX12_operate 228 = .ok (.return_, 1) := by decide +kernel
theorem dX12_copies_0 : decode cX12_copies 0 = .ok (.aload_n 0, 1) := by decide +kernel
theorem dX12_copies_1 : decode cX12_copies 1 = .ok (.aload_n 0, 1) := by decide +kernel
theorem dX12_copies_2 : decode cX12_copies 2 = .ok (.iconst 2, 1) := by decide +kernel
theorem dX12_copies_3 : decode cX12_copies 3 = .ok (.invokevirtual 109, 3) := by decide +kernel
theorem dX12_copies_6 : decode cX12_copies 6 = .ok (.aload_n 0, 1) := by decide +kernel
theorem dX12_copies_7 : decode cX12_copies 7 = .ok (.aload_n 0, 1) := by decide +kernel
theorem dX12_copies_8 : decode cX12_copies 8 = .ok (.iconst 4, 1) := by decide +kernel
theorem dX12_copies_9 : decode cX12_copies 9 = .ok (.invokevirtual 109, 3) := by decide +kernel
theorem dX12_copies_12 : decode cX12_copies 12 = .ok (.invokevirtual 94, 3) := by decide +kernel
theorem dX12_copies_15 : decode cX12_copies 15 = .ok (.invokevirtual 98, 3) := by decide +kernel
theorem dX12_copies_18 : decode cX12_copies 18 = .ok (.aload_n 0, 1) := by decide +kernel
theorem dX12_copies_19 : decode cX12_copies 19 = .ok (.iconst 2, 1) := by decide +kernel
theorem dX12_copies_20 : decode cX12_copies 20 = .ok (.aload_n 0, 1) := by decide +kernel
theorem dX12_copies_21 : decode cX12_copies 21 = .ok (.iconst 2, 1) := by decide +kernel
theorem dX12_copies_22 : decode cX12_copies 22 = .ok (.invokevirtual 109, 3) := by decide +kernel
theorem dX12_copies_25 : decode cX12_copies 25 = .ok (.iconst 1, 1) := by decide +kernel
theorem dX12_copies_26 : decode cX12_copies 26 = .ok (.iadd, 1) := by decide +kernel
theorem dX12_copies_27 : decode cX12_copies 27 = .ok (.invokevirtual 112, 3) := by decide +kernel
theorem dX12_copies_30 : decode cX12_copies 30 = .ok (.aload_n 0, 1) := by decide +kernel
theorem dX12_copies_31 : decode cX12_copies 31 = .ok (.iconst 4, 1) := by decide +kernel
theorem dX12_copies_32 : decode cX12_copies 32 = .ok (.aload_n 0, 1) := by decide +kernel
theorem dX12_copies_33 : decode cX12_copies 33 = .ok (.iconst 4, 1) := by decide +kernel
theorem dX12_copies_34 : decode cX12_copies 34 = .ok (.invokevirtual 109, 3) := by decide +kernel
theorem dX12_copies_37 : decode cX12_copies 37 = .ok (.iconst 1, 1) := by decide +kernel
theorem dX12_copies_38 : decode cX12_copies 38 = .ok (.iadd, 1) := by decide +kernel
theorem dX12_copies_39 : decode cX12_copies 39 = .ok (.invokevirtual 112, 3) := by decide +kernel
theorem dX12_copies_42 : decode cX12_copies 42 = .ok (.aload_n 0, 1) := by decide +kernel
theorem dX12_copies_43 : decode cX12_copies 43 = .ok (.iconst 0, 1) := by decide +kernel
theorem dX12_copies_44 : decode cX12_copies 44 = .ok (.aload_n 0, 1) := by decide +kernel
theorem dX12_copies_45 : decode cX12_copies 45 = .ok (.iconst 0, 1) := by decide +kernel
theorem dX12_copies_46 : decode cX12_copies 46 = .ok (.invokevirtual 109, 3) := by decide +kernel
theorem dX12_copies_49 : decode cX12_copies 49 = .ok (.iconst 1, 1) := by decide +kernel
theorem dX12_copies_50 : decode cX12_copies 50 = .ok (.isub, 1) := by decide +kernel
theorem dX12_copies_51 : decode cX12_copies 51 = .ok (.invokevirtual 112, 3) := by decide +kernel
theorem dX12_copies_54 : decode cX12_copies 54 = .ok (.aload_n 0, 1) := by decide +kernel
theorem dX12_copies_55 : decode cX12_copies 55 = .ok (.iconst 0, 1) := by decide +kernel
theorem dX12_copies_56 : decode cX12_copies 56 = .ok (.invokevirtual 109, 3) := by decide +kernel
theorem dX12_copies_59 : decode cX12_copies 59 = .ok (.ifCond .eq 7, 3) := by decide +kernel
theorem dX12_copies_62 : decode cX12_copies 62 = .ok (.iconst 1, 1) := by decide +kernel
theorem dX12_copies_63 : decode cX12_copies 63 = .ok (.goto 4, 3) := by decide +kernel
theorem dX12_copies_66 : decode cX12_copies 66 = .ok (.iconst 0, 1) := by decide +kernel
theorem dX12_copies_67 : decode cX12_copies 67 = .ok (.istore_n 2, 1) := by decide +kernel
theorem dX12_copies_68 : decode cX12_copies 68 = .ok (.aload_n 0, 1) := by decide +kernel
theorem dX12_copies_69 : decode cX12_copies 69 = .ok (.bipush 16, 2) := by decide +kernel
theorem dX12_copies_71 : decode cX12_copies 71 = .ok (.iconst 0, 1) := by decide +kernel
theorem dX12_copies_72 : decode cX12_copies 72 = .ok (.invokevirtual 139, 3) := by decide +kernel
theorem dX12_copies_75 : decode cX12_copies 75 = .ok (.aload_n 0, 1) := by decide +kernel
theorem dX12_copies_76 : decode cX12_copies 76 = .ok (.iconst 2, 1) := by decide +kernel
theorem dX12_copies_77 : decode cX12_copies 77 = .ok (.iconst 0, 1) := by decide +kernel
theorem dX12_copies_78 : decode cX12_copies 78 = .ok (.invokevirtual 139, 3) := by decide +kernel
theorem dX12_copies_81 : decode cX12_copies 81 = .ok (.aload_n 0, 1) := by decide +kernel
theorem dX12_copies_82 : decode cX12_copies 82 = .ok (.iconst 4, 1) := by decide +kernel
theorem dX12_copies_83 : decode cX12_copies 83 = .ok (.iload_n 2, 1) := by decide +kernel
theorem dX12_copies_84 : decode cX12_copies 84 = .ok (.invokevirtual 139, 3) := by decide +kernel
theorem dX12_copies_87 : decode cX12_copies 87 = .ok (.iload_n 1, 1) := by decide +kernel
theorem dX12_copies_88 : decode cX12_copies 88 = .ok (.ifCond .eq 7, 3) := by decide +kernel
theorem dX12_copies_91 : decode cX12_copies 91 = .ok (.iload_n 2, 1) := by decide +kernel
theorem dX12_copies_92 : decode cX12_copies 92 = .ok (.ifCond .ne 6, 3) := by decide +kernel
theorem dX12_copies_95 : decode cX12_copies 95 = .ok (.bipush 16, 2) := by decide +kernel
theorem dX12_copies_97 : decode cX12_copies 97 = .ok (.ireturn, 1) := by decide +kernel
theorem dX12_copies_98 : decode cX12_copies 98 = .ok (.aload_n 0, 1) := by decide +kernel
theorem dX12_copies_99 : decode cX12_copies 99 = .ok (.aload_n 0, 1) := by decide +kernel
theorem dX12_copies_100 : decode cX12_copies 100 = .ok (.getfield 102, 3) := by decide +kernel
theorem dX12_copies_103 : decode cX12_copies 103 = .ok (.iconst 2, 1) := by decide +kernel
theorem dX12_copies_104 : decode cX12_copies 104 = .ok (.isub, 1) := by decide +kernel
theorem dX12_copies_105 : decode cX12_copies 105 = .ok (.ldc 16, 2) := by decide +kernel
theorem dX12_copies_107 : decode cX12_copies 107 = .ok (.iand, 1) := by decide +kernel
theorem dX12_copies_108 : decode cX12_copies 108 = .ok (.putfield 102, 3) := by decide +kernel
theorem dX12_copies_111 : decode cX12_copies 111 = .ok (.bipush 21, 2) := by decide +kernel
theorem dX12_copies_113 : decode cX12_copies 113 = .ok (.ireturn, 1) := by decide +kernel
theorem dX12_leave_0 : decode cX12_leave 0 = .ok (.iconst 0, 1) := by decide +kernel
theorem dX12_leave_1 : decode cX12_leave 1 = .ok (.istore_n 1, 1) := by decide +kernel
theorem dX12_leave_2 : decode cX12_leave 2 = .ok (.iload_n 1, 1) := by decide +kernel
theorem dX12_leave_3 : decode cX12_leave 3 = .ok (.iconst 4, 1) := by decide +kernel
theorem dX12_leave_4 : decode cX12_leave 4 = .ok (.if_icmp .ge 18, 3) := by decide +kernel
theorem dX12_leave_7 : decode cX12_leave 7 = .ok (.aload_n 0, 1) := by decide +kernel
theorem dX12_leave_8 : decode cX12_leave 8 = .ok (.getfield 28, 3) := by decide +kernel
theorem dX12_leave_11 : decode cX12_leave 11 = .ok (.iload_n 1, 1) := by decide +kernel
theorem dX12_leave_12 : decode cX12_leave 12 = .ok (.baload, 1) := by decide +kernel
theorem dX12_leave_13 : decode cX12_leave 13 = .ok (.ifCond .ne 9, 3) := by decide +kernel
theorem dX12_leave_16 : decode cX12_leave 16 = .ok (.iinc 1 1, 3) := by decide +kernel
theorem dX12_leave_19 : decode cX12_leave 19 = .ok (.goto (-17), 3) := by decide +kernel
theorem dX12_leave_22 : decode cX12_leave 22 = .ok (.iload_n 1, 1) := by decide +kernel
theorem dX12_leave_23 : decode cX12_leave 23 = .ok (.iconst 4, 1) := by decide +kernel
theorem dX12_leave_24 : decode cX12_leave 24 = .ok (.if_icmp .ge 10, 3) := by decide +kernel
theorem dX12_leave_27 : decode cX12_leave 27 = .ok (.aload_n 0, 1) := by decide +kernel
theorem dX12_leave_28 : decode cX12_leave 28 = .ok (.getfield 28, 3) := by decide +kernel
theorem dX12_leave_31 : decode cX12_leave 31 = .ok (.iload_n 1, 1) := by decide +kernel
theorem dX12_leave_32 : decode cX12_leave 32 = .ok (.iconst 0, 1) := by decide +kernel
theorem dX12_leave_33 : decode cX12_leave 33 = .ok (.bastore, 1) := by decide +kernel
theorem dX12_leave_34 : decode cX12_leave 34 = .ok (.return_, 1) := by decide +kernel
theorem dX12_extended_0 : decode cX12_extended 0 = .ok (.aload_n 0, 1) := by decide +kernel
theorem dX12_extended_1 : decode cX12_extended 1 = .ok (.invokevirtual 105, 3) := by decide +kernel
theorem dX12_extended_4 : decode cX12_extended 4 = .ok (.istore_n 1, 1) := by decide +kernel
theorem dX12_extended_5 : decode cX12_extended 5 = .ok (.iload_n 1, 1) := by decide +kernel
theorem dX12_extended_6 : decode cX12_extended 6 = .ok (.bipush 68, 2) := by decide +kernel
theorem dX12_extended_8 : decode cX12_extended 8 = .ok (.if_icmp .ne 28, 3) := by decide +kernel
theorem dX12_extended_11 : decode cX12_extended 11 = .ok (.aload_n 0, 1) := by decide +kernel
theorem dX12_extended_12 : decode cX12_extended 12 = .ok (.getfield 13, 3) := by decide +kernel
theorem dX12_extended_15 : decode cX12_extended 15 = .ok (.bipush 7, 2) := by decide +kernel
theorem dX12_extended_17 : decode cX12_extended 17 = .ok (.iaload, 1) := by decide +kernel
theorem dX12_extended_18 : decode cX12_extended 18 = .ok (.istore_n 2, 1) := by decide +kernel
theorem dX12_extended_19 : decode cX12_extended 19 = .ok (.aload_n 0, 1) := by decide +kernel
theorem dX12_extended_20 : decode cX12_extended 20 = .ok (.getfield 13, 3) := by decide +kernel
theorem dX12_extended_23 : decode cX12_extended 23 = .ok (.bipush 7, 2) := by decide +kernel
theorem dX12_extended_25 : decode cX12_extended 25 = .ok (.iconst 0, 1) := by decide +kernel
theorem dX12_extended_26 : decode cX12_extended 26 = .ok (.iastore, 1) := by decide +kernel
theorem dX12_extended_27 : decode cX12_extended 27 = .ok (.aload_n 0, 1) := by decide +kernel
theorem dX12_extended_28 : decode cX12_extended 28 = .ok (.iconst 2, 1) := by decide +kernel
theorem dX12_extended_29 : decode cX12_extended 29 = .ok (.iload_n 2, 1) := by decide +kernel
theorem dX12_extended_30 : decode cX12_extended 30 = .ok (.invokevirtual 176, 3) := by decide +kernel
theorem dX12_extended_33 : decode cX12_extended 33 = .ok (.bipush 8, 2) := by decide +kernel
theorem dX12_extended_35 : decode cX12_extended 35 = .ok (.ireturn, 1) := by decide +kernel
theorem dX12_extended_36 : decode cX12_extended 36 = .ok (.iload_n 1, 1) := by decide +kernel
theorem dX12_extended_37 : decode cX12_extended 37 = .ok (.sipush 199, 3) := by decide +kernel
theorem dX12_extended_40 : decode cX12_extended 40 = .ok (.iand, 1) := by decide +kernel
theorem dX12_extended_41 : decode cX12_extended 41 = .ok (.bipush 66, 2) := by decide +kernel
theorem dX12_extended_43 : decode cX12_extended 43 = .ok (.if_icmp .ne 97, 3) := by decide +kernel
theorem dX12_extended_46 : decode cX12_extended 46 = .ok (.iload_n 1, 1) := by decide +kernel
theorem dX12_extended_47 : decode cX12_extended 47 = .ok (.bipush 8, 2) := by decide +kernel
theorem dX12_extended_49 : decode cX12_extended 49 = .ok (.iand, 1) := by decide +kernel
theorem dX12_extended_50 : decode cX12_extended 50 = .ok (.ifCond .ne 7, 3) := by decide +kernel
theorem dX12_extended_53 : decode cX12_extended 53 = .ok (.iconst 1, 1) := by decide +kernel
theorem dX12_extended_54 : decode cX12_extended 54 = .ok (.goto 4, 3) := by decide +kernel
theorem dX12_extended_57 : decode cX12_extended 57 = .ok (.iconst 0, 1) := by decide +kernel
theorem dX12_extended_58 : decode cX12_extended 58 = .ok (.istore_n 2, 1) := by decide +kernel
theorem dX12_extended_59 : decode cX12_extended 59 = .ok (.aload_n 0, 1) := by decide +kernel
theorem dX12_extended_60 : decode cX12_extended 60 = .ok (.iload_n 1, 1) := by decide +kernel
theorem dX12_extended_61 : decode cX12_extended 61 = .ok (.iconst 4, 1) := by decide +kernel
theorem dX12_extended_62 : decode cX12_extended 62 = .ok (.ishr, 1) := by decide +kernel
theorem dX12_extended_63 : decode cX12_extended 63 = .ok (.iconst 3, 1) := by decide +kernel
theorem dX12_extended_64 : decode cX12_extended 64 = .ok (.iand, 1) := by decide +kernel
theorem dX12_extended_65 : decode cX12_extended 65 = .ok (.invokevirtual 188, 3) := by decide +kernel
theorem dX12_extended_68 : decode cX12_extended 68 = .ok (.istore_n 3, 1) := by decide +kernel
theorem dX12_extended_69 : decode cX12_extended 69 = .ok (.iload_n 2, 1) := by decide +kernel
theorem dX12_extended_70 : decode cX12_extended 70 = .ok (.ifCond .eq 23, 3) := by decide +kernel
theorem dX12_extended_73 : decode cX12_extended 73 = .ok (.aload_n 0, 1) := by decide +kernel
theorem dX12_extended_74 : decode cX12_extended 74 = .ok (.aload_n 0, 1) := by decide +kernel
theorem dX12_extended_75 : decode cX12_extended 75 = .ok (.iconst 4, 1) := by decide +kernel
theorem dX12_extended_76 : decode cX12_extended 76 = .ok (.invokevirtual 109, 3) := by decide +kernel
theorem dX12_extended_79 : decode cX12_extended 79 = .ok (.iload_n 3, 1) := by decide +kernel
theorem dX12_extended_80 : decode cX12_extended 80 = .ok (.aload_n 0, 1) := by decide +kernel
theorem dX12_extended_81 : decode cX12_extended 81 = .ok (.iconst 1, 1) := by decide +kernel
theorem dX12_extended_82 : decode cX12_extended 82 = .ok (.invokevirtual 121, 3) := by decide +kernel
theorem dX12_extended_85 : decode cX12_extended 85 = .ok (.bipush 16, 2) := by decide +kernel
theorem dX12_extended_87 : decode cX12_extended 87 = .ok (.invokevirtual 154, 3) := by decide +kernel
theorem dX12_extended_90 : decode cX12_extended 90 = .ok (.goto 20, 3) := by decide +kernel
theorem dX12_extended_93 : decode cX12_extended 93 = .ok (.aload_n 0, 1) := by decide +kernel
theorem dX12_extended_94 : decode cX12_extended 94 = .ok (.aload_n 0, 1) := by decide +kernel
theorem dX12_extended_95 : decode cX12_extended 95 = .ok (.iconst 4, 1) := by decide +kernel
theorem dX12_extended_96 : decode cX12_extended 96 = .ok (.invokevirtual 109, 3) := by decide +kernel
theorem dX12_extended_99 : decode cX12_extended 99 = .ok (.iload_n 3, 1) := by decide +kernel
theorem dX12_extended_100 : decode cX12_extended 100 = .ok (.aload_n 0, 1) := by decide +kernel
theorem dX12_extended_101 : decode cX12_extended 101 = .ok (.iconst 1, 1) := by decide +kernel
theorem dX12_extended_102 : decode cX12_extended 102 = .ok (.invokevirtual 121, 3) := by decide +kernel
theorem dX12_extended_105 : decode cX12_extended 105 = .ok (.bipush 16, 2) := by decide +kernel
theorem dX12_extended_107 : decode cX12_extended 107 = .ok (.invokevirtual 135, 3) := by decide +kernel
theorem dX12_extended_110 : decode cX12_extended 110 = .ok (.istore 4, 2) := by decide +kernel
theorem dX12_extended_112 : decode cX12_extended 112 = .ok (.aload_n 0, 1) := by decide +kernel
theorem dX12_extended_113 : decode cX12_extended 113 = .ok (.iload 4, 2) := by decide +kernel
theorem dX12_extended_115 : decode cX12_extended 115 = .ok (.bipush 16, 2) := by decide +kernel
theorem dX12_extended_117 : decode cX12_extended 117 = .ok (.iload_n 2, 1) := by decide +kernel
theorem dX12_extended_118 : decode cX12_extended 118 = .ok (.invokevirtual 150, 3) := by decide +kernel
theorem dX12_extended_121 : decode cX12_extended 121 = .ok (.aload_n 0, 1) := by decide +kernel
theorem dX12_extended_122 : decode cX12_extended 122 = .ok (.iconst 1, 1) := by decide +kernel
theorem dX12_extended_123 : decode cX12_extended 123 = .ok (.aload_n 0, 1) := by decide +kernel
theorem dX12_extended_124 : decode cX12_extended 124 = .ok (.getfield 132, 3) := by decide +kernel
theorem dX12_extended_127 : decode cX12_extended 127 = .ok (.invokevirtual 139, 3) := by decide +kernel
theorem dX12_extended_130 : decode cX12_extended 130 = .ok (.aload_n 0, 1) := by decide +kernel
theorem dX12_extended_131 : decode cX12_extended 131 = .ok (.iconst 4, 1) := by decide +kernel
theorem dX12_extended_132 : decode cX12_extended 132 = .ok (.iload 4, 2) := by decide +kernel
theorem dX12_extended_134 : decode cX12_extended 134 = .ok (.invokevirtual 112, 3) := by decide +kernel
theorem dX12_extended_137 : decode cX12_extended 137 = .ok (.bipush 15, 2) := by decide +kernel
theorem dX12_extended_139 : decode cX12_extended 139 = .ok (.ireturn, 1) := by decide +kernel
theorem dX12_extended_140 : decode cX12_extended 140 = .ok (.iload_n 1, 1) := by decide +kernel
theorem dX12_extended_141 : decode cX12_extended 141 = .ok (.sipush 160, 3) := by decide +kernel
theorem dX12_extended_144 : decode cX12_extended 144 = .ok (.if_icmp .eq 10, 3) := by decide +kernel
theorem dX12_extended_147 : decode cX12_extended 147 = .ok (.iload_n 1, 1) := by decide +kernel
theorem dX12_extended_148 : decode cX12_extended 148 = .ok (.sipush 176, 3) := by decide +kernel
theorem dX12_extended_151 : decode cX12_extended 151 = .ok (.if_icmp .ne 20, 3) := by decide +kernel
theorem dX12_extended_154 : decode cX12_extended 154 = .ok (.aload_n 0, 1) := by decide +kernel
theorem dX12_extended_155 : decode cX12_extended 155 = .ok (.iload_n 1, 1) := by decide +kernel
theorem dX12_extended_156 : decode cX12_extended 156 = .ok (.sipush 176, 3) := by decide +kernel
theorem dX12_extended_159 : decode cX12_extended 159 = .ok (.if_icmp .ne 7, 3) := by decide +kernel
theorem dX12_extended_162 : decode cX12_extended 162 = .ok (.iconst 1, 1) := by decide +kernel
theorem dX12_extended_163 : decode cX12_extended 163 = .ok (.goto 4, 3) := by decide +kernel
theorem dX12_extended_166 : decode cX12_extended 166 = .ok (.iconst 0, 1) := by decide +kernel
theorem dX12_extended_167 : decode cX12_extended 167 = .ok (.invokevirtual 246, 3) := by decide +kernel
theorem dX12_extended_170 : decode cX12_extended 170 = .ok (.ireturn, 1) := by decide +kernel
theorem dX12_extended_171 : decode cX12_extended 171 = .ok (.iload_n 1, 1) := by decide +kernel
theorem dX12_extended_172 : decode cX12_extended 172 = .ok (.bipush 71, 2) := by decide +kernel
theorem dX12_extended_174 : decode cX12_extended 174 = .ok (.if_icmp .ne 17, 3) := by decide +kernel
theorem dX12_extended_177 : decode cX12_extended 177 = .ok (.aload_n 0, 1) := by decide +kernel
theorem dX12_extended_178 : decode cX12_extended 178 = .ok (.aload_n 0, 1) := by decide +kernel
theorem dX12_extended_179 : decode cX12_extended 179 = .ok (.getfield 13, 3) := by decide +kernel
theorem dX12_extended_182 : decode cX12_extended 182 = .ok (.bipush 7, 2) := by decide +kernel
theorem dX12_extended_184 : decode cX12_extended 184 = .ok (.iaload, 1) := by decide +kernel
theorem dX12_extended_185 : decode cX12_extended 185 = .ok (.putfield 250, 3) := by decide +kernel
theorem dX12_extended_188 : decode cX12_extended 188 = .ok (.bipush 9, 2) := by decide +kernel
theorem dX12_extended_190 : decode cX12_extended 190 = .ok (.ireturn, 1) := by decide +kernel
theorem dX12_extended_191 : decode cX12_extended 191 = .ok (.iload_n 1, 1) := by decide +kernel
theorem dX12_extended_192 : decode cX12_extended 192 = .ok (.bipush 77, 2) := by decide +kernel
theorem dX12_extended_194 : decode cX12_extended 194 = .ok (.if_icmp .ne 18, 3) := by decide +kernel
theorem dX12_extended_197 : decode cX12_extended 197 = .ok (.aload_n 0, 1) := by decide +kernel
theorem dX12_extended_198 : decode cX12_extended 198 = .ok (.aload_n 0, 1) := by decide +kernel
theorem dX12_extended_199 : decode cX12_extended 199 = .ok (.invokevirtual 216, 3) := by decide +kernel
theorem dX12_extended_202 : decode cX12_extended 202 = .ok (.putfield 102, 3) := by decide +kernel
theorem dX12_extended_205 : decode cX12_extended 205 = .ok (.aload_n 0, 1) := by decide +kernel
theorem dX12_extended_206 : decode cX12_extended 206 = .ok (.invokevirtual 253, 3) := by decide +kernel
theorem dX12_extended_209 : decode cX12_extended 209 = .ok (.bipush 14, 2) := by decide +kernel
theorem dX12_extended_211 : decode cX12_extended 211 = .ok (.ireturn, 1) := by decide +kernel
theorem dX12_extended_212 : decode cX12_extended 212 = .ok (.aload_n 0, 1) := by decide +kernel
theorem dX12_extended_213 : decode cX12_extended 213 = .ok (.iload_n 1, 1) := by decide +kernel
theorem dX12_extended_214 : decode cX12_extended 214 = .ok (.bipush 86, 2) := by decide +kernel
theorem dX12_extended_216 : decode cX12_extended 216 = .ok (.if_icmp .ne 7, 3) := by decide +kernel
theorem dX12_extended_219 : decode cX12_extended 219 = .ok (.iconst 1, 1) := by decide +kernel
theorem dX12_extended_220 : decode cX12_extended 220 = .ok (.goto 17, 3) := by decide +kernel
theorem dX12_extended_223 : decode cX12_extended 223 = .ok (.iload_n 1, 1) := by decide +kernel
theorem dX12_extended_224 : decode cX12_extended 224 = .ok (.bipush 94, 2) := by decide +kernel
theorem dX12_extended_226 : decode cX12_extended 226 = .ok (.if_icmp .ne 7, 3) := by decide +kernel
theorem dX12_extended_229 : decode cX12_extended 229 = .ok (.iconst 2, 1) := by decide +kernel
theorem dX12_extended_230 : decode cX12_extended 230 = .ok (.goto 7, 3) := by decide +kernel
theorem dX12_extended_233 : decode cX12_extended 233 = .ok (.aload_n 0, 1) := by decide +kernel
theorem dX12_extended_234 : decode cX12_extended 234 = .ok (.getfield 21, 3) := by decide +kernel
theorem dX12_extended_237 : decode cX12_extended 237 = .ok (.putfield 21, 3) := by decide +kernel
theorem dX12_extended_240 : decode cX12_extended 240 = .ok (.iload_n 1, 1) := by decide +kernel
theorem dX12_extended_241 : decode cX12_extended 241 = .ok (.bipush 86, 2) := by decide +kernel
theorem dX12_extended_243 : decode cX12_extended 243 = .ok (.if_icmp .eq 9, 3) := by decide +kernel
theorem dX12_extended_246 : decode cX12_extended 246 = .ok (.iload_n 1, 1) := by decide +kernel
theorem dX12_extended_247 : decode cX12_extended 247 = .ok (.bipush 94, 2) := by decide +kernel
theorem dX12_extended_249 : decode cX12_extended 249 = .ok (.if_icmp .ne 8, 3) := by decide +kernel
theorem dX12_extended_252 : decode cX12_extended 252 = .ok (.bipush 8, 2) := by decide +kernel
theorem dX12_extended_254 : decode cX12_extended 254 = .ok (.goto 4, 3) := by decide +kernel
theorem dX12_extended_257 : decode cX12_extended 257 = .ok (.iconst 0, 1) := by decide +kernel
theorem dX12_extended_258 : decode cX12_extended 258 = .ok (.ireturn, 1) := by decide +kernel
theorem dX12_pushes_0 : decode cX12_pushes 0 = .ok (.iload_n 1, 1) := by decide +kernel
theorem dX12_pushes_1 : decode cX12_pushes 1 = .ok (.iconst 1, 1) := by decide +kernel
theorem dX12_pushes_2 : decode cX12_pushes 2 = .ok (.iand, 1) := by decide +kernel
theorem dX12_pushes_3 : decode cX12_pushes 3 = .ok (.ifCond .ne 29, 3) := by decide +kernel
theorem dX12_pushes_6 : decode cX12_pushes 6 = .ok (.aload_n 0, 1) := by decide +kernel
theorem dX12_pushes_7 : decode cX12_pushes 7 = .ok (.iload_n 1, 1) := by decide +kernel
theorem dX12_pushes_8 : decode cX12_pushes 8 = .ok (.bipush 6, 2) := by decide +kernel
theorem dX12_pushes_10 : decode cX12_pushes 10 = .ok (.if_icmp .ne 11, 3) := by decide +kernel
theorem dX12_pushes_13 : decode cX12_pushes 13 = .ok (.aload_n 0, 1) := by decide +kernel
theorem dX12_pushes_14 : decode cX12_pushes 14 = .ok (.iconst 0, 1) := by decide +kernel
theorem dX12_pushes_15 : decode cX12_pushes 15 = .ok (.invokevirtual 204, 3) := by decide +kernel
theorem dX12_pushes_18 : decode cX12_pushes 18 = .ok (.goto 8, 3) := by decide +kernel
theorem dX12_pushes_21 : decode cX12_pushes 21 = .ok (.aload_n 0, 1) := by decide +kernel
theorem dX12_pushes_22 : decode cX12_pushes 22 = .ok (.iload_n 1, 1) := by decide +kernel
theorem dX12_pushes_23 : decode cX12_pushes 23 = .ok (.invokevirtual 109, 3) := by decide +kernel
theorem dX12_pushes_26 : decode cX12_pushes 26 = .ok (.invokevirtual 222, 3) := by decide +kernel
theorem dX12_pushes_29 : decode cX12_pushes 29 = .ok (.bipush 11, 2) := by decide +kernel
theorem dX12_pushes_31 : decode cX12_pushes 31 = .ok (.ireturn, 1) := by decide +kernel
theorem dX12_pushes_32 : decode cX12_pushes 32 = .ok (.iload_n 1, 1) := by decide +kernel
theorem dX12_pushes_33 : decode cX12_pushes 33 = .ok (.iconst 5, 1) := by decide +kernel
theorem dX12_pushes_34 : decode cX12_pushes 34 = .ok (.if_icmp .ne 8, 3) := by decide +kernel
theorem dX12_pushes_37 : decode cX12_pushes 37 = .ok (.aload_n 0, 1) := by decide +kernel
theorem dX12_pushes_38 : decode cX12_pushes 38 = .ok (.invokevirtual 231, 3) := by decide +kernel
theorem dX12_pushes_41 : decode cX12_pushes 41 = .ok (.ireturn, 1) := by decide +kernel
theorem dX12_pushes_42 : decode cX12_pushes 42 = .ok (.iload_n 1, 1) := by decide +kernel
theorem dX12_pushes_43 : decode cX12_pushes 43 = .ok (.iconst 1, 1) := by decide +kernel
theorem dX12_pushes_44 : decode cX12_pushes 44 = .ok (.if_icmp .eq 5, 3) := by decide +kernel
theorem dX12_pushes_47 : decode cX12_pushes 47 = .ok (.iconst 0, 1) := by decide +kernel
theorem dX12_pushes_48 : decode cX12_pushes 48 = .ok (.ireturn, 1) := by decide +kernel
theorem dX12_pushes_49 : decode cX12_pushes 49 = .ok (.aload_n 0, 1) := by decide +kernel
theorem dX12_pushes_50 : decode cX12_pushes 50 = .ok (.invokevirtual 182, 3) := by decide +kernel
theorem dX12_pushes_53 : decode cX12_pushes 53 = .ok (.istore_n 2, 1) := by decide +kernel
theorem dX12_pushes_54 : decode cX12_pushes 54 = .ok (.aload_n 0, 1) := by decide +kernel
theorem dX12_pushes_55 : decode cX12_pushes 55 = .ok (.aload_n 0, 1) := by decide +kernel
theorem dX12_pushes_56 : decode cX12_pushes 56 = .ok (.getfield 102, 3) := by decide +kernel
theorem dX12_pushes_59 : decode cX12_pushes 59 = .ok (.invokevirtual 222, 3) := by decide +kernel
theorem dX12_pushes_62 : decode cX12_pushes 62 = .ok (.aload_n 0, 1) := by decide +kernel
theorem dX12_pushes_63 : decode cX12_pushes 63 = .ok (.iload_n 2, 1) := by decide +kernel
theorem dX12_pushes_64 : decode cX12_pushes 64 = .ok (.putfield 102, 3) := by decide +kernel
theorem dX12_pushes_67 : decode cX12_pushes 67 = .ok (.bipush 17, 2) := by decide +kernel
theorem dX12_pushes_69 : decode cX12_pushes 69 = .ok (.ireturn, 1) := by decide +kernel
theorem dX12_high_0 : decode cX12_high 0 = .ok (.iload_n 2, 1) := by decide +kernel
theorem dX12_high_1 : decode cX12_high 1 = .ok (.ifCond .ne 32, 3) := by decide +kernel
theorem dX12_high_4 : decode cX12_high 4 = .ok (.aload_n 0, 1) := by decide +kernel
theorem dX12_high_5 : decode cX12_high 5 = .ok (.iload_n 1, 1) := by decide +kernel
theorem dX12_high_6 : decode cX12_high 6 = .ok (.invokevirtual 210, 3) := by decide +kernel
theorem dX12_high_9 : decode cX12_high 9 = .ok (.istore_n 3, 1) := by decide +kernel
theorem dX12_high_10 : decode cX12_high 10 = .ok (.iload_n 3, 1) := by decide +kernel
theorem dX12_high_11 : decode cX12_high 11 = .ok (.ifCond .eq 11, 3) := by decide +kernel
theorem dX12_high_14 : decode cX12_high 14 = .ok (.aload_n 0, 1) := by decide +kernel
theorem dX12_high_15 : decode cX12_high 15 = .ok (.aload_n 0, 1) := by decide +kernel
theorem dX12_high_16 : decode cX12_high 16 = .ok (.invokevirtual 216, 3) := by decide +kernel
theorem dX12_high_19 : decode cX12_high 19 = .ok (.putfield 102, 3) := by decide +kernel
theorem dX12_high_22 : decode cX12_high 22 = .ok (.iload_n 3, 1) := by decide +kernel
theorem dX12_high_23 : decode cX12_high 23 = .ok (.ifCond .eq 8, 3) := by decide +kernel
theorem dX12_high_26 : decode cX12_high 26 = .ok (.bipush 11, 2) := by decide +kernel
theorem dX12_high_28 : decode cX12_high 28 = .ok (.goto 4, 3) := by decide +kernel
theorem dX12_high_31 : decode cX12_high 31 = .ok (.iconst 5, 1) := by decide +kernel
theorem dX12_high_32 : decode cX12_high 32 = .ok (.ireturn, 1) := by decide +kernel
theorem dX12_high_33 : decode cX12_high 33 = .ok (.iload_n 2, 1) := by decide +kernel
theorem dX12_high_34 : decode cX12_high 34 = .ok (.iconst 1, 1) := by decide +kernel
theorem dX12_high_35 : decode cX12_high 35 = .ok (.if_icmp .ne 9, 3) := by decide +kernel
theorem dX12_high_38 : decode cX12_high 38 = .ok (.aload_n 0, 1) := by decide +kernel
theorem dX12_high_39 : decode cX12_high 39 = .ok (.iload_n 1, 1) := by decide +kernel
theorem dX12_high_40 : decode cX12_high 40 = .ok (.invokevirtual 219, 3) := by decide +kernel
theorem dX12_high_43 : decode cX12_high 43 = .ok (.ireturn, 1) := by decide +kernel
theorem dX12_high_44 : decode cX12_high 44 = .ok (.iload_n 2, 1) := by decide +kernel
theorem dX12_high_45 : decode cX12_high 45 = .ok (.iconst 2, 1) := by decide +kernel
theorem dX12_high_46 : decode cX12_high 46 = .ok (.if_icmp .eq 8, 3) := by decide +kernel
theorem dX12_high_49 : decode cX12_high 49 = .ok (.iload_n 2, 1) := by decide +kernel
theorem dX12_high_50 : decode cX12_high 50 = .ok (.iconst 4, 1) := by decide +kernel
theorem dX12_high_51 : decode cX12_high 51 = .ok (.if_icmp .ne 73, 3) := by decide +kernel
theorem dX12_high_54 : decode cX12_high 54 = .ok (.aload_n 0, 1) := by decide +kernel
theorem dX12_high_55 : decode cX12_high 55 = .ok (.invokevirtual 182, 3) := by decide +kernel
theorem dX12_high_58 : decode cX12_high 58 = .ok (.istore_n 3, 1) := by decide +kernel
theorem dX12_high_59 : decode cX12_high 59 = .ok (.aload_n 0, 1) := by decide +kernel
theorem dX12_high_60 : decode cX12_high 60 = .ok (.iload_n 1, 1) := by decide +kernel
theorem dX12_high_61 : decode cX12_high 61 = .ok (.invokevirtual 210, 3) := by decide +kernel
theorem dX12_high_64 : decode cX12_high 64 = .ok (.istore 4, 2) := by decide +kernel
theorem dX12_high_66 : decode cX12_high 66 = .ok (.iload 4, 2) := by decide +kernel
theorem dX12_high_68 : decode cX12_high 68 = .ok (.ifCond .eq 16, 3) := by decide +kernel
theorem dX12_high_71 : decode cX12_high 71 = .ok (.iload_n 2, 1) := by decide +kernel
theorem dX12_high_72 : decode cX12_high 72 = .ok (.iconst 4, 1) := by decide +kernel
theorem dX12_high_73 : decode cX12_high 73 = .ok (.if_icmp .ne 11, 3) := by decide +kernel
theorem dX12_high_76 : decode cX12_high 76 = .ok (.aload_n 0, 1) := by decide +kernel
theorem dX12_high_77 : decode cX12_high 77 = .ok (.aload_n 0, 1) := by decide +kernel
theorem dX12_high_78 : decode cX12_high 78 = .ok (.getfield 102, 3) := by decide +kernel
theorem dX12_high_81 : decode cX12_high 81 = .ok (.invokevirtual 222, 3) := by decide +kernel
theorem dX12_high_84 : decode cX12_high 84 = .ok (.aload_n 0, 1) := by decide +kernel
theorem dX12_high_85 : decode cX12_high 85 = .ok (.iload 4, 2) := by decide +kernel
theorem dX12_high_87 : decode cX12_high 87 = .ok (.ifCond .eq 7, 3) := by decide +kernel
theorem dX12_high_90 : decode cX12_high 90 = .ok (.iload_n 3, 1) := by decide +kernel
theorem dX12_high_91 : decode cX12_high 91 = .ok (.goto 7, 3) := by decide +kernel
theorem dX12_high_94 : decode cX12_high 94 = .ok (.aload_n 0, 1) := by decide +kernel
theorem dX12_high_95 : decode cX12_high 95 = .ok (.getfield 102, 3) := by decide +kernel
theorem dX12_high_98 : decode cX12_high 98 = .ok (.putfield 102, 3) := by decide +kernel
theorem dX12_high_101 : decode cX12_high 101 = .ok (.iload_n 2, 1) := by decide +kernel
theorem dX12_high_102 : decode cX12_high 102 = .ok (.iconst 2, 1) := by decide +kernel
theorem dX12_high_103 : decode cX12_high 103 = .ok (.if_icmp .ne 8, 3) := by decide +kernel
theorem dX12_high_106 : decode cX12_high 106 = .ok (.bipush 10, 2) := by decide +kernel
theorem dX12_high_108 : decode cX12_high 108 = .ok (.goto 15, 3) := by decide +kernel
theorem dX12_high_111 : decode cX12_high 111 = .ok (.iload 4, 2) := by decide +kernel
theorem dX12_high_113 : decode cX12_high 113 = .ok (.ifCond .eq 8, 3) := by decide +kernel
theorem dX12_high_116 : decode cX12_high 116 = .ok (.bipush 17, 2) := by decide +kernel
theorem dX12_high_118 : decode cX12_high 118 = .ok (.goto 5, 3) := by decide +kernel
theorem dX12_high_121 : decode cX12_high 121 = .ok (.bipush 10, 2) := by decide +kernel
theorem dX12_high_123 : decode cX12_high 123 = .ok (.ireturn, 1) := by decide +kernel
theorem dX12_high_124 : decode cX12_high 124 = .ok (.iload_n 2, 1) := by decide +kernel
theorem dX12_high_125 : decode cX12_high 125 = .ok (.iconst 3, 1) := by decide +kernel
theorem dX12_high_126 : decode cX12_high 126 = .ok (.if_icmp .ne 9, 3) := by decide +kernel
theorem dX12_high_129 : decode cX12_high 129 = .ok (.aload_n 0, 1) := by decide +kernel
theorem dX12_high_130 : decode cX12_high 130 = .ok (.iload_n 1, 1) := by decide +kernel
theorem dX12_high_131 : decode cX12_high 131 = .ok (.invokevirtual 225, 3) := by decide +kernel
theorem dX12_high_134 : decode cX12_high 134 = .ok (.ireturn, 1) := by decide +kernel
theorem dX12_high_135 : decode cX12_high 135 = .ok (.iload_n 2, 1) := by decide +kernel
theorem dX12_high_136 : decode cX12_high 136 = .ok (.iconst 5, 1) := by decide +kernel
theorem dX12_high_137 : decode cX12_high 137 = .ok (.if_icmp .ne 9, 3) := by decide +kernel
theorem dX12_high_140 : decode cX12_high 140 = .ok (.aload_n 0, 1) := by decide +kernel
theorem dX12_high_141 : decode cX12_high 141 = .ok (.iload_n 1, 1) := by decide +kernel
theorem dX12_high_142 : decode cX12_high 142 = .ok (.invokevirtual 228, 3) := by decide +kernel
theorem dX12_high_145 : decode cX12_high 145 = .ok (.ireturn, 1) := by decide +kernel
theorem dX12_high_146 : decode cX12_high 146 = .ok (.iload_n 2, 1) := by decide +kernel
theorem dX12_high_147 : decode cX12_high 147 = .ok (.bipush 6, 2) := by decide +kernel
theorem dX12_high_149 : decode cX12_high 149 = .ok (.if_icmp .ne 15, 3) := by decide +kernel
theorem dX12_high_152 : decode cX12_high 152 = .ok (.aload_n 0, 1) := by decide +kernel
theorem dX12_high_153 : decode cX12_high 153 = .ok (.iload_n 1, 1) := by decide +kernel
theorem dX12_high_154 : decode cX12_high 154 = .ok (.aload_n 0, 1) := by decide +kernel
theorem dX12_high_155 : decode cX12_high 155 = .ok (.invokevirtual 105, 3) := by decide +kernel
theorem dX12_high_158 : decode cX12_high 158 = .ok (.invokevirtual 176, 3) := by decide +kernel
theorem dX12_high_161 : decode cX12_high 161 = .ok (.bipush 7, 2) := by decide +kernel
theorem dX12_high_163 : decode cX12_high 163 = .ok (.ireturn, 1) := by decide +kernel
theorem dX12_high_164 : decode cX12_high 164 = .ok (.aload_n 0, 1) := by decide +kernel
theorem dX12_high_165 : decode cX12_high 165 = .ok (.aload_n 0, 1) := by decide +kernel
theorem dX12_high_166 : decode cX12_high 166 = .ok (.getfield 102, 3) := by decide +kernel
theorem dX12_high_169 : decode cX12_high 169 = .ok (.invokevirtual 222, 3) := by decide +kernel
theorem dX12_high_172 : decode cX12_high 172 = .ok (.aload_n 0, 1) := by decide +kernel
theorem dX12_high_173 : decode cX12_high 173 = .ok (.bipush 8, 2) := by decide +kernel
theorem dX12_high_175 : decode cX12_high 175 = .ok (.iload_n 1, 1) := by decide +kernel
theorem dX12_high_176 : decode cX12_high 176 = .ok (.imul, 1) := by decide +kernel
theorem dX12_high_177 : decode cX12_high 177 = .ok (.putfield 102, 3) := by decide +kernel
theorem dX12_high_180 : decode cX12_high 180 = .ok (.bipush 11, 2) := by decide +kernel
theorem dX12_high_182 : decode cX12_high 182 = .ok (.ireturn, 1) := by decide +kernel
theorem dX12_carryOut_0 : decode cX12_carryOut 0 = .ok (.aload_n 0, 1) := by decide +kernel
theorem dX12_carryOut_1 : decode cX12_carryOut 1 = .ok (.invokevirtual 105, 3) := by decide +kernel
theorem dX12_carryOut_4 : decode cX12_carryOut 4 = .ok (.istore_n 1, 1) := by decide +kernel
theorem dX12_carryOut_5 : decode cX12_carryOut 5 = .ok (.iload_n 1, 1) := by decide +kernel
theorem dX12_carryOut_6 : decode cX12_carryOut 6 = .ok (.bipush 6, 2) := by decide +kernel
theorem dX12_carryOut_8 : decode cX12_carryOut 8 = .ok (.ishr, 1) := by decide +kernel
theorem dX12_carryOut_9 : decode cX12_carryOut 9 = .ok (.istore_n 2, 1) := by decide +kernel
theorem dX12_carryOut_10 : decode cX12_carryOut 10 = .ok (.iload_n 1, 1) := by decide +kernel
theorem dX12_carryOut_11 : decode cX12_carryOut 11 = .ok (.iconst 3, 1) := by decide +kernel
theorem dX12_carryOut_12 : decode cX12_carryOut 12 = .ok (.ishr, 1) := by decide +kernel
theorem dX12_carryOut_13 : decode cX12_carryOut 13 = .ok (.bipush 7, 2) := by decide +kernel
theorem dX12_carryOut_15 : decode cX12_carryOut 15 = .ok (.iand, 1) := by decide +kernel
theorem dX12_carryOut_16 : decode cX12_carryOut 16 = .ok (.istore_n 3, 1) := by decide +kernel
theorem dX12_carryOut_17 : decode cX12_carryOut 17 = .ok (.iload_n 1, 1) := by decide +kernel
theorem dX12_carryOut_18 : decode cX12_carryOut 18 = .ok (.bipush 7, 2) := by decide +kernel
theorem dX12_carryOut_20 : decode cX12_carryOut 20 = .ok (.iand, 1) := by decide +kernel
theorem dX12_carryOut_21 : decode cX12_carryOut 21 = .ok (.istore 4, 2) := by decide +kernel
theorem dX12_carryOut_23 : decode cX12_carryOut 23 = .ok (.iload_n 2, 1) := by decide +kernel
theorem dX12_carryOut_24 : decode cX12_carryOut 24 = .ok (.ifCond .ne 11, 3) := by decide +kernel
theorem dX12_carryOut_27 : decode cX12_carryOut 27 = .ok (.aload_n 0, 1) := by decide +kernel
theorem dX12_carryOut_28 : decode cX12_carryOut 28 = .ok (.iload_n 3, 1) := by decide +kernel
theorem dX12_carryOut_29 : decode cX12_carryOut 29 = .ok (.iload 4, 2) := by decide +kernel
theorem dX12_carryOut_31 : decode cX12_carryOut 31 = .ok (.invokevirtual 161, 3) := by decide +kernel
theorem dX12_carryOut_34 : decode cX12_carryOut 34 = .ok (.ireturn, 1) := by decide +kernel
theorem dX12_carryOut_35 : decode cX12_carryOut 35 = .ok (.iload_n 2, 1) := by decide +kernel
theorem dX12_carryOut_36 : decode cX12_carryOut 36 = .ok (.iconst 3, 1) := by decide +kernel
theorem dX12_carryOut_37 : decode cX12_carryOut 37 = .ok (.if_icmp .ne 11, 3) := by decide +kernel
theorem dX12_carryOut_40 : decode cX12_carryOut 40 = .ok (.aload_n 0, 1) := by decide +kernel
theorem dX12_carryOut_41 : decode cX12_carryOut 41 = .ok (.iload_n 3, 1) := by decide +kernel
theorem dX12_carryOut_42 : decode cX12_carryOut 42 = .ok (.iload 4, 2) := by decide +kernel
theorem dX12_carryOut_44 : decode cX12_carryOut 44 = .ok (.invokevirtual 165, 3) := by decide +kernel
theorem dX12_carryOut_47 : decode cX12_carryOut 47 = .ok (.ireturn, 1) := by decide +kernel
theorem dX12_carryOut_48 : decode cX12_carryOut 48 = .ok (.iload_n 1, 1) := by decide +kernel
theorem dX12_carryOut_49 : decode cX12_carryOut 49 = .ok (.bipush 118, 2) := by decide +kernel
theorem dX12_carryOut_51 : decode cX12_carryOut 51 = .ok (.if_icmp .ne 10, 3) := by decide +kernel
theorem dX12_carryOut_54 : decode cX12_carryOut 54 = .ok (.aload_n 0, 1) := by decide +kernel
theorem dX12_carryOut_55 : decode cX12_carryOut 55 = .ok (.iconst 1, 1) := by decide +kernel
theorem dX12_carryOut_56 : decode cX12_carryOut 56 = .ok (.putfield 167, 3) := by decide +kernel
theorem dX12_carryOut_59 : decode cX12_carryOut 59 = .ok (.iconst 4, 1) := by decide +kernel
theorem dX12_carryOut_60 : decode cX12_carryOut 60 = .ok (.ireturn, 1) := by decide +kernel
theorem dX12_carryOut_61 : decode cX12_carryOut 61 = .ok (.iload 4, 2) := by decide +kernel
theorem dX12_carryOut_63 : decode cX12_carryOut 63 = .ok (.bipush 6, 2) := by decide +kernel
theorem dX12_carryOut_65 : decode cX12_carryOut 65 = .ok (.if_icmp .eq 14, 3) := by decide +kernel
theorem dX12_carryOut_68 : decode cX12_carryOut 68 = .ok (.iload_n 2, 1) := by decide +kernel
theorem dX12_carryOut_69 : decode cX12_carryOut 69 = .ok (.iconst 1, 1) := by decide +kernel
theorem dX12_carryOut_70 : decode cX12_carryOut 70 = .ok (.if_icmp .ne 13, 3) := by decide +kernel
theorem dX12_carryOut_73 : decode cX12_carryOut 73 = .ok (.iload_n 3, 1) := by decide +kernel
theorem dX12_carryOut_74 : decode cX12_carryOut 74 = .ok (.bipush 6, 2) := by decide +kernel
theorem dX12_carryOut_76 : decode cX12_carryOut 76 = .ok (.if_icmp .ne 7, 3) := by decide +kernel
theorem dX12_carryOut_79 : decode cX12_carryOut 79 = .ok (.iconst 1, 1) := by decide +kernel
theorem dX12_carryOut_80 : decode cX12_carryOut 80 = .ok (.goto 4, 3) := by decide +kernel
theorem dX12_carryOut_83 : decode cX12_carryOut 83 = .ok (.iconst 0, 1) := by decide +kernel
theorem dX12_carryOut_84 : decode cX12_carryOut 84 = .ok (.istore 5, 2) := by decide +kernel
theorem dX12_carryOut_86 : decode cX12_carryOut 86 = .ok (.iload_n 2, 1) := by decide +kernel
theorem dX12_carryOut_87 : decode cX12_carryOut 87 = .ok (.iconst 1, 1) := by decide +kernel
theorem dX12_carryOut_88 : decode cX12_carryOut 88 = .ok (.if_icmp .ne 17, 3) := by decide +kernel
theorem dX12_carryOut_91 : decode cX12_carryOut 91 = .ok (.aload_n 0, 1) := by decide +kernel
theorem dX12_carryOut_92 : decode cX12_carryOut 92 = .ok (.iload_n 3, 1) := by decide +kernel
theorem dX12_carryOut_93 : decode cX12_carryOut 93 = .ok (.aload_n 0, 1) := by decide +kernel
theorem dX12_carryOut_94 : decode cX12_carryOut 94 = .ok (.iload 4, 2) := by decide +kernel
theorem dX12_carryOut_96 : decode cX12_carryOut 96 = .ok (.invokevirtual 170, 3) := by decide +kernel
theorem dX12_carryOut_99 : decode cX12_carryOut 99 = .ok (.invokevirtual 173, 3) := by decide +kernel
theorem dX12_carryOut_102 : decode cX12_carryOut 102 = .ok (.goto 14, 3) := by decide +kernel
theorem dX12_carryOut_105 : decode cX12_carryOut 105 = .ok (.aload_n 0, 1) := by decide +kernel
theorem dX12_carryOut_106 : decode cX12_carryOut 106 = .ok (.iload_n 3, 1) := by decide +kernel
theorem dX12_carryOut_107 : decode cX12_carryOut 107 = .ok (.aload_n 0, 1) := by decide +kernel
theorem dX12_carryOut_108 : decode cX12_carryOut 108 = .ok (.iload 4, 2) := by decide +kernel
theorem dX12_carryOut_110 : decode cX12_carryOut 110 = .ok (.invokevirtual 170, 3) := by decide +kernel
theorem dX12_carryOut_113 : decode cX12_carryOut 113 = .ok (.invokevirtual 176, 3) := by decide +kernel
theorem dX12_carryOut_116 : decode cX12_carryOut 116 = .ok (.iload 5, 2) := by decide +kernel
theorem dX12_carryOut_118 : decode cX12_carryOut 118 = .ok (.ifCond .eq 8, 3) := by decide +kernel
theorem dX12_carryOut_121 : decode cX12_carryOut 121 = .ok (.bipush 7, 2) := by decide +kernel
theorem dX12_carryOut_123 : decode cX12_carryOut 123 = .ok (.goto 4, 3) := by decide +kernel
theorem dX12_carryOut_126 : decode cX12_carryOut 126 = .ok (.iconst 4, 1) := by decide +kernel
theorem dX12_carryOut_127 : decode cX12_carryOut 127 = .ok (.ireturn, 1) := by decide +kernel
theorem dX12_fall_0 : decode cX12_fall 0 = .ok (.aload_n 0, 1) := by decide +kernel
theorem dX12_fall_1 : decode cX12_fall 1 = .ok (.getfield 37, 3) := by decide +kernel
theorem dX12_fall_4 : decode cX12_fall 4 = .ok (.iload_n 1, 1) := by decide +kernel
theorem dX12_fall_5 : decode cX12_fall 5 = .ok (.dup2, 1) := by decide +kernel
theorem dX12_fall_6 : decode cX12_fall 6 = .ok (.iaload, 1) := by decide +kernel
theorem dX12_fall_7 : decode cX12_fall 7 = .ok (.iconst 1, 1) := by decide +kernel
theorem dX12_fall_8 : decode cX12_fall 8 = .ok (.isub, 1) := by decide +kernel
theorem dX12_fall_9 : decode cX12_fall 9 = .ok (.iastore, 1) := by decide +kernel
theorem dX12_fall_10 : decode cX12_fall 10 = .ok (.aload_n 0, 1) := by decide +kernel
theorem dX12_fall_11 : decode cX12_fall 11 = .ok (.getfield 37, 3) := by decide +kernel
theorem dX12_fall_14 : decode cX12_fall 14 = .ok (.iload_n 1, 1) := by decide +kernel
theorem dX12_fall_15 : decode cX12_fall 15 = .ok (.iaload, 1) := by decide +kernel
theorem dX12_fall_16 : decode cX12_fall 16 = .ok (.ifCond .le 4, 3) := by decide +kernel
theorem dX12_fall_19 : decode cX12_fall 19 = .ok (.return_, 1) := by decide +kernel
theorem dX12_fall_20 : decode cX12_fall 20 = .ok (.aload_n 0, 1) := by decide +kernel
theorem dX12_fall_21 : decode cX12_fall 21 = .ok (.getfield 37, 3) := by decide +kernel
theorem dX12_fall_24 : decode cX12_fall 24 = .ok (.iload_n 1, 1) := by decide +kernel
theorem dX12_fall_25 : decode cX12_fall 25 = .ok (.aload_n 0, 1) := by decide +kernel
theorem dX12_fall_26 : decode cX12_fall 26 = .ok (.getfield 34, 3) := by decide +kernel
theorem dX12_fall_29 : decode cX12_fall 29 = .ok (.iload_n 1, 1) := by decide +kernel
theorem dX12_fall_30 : decode cX12_fall 30 = .ok (.iaload, 1) := by decide +kernel
theorem dX12_fall_31 : decode cX12_fall 31 = .ok (.iastore, 1) := by decide +kernel
theorem dX12_fall_32 : decode cX12_fall 32 = .ok (.aload_n 0, 1) := by decide +kernel
theorem dX12_fall_33 : decode cX12_fall 33 = .ok (.iload_n 1, 1) := by decide +kernel
theorem dX12_fall_34 : decode cX12_fall 34 = .ok (.invokevirtual 271, 3) := by decide +kernel
theorem dX12_fall_37 : decode cX12_fall 37 = .ok (.iload_n 1, 1) := by decide +kernel
theorem dX12_fall_38 : decode cX12_fall 38 = .ok (.iconst 1, 1) := by decide +kernel
theorem dX12_fall_39 : decode cX12_fall 39 = .ok (.if_icmp .eq 21, 3) := by decide +kernel
theorem dX12_fall_42 : decode cX12_fall 42 = .ok (.aload_n 0, 1) := by decide +kernel
theorem dX12_fall_43 : decode cX12_fall 43 = .ok (.getfield 43, 3) := by decide +kernel
theorem dX12_fall_46 : decode cX12_fall 46 = .ok (.iconst 1, 1) := by decide +kernel
theorem dX12_fall_47 : decode cX12_fall 47 = .ok (.baload, 1) := by decide +kernel
theorem dX12_fall_48 : decode cX12_fall 48 = .ok (.ifCond .eq 12, 3) := by decide +kernel
theorem dX12_fall_51 : decode cX12_fall 51 = .ok (.aload_n 0, 1) := by decide +kernel
theorem dX12_fall_52 : decode cX12_fall 52 = .ok (.getfield 46, 3) := by decide +kernel
theorem dX12_fall_55 : decode cX12_fall 55 = .ok (.iconst 1, 1) := by decide +kernel
theorem dX12_fall_56 : decode cX12_fall 56 = .ok (.baload, 1) := by decide +kernel
theorem dX12_fall_57 : decode cX12_fall 57 = .ok (.ifCond .ne 4, 3) := by decide +kernel
theorem dX12_fall_60 : decode cX12_fall 60 = .ok (.return_, 1) := by decide +kernel
theorem dX12_fall_61 : decode cX12_fall 61 = .ok (.aload_n 0, 1) := by decide +kernel
theorem dX12_fall_62 : decode cX12_fall 62 = .ok (.getfield 37, 3) := by decide +kernel
theorem dX12_fall_65 : decode cX12_fall 65 = .ok (.iconst 1, 1) := by decide +kernel
theorem dX12_fall_66 : decode cX12_fall 66 = .ok (.dup2, 1) := by decide +kernel
theorem dX12_fall_67 : decode cX12_fall 67 = .ok (.iaload, 1) := by decide +kernel
theorem dX12_fall_68 : decode cX12_fall 68 = .ok (.iconst 1, 1) := by decide +kernel
theorem dX12_fall_69 : decode cX12_fall 69 = .ok (.isub, 1) := by decide +kernel
theorem dX12_fall_70 : decode cX12_fall 70 = .ok (.iastore, 1) := by decide +kernel
theorem dX12_fall_71 : decode cX12_fall 71 = .ok (.aload_n 0, 1) := by decide +kernel
theorem dX12_fall_72 : decode cX12_fall 72 = .ok (.getfield 37, 3) := by decide +kernel
theorem dX12_fall_75 : decode cX12_fall 75 = .ok (.iconst 1, 1) := by decide +kernel
theorem dX12_fall_76 : decode cX12_fall 76 = .ok (.iaload, 1) := by decide +kernel
theorem dX12_fall_77 : decode cX12_fall 77 = .ok (.ifCond .le 4, 3) := by decide +kernel
theorem dX12_fall_80 : decode cX12_fall 80 = .ok (.return_, 1) := by decide +kernel
theorem dX12_fall_81 : decode cX12_fall 81 = .ok (.aload_n 0, 1) := by decide +kernel
theorem dX12_fall_82 : decode cX12_fall 82 = .ok (.getfield 37, 3) := by decide +kernel
theorem dX12_fall_85 : decode cX12_fall 85 = .ok (.iconst 1, 1) := by decide +kernel
theorem dX12_fall_86 : decode cX12_fall 86 = .ok (.aload_n 0, 1) := by decide +kernel
theorem dX12_fall_87 : decode cX12_fall 87 = .ok (.getfield 34, 3) := by decide +kernel
theorem dX12_fall_90 : decode cX12_fall 90 = .ok (.iconst 1, 1) := by decide +kernel
theorem dX12_fall_91 : decode cX12_fall 91 = .ok (.iaload, 1) := by decide +kernel
theorem dX12_fall_92 : decode cX12_fall 92 = .ok (.iastore, 1) := by decide +kernel
theorem dX12_fall_93 : decode cX12_fall 93 = .ok (.aload_n 0, 1) := by decide +kernel
theorem dX12_fall_94 : decode cX12_fall 94 = .ok (.iconst 1, 1) := by decide +kernel
theorem dX12_fall_95 : decode cX12_fall 95 = .ok (.invokevirtual 271, 3) := by decide +kernel
theorem dX12_fall_98 : decode cX12_fall 98 = .ok (.return_, 1) := by decide +kernel
theorem dX12_pass_0 : decode cX12_pass 0 = .ok (.aload_n 0, 1) := by decide +kernel
theorem dX12_pass_1 : decode cX12_pass 1 = .ok (.dup, 1) := by decide +kernel
theorem dX12_pass_2 : decode cX12_pass 2 = .ok (.getfield 265, 3) := by decide +kernel
theorem dX12_pass_5 : decode cX12_pass 5 = .ok (.iload_n 1, 1) := by decide +kernel
theorem dX12_pass_6 : decode cX12_pass 6 = .ok (.iadd, 1) := by decide +kernel
theorem dX12_pass_7 : decode cX12_pass 7 = .ok (.putfield 265, 3) := by decide +kernel
theorem dX12_pass_10 : decode cX12_pass 10 = .ok (.aload_n 0, 1) := by decide +kernel
theorem dX12_pass_11 : decode cX12_pass 11 = .ok (.getfield 91, 3) := by decide +kernel
theorem dX12_pass_14 : decode cX12_pass 14 = .ok (.iconst 0, 1) := by decide +kernel
theorem dX12_pass_15 : decode cX12_pass 15 = .ok (.dup2, 1) := by decide +kernel
theorem dX12_pass_16 : decode cX12_pass 16 = .ok (.iaload, 1) := by decide +kernel
theorem dX12_pass_17 : decode cX12_pass 17 = .ok (.iload_n 1, 1) := by decide +kernel
theorem dX12_pass_18 : decode cX12_pass 18 = .ok (.iadd, 1) := by decide +kernel
theorem dX12_pass_19 : decode cX12_pass 19 = .ok (.iastore, 1) := by decide +kernel
theorem dX12_pass_20 : decode cX12_pass 20 = .ok (.iconst 0, 1) := by decide +kernel
theorem dX12_pass_21 : decode cX12_pass 21 = .ok (.istore_n 2, 1) := by decide +kernel
theorem dX12_pass_22 : decode cX12_pass 22 = .ok (.iload_n 2, 1) := by decide +kernel
theorem dX12_pass_23 : decode cX12_pass 23 = .ok (.iconst 2, 1) := by decide +kernel
theorem dX12_pass_24 : decode cX12_pass 24 = .ok (.if_icmp .ge 77, 3) := by decide +kernel
theorem dX12_pass_27 : decode cX12_pass 27 = .ok (.iconst 0, 1) := by decide +kernel
theorem dX12_pass_28 : decode cX12_pass 28 = .ok (.istore_n 3, 1) := by decide +kernel
theorem dX12_pass_29 : decode cX12_pass 29 = .ok (.iload_n 3, 1) := by decide +kernel
theorem dX12_pass_30 : decode cX12_pass 30 = .ok (.iload_n 1, 1) := by decide +kernel
theorem dX12_pass_31 : decode cX12_pass 31 = .ok (.if_icmp .ge 64, 3) := by decide +kernel
theorem dX12_pass_34 : decode cX12_pass 34 = .ok (.aload_n 0, 1) := by decide +kernel
theorem dX12_pass_35 : decode cX12_pass 35 = .ok (.getfield 43, 3) := by decide +kernel
