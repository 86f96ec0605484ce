theorem dX12_pass_38 : decode cX12_pass 38 = .ok (.iload_n 2, 1) := by decide +kernel
theorem dX12_pass_39 : decode cX12_pass 39 = .ok (.baload, 1) := by decide +kernel
theorem dX12_pass_40 : decode cX12_pass 40 = .ok (.ifCond .eq 55, 3) := by decide +kernel
theorem dX12_pass_43 : decode cX12_pass 43 = .ok (.aload_n 0, 1) := by decide +kernel
theorem dX12_pass_44 : decode cX12_pass 44 = .ok (.getfield 46, 3) := by decide +kernel
theorem dX12_pass_47 : decode cX12_pass 47 = .ok (.iload_n 2, 1) := by decide +kernel
theorem dX12_pass_48 : decode cX12_pass 48 = .ok (.baload, 1) := by decide +kernel
theorem dX12_pass_49 : decode cX12_pass 49 = .ok (.ifCond .ne 46, 3) := by decide +kernel
theorem dX12_pass_52 : decode cX12_pass 52 = .ok (.aload_n 0, 1) := by decide +kernel
theorem dX12_pass_53 : decode cX12_pass 53 = .ok (.getfield 40, 3) := by decide +kernel
theorem dX12_pass_56 : decode cX12_pass 56 = .ok (.iload_n 2, 1) := by decide +kernel
theorem dX12_pass_57 : decode cX12_pass 57 = .ok (.dup2, 1) := by decide +kernel
theorem dX12_pass_58 : decode cX12_pass 58 = .ok (.iaload, 1) := by decide +kernel
theorem dX12_pass_59 : decode cX12_pass 59 = .ok (.iconst 1, 1) := by decide +kernel
theorem dX12_pass_60 : decode cX12_pass 60 = .ok (.iadd, 1) := by decide +kernel
theorem dX12_pass_61 : decode cX12_pass 61 = .ok (.iastore, 1) := by decide +kernel
theorem dX12_pass_62 : decode cX12_pass 62 = .ok (.aload_n 0, 1) := by decide +kernel
theorem dX12_pass_63 : decode cX12_pass 63 = .ok (.getfield 40, 3) := by decide +kernel
theorem dX12_pass_66 : decode cX12_pass 66 = .ok (.iload_n 2, 1) := by decide +kernel
theorem dX12_pass_67 : decode cX12_pass 67 = .ok (.iaload, 1) := by decide +kernel
theorem dX12_pass_68 : decode cX12_pass 68 = .ok (.aload_n 0, 1) := by decide +kernel
theorem dX12_pass_69 : decode cX12_pass 69 = .ok (.getfield 49, 3) := by decide +kernel
theorem dX12_pass_72 : decode cX12_pass 72 = .ok (.iload_n 2, 1) := by decide +kernel
theorem dX12_pass_73 : decode cX12_pass 73 = .ok (.iaload, 1) := by decide +kernel
theorem dX12_pass_74 : decode cX12_pass 74 = .ok (.if_icmp .lt 15, 3) := by decide +kernel
theorem dX12_pass_77 : decode cX12_pass 77 = .ok (.aload_n 0, 1) := by decide +kernel
theorem dX12_pass_78 : decode cX12_pass 78 = .ok (.getfield 40, 3) := by decide +kernel
theorem dX12_pass_81 : decode cX12_pass 81 = .ok (.iload_n 2, 1) := by decide +kernel
theorem dX12_pass_82 : decode cX12_pass 82 = .ok (.iconst 0, 1) := by decide +kernel
theorem dX12_pass_83 : decode cX12_pass 83 = .ok (.iastore, 1) := by decide +kernel
theorem dX12_pass_84 : decode cX12_pass 84 = .ok (.aload_n 0, 1) := by decide +kernel
theorem dX12_pass_85 : decode cX12_pass 85 = .ok (.iload_n 2, 1) := by decide +kernel
theorem dX12_pass_86 : decode cX12_pass 86 = .ok (.invokevirtual 268, 3) := by decide +kernel
theorem dX12_pass_89 : decode cX12_pass 89 = .ok (.iinc 3 1, 3) := by decide +kernel
theorem dX12_pass_92 : decode cX12_pass 92 = .ok (.goto (-63), 3) := by decide +kernel
theorem dX12_pass_95 : decode cX12_pass 95 = .ok (.iinc 2 1, 3) := by decide +kernel
theorem dX12_pass_98 : decode cX12_pass 98 = .ok (.goto (-76), 3) := by decide +kernel
theorem dX12_pass_101 : decode cX12_pass 101 = .ok (.return_, 1) := by decide +kernel
theorem dX12_vectorOf_0 : decode cX12_vectorOf 0 = .ok (.iload_n 1, 1) := by decide +kernel
theorem dX12_vectorOf_1 : decode cX12_vectorOf 1 = .ok (.iconst 2, 1) := by decide +kernel
theorem dX12_vectorOf_2 : decode cX12_vectorOf 2 = .ok (.if_icmp .ge 14, 3) := by decide +kernel
theorem dX12_vectorOf_5 : decode cX12_vectorOf 5 = .ok (.aload_n 0, 1) := by decide +kernel
theorem dX12_vectorOf_6 : decode cX12_vectorOf 6 = .ok (.getfield 262, 3) := by decide +kernel
theorem dX12_vectorOf_9 : decode cX12_vectorOf 9 = .ok (.iconst 2, 1) := by decide +kernel
theorem dX12_vectorOf_10 : decode cX12_vectorOf 10 = .ok (.iload_n 1, 1) := by decide +kernel
theorem dX12_vectorOf_11 : decode cX12_vectorOf 11 = .ok (.imul, 1) := by decide +kernel
theorem dX12_vectorOf_12 : decode cX12_vectorOf 12 = .ok (.iadd, 1) := by decide +kernel
theorem dX12_vectorOf_13 : decode cX12_vectorOf 13 = .ok (.goto 11, 3) := by decide +kernel
theorem dX12_vectorOf_16 : decode cX12_vectorOf 16 = .ok (.aload_n 0, 1) := by decide +kernel
theorem dX12_vectorOf_17 : decode cX12_vectorOf 17 = .ok (.getfield 58, 3) := by decide +kernel
theorem dX12_vectorOf_20 : decode cX12_vectorOf 20 = .ok (.iload_n 1, 1) := by decide +kernel
theorem dX12_vectorOf_21 : decode cX12_vectorOf 21 = .ok (.iconst 2, 1) := by decide +kernel
theorem dX12_vectorOf_22 : decode cX12_vectorOf 22 = .ok (.isub, 1) := by decide +kernel
theorem dX12_vectorOf_23 : decode cX12_vectorOf 23 = .ok (.iaload, 1) := by decide +kernel
theorem dX12_vectorOf_24 : decode cX12_vectorOf 24 = .ok (.ireturn, 1) := by decide +kernel
theorem dX12_acknowledge_0 : decode cX12_acknowledge 0 = .ok (.iconst 0, 1) := by decide +kernel
theorem dX12_acknowledge_1 : decode cX12_acknowledge 1 = .ok (.istore_n 1, 1) := by decide +kernel
theorem dX12_acknowledge_2 : decode cX12_acknowledge 2 = .ok (.iload_n 1, 1) := by decide +kernel
theorem dX12_acknowledge_3 : decode cX12_acknowledge 3 = .ok (.iconst 4, 1) := by decide +kernel
theorem dX12_acknowledge_4 : decode cX12_acknowledge 4 = .ok (.if_icmp .ge 27, 3) := by decide +kernel
theorem dX12_acknowledge_7 : decode cX12_acknowledge 7 = .ok (.aload_n 0, 1) := by decide +kernel
theorem dX12_acknowledge_8 : decode cX12_acknowledge 8 = .ok (.getfield 24, 3) := by decide +kernel
theorem dX12_acknowledge_11 : decode cX12_acknowledge 11 = .ok (.iload_n 1, 1) := by decide +kernel
theorem dX12_acknowledge_12 : decode cX12_acknowledge 12 = .ok (.baload, 1) := by decide +kernel
theorem dX12_acknowledge_13 : decode cX12_acknowledge 13 = .ok (.ifCond .ne 18, 3) := by decide +kernel
theorem dX12_acknowledge_16 : decode cX12_acknowledge 16 = .ok (.aload_n 0, 1) := by decide +kernel
theorem dX12_acknowledge_17 : decode cX12_acknowledge 17 = .ok (.getfield 28, 3) := by decide +kernel
theorem dX12_acknowledge_20 : decode cX12_acknowledge 20 = .ok (.iload_n 1, 1) := by decide +kernel
theorem dX12_acknowledge_21 : decode cX12_acknowledge 21 = .ok (.baload, 1) := by decide +kernel
theorem dX12_acknowledge_22 : decode cX12_acknowledge 22 = .ok (.ifCond .ne 9, 3) := by decide +kernel
theorem dX12_acknowledge_25 : decode cX12_acknowledge 25 = .ok (.iinc 1 1, 3) := by decide +kernel
theorem dX12_acknowledge_28 : decode cX12_acknowledge 28 = .ok (.goto (-26), 3) := by decide +kernel
theorem dX12_acknowledge_31 : decode cX12_acknowledge 31 = .ok (.aload_n 0, 1) := by decide +kernel
theorem dX12_acknowledge_32 : decode cX12_acknowledge 32 = .ok (.getfield 243, 3) := by decide +kernel
theorem dX12_acknowledge_35 : decode cX12_acknowledge 35 = .ok (.ifCond .eq 17, 3) := by decide +kernel
theorem dX12_acknowledge_38 : decode cX12_acknowledge 38 = .ok (.iload_n 1, 1) := by decide +kernel
theorem dX12_acknowledge_39 : decode cX12_acknowledge 39 = .ok (.iconst 4, 1) := by decide +kernel
theorem dX12_acknowledge_40 : decode cX12_acknowledge 40 = .ok (.if_icmp .eq 12, 3) := by decide +kernel
theorem dX12_acknowledge_43 : decode cX12_acknowledge 43 = .ok (.aload_n 0, 1) := by decide +kernel
theorem dX12_acknowledge_44 : decode cX12_acknowledge 44 = .ok (.getfield 28, 3) := by decide +kernel
theorem dX12_acknowledge_47 : decode cX12_acknowledge 47 = .ok (.iload_n 1, 1) := by decide +kernel
theorem dX12_acknowledge_48 : decode cX12_acknowledge 48 = .ok (.baload, 1) := by decide +kernel
theorem dX12_acknowledge_49 : decode cX12_acknowledge 49 = .ok (.ifCond .eq 4, 3) := by decide +kernel
theorem dX12_acknowledge_52 : decode cX12_acknowledge 52 = .ok (.return_, 1) := by decide +kernel
theorem dX12_acknowledge_53 : decode cX12_acknowledge 53 = .ok (.aload_n 0, 1) := by decide +kernel
theorem dX12_acknowledge_54 : decode cX12_acknowledge 54 = .ok (.getfield 24, 3) := by decide +kernel
theorem dX12_acknowledge_57 : decode cX12_acknowledge 57 = .ok (.iload_n 1, 1) := by decide +kernel
theorem dX12_acknowledge_58 : decode cX12_acknowledge 58 = .ok (.iconst 0, 1) := by decide +kernel
theorem dX12_acknowledge_59 : decode cX12_acknowledge 59 = .ok (.bastore, 1) := by decide +kernel
theorem dX12_acknowledge_60 : decode cX12_acknowledge 60 = .ok (.aload_n 0, 1) := by decide +kernel
theorem dX12_acknowledge_61 : decode cX12_acknowledge 61 = .ok (.getfield 28, 3) := by decide +kernel
theorem dX12_acknowledge_64 : decode cX12_acknowledge 64 = .ok (.iload_n 1, 1) := by decide +kernel
theorem dX12_acknowledge_65 : decode cX12_acknowledge 65 = .ok (.iconst 1, 1) := by decide +kernel
theorem dX12_acknowledge_66 : decode cX12_acknowledge 66 = .ok (.bastore, 1) := by decide +kernel
theorem dX12_acknowledge_67 : decode cX12_acknowledge 67 = .ok (.aload_n 0, 1) := by decide +kernel
theorem dX12_acknowledge_68 : decode cX12_acknowledge 68 = .ok (.iconst 0, 1) := by decide +kernel
theorem dX12_acknowledge_69 : decode cX12_acknowledge 69 = .ok (.putfield 243, 3) := by decide +kernel
theorem dX12_acknowledge_72 : decode cX12_acknowledge 72 = .ok (.aload_n 0, 1) := by decide +kernel
theorem dX12_acknowledge_73 : decode cX12_acknowledge 73 = .ok (.iconst 0, 1) := by decide +kernel
theorem dX12_acknowledge_74 : decode cX12_acknowledge 74 = .ok (.putfield 167, 3) := by decide +kernel
theorem dX12_acknowledge_77 : decode cX12_acknowledge 77 = .ok (.aload_n 0, 1) := by decide +kernel
theorem dX12_acknowledge_78 : decode cX12_acknowledge 78 = .ok (.aload_n 0, 1) := by decide +kernel
theorem dX12_acknowledge_79 : decode cX12_acknowledge 79 = .ok (.getfield 102, 3) := by decide +kernel
theorem dX12_acknowledge_82 : decode cX12_acknowledge 82 = .ok (.invokevirtual 222, 3) := by decide +kernel
theorem dX12_acknowledge_85 : decode cX12_acknowledge 85 = .ok (.aload_n 0, 1) := by decide +kernel
theorem dX12_acknowledge_86 : decode cX12_acknowledge 86 = .ok (.aload_n 0, 1) := by decide +kernel
theorem dX12_acknowledge_87 : decode cX12_acknowledge 87 = .ok (.getfield 21, 3) := by decide +kernel
theorem dX12_acknowledge_90 : decode cX12_acknowledge 90 = .ok (.iconst 1, 1) := by decide +kernel
theorem dX12_acknowledge_91 : decode cX12_acknowledge 91 = .ok (.if_icmp .ne 8, 3) := by decide +kernel
theorem dX12_acknowledge_94 : decode cX12_acknowledge 94 = .ok (.bipush 56, 2) := by decide +kernel
theorem dX12_acknowledge_96 : decode cX12_acknowledge 96 = .ok (.goto 21, 3) := by decide +kernel
theorem dX12_acknowledge_99 : decode cX12_acknowledge 99 = .ok (.aload_n 0, 1) := by decide +kernel
theorem dX12_acknowledge_100 : decode cX12_acknowledge 100 = .ok (.sipush 256, 3) := by decide +kernel
theorem dX12_acknowledge_103 : decode cX12_acknowledge 103 = .ok (.aload_n 0, 1) := by decide +kernel
theorem dX12_acknowledge_104 : decode cX12_acknowledge 104 = .ok (.getfield 250, 3) := by decide +kernel
theorem dX12_acknowledge_107 : decode cX12_acknowledge 107 = .ok (.imul, 1) := by decide +kernel
theorem dX12_acknowledge_108 : decode cX12_acknowledge 108 = .ok (.aload_n 0, 1) := by decide +kernel
theorem dX12_acknowledge_109 : decode cX12_acknowledge 109 = .ok (.iload_n 1, 1) := by decide +kernel
theorem dX12_acknowledge_110 : decode cX12_acknowledge 110 = .ok (.invokevirtual 256, 3) := by decide +kernel
theorem dX12_acknowledge_113 : decode cX12_acknowledge 113 = .ok (.iadd, 1) := by decide +kernel
theorem dX12_acknowledge_114 : decode cX12_acknowledge 114 = .ok (.invokevirtual 118, 3) := by decide +kernel
theorem dX12_acknowledge_117 : decode cX12_acknowledge 117 = .ok (.putfield 102, 3) := by decide +kernel
theorem dX12_acknowledge_120 : decode cX12_acknowledge 120 = .ok (.aload_n 0, 1) := by decide +kernel
theorem dX12_acknowledge_121 : decode cX12_acknowledge 121 = .ok (.getfield 91, 3) := by decide +kernel
theorem dX12_acknowledge_124 : decode cX12_acknowledge 124 = .ok (.iconst 2, 1) := by decide +kernel
theorem dX12_acknowledge_125 : decode cX12_acknowledge 125 = .ok (.dup2, 1) := by decide +kernel
theorem dX12_acknowledge_126 : decode cX12_acknowledge 126 = .ok (.iaload, 1) := by decide +kernel
theorem dX12_acknowledge_127 : decode cX12_acknowledge 127 = .ok (.iconst 1, 1) := by decide +kernel
theorem dX12_acknowledge_128 : decode cX12_acknowledge 128 = .ok (.iadd, 1) := by decide +kernel
theorem dX12_acknowledge_129 : decode cX12_acknowledge 129 = .ok (.iastore, 1) := by decide +kernel
theorem dX12_acknowledge_130 : decode cX12_acknowledge 130 = .ok (.aload_n 0, 1) := by decide +kernel
theorem dX12_acknowledge_131 : decode cX12_acknowledge 131 = .ok (.aload_n 0, 1) := by decide +kernel
theorem dX12_acknowledge_132 : decode cX12_acknowledge 132 = .ok (.getfield 21, 3) := by decide +kernel
theorem dX12_acknowledge_135 : decode cX12_acknowledge 135 = .ok (.iconst 1, 1) := by decide +kernel
theorem dX12_acknowledge_136 : decode cX12_acknowledge 136 = .ok (.if_icmp .ne 8, 3) := by decide +kernel
theorem dX12_acknowledge_139 : decode cX12_acknowledge 139 = .ok (.bipush 13, 2) := by decide +kernel
theorem dX12_acknowledge_141 : decode cX12_acknowledge 141 = .ok (.goto 5, 3) := by decide +kernel
theorem dX12_acknowledge_144 : decode cX12_acknowledge 144 = .ok (.bipush 19, 2) := by decide +kernel
theorem dX12_acknowledge_146 : decode cX12_acknowledge 146 = .ok (.invokevirtual 259, 3) := by decide +kernel
theorem dX12_acknowledge_149 : decode cX12_acknowledge 149 = .ok (.return_, 1) := by decide +kernel
theorem dX12_run_0 : decode cX12_run 0 = .ok (.aload_n 0, 1) := by decide +kernel
theorem dX12_run_1 : decode cX12_run 1 = .ok (.iconst 0, 1) := by decide +kernel
theorem dX12_run_2 : decode cX12_run 2 = .ok (.putfield 265, 3) := by decide +kernel
theorem dX12_run_5 : decode cX12_run 5 = .ok (.iload_n 1, 1) := by decide +kernel
theorem dX12_run_6 : decode cX12_run 6 = .ok (.ifCond .lt 10, 3) := by decide +kernel
theorem dX12_run_9 : decode cX12_run 9 = .ok (.iload_n 1, 1) := by decide +kernel
theorem dX12_run_10 : decode cX12_run 10 = .ok (.sipush 5000, 3) := by decide +kernel
theorem dX12_run_13 : decode cX12_run 13 = .ok (.if_icmp .le 5, 3) := by decide +kernel
theorem dX12_run_16 : decode cX12_run 16 = .ok (.iconst 0, 1) := by decide +kernel
theorem dX12_run_17 : decode cX12_run 17 = .ok (.ireturn, 1) := by decide +kernel
theorem dX12_run_18 : decode cX12_run 18 = .ok (.aload_n 0, 1) := by decide +kernel
theorem dX12_run_19 : decode cX12_run 19 = .ok (.getfield 265, 3) := by decide +kernel
theorem dX12_run_22 : decode cX12_run 22 = .ok (.iload_n 1, 1) := by decide +kernel
theorem dX12_run_23 : decode cX12_run 23 = .ok (.if_icmp .ge 106, 3) := by decide +kernel
theorem dX12_run_26 : decode cX12_run 26 = .ok (.aload_n 0, 1) := by decide +kernel
theorem dX12_run_27 : decode cX12_run 27 = .ok (.getfield 167, 3) := by decide +kernel
theorem dX12_run_30 : decode cX12_run 30 = .ok (.iconst 2, 1) := by decide +kernel
theorem dX12_run_31 : decode cX12_run 31 = .ok (.if_icmp .ge 98, 3) := by decide +kernel
theorem dX12_run_34 : decode cX12_run 34 = .ok (.aload_n 0, 1) := by decide +kernel
theorem dX12_run_35 : decode cX12_run 35 = .ok (.getfield 102, 3) := by decide +kernel
theorem dX12_run_38 : decode cX12_run 38 = .ok (.istore_n 2, 1) := by decide +kernel
theorem dX12_run_39 : decode cX12_run 39 = .ok (.aload_n 0, 1) := by decide +kernel
theorem dX12_run_40 : decode cX12_run 40 = .ok (.getfield 167, 3) := by decide +kernel
theorem dX12_run_43 : decode cX12_run 43 = .ok (.ifCond .ne 21, 3) := by decide +kernel
theorem dX12_run_46 : decode cX12_run 46 = .ok (.aload_n 0, 1) := by decide +kernel
theorem dX12_run_47 : decode cX12_run 47 = .ok (.aload_n 0, 1) := by decide +kernel
theorem dX12_run_48 : decode cX12_run 48 = .ok (.getfield 102, 3) := by decide +kernel
theorem dX12_run_51 : decode cX12_run 51 = .ok (.invokevirtual 94, 3) := by decide +kernel
theorem dX12_run_54 : decode cX12_run 54 = .ok (.sipush 251, 3) := by decide +kernel
theorem dX12_run_57 : decode cX12_run 57 = .ok (.if_icmp .ne 7, 3) := by decide +kernel
theorem dX12_run_60 : decode cX12_run 60 = .ok (.iconst 1, 1) := by decide +kernel
theorem dX12_run_61 : decode cX12_run 61 = .ok (.goto 4, 3) := by decide +kernel
theorem dX12_run_64 : decode cX12_run 64 = .ok (.iconst 0, 1) := by decide +kernel
theorem dX12_run_65 : decode cX12_run 65 = .ok (.istore_n 3, 1) := by decide +kernel
theorem dX12_run_66 : decode cX12_run 66 = .ok (.aload_n 0, 1) := by decide +kernel
theorem dX12_run_67 : decode cX12_run 67 = .ok (.getfield 167, 3) := by decide +kernel
theorem dX12_run_70 : decode cX12_run 70 = .ok (.iconst 1, 1) := by decide +kernel
theorem dX12_run_71 : decode cX12_run 71 = .ok (.if_icmp .ne 7, 3) := by decide +kernel
theorem dX12_run_74 : decode cX12_run 74 = .ok (.iconst 4, 1) := by decide +kernel
theorem dX12_run_75 : decode cX12_run 75 = .ok (.goto 7, 3) := by decide +kernel
theorem dX12_run_78 : decode cX12_run 78 = .ok (.aload_n 0, 1) := by decide +kernel
theorem dX12_run_79 : decode cX12_run 79 = .ok (.invokevirtual 283, 3) := by decide +kernel
theorem dX12_run_82 : decode cX12_run 82 = .ok (.istore 4, 2) := by decide +kernel
theorem dX12_run_84 : decode cX12_run 84 = .ok (.iload 4, 2) := by decide +kernel
theorem dX12_run_86 : decode cX12_run 86 = .ok (.ifCond .ne 16, 3) := by decide +kernel
theorem dX12_run_89 : decode cX12_run 89 = .ok (.aload_n 0, 1) := by decide +kernel
theorem dX12_run_90 : decode cX12_run 90 = .ok (.iconst 2, 1) := by decide +kernel
theorem dX12_run_91 : decode cX12_run 91 = .ok (.putfield 167, 3) := by decide +kernel
theorem dX12_run_94 : decode cX12_run 94 = .ok (.aload_n 0, 1) := by decide +kernel
theorem dX12_run_95 : decode cX12_run 95 = .ok (.iload_n 2, 1) := by decide +kernel
theorem dX12_run_96 : decode cX12_run 96 = .ok (.putfield 102, 3) := by decide +kernel
theorem dX12_run_99 : decode cX12_run 99 = .ok (.goto 27, 3) := by decide +kernel
theorem dX12_run_102 : decode cX12_run 102 = .ok (.aload_n 0, 1) := by decide +kernel
theorem dX12_run_103 : decode cX12_run 103 = .ok (.getfield 91, 3) := by decide +kernel
theorem dX12_run_106 : decode cX12_run 106 = .ok (.iconst 1, 1) := by decide +kernel
theorem dX12_run_107 : decode cX12_run 107 = .ok (.dup2, 1) := by decide +kernel
theorem dX12_run_108 : decode cX12_run 108 = .ok (.iaload, 1) := by decide +kernel
theorem dX12_run_109 : decode cX12_run 109 = .ok (.iconst 1, 1) := by decide +kernel
theorem dX12_run_110 : decode cX12_run 110 = .ok (.iadd, 1) := by decide +kernel
theorem dX12_run_111 : decode cX12_run 111 = .ok (.iastore, 1) := by decide +kernel
theorem dX12_run_112 : decode cX12_run 112 = .ok (.aload_n 0, 1) := by decide +kernel
theorem dX12_run_113 : decode cX12_run 113 = .ok (.iload 4, 2) := by decide +kernel
theorem dX12_run_115 : decode cX12_run 115 = .ok (.invokevirtual 259, 3) := by decide +kernel
theorem dX12_run_118 : decode cX12_run 118 = .ok (.iload_n 3, 1) := by decide +kernel
theorem dX12_run_119 : decode cX12_run 119 = .ok (.ifCond .ne 7, 3) := by decide +kernel
theorem dX12_run_122 : decode cX12_run 122 = .ok (.aload_n 0, 1) := by decide +kernel
theorem dX12_run_123 : decode cX12_run 123 = .ok (.invokevirtual 286, 3) := by decide +kernel
theorem dX12_run_126 : decode cX12_run 126 = .ok (.goto (-108), 3) := by decide +kernel
theorem dX12_run_129 : decode cX12_run 129 = .ok (.aload_n 0, 1) := by decide +kernel
theorem dX12_run_130 : decode cX12_run 130 = .ok (.getfield 265, 3) := by decide +kernel
theorem dX12_run_133 : decode cX12_run 133 = .ok (.ireturn, 1) := by decide +kernel
theorem dX12_state_0 : decode cX12_state 0 = .ok (.aload_n 0, 1) := by decide +kernel
theorem dX12_state_1 : decode cX12_state 1 = .ok (.getfield 167, 3) := by decide +kernel
theorem dX12_state_4 : decode cX12_state 4 = .ok (.ireturn, 1) := by decide +kernel
theorem dX12_trigger_0 : decode cX12_trigger 0 = .ok (.iload_n 1, 1) := by decide +kernel
theorem dX12_trigger_1 : decode cX12_trigger 1 = .ok (.ifCond .lt 8, 3) := by decide +kernel
theorem dX12_trigger_4 : decode cX12_trigger 4 = .ok (.iload_n 1, 1) := by decide +kernel
theorem dX12_trigger_5 : decode cX12_trigger 5 = .ok (.iconst 1, 1) := by decide +kernel
theorem dX12_trigger_6 : decode cX12_trigger 6 = .ok (.if_icmp .le 5, 3) := by decide +kernel
theorem dX12_trigger_9 : decode cX12_trigger 9 = .ok (.iconst 0, 1) := by decide +kernel
theorem dX12_trigger_10 : decode cX12_trigger 10 = .ok (.ireturn, 1) := by decide +kernel
theorem dX12_trigger_11 : decode cX12_trigger 11 = .ok (.aload_n 0, 1) := by decide +kernel
theorem dX12_trigger_12 : decode cX12_trigger 12 = .ok (.getfield 43, 3) := by decide +kernel
theorem dX12_trigger_15 : decode cX12_trigger 15 = .ok (.iload_n 1, 1) := by decide +kernel
theorem dX12_trigger_16 : decode cX12_trigger 16 = .ok (.baload, 1) := by decide +kernel
theorem dX12_trigger_17 : decode cX12_trigger 17 = .ok (.ifCond .eq 17, 3) := by decide +kernel
theorem dX12_trigger_20 : decode cX12_trigger 20 = .ok (.aload_n 0, 1) := by decide +kernel
theorem dX12_trigger_21 : decode cX12_trigger 21 = .ok (.getfield 46, 3) := by decide +kernel
theorem dX12_trigger_24 : decode cX12_trigger 24 = .ok (.iload_n 1, 1) := by decide +kernel
theorem dX12_trigger_25 : decode cX12_trigger 25 = .ok (.baload, 1) := by decide +kernel
theorem dX12_trigger_26 : decode cX12_trigger 26 = .ok (.ifCond .eq 8, 3) := by decide +kernel
theorem dX12_trigger_29 : decode cX12_trigger 29 = .ok (.aload_n 0, 1) := by decide +kernel
theorem dX12_trigger_30 : decode cX12_trigger 30 = .ok (.iload_n 1, 1) := by decide +kernel
theorem dX12_trigger_31 : decode cX12_trigger 31 = .ok (.invokevirtual 268, 3) := by decide +kernel
theorem dX12_trigger_34 : decode cX12_trigger 34 = .ok (.iconst 1, 1) := by decide +kernel
theorem dX12_trigger_35 : decode cX12_trigger 35 = .ok (.ireturn, 1) := by decide +kernel
theorem dX12_strobe_0 : decode cX12_strobe 0 = .ok (.iload_n 1, 1) := by decide +kernel
theorem dX12_strobe_1 : decode cX12_strobe 1 = .ok (.ifCond .lt 8, 3) := by decide +kernel
theorem dX12_strobe_4 : decode cX12_strobe 4 = .ok (.iload_n 1, 1) := by decide +kernel
theorem dX12_strobe_5 : decode cX12_strobe 5 = .ok (.iconst 1, 1) := by decide +kernel
theorem dX12_strobe_6 : decode cX12_strobe 6 = .ok (.if_icmp .le 5, 3) := by decide +kernel
theorem dX12_strobe_9 : decode cX12_strobe 9 = .ok (.iconst 0, 1) := by decide +kernel
theorem dX12_strobe_10 : decode cX12_strobe 10 = .ok (.ireturn, 1) := by decide +kernel
theorem dX12_strobe_11 : decode cX12_strobe 11 = .ok (.aload_n 0, 1) := by decide +kernel
theorem dX12_strobe_12 : decode cX12_strobe 12 = .ok (.getfield 76, 3) := by decide +kernel
theorem dX12_strobe_15 : decode cX12_strobe 15 = .ok (.iload_n 1, 1) := by decide +kernel
theorem dX12_strobe_16 : decode cX12_strobe 16 = .ok (.baload, 1) := by decide +kernel
theorem dX12_strobe_17 : decode cX12_strobe 17 = .ok (.ifCond .eq 13, 3) := by decide +kernel
theorem dX12_strobe_20 : decode cX12_strobe 20 = .ok (.aload_n 0, 1) := by decide +kernel
theorem dX12_strobe_21 : decode cX12_strobe 21 = .ok (.getfield 55, 3) := by decide +kernel
theorem dX12_strobe_24 : decode cX12_strobe 24 = .ok (.iload_n 1, 1) := by decide +kernel
theorem dX12_strobe_25 : decode cX12_strobe 25 = .ok (.iaload, 1) := by decide +kernel
theorem dX12_strobe_26 : decode cX12_strobe 26 = .ok (.iconst 3, 1) := by decide +kernel
theorem dX12_strobe_27 : decode cX12_strobe 27 = .ok (.if_icmp .ne 5, 3) := by decide +kernel
theorem dX12_strobe_30 : decode cX12_strobe 30 = .ok (.iconst 0, 1) := by decide +kernel
theorem dX12_strobe_31 : decode cX12_strobe 31 = .ok (.ireturn, 1) := by decide +kernel
theorem dX12_strobe_32 : decode cX12_strobe 32 = .ok (.aload_n 0, 1) := by decide +kernel
theorem dX12_strobe_33 : decode cX12_strobe 33 = .ok (.getfield 82, 3) := by decide +kernel
theorem dX12_strobe_36 : decode cX12_strobe 36 = .ok (.iload_n 1, 1) := by decide +kernel
theorem dX12_strobe_37 : decode cX12_strobe 37 = .ok (.aload_n 0, 1) := by decide +kernel
theorem dX12_strobe_38 : decode cX12_strobe 38 = .ok (.getfield 55, 3) := by decide +kernel
theorem dX12_strobe_41 : decode cX12_strobe 41 = .ok (.iload_n 1, 1) := by decide +kernel
theorem dX12_strobe_42 : decode cX12_strobe 42 = .ok (.iaload, 1) := by decide +kernel
theorem dX12_strobe_43 : decode cX12_strobe 43 = .ok (.iconst 1, 1) := by decide +kernel
theorem dX12_strobe_44 : decode cX12_strobe 44 = .ok (.if_icmp .ne 11, 3) := by decide +kernel
theorem dX12_strobe_47 : decode cX12_strobe 47 = .ok (.iload_n 2, 1) := by decide +kernel
theorem dX12_strobe_48 : decode cX12_strobe 48 = .ok (.sipush 255, 3) := by decide +kernel
theorem dX12_strobe_51 : decode cX12_strobe 51 = .ok (.iand, 1) := by decide +kernel
theorem dX12_strobe_52 : decode cX12_strobe 52 = .ok (.goto 9, 3) := by decide +kernel
theorem dX12_strobe_55 : decode cX12_strobe 55 = .ok (.aload_n 0, 1) := by decide +kernel
theorem dX12_strobe_56 : decode cX12_strobe 56 = .ok (.getfield 82, 3) := by decide +kernel
theorem dX12_strobe_59 : decode cX12_strobe 59 = .ok (.iload_n 1, 1) := by decide +kernel
theorem dX12_strobe_60 : decode cX12_strobe 60 = .ok (.iaload, 1) := by decide +kernel
theorem dX12_strobe_61 : decode cX12_strobe 61 = .ok (.iastore, 1) := by decide +kernel
theorem dX12_strobe_62 : decode cX12_strobe 62 = .ok (.aload_n 0, 1) := by decide +kernel
theorem dX12_strobe_63 : decode cX12_strobe 63 = .ok (.getfield 76, 3) := by decide +kernel
theorem dX12_strobe_66 : decode cX12_strobe 66 = .ok (.iload_n 1, 1) := by decide +kernel
theorem dX12_strobe_67 : decode cX12_strobe 67 = .ok (.iconst 0, 1) := by decide +kernel
theorem dX12_strobe_68 : decode cX12_strobe 68 = .ok (.bastore, 1) := by decide +kernel
theorem dX12_strobe_69 : decode cX12_strobe 69 = .ok (.aload_n 0, 1) := by decide +kernel
theorem dX12_strobe_70 : decode cX12_strobe 70 = .ok (.iconst 2, 1) := by decide +kernel
theorem dX12_strobe_71 : decode cX12_strobe 71 = .ok (.iload_n 1, 1) := by decide +kernel
theorem dX12_strobe_72 : decode cX12_strobe 72 = .ok (.iadd, 1) := by decide +kernel
theorem dX12_strobe_73 : decode cX12_strobe 73 = .ok (.invokevirtual 271, 3) := by decide +kernel
theorem dX12_strobe_76 : decode cX12_strobe 76 = .ok (.iconst 1, 1) := by decide +kernel
theorem dX12_strobe_77 : decode cX12_strobe 77 = .ok (.ireturn, 1) := by decide +kernel
theorem dX12_lines_0 : decode cX12_lines 0 = .ok (.iload_n 1, 1) := by decide +kernel
theorem dX12_lines_1 : decode cX12_lines 1 = .ok (.ifCond .lt 8, 3) := by decide +kernel
theorem dX12_lines_4 : decode cX12_lines 4 = .ok (.iload_n 1, 1) := by decide +kernel
theorem dX12_lines_5 : decode cX12_lines 5 = .ok (.iconst 1, 1) := by decide +kernel
theorem dX12_lines_6 : decode cX12_lines 6 = .ok (.if_icmp .le 5, 3) := by decide +kernel
theorem dX12_lines_9 : decode cX12_lines 9 = .ok (.iconst 0, 1) := by decide +kernel
theorem dX12_lines_10 : decode cX12_lines 10 = .ok (.ireturn, 1) := by decide +kernel
theorem dX12_lines_11 : decode cX12_lines 11 = .ok (.aload_n 0, 1) := by decide +kernel
theorem dX12_lines_12 : decode cX12_lines 12 = .ok (.getfield 85, 3) := by decide +kernel
theorem dX12_lines_15 : decode cX12_lines 15 = .ok (.iload_n 1, 1) := by decide +kernel
theorem dX12_lines_16 : decode cX12_lines 16 = .ok (.iload_n 2, 1) := by decide +kernel
theorem dX12_lines_17 : decode cX12_lines 17 = .ok (.sipush 255, 3) := by decide +kernel
theorem dX12_lines_20 : decode cX12_lines 20 = .ok (.iand, 1) := by decide +kernel
theorem dX12_lines_21 : decode cX12_lines 21 = .ok (.iastore, 1) := by decide +kernel
theorem dX12_lines_22 : decode cX12_lines 22 = .ok (.aload_n 0, 1) := by decide +kernel
theorem dX12_lines_23 : decode cX12_lines 23 = .ok (.iload_n 1, 1) := by decide +kernel
theorem dX12_lines_24 : decode cX12_lines 24 = .ok (.invokevirtual 274, 3) := by decide +kernel
theorem dX12_lines_27 : decode cX12_lines 27 = .ok (.iconst 1, 1) := by decide +kernel
theorem dX12_lines_28 : decode cX12_lines 28 = .ok (.ireturn, 1) := by decide +kernel
theorem dX12_device_0 : decode cX12_device 0 = .ok (.iload_n 1, 1) := by decide +kernel
theorem dX12_device_1 : decode cX12_device 1 = .ok (.ifCond .lt 17, 3) := by decide +kernel
theorem dX12_device_4 : decode cX12_device 4 = .ok (.iload_n 1, 1) := by decide +kernel
theorem dX12_device_5 : decode cX12_device 5 = .ok (.iconst 3, 1) := by decide +kernel
theorem dX12_device_6 : decode cX12_device 6 = .ok (.if_icmp .gt 12, 3) := by decide +kernel
theorem dX12_device_9 : decode cX12_device 9 = .ok (.iload_n 2, 1) := by decide +kernel
theorem dX12_device_10 : decode cX12_device 10 = .ok (.ifCond .lt 8, 3) := by decide +kernel
theorem dX12_device_13 : decode cX12_device 13 = .ok (.iload_n 2, 1) := by decide +kernel
theorem dX12_device_14 : decode cX12_device 14 = .ok (.iconst 5, 1) := by decide +kernel
theorem dX12_device_15 : decode cX12_device 15 = .ok (.if_icmp .le 5, 3) := by decide +kernel
theorem dX12_device_18 : decode cX12_device 18 = .ok (.iconst (-1), 1) := by decide +kernel
theorem dX12_device_19 : decode cX12_device 19 = .ok (.ireturn, 1) := by decide +kernel
theorem dX12_device_20 : decode cX12_device 20 = .ok (.iload_n 2, 1) := by decide +kernel
theorem dX12_device_21 : decode cX12_device 21 = .ok (.ifCond .ne 18, 3) := by decide +kernel
theorem dX12_device_24 : decode cX12_device 24 = .ok (.aload_n 0, 1) := by decide +kernel
theorem dX12_device_25 : decode cX12_device 25 = .ok (.getfield 24, 3) := by decide +kernel
theorem dX12_device_28 : decode cX12_device 28 = .ok (.iload_n 1, 1) := by decide +kernel
theorem dX12_device_29 : decode cX12_device 29 = .ok (.baload, 1) := by decide +kernel
theorem dX12_device_30 : decode cX12_device 30 = .ok (.ifCond .eq 7, 3) := by decide +kernel
theorem dX12_device_33 : decode cX12_device 33 = .ok (.iconst 1, 1) := by decide +kernel
theorem dX12_device_34 : decode cX12_device 34 = .ok (.goto 4, 3) := by decide +kernel
theorem dX12_device_37 : decode cX12_device 37 = .ok (.iconst 0, 1) := by decide +kernel
theorem dX12_device_38 : decode cX12_device 38 = .ok (.ireturn, 1) := by decide +kernel
theorem dX12_device_39 : decode cX12_device 39 = .ok (.iload_n 2, 1) := by decide +kernel
theorem dX12_device_40 : decode cX12_device 40 = .ok (.iconst 1, 1) := by decide +kernel
theorem dX12_device_41 : decode cX12_device 41 = .ok (.if_icmp .ne 18, 3) := by decide +kernel
theorem dX12_device_44 : decode cX12_device 44 = .ok (.aload_n 0, 1) := by decide +kernel
theorem dX12_device_45 : decode cX12_device 45 = .ok (.getfield 28, 3) := by decide +kernel
theorem dX12_device_48 : decode cX12_device 48 = .ok (.iload_n 1, 1) := by decide +kernel
theorem dX12_device_49 : decode cX12_device 49 = .ok (.baload, 1) := by decide +kernel
theorem dX12_device_50 : decode cX12_device 50 = .ok (.ifCond .eq 7, 3) := by decide +kernel
theorem dX12_device_53 : decode cX12_device 53 = .ok (.iconst 1, 1) := by decide +kernel
theorem dX12_device_54 : decode cX12_device 54 = .ok (.goto 4, 3) := by decide +kernel
theorem dX12_device_57 : decode cX12_device 57 = .ok (.iconst 0, 1) := by decide +kernel
theorem dX12_device_58 : decode cX12_device 58 = .ok (.ireturn, 1) := by decide +kernel
theorem dX12_device_59 : decode cX12_device 59 = .ok (.iload_n 2, 1) := by decide +kernel
theorem dX12_device_60 : decode cX12_device 60 = .ok (.iconst 2, 1) := by decide +kernel
theorem dX12_device_61 : decode cX12_device 61 = .ok (.if_icmp .ne 9, 3) := by decide +kernel
theorem dX12_device_64 : decode cX12_device 64 = .ok (.aload_n 0, 1) := by decide +kernel
theorem dX12_device_65 : decode cX12_device 65 = .ok (.iload_n 1, 1) := by decide +kernel
theorem dX12_device_66 : decode cX12_device 66 = .ok (.invokevirtual 256, 3) := by decide +kernel
theorem dX12_device_69 : decode cX12_device 69 = .ok (.ireturn, 1) := by decide +kernel
theorem dX12_device_70 : decode cX12_device 70 = .ok (.iload_n 1, 1) := by decide +kernel
theorem dX12_device_71 : decode cX12_device 71 = .ok (.iconst 2, 1) := by decide +kernel
theorem dX12_device_72 : decode cX12_device 72 = .ok (.if_icmp .ge 46, 3) := by decide +kernel
theorem dX12_device_75 : decode cX12_device 75 = .ok (.iload_n 2, 1) := by decide +kernel
theorem dX12_device_76 : decode cX12_device 76 = .ok (.iconst 3, 1) := by decide +kernel
theorem dX12_device_77 : decode cX12_device 77 = .ok (.if_icmp .ne 12, 3) := by decide +kernel
theorem dX12_device_80 : decode cX12_device 80 = .ok (.aload_n 0, 1) := by decide +kernel
theorem dX12_device_81 : decode cX12_device 81 = .ok (.getfield 37, 3) := by decide +kernel
theorem dX12_device_84 : decode cX12_device 84 = .ok (.iload_n 1, 1) := by decide +kernel
theorem dX12_device_85 : decode cX12_device 85 = .ok (.iaload, 1) := by decide +kernel
theorem dX12_device_86 : decode cX12_device 86 = .ok (.goto 31, 3) := by decide +kernel
theorem dX12_device_89 : decode cX12_device 89 = .ok (.iload_n 2, 1) := by decide +kernel
theorem dX12_device_90 : decode cX12_device 90 = .ok (.iconst 4, 1) := by decide +kernel
theorem dX12_device_91 : decode cX12_device 91 = .ok (.if_icmp .ne 20, 3) := by decide +kernel
theorem dX12_device_94 : decode cX12_device 94 = .ok (.aload_n 0, 1) := by decide +kernel
theorem dX12_device_95 : decode cX12_device 95 = .ok (.getfield 43, 3) := by decide +kernel
theorem dX12_device_98 : decode cX12_device 98 = .ok (.iload_n 1, 1) := by decide +kernel
theorem dX12_device_99 : decode cX12_device 99 = .ok (.baload, 1) := by decide +kernel
theorem dX12_device_100 : decode cX12_device 100 = .ok (.ifCond .eq 7, 3) := by decide +kernel
theorem dX12_device_103 : decode cX12_device 103 = .ok (.iconst 1, 1) := by decide +kernel
theorem dX12_device_104 : decode cX12_device 104 = .ok (.goto 13, 3) := by decide +kernel
theorem dX12_device_107 : decode cX12_device 107 = .ok (.iconst 0, 1) := by decide +kernel
theorem dX12_device_108 : decode cX12_device 108 = .ok (.goto 9, 3) := by decide +kernel
theorem dX12_device_111 : decode cX12_device 111 = .ok (.aload_n 0, 1) := by decide +kernel
theorem dX12_device_112 : decode cX12_device 112 = .ok (.getfield 40, 3) := by decide +kernel
theorem dX12_device_115 : decode cX12_device 115 = .ok (.iload_n 1, 1) := by decide +kernel
theorem dX12_device_116 : decode cX12_device 116 = .ok (.iaload, 1) := by decide +kernel
theorem dX12_device_117 : decode cX12_device 117 = .ok (.ireturn, 1) := by decide +kernel
theorem dX12_device_118 : decode cX12_device 118 = .ok (.iload_n 2, 1) := by decide +kernel
theorem dX12_device_119 : decode cX12_device 119 = .ok (.iconst 3, 1) := by decide +kernel
theorem dX12_device_120 : decode cX12_device 120 = .ok (.if_icmp .ne 14, 3) := by decide +kernel
theorem dX12_device_123 : decode cX12_device 123 = .ok (.aload_n 0, 1) := by decide +kernel
theorem dX12_device_124 : decode cX12_device 124 = .ok (.getfield 55, 3) := by decide +kernel
theorem dX12_device_127 : decode cX12_device 127 = .ok (.iload_n 1, 1) := by decide +kernel
theorem dX12_device_128 : decode cX12_device 128 = .ok (.iconst 2, 1) := by decide +kernel
theorem dX12_device_129 : decode cX12_device 129 = .ok (.isub, 1) := by decide +kernel
theorem dX12_device_130 : decode cX12_device 130 = .ok (.iaload, 1) := by decide +kernel
theorem dX12_device_131 : decode cX12_device 131 = .ok (.goto 35, 3) := by decide +kernel
theorem dX12_device_134 : decode cX12_device 134 = .ok (.iload_n 2, 1) := by decide +kernel
theorem dX12_device_135 : decode cX12_device 135 = .ok (.iconst 4, 1) := by decide +kernel
theorem dX12_device_136 : decode cX12_device 136 = .ok (.if_icmp .ne 22, 3) := by decide +kernel
theorem dX12_device_139 : decode cX12_device 139 = .ok (.aload_n 0, 1) := by decide +kernel
theorem dX12_device_140 : decode cX12_device 140 = .ok (.getfield 76, 3) := by decide +kernel
theorem dX12_device_143 : decode cX12_device 143 = .ok (.iload_n 1, 1) := by decide +kernel
theorem dX12_device_144 : decode cX12_device 144 = .ok (.iconst 2, 1) := by decide +kernel
theorem dX12_device_145 : decode cX12_device 145 = .ok (.isub, 1) := by decide +kernel
theorem dX12_device_146 : decode cX12_device 146 = .ok (.baload, 1) := by decide +kernel
theorem dX12_device_147 : decode cX12_device 147 = .ok (.ifCond .eq 7, 3) := by decide +kernel
theorem dX12_device_150 : decode cX12_device 150 = .ok (.iconst 1, 1) := by decide +kernel
theorem dX12_device_151 : decode cX12_device 151 = .ok (.goto 15, 3) := by decide +kernel
theorem dX12_device_154 : decode cX12_device 154 = .ok (.iconst 0, 1) := by decide +kernel
theorem dX12_device_155 : decode cX12_device 155 = .ok (.goto 11, 3) := by decide +kernel
theorem dX12_device_158 : decode cX12_device 158 = .ok (.aload_n 0, 1) := by decide +kernel
theorem dX12_device_159 : decode cX12_device 159 = .ok (.getfield 79, 3) := by decide +kernel
theorem dX12_device_162 : decode cX12_device 162 = .ok (.iload_n 1, 1) := by decide +kernel
theorem dX12_device_163 : decode cX12_device 163 = .ok (.iconst 2, 1) := by decide +kernel
theorem dX12_device_164 : decode cX12_device 164 = .ok (.isub, 1) := by decide +kernel
theorem dX12_device_165 : decode cX12_device 165 = .ok (.iaload, 1) := by decide +kernel
theorem dX12_device_166 : decode cX12_device 166 = .ok (.ireturn, 1) := by decide +kernel
theorem dX12_passed_0 : decode cX12_passed 0 = .ok (.iload_n 1, 1) := by decide +kernel
theorem dX12_passed_1 : decode cX12_passed 1 = .ok (.ifCond .lt 8, 3) := by decide +kernel
theorem dX12_passed_4 : decode cX12_passed 4 = .ok (.iload_n 1, 1) := by decide +kernel
theorem dX12_passed_5 : decode cX12_passed 5 = .ok (.iconst 2, 1) := by decide +kernel
theorem dX12_passed_6 : decode cX12_passed 6 = .ok (.if_icmp .le 7, 3) := by decide +kernel
theorem dX12_passed_9 : decode cX12_passed 9 = .ok (.iconst (-1), 1) := by decide +kernel
theorem dX12_passed_10 : decode cX12_passed 10 = .ok (.goto 9, 3) := by decide +kernel
theorem dX12_passed_13 : decode cX12_passed 13 = .ok (.aload_n 0, 1) := by decide +kernel
theorem dX12_passed_14 : decode cX12_passed 14 = .ok (.getfield 91, 3) := by decide +kernel
theorem dX12_passed_17 : decode cX12_passed 17 = .ok (.iload_n 1, 1) := by decide +kernel
theorem dX12_passed_18 : decode cX12_passed 18 = .ok (.iaload, 1) := by decide +kernel
theorem dX12_passed_19 : decode cX12_passed 19 = .ok (.ireturn, 1) := by decide +kernel
