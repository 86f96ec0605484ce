theorem dX12_poke_0 : decode cX12_poke 0 = .ok (.iload_n 1, 1) := by decide +kernel
theorem dX12_poke_1 : decode cX12_poke 1 = .ok (.ifCond .lt 10, 3) := by decide +kernel
theorem dX12_poke_4 : decode cX12_poke 4 = .ok (.iload_n 1, 1) := by decide +kernel
theorem dX12_poke_5 : decode cX12_poke 5 = .ok (.sipush 1023, 3) := by decide +kernel
theorem dX12_poke_8 : decode cX12_poke 8 = .ok (.if_icmp .le 5, 3) := by decide +kernel
theorem dX12_poke_11 : decode cX12_poke 11 = .ok (.iconst 0, 1) := by decide +kernel
theorem dX12_poke_12 : decode cX12_poke 12 = .ok (.ireturn, 1) := by decide +kernel
theorem dX12_poke_13 : decode cX12_poke 13 = .ok (.aload_n 0, 1) := by decide +kernel
theorem dX12_poke_14 : decode cX12_poke 14 = .ok (.getfield 7, 3) := by decide +kernel
theorem dX12_poke_17 : decode cX12_poke 17 = .ok (.iload_n 1, 1) := by decide +kernel
theorem dX12_poke_18 : decode cX12_poke 18 = .ok (.iload_n 2, 1) := by decide +kernel
theorem dX12_poke_19 : decode cX12_poke 19 = .ok (.sipush 255, 3) := by decide +kernel
theorem dX12_poke_22 : decode cX12_poke 22 = .ok (.iand, 1) := by decide +kernel
theorem dX12_poke_23 : decode cX12_poke 23 = .ok (.iastore, 1) := by decide +kernel
theorem dX12_poke_24 : decode cX12_poke 24 = .ok (.iconst 1, 1) := by decide +kernel
theorem dX12_poke_25 : decode cX12_poke 25 = .ok (.ireturn, 1) := by decide +kernel
theorem dX12_poke4_0 : decode cX12_poke4 0 = .ok (.iload_n 1, 1) := by decide +kernel
theorem dX12_poke4_1 : decode cX12_poke4 1 = .ok (.ifCond .lt 10, 3) := by decide +kernel
theorem dX12_poke4_4 : decode cX12_poke4 4 = .ok (.iload_n 1, 1) := by decide +kernel
theorem dX12_poke4_5 : decode cX12_poke4 5 = .ok (.sipush 1020, 3) := by decide +kernel
theorem dX12_poke4_8 : decode cX12_poke4 8 = .ok (.if_icmp .le 5, 3) := by decide +kernel
theorem dX12_poke4_11 : decode cX12_poke4 11 = .ok (.iconst 0, 1) := by decide +kernel
theorem dX12_poke4_12 : decode cX12_poke4 12 = .ok (.ireturn, 1) := by decide +kernel
theorem dX12_poke4_13 : decode cX12_poke4 13 = .ok (.iconst 0, 1) := by decide +kernel
theorem dX12_poke4_14 : decode cX12_poke4 14 = .ok (.istore_n 3, 1) := by decide +kernel
theorem dX12_poke4_15 : decode cX12_poke4 15 = .ok (.iload_n 3, 1) := by decide +kernel
theorem dX12_poke4_16 : decode cX12_poke4 16 = .ok (.iconst 4, 1) := by decide +kernel
theorem dX12_poke4_17 : decode cX12_poke4 17 = .ok (.if_icmp .ge 30, 3) := by decide +kernel
theorem dX12_poke4_20 : decode cX12_poke4 20 = .ok (.aload_n 0, 1) := by decide +kernel
theorem dX12_poke4_21 : decode cX12_poke4 21 = .ok (.getfield 7, 3) := by decide +kernel
theorem dX12_poke4_24 : decode cX12_poke4 24 = .ok (.iload_n 1, 1) := by decide +kernel
theorem dX12_poke4_25 : decode cX12_poke4 25 = .ok (.iload_n 3, 1) := by decide +kernel
theorem dX12_poke4_26 : decode cX12_poke4 26 = .ok (.iadd, 1) := by decide +kernel
theorem dX12_poke4_27 : decode cX12_poke4 27 = .ok (.iload_n 2, 1) := by decide +kernel
theorem dX12_poke4_28 : decode cX12_poke4 28 = .ok (.bipush 24, 2) := by decide +kernel
theorem dX12_poke4_30 : decode cX12_poke4 30 = .ok (.bipush 8, 2) := by decide +kernel
theorem dX12_poke4_32 : decode cX12_poke4 32 = .ok (.iload_n 3, 1) := by decide +kernel
theorem dX12_poke4_33 : decode cX12_poke4 33 = .ok (.imul, 1) := by decide +kernel
theorem dX12_poke4_34 : decode cX12_poke4 34 = .ok (.isub, 1) := by decide +kernel
theorem dX12_poke4_35 : decode cX12_poke4 35 = .ok (.ishr, 1) := by decide +kernel
theorem dX12_poke4_36 : decode cX12_poke4 36 = .ok (.sipush 255, 3) := by decide +kernel
theorem dX12_poke4_39 : decode cX12_poke4 39 = .ok (.iand, 1) := by decide +kernel
theorem dX12_poke4_40 : decode cX12_poke4 40 = .ok (.iastore, 1) := by decide +kernel
theorem dX12_poke4_41 : decode cX12_poke4 41 = .ok (.iinc 3 1, 3) := by decide +kernel
theorem dX12_poke4_44 : decode cX12_poke4 44 = .ok (.goto (-29), 3) := by decide +kernel
theorem dX12_poke4_47 : decode cX12_poke4 47 = .ok (.iconst 1, 1) := by decide +kernel
theorem dX12_poke4_48 : decode cX12_poke4 48 = .ok (.ireturn, 1) := by decide +kernel
theorem dX12_peek_0 : decode cX12_peek 0 = .ok (.iload_n 1, 1) := by decide +kernel
theorem dX12_peek_1 : decode cX12_peek 1 = .ok (.ifCond .lt 10, 3) := by decide +kernel
theorem dX12_peek_4 : decode cX12_peek 4 = .ok (.iload_n 1, 1) := by decide +kernel
theorem dX12_peek_5 : decode cX12_peek 5 = .ok (.sipush 1023, 3) := by decide +kernel
theorem dX12_peek_8 : decode cX12_peek 8 = .ok (.if_icmp .le 7, 3) := by decide +kernel
theorem dX12_peek_11 : decode cX12_peek 11 = .ok (.iconst (-1), 1) := by decide +kernel
theorem dX12_peek_12 : decode cX12_peek 12 = .ok (.goto 9, 3) := by decide +kernel
theorem dX12_peek_15 : decode cX12_peek 15 = .ok (.aload_n 0, 1) := by decide +kernel
theorem dX12_peek_16 : decode cX12_peek 16 = .ok (.getfield 7, 3) := by decide +kernel
theorem dX12_peek_19 : decode cX12_peek 19 = .ok (.iload_n 1, 1) := by decide +kernel
theorem dX12_peek_20 : decode cX12_peek 20 = .ok (.iaload, 1) := by decide +kernel
theorem dX12_peek_21 : decode cX12_peek 21 = .ok (.ireturn, 1) := by decide +kernel
theorem dX12_af_0 : decode cX12_af 0 = .ok (.sipush 256, 3) := by decide +kernel
theorem dX12_af_3 : decode cX12_af 3 = .ok (.aload_n 0, 1) := by decide +kernel
theorem dX12_af_4 : decode cX12_af 4 = .ok (.getfield 13, 3) := by decide +kernel
theorem dX12_af_7 : decode cX12_af 7 = .ok (.iload_n 1, 1) := by decide +kernel
theorem dX12_af_8 : decode cX12_af 8 = .ok (.bipush 7, 2) := by decide +kernel
theorem dX12_af_10 : decode cX12_af 10 = .ok (.iadd, 1) := by decide +kernel
theorem dX12_af_11 : decode cX12_af 11 = .ok (.iaload, 1) := by decide +kernel
theorem dX12_af_12 : decode cX12_af 12 = .ok (.imul, 1) := by decide +kernel
theorem dX12_af_13 : decode cX12_af 13 = .ok (.aload_n 0, 1) := by decide +kernel
theorem dX12_af_14 : decode cX12_af 14 = .ok (.getfield 13, 3) := by decide +kernel
theorem dX12_af_17 : decode cX12_af 17 = .ok (.iload_n 1, 1) := by decide +kernel
theorem dX12_af_18 : decode cX12_af 18 = .ok (.bipush 6, 2) := by decide +kernel
theorem dX12_af_20 : decode cX12_af 20 = .ok (.iadd, 1) := by decide +kernel
theorem dX12_af_21 : decode cX12_af 21 = .ok (.iaload, 1) := by decide +kernel
theorem dX12_af_22 : decode cX12_af 22 = .ok (.iadd, 1) := by decide +kernel
theorem dX12_af_23 : decode cX12_af 23 = .ok (.ireturn, 1) := by decide +kernel
theorem dX12_pair_0 : decode cX12_pair 0 = .ok (.sipush 256, 3) := by decide +kernel
theorem dX12_pair_3 : decode cX12_pair 3 = .ok (.aload_n 0, 1) := by decide +kernel
theorem dX12_pair_4 : decode cX12_pair 4 = .ok (.getfield 13, 3) := by decide +kernel
theorem dX12_pair_7 : decode cX12_pair 7 = .ok (.iload_n 1, 1) := by decide +kernel
theorem dX12_pair_8 : decode cX12_pair 8 = .ok (.iaload, 1) := by decide +kernel
theorem dX12_pair_9 : decode cX12_pair 9 = .ok (.imul, 1) := by decide +kernel
theorem dX12_pair_10 : decode cX12_pair 10 = .ok (.aload_n 0, 1) := by decide +kernel
theorem dX12_pair_11 : decode cX12_pair 11 = .ok (.getfield 13, 3) := by decide +kernel
theorem dX12_pair_14 : decode cX12_pair 14 = .ok (.iload_n 1, 1) := by decide +kernel
theorem dX12_pair_15 : decode cX12_pair 15 = .ok (.iconst 1, 1) := by decide +kernel
theorem dX12_pair_16 : decode cX12_pair 16 = .ok (.iadd, 1) := by decide +kernel
theorem dX12_pair_17 : decode cX12_pair 17 = .ok (.iaload, 1) := by decide +kernel
theorem dX12_pair_18 : decode cX12_pair 18 = .ok (.iadd, 1) := by decide +kernel
theorem dX12_pair_19 : decode cX12_pair 19 = .ok (.ireturn, 1) := by decide +kernel
theorem dX12_register_0 : decode cX12_register 0 = .ok (.iload_n 1, 1) := by decide +kernel
theorem dX12_register_1 : decode cX12_register 1 = .ok (.ifCond .lt 9, 3) := by decide +kernel
theorem dX12_register_4 : decode cX12_register 4 = .ok (.iload_n 1, 1) := by decide +kernel
theorem dX12_register_5 : decode cX12_register 5 = .ok (.bipush 12, 2) := by decide +kernel
theorem dX12_register_7 : decode cX12_register 7 = .ok (.if_icmp .le 5, 3) := by decide +kernel
theorem dX12_register_10 : decode cX12_register 10 = .ok (.iconst (-1), 1) := by decide +kernel
theorem dX12_register_11 : decode cX12_register 11 = .ok (.ireturn, 1) := by decide +kernel
theorem dX12_register_12 : decode cX12_register 12 = .ok (.iload_n 1, 1) := by decide +kernel
theorem dX12_register_13 : decode cX12_register 13 = .ok (.bipush 8, 2) := by decide +kernel
theorem dX12_register_15 : decode cX12_register 15 = .ok (.if_icmp .ge 43, 3) := by decide +kernel
theorem dX12_register_18 : decode cX12_register 18 = .ok (.iload_n 1, 1) := by decide +kernel
theorem dX12_register_19 : decode cX12_register 19 = .ok (.iconst 3, 1) := by decide +kernel
theorem dX12_register_20 : decode cX12_register 20 = .ok (.iand, 1) := by decide +kernel
theorem dX12_register_21 : decode cX12_register 21 = .ok (.ifCond .ne 13, 3) := by decide +kernel
theorem dX12_register_24 : decode cX12_register 24 = .ok (.aload_n 0, 1) := by decide +kernel
theorem dX12_register_25 : decode cX12_register 25 = .ok (.iconst 2, 1) := by decide +kernel
theorem dX12_register_26 : decode cX12_register 26 = .ok (.iload_n 1, 1) := by decide +kernel
theorem dX12_register_27 : decode cX12_register 27 = .ok (.imul, 1) := by decide +kernel
theorem dX12_register_28 : decode cX12_register 28 = .ok (.invokevirtual 204, 3) := by decide +kernel
theorem dX12_register_31 : decode cX12_register 31 = .ok (.goto 26, 3) := by decide +kernel
theorem dX12_register_34 : decode cX12_register 34 = .ok (.aload_n 0, 1) := by decide +kernel
theorem dX12_register_35 : decode cX12_register 35 = .ok (.iload_n 1, 1) := by decide +kernel
theorem dX12_register_36 : decode cX12_register 36 = .ok (.iconst 4, 1) := by decide +kernel
theorem dX12_register_37 : decode cX12_register 37 = .ok (.if_icmp .ge 7, 3) := by decide +kernel
theorem dX12_register_40 : decode cX12_register 40 = .ok (.iconst 0, 1) := by decide +kernel
theorem dX12_register_41 : decode cX12_register 41 = .ok (.goto 5, 3) := by decide +kernel
theorem dX12_register_44 : decode cX12_register 44 = .ok (.bipush 8, 2) := by decide +kernel
theorem dX12_register_46 : decode cX12_register 46 = .ok (.iconst 2, 1) := by decide +kernel
theorem dX12_register_47 : decode cX12_register 47 = .ok (.iload_n 1, 1) := by decide +kernel
theorem dX12_register_48 : decode cX12_register 48 = .ok (.iconst 3, 1) := by decide +kernel
theorem dX12_register_49 : decode cX12_register 49 = .ok (.iand, 1) := by decide +kernel
theorem dX12_register_50 : decode cX12_register 50 = .ok (.iconst 1, 1) := by decide +kernel
theorem dX12_register_51 : decode cX12_register 51 = .ok (.isub, 1) := by decide +kernel
theorem dX12_register_52 : decode cX12_register 52 = .ok (.imul, 1) := by decide +kernel
theorem dX12_register_53 : decode cX12_register 53 = .ok (.iadd, 1) := by decide +kernel
theorem dX12_register_54 : decode cX12_register 54 = .ok (.invokevirtual 109, 3) := by decide +kernel
theorem dX12_register_57 : decode cX12_register 57 = .ok (.ireturn, 1) := by decide +kernel
theorem dX12_register_58 : decode cX12_register 58 = .ok (.iload_n 1, 1) := by decide +kernel
theorem dX12_register_59 : decode cX12_register 59 = .ok (.tableswitch 57 8 11 #[29, 34, 39, 44], 29) := by decide +kernel
theorem dX12_register_88 : decode cX12_register 88 = .ok (.aload_n 0, 1) := by decide +kernel
theorem dX12_register_89 : decode cX12_register 89 = .ok (.getfield 17, 3) := by decide +kernel
theorem dX12_register_92 : decode cX12_register 92 = .ok (.ireturn, 1) := by decide +kernel
theorem dX12_register_93 : decode cX12_register 93 = .ok (.aload_n 0, 1) := by decide +kernel
theorem dX12_register_94 : decode cX12_register 94 = .ok (.getfield 102, 3) := by decide +kernel
theorem dX12_register_97 : decode cX12_register 97 = .ok (.ireturn, 1) := by decide +kernel
theorem dX12_register_98 : decode cX12_register 98 = .ok (.aload_n 0, 1) := by decide +kernel
theorem dX12_register_99 : decode cX12_register 99 = .ok (.getfield 250, 3) := by decide +kernel
theorem dX12_register_102 : decode cX12_register 102 = .ok (.ireturn, 1) := by decide +kernel
theorem dX12_register_103 : decode cX12_register 103 = .ok (.aload_n 0, 1) := by decide +kernel
theorem dX12_register_104 : decode cX12_register 104 = .ok (.getfield 243, 3) := by decide +kernel
theorem dX12_register_107 : decode cX12_register 107 = .ok (.ifCond .eq 7, 3) := by decide +kernel
theorem dX12_register_110 : decode cX12_register 110 = .ok (.iconst 1, 1) := by decide +kernel
theorem dX12_register_111 : decode cX12_register 111 = .ok (.goto 4, 3) := by decide +kernel
theorem dX12_register_114 : decode cX12_register 114 = .ok (.iconst 0, 1) := by decide +kernel
theorem dX12_register_115 : decode cX12_register 115 = .ok (.ireturn, 1) := by decide +kernel
theorem dX12_register_116 : decode cX12_register 116 = .ok (.aload_n 0, 1) := by decide +kernel
theorem dX12_register_117 : decode cX12_register 117 = .ok (.getfield 21, 3) := by decide +kernel
theorem dX12_register_120 : decode cX12_register 120 = .ok (.ireturn, 1) := by decide +kernel
theorem dX12_putAf_0 : decode cX12_putAf 0 = .ok (.aload_n 0, 1) := by decide +kernel
theorem dX12_putAf_1 : decode cX12_putAf 1 = .ok (.getfield 13, 3) := by decide +kernel
theorem dX12_putAf_4 : decode cX12_putAf 4 = .ok (.iload_n 1, 1) := by decide +kernel
theorem dX12_putAf_5 : decode cX12_putAf 5 = .ok (.bipush 7, 2) := by decide +kernel
theorem dX12_putAf_7 : decode cX12_putAf 7 = .ok (.iadd, 1) := by decide +kernel
theorem dX12_putAf_8 : decode cX12_putAf 8 = .ok (.iload_n 2, 1) := by decide +kernel
theorem dX12_putAf_9 : decode cX12_putAf 9 = .ok (.bipush 8, 2) := by decide +kernel
theorem dX12_putAf_11 : decode cX12_putAf 11 = .ok (.ishr, 1) := by decide +kernel
theorem dX12_putAf_12 : decode cX12_putAf 12 = .ok (.sipush 255, 3) := by decide +kernel
theorem dX12_putAf_15 : decode cX12_putAf 15 = .ok (.iand, 1) := by decide +kernel
theorem dX12_putAf_16 : decode cX12_putAf 16 = .ok (.iastore, 1) := by decide +kernel
theorem dX12_putAf_17 : decode cX12_putAf 17 = .ok (.aload_n 0, 1) := by decide +kernel
theorem dX12_putAf_18 : decode cX12_putAf 18 = .ok (.getfield 13, 3) := by decide +kernel
theorem dX12_putAf_21 : decode cX12_putAf 21 = .ok (.iload_n 1, 1) := by decide +kernel
theorem dX12_putAf_22 : decode cX12_putAf 22 = .ok (.bipush 6, 2) := by decide +kernel
theorem dX12_putAf_24 : decode cX12_putAf 24 = .ok (.iadd, 1) := by decide +kernel
theorem dX12_putAf_25 : decode cX12_putAf 25 = .ok (.iload_n 2, 1) := by decide +kernel
theorem dX12_putAf_26 : decode cX12_putAf 26 = .ok (.sipush 215, 3) := by decide +kernel
theorem dX12_putAf_29 : decode cX12_putAf 29 = .ok (.iand, 1) := by decide +kernel
theorem dX12_putAf_30 : decode cX12_putAf 30 = .ok (.iastore, 1) := by decide +kernel
theorem dX12_putAf_31 : decode cX12_putAf 31 = .ok (.return_, 1) := by decide +kernel
theorem dX12_putPair_0 : decode cX12_putPair 0 = .ok (.aload_n 0, 1) := by decide +kernel
theorem dX12_putPair_1 : decode cX12_putPair 1 = .ok (.getfield 13, 3) := by decide +kernel
theorem dX12_putPair_4 : decode cX12_putPair 4 = .ok (.iload_n 1, 1) := by decide +kernel
theorem dX12_putPair_5 : decode cX12_putPair 5 = .ok (.iload_n 2, 1) := by decide +kernel
theorem dX12_putPair_6 : decode cX12_putPair 6 = .ok (.bipush 8, 2) := by decide +kernel
theorem dX12_putPair_8 : decode cX12_putPair 8 = .ok (.ishr, 1) := by decide +kernel
theorem dX12_putPair_9 : decode cX12_putPair 9 = .ok (.sipush 255, 3) := by decide +kernel
theorem dX12_putPair_12 : decode cX12_putPair 12 = .ok (.iand, 1) := by decide +kernel
theorem dX12_putPair_13 : decode cX12_putPair 13 = .ok (.iastore, 1) := by decide +kernel
theorem dX12_putPair_14 : decode cX12_putPair 14 = .ok (.aload_n 0, 1) := by decide +kernel
theorem dX12_putPair_15 : decode cX12_putPair 15 = .ok (.getfield 13, 3) := by decide +kernel
theorem dX12_putPair_18 : decode cX12_putPair 18 = .ok (.iload_n 1, 1) := by decide +kernel
theorem dX12_putPair_19 : decode cX12_putPair 19 = .ok (.iconst 1, 1) := by decide +kernel
theorem dX12_putPair_20 : decode cX12_putPair 20 = .ok (.iadd, 1) := by decide +kernel
theorem dX12_putPair_21 : decode cX12_putPair 21 = .ok (.iload_n 2, 1) := by decide +kernel
theorem dX12_putPair_22 : decode cX12_putPair 22 = .ok (.sipush 255, 3) := by decide +kernel
theorem dX12_putPair_25 : decode cX12_putPair 25 = .ok (.iand, 1) := by decide +kernel
theorem dX12_putPair_26 : decode cX12_putPair 26 = .ok (.iastore, 1) := by decide +kernel
theorem dX12_putPair_27 : decode cX12_putPair 27 = .ok (.return_, 1) := by decide +kernel
theorem dX12_set_0 : decode cX12_set 0 = .ok (.iload_n 1, 1) := by decide +kernel
theorem dX12_set_1 : decode cX12_set 1 = .ok (.ifCond .lt 9, 3) := by decide +kernel
theorem dX12_set_4 : decode cX12_set 4 = .ok (.iload_n 1, 1) := by decide +kernel
theorem dX12_set_5 : decode cX12_set 5 = .ok (.bipush 10, 2) := by decide +kernel
theorem dX12_set_7 : decode cX12_set 7 = .ok (.if_icmp .le 5, 3) := by decide +kernel
theorem dX12_set_10 : decode cX12_set 10 = .ok (.iconst 0, 1) := by decide +kernel
theorem dX12_set_11 : decode cX12_set 11 = .ok (.ireturn, 1) := by decide +kernel
theorem dX12_set_12 : decode cX12_set 12 = .ok (.iload_n 1, 1) := by decide +kernel
theorem dX12_set_13 : decode cX12_set 13 = .ok (.bipush 8, 2) := by decide +kernel
theorem dX12_set_15 : decode cX12_set 15 = .ok (.if_icmp .ge 47, 3) := by decide +kernel
theorem dX12_set_18 : decode cX12_set 18 = .ok (.iload_n 1, 1) := by decide +kernel
theorem dX12_set_19 : decode cX12_set 19 = .ok (.iconst 3, 1) := by decide +kernel
theorem dX12_set_20 : decode cX12_set 20 = .ok (.iand, 1) := by decide +kernel
theorem dX12_set_21 : decode cX12_set 21 = .ok (.ifCond .ne 14, 3) := by decide +kernel
theorem dX12_set_24 : decode cX12_set 24 = .ok (.aload_n 0, 1) := by decide +kernel
theorem dX12_set_25 : decode cX12_set 25 = .ok (.iconst 2, 1) := by decide +kernel
theorem dX12_set_26 : decode cX12_set 26 = .ok (.iload_n 1, 1) := by decide +kernel
theorem dX12_set_27 : decode cX12_set 27 = .ok (.imul, 1) := by decide +kernel
theorem dX12_set_28 : decode cX12_set 28 = .ok (.iload_n 2, 1) := by decide +kernel
theorem dX12_set_29 : decode cX12_set 29 = .ok (.invokevirtual 207, 3) := by decide +kernel
theorem dX12_set_32 : decode cX12_set 32 = .ok (.goto 73, 3) := by decide +kernel
theorem dX12_set_35 : decode cX12_set 35 = .ok (.aload_n 0, 1) := by decide +kernel
theorem dX12_set_36 : decode cX12_set 36 = .ok (.iload_n 1, 1) := by decide +kernel
theorem dX12_set_37 : decode cX12_set 37 = .ok (.iconst 4, 1) := by decide +kernel
theorem dX12_set_38 : decode cX12_set 38 = .ok (.if_icmp .ge 7, 3) := by decide +kernel
theorem dX12_set_41 : decode cX12_set 41 = .ok (.iconst 0, 1) := by decide +kernel
theorem dX12_set_42 : decode cX12_set 42 = .ok (.goto 5, 3) := by decide +kernel
theorem dX12_set_45 : decode cX12_set 45 = .ok (.bipush 8, 2) := by decide +kernel
theorem dX12_set_47 : decode cX12_set 47 = .ok (.iconst 2, 1) := by decide +kernel
theorem dX12_set_48 : decode cX12_set 48 = .ok (.iload_n 1, 1) := by decide +kernel
theorem dX12_set_49 : decode cX12_set 49 = .ok (.iconst 3, 1) := by decide +kernel
theorem dX12_set_50 : decode cX12_set 50 = .ok (.iand, 1) := by decide +kernel
theorem dX12_set_51 : decode cX12_set 51 = .ok (.iconst 1, 1) := by decide +kernel
theorem dX12_set_52 : decode cX12_set 52 = .ok (.isub, 1) := by decide +kernel
theorem dX12_set_53 : decode cX12_set 53 = .ok (.imul, 1) := by decide +kernel
theorem dX12_set_54 : decode cX12_set 54 = .ok (.iadd, 1) := by decide +kernel
theorem dX12_set_55 : decode cX12_set 55 = .ok (.iload_n 2, 1) := by decide +kernel
theorem dX12_set_56 : decode cX12_set 56 = .ok (.invokevirtual 112, 3) := by decide +kernel
theorem dX12_set_59 : decode cX12_set 59 = .ok (.goto 46, 3) := by decide +kernel
theorem dX12_set_62 : decode cX12_set 62 = .ok (.iload_n 1, 1) := by decide +kernel
theorem dX12_set_63 : decode cX12_set 63 = .ok (.bipush 8, 2) := by decide +kernel
theorem dX12_set_65 : decode cX12_set 65 = .ok (.if_icmp .ne 14, 3) := by decide +kernel
theorem dX12_set_68 : decode cX12_set 68 = .ok (.aload_n 0, 1) := by decide +kernel
theorem dX12_set_69 : decode cX12_set 69 = .ok (.iload_n 2, 1) := by decide +kernel
theorem dX12_set_70 : decode cX12_set 70 = .ok (.ldc 16, 2) := by decide +kernel
theorem dX12_set_72 : decode cX12_set 72 = .ok (.iand, 1) := by decide +kernel
theorem dX12_set_73 : decode cX12_set 73 = .ok (.putfield 17, 3) := by decide +kernel
theorem dX12_set_76 : decode cX12_set 76 = .ok (.goto 29, 3) := by decide +kernel
theorem dX12_set_79 : decode cX12_set 79 = .ok (.iload_n 1, 1) := by decide +kernel
theorem dX12_set_80 : decode cX12_set 80 = .ok (.bipush 9, 2) := by decide +kernel
theorem dX12_set_82 : decode cX12_set 82 = .ok (.if_icmp .ne 14, 3) := by decide +kernel
theorem dX12_set_85 : decode cX12_set 85 = .ok (.aload_n 0, 1) := by decide +kernel
theorem dX12_set_86 : decode cX12_set 86 = .ok (.iload_n 2, 1) := by decide +kernel
theorem dX12_set_87 : decode cX12_set 87 = .ok (.ldc 16, 2) := by decide +kernel
theorem dX12_set_89 : decode cX12_set 89 = .ok (.iand, 1) := by decide +kernel
theorem dX12_set_90 : decode cX12_set 90 = .ok (.putfield 102, 3) := by decide +kernel
theorem dX12_set_93 : decode cX12_set 93 = .ok (.goto 12, 3) := by decide +kernel
theorem dX12_set_96 : decode cX12_set 96 = .ok (.aload_n 0, 1) := by decide +kernel
theorem dX12_set_97 : decode cX12_set 97 = .ok (.iload_n 2, 1) := by decide +kernel
theorem dX12_set_98 : decode cX12_set 98 = .ok (.sipush 255, 3) := by decide +kernel
theorem dX12_set_101 : decode cX12_set 101 = .ok (.iand, 1) := by decide +kernel
theorem dX12_set_102 : decode cX12_set 102 = .ok (.putfield 250, 3) := by decide +kernel
theorem dX12_set_105 : decode cX12_set 105 = .ok (.iconst 1, 1) := by decide +kernel
theorem dX12_set_106 : decode cX12_set 106 = .ok (.ireturn, 1) := by decide +kernel
theorem dX12_byteAt_0 : decode cX12_byteAt 0 = .ok (.aload_n 0, 1) := by decide +kernel
theorem dX12_byteAt_1 : decode cX12_byteAt 1 = .ok (.getfield 7, 3) := by decide +kernel
theorem dX12_byteAt_4 : decode cX12_byteAt 4 = .ok (.iload_n 1, 1) := by decide +kernel
theorem dX12_byteAt_5 : decode cX12_byteAt 5 = .ok (.sipush 1023, 3) := by decide +kernel
theorem dX12_byteAt_8 : decode cX12_byteAt 8 = .ok (.iand, 1) := by decide +kernel
theorem dX12_byteAt_9 : decode cX12_byteAt 9 = .ok (.iaload, 1) := by decide +kernel
theorem dX12_byteAt_10 : decode cX12_byteAt 10 = .ok (.ireturn, 1) := by decide +kernel
theorem dX12_next_0 : decode cX12_next 0 = .ok (.aload_n 0, 1) := by decide +kernel
theorem dX12_next_1 : decode cX12_next 1 = .ok (.aload_n 0, 1) := by decide +kernel
theorem dX12_next_2 : decode cX12_next 2 = .ok (.getfield 102, 3) := by decide +kernel
theorem dX12_next_5 : decode cX12_next 5 = .ok (.invokevirtual 94, 3) := by decide +kernel
theorem dX12_next_8 : decode cX12_next 8 = .ok (.istore_n 1, 1) := by decide +kernel
theorem dX12_next_9 : decode cX12_next 9 = .ok (.aload_n 0, 1) := by decide +kernel
theorem dX12_next_10 : decode cX12_next 10 = .ok (.aload_n 0, 1) := by decide +kernel
theorem dX12_next_11 : decode cX12_next 11 = .ok (.getfield 102, 3) := by decide +kernel
theorem dX12_next_14 : decode cX12_next 14 = .ok (.iconst 1, 1) := by decide +kernel
theorem dX12_next_15 : decode cX12_next 15 = .ok (.iadd, 1) := by decide +kernel
theorem dX12_next_16 : decode cX12_next 16 = .ok (.ldc 16, 2) := by decide +kernel
theorem dX12_next_18 : decode cX12_next 18 = .ok (.iand, 1) := by decide +kernel
theorem dX12_next_19 : decode cX12_next 19 = .ok (.putfield 102, 3) := by decide +kernel
theorem dX12_next_22 : decode cX12_next 22 = .ok (.iload_n 1, 1) := by decide +kernel
theorem dX12_next_23 : decode cX12_next 23 = .ok (.ireturn, 1) := by decide +kernel
theorem dX12_flag_0 : decode cX12_flag 0 = .ok (.aload_n 0, 1) := by decide +kernel
theorem dX12_flag_1 : decode cX12_flag 1 = .ok (.getfield 13, 3) := by decide +kernel
theorem dX12_flag_4 : decode cX12_flag 4 = .ok (.bipush 6, 2) := by decide +kernel
theorem dX12_flag_6 : decode cX12_flag 6 = .ok (.iaload, 1) := by decide +kernel
theorem dX12_flag_7 : decode cX12_flag 7 = .ok (.iload_n 1, 1) := by decide +kernel
theorem dX12_flag_8 : decode cX12_flag 8 = .ok (.iand, 1) := by decide +kernel
theorem dX12_flag_9 : decode cX12_flag 9 = .ok (.ifCond .eq 7, 3) := by decide +kernel
theorem dX12_flag_12 : decode cX12_flag 12 = .ok (.iconst 1, 1) := by decide +kernel
theorem dX12_flag_13 : decode cX12_flag 13 = .ok (.goto 4, 3) := by decide +kernel
theorem dX12_flag_16 : decode cX12_flag 16 = .ok (.iconst 0, 1) := by decide +kernel
theorem dX12_flag_17 : decode cX12_flag 17 = .ok (.ireturn, 1) := by decide +kernel
theorem dX12_condition_0 : decode cX12_condition 0 = .ok (.iload_n 1, 1) := by decide +kernel
theorem dX12_condition_1 : decode cX12_condition 1 = .ok (.iconst 2, 1) := by decide +kernel
theorem dX12_condition_2 : decode cX12_condition 2 = .ok (.if_icmp .ge 8, 3) := by decide +kernel
theorem dX12_condition_5 : decode cX12_condition 5 = .ok (.bipush 64, 2) := by decide +kernel
theorem dX12_condition_7 : decode cX12_condition 7 = .ok (.goto 25, 3) := by decide +kernel
theorem dX12_condition_10 : decode cX12_condition 10 = .ok (.iload_n 1, 1) := by decide +kernel
theorem dX12_condition_11 : decode cX12_condition 11 = .ok (.iconst 4, 1) := by decide +kernel
theorem dX12_condition_12 : decode cX12_condition 12 = .ok (.if_icmp .ge 7, 3) := by decide +kernel
theorem dX12_condition_15 : decode cX12_condition 15 = .ok (.iconst 1, 1) := by decide +kernel
theorem dX12_condition_16 : decode cX12_condition 16 = .ok (.goto 16, 3) := by decide +kernel
theorem dX12_condition_19 : decode cX12_condition 19 = .ok (.iload_n 1, 1) := by decide +kernel
theorem dX12_condition_20 : decode cX12_condition 20 = .ok (.bipush 6, 2) := by decide +kernel
theorem dX12_condition_22 : decode cX12_condition 22 = .ok (.if_icmp .ge 7, 3) := by decide +kernel
theorem dX12_condition_25 : decode cX12_condition 25 = .ok (.iconst 4, 1) := by decide +kernel
theorem dX12_condition_26 : decode cX12_condition 26 = .ok (.goto 6, 3) := by decide +kernel
theorem dX12_condition_29 : decode cX12_condition 29 = .ok (.sipush 128, 3) := by decide +kernel
theorem dX12_condition_32 : decode cX12_condition 32 = .ok (.istore_n 2, 1) := by decide +kernel
theorem dX12_condition_33 : decode cX12_condition 33 = .ok (.aload_n 0, 1) := by decide +kernel
theorem dX12_condition_34 : decode cX12_condition 34 = .ok (.iload_n 2, 1) := by decide +kernel
theorem dX12_condition_35 : decode cX12_condition 35 = .ok (.invokevirtual 121, 3) := by decide +kernel
theorem dX12_condition_38 : decode cX12_condition 38 = .ok (.iload_n 1, 1) := by decide +kernel
theorem dX12_condition_39 : decode cX12_condition 39 = .ok (.iconst 1, 1) := by decide +kernel
theorem dX12_condition_40 : decode cX12_condition 40 = .ok (.iand, 1) := by decide +kernel
theorem dX12_condition_41 : decode cX12_condition 41 = .ok (.iconst 1, 1) := by decide +kernel
theorem dX12_condition_42 : decode cX12_condition 42 = .ok (.if_icmp .ne 7, 3) := by decide +kernel
theorem dX12_condition_45 : decode cX12_condition 45 = .ok (.iconst 1, 1) := by decide +kernel
theorem dX12_condition_46 : decode cX12_condition 46 = .ok (.goto 4, 3) := by decide +kernel
theorem dX12_condition_49 : decode cX12_condition 49 = .ok (.iconst 0, 1) := by decide +kernel
theorem dX12_condition_50 : decode cX12_condition 50 = .ok (.if_icmp .ne 7, 3) := by decide +kernel
theorem dX12_condition_53 : decode cX12_condition 53 = .ok (.iconst 1, 1) := by decide +kernel
theorem dX12_condition_54 : decode cX12_condition 54 = .ok (.goto 4, 3) := by decide +kernel
theorem dX12_condition_57 : decode cX12_condition 57 = .ok (.iconst 0, 1) := by decide +kernel
theorem dX12_condition_58 : decode cX12_condition 58 = .ok (.ireturn, 1) := by decide +kernel
theorem dX12_jumps_0 : decode cX12_jumps 0 = .ok (.iload_n 1, 1) := by decide +kernel
theorem dX12_jumps_1 : decode cX12_jumps 1 = .ok (.ifCond .ne 5, 3) := by decide +kernel
theorem dX12_jumps_4 : decode cX12_jumps 4 = .ok (.iconst 4, 1) := by decide +kernel
theorem dX12_jumps_5 : decode cX12_jumps 5 = .ok (.ireturn, 1) := by decide +kernel
theorem dX12_jumps_6 : decode cX12_jumps 6 = .ok (.iload_n 1, 1) := by decide +kernel
theorem dX12_jumps_7 : decode cX12_jumps 7 = .ok (.iconst 1, 1) := by decide +kernel
theorem dX12_jumps_8 : decode cX12_jumps 8 = .ok (.if_icmp .ne 29, 3) := by decide +kernel
theorem dX12_jumps_11 : decode cX12_jumps 11 = .ok (.aload_n 0, 1) := by decide +kernel
theorem dX12_jumps_12 : decode cX12_jumps 12 = .ok (.iconst 0, 1) := by decide +kernel
theorem dX12_jumps_13 : decode cX12_jumps 13 = .ok (.invokevirtual 204, 3) := by decide +kernel
theorem dX12_jumps_16 : decode cX12_jumps 16 = .ok (.istore_n 2, 1) := by decide +kernel
theorem dX12_jumps_17 : decode cX12_jumps 17 = .ok (.aload_n 0, 1) := by decide +kernel
theorem dX12_jumps_18 : decode cX12_jumps 18 = .ok (.iconst 0, 1) := by decide +kernel
theorem dX12_jumps_19 : decode cX12_jumps 19 = .ok (.aload_n 0, 1) := by decide +kernel
theorem dX12_jumps_20 : decode cX12_jumps 20 = .ok (.bipush 8, 2) := by decide +kernel
theorem dX12_jumps_22 : decode cX12_jumps 22 = .ok (.invokevirtual 204, 3) := by decide +kernel
theorem dX12_jumps_25 : decode cX12_jumps 25 = .ok (.invokevirtual 207, 3) := by decide +kernel
theorem dX12_jumps_28 : decode cX12_jumps 28 = .ok (.aload_n 0, 1) := by decide +kernel
theorem dX12_jumps_29 : decode cX12_jumps 29 = .ok (.bipush 8, 2) := by decide +kernel
theorem dX12_jumps_31 : decode cX12_jumps 31 = .ok (.iload_n 2, 1) := by decide +kernel
theorem dX12_jumps_32 : decode cX12_jumps 32 = .ok (.invokevirtual 207, 3) := by decide +kernel
theorem dX12_jumps_35 : decode cX12_jumps 35 = .ok (.iconst 4, 1) := by decide +kernel
theorem dX12_jumps_36 : decode cX12_jumps 36 = .ok (.ireturn, 1) := by decide +kernel
theorem dX12_jumps_37 : decode cX12_jumps 37 = .ok (.aload_n 0, 1) := by decide +kernel
theorem dX12_jumps_38 : decode cX12_jumps 38 = .ok (.invokevirtual 105, 3) := by decide +kernel
theorem dX12_jumps_41 : decode cX12_jumps 41 = .ok (.istore_n 2, 1) := by decide +kernel
theorem dX12_jumps_42 : decode cX12_jumps 42 = .ok (.iload_n 2, 1) := by decide +kernel
theorem dX12_jumps_43 : decode cX12_jumps 43 = .ok (.bipush 127, 2) := by decide +kernel
theorem dX12_jumps_45 : decode cX12_jumps 45 = .ok (.if_icmp .le 11, 3) := by decide +kernel
theorem dX12_jumps_48 : decode cX12_jumps 48 = .ok (.iload_n 2, 1) := by decide +kernel
theorem dX12_jumps_49 : decode cX12_jumps 49 = .ok (.sipush 256, 3) := by decide +kernel
theorem dX12_jumps_52 : decode cX12_jumps 52 = .ok (.isub, 1) := by decide +kernel
theorem dX12_jumps_53 : decode cX12_jumps 53 = .ok (.goto 4, 3) := by decide +kernel
theorem dX12_jumps_56 : decode cX12_jumps 56 = .ok (.iload_n 2, 1) := by decide +kernel
theorem dX12_jumps_57 : decode cX12_jumps 57 = .ok (.istore_n 2, 1) := by decide +kernel
theorem dX12_jumps_58 : decode cX12_jumps 58 = .ok (.iload_n 1, 1) := by decide +kernel
theorem dX12_jumps_59 : decode cX12_jumps 59 = .ok (.iconst 3, 1) := by decide +kernel
theorem dX12_jumps_60 : decode cX12_jumps 60 = .ok (.if_icmp .ne 7, 3) := by decide +kernel
theorem dX12_jumps_63 : decode cX12_jumps 63 = .ok (.iconst 1, 1) := by decide +kernel
theorem dX12_jumps_64 : decode cX12_jumps 64 = .ok (.goto 4, 3) := by decide +kernel
theorem dX12_jumps_67 : decode cX12_jumps 67 = .ok (.iconst 0, 1) := by decide +kernel
theorem dX12_jumps_68 : decode cX12_jumps 68 = .ok (.istore_n 3, 1) := by decide +kernel
theorem dX12_jumps_69 : decode cX12_jumps 69 = .ok (.iload_n 1, 1) := by decide +kernel
theorem dX12_jumps_70 : decode cX12_jumps 70 = .ok (.iconst 2, 1) := by decide +kernel
theorem dX12_jumps_71 : decode cX12_jumps 71 = .ok (.if_icmp .ne 39, 3) := by decide +kernel
theorem dX12_jumps_74 : decode cX12_jumps 74 = .ok (.aload_n 0, 1) := by decide +kernel
theorem dX12_jumps_75 : decode cX12_jumps 75 = .ok (.getfield 13, 3) := by decide +kernel
theorem dX12_jumps_78 : decode cX12_jumps 78 = .ok (.iconst 0, 1) := by decide +kernel
theorem dX12_jumps_79 : decode cX12_jumps 79 = .ok (.aload_n 0, 1) := by decide +kernel
theorem dX12_jumps_80 : decode cX12_jumps 80 = .ok (.getfield 13, 3) := by decide +kernel
theorem dX12_jumps_83 : decode cX12_jumps 83 = .ok (.iconst 0, 1) := by decide +kernel
theorem dX12_jumps_84 : decode cX12_jumps 84 = .ok (.iaload, 1) := by decide +kernel
theorem dX12_jumps_85 : decode cX12_jumps 85 = .ok (.iconst 1, 1) := by decide +kernel
theorem dX12_jumps_86 : decode cX12_jumps 86 = .ok (.isub, 1) := by decide +kernel
theorem dX12_jumps_87 : decode cX12_jumps 87 = .ok (.sipush 255, 3) := by decide +kernel
theorem dX12_jumps_90 : decode cX12_jumps 90 = .ok (.iand, 1) := by decide +kernel
theorem dX12_jumps_91 : decode cX12_jumps 91 = .ok (.iastore, 1) := by decide +kernel
theorem dX12_jumps_92 : decode cX12_jumps 92 = .ok (.aload_n 0, 1) := by decide +kernel
theorem dX12_jumps_93 : decode cX12_jumps 93 = .ok (.getfield 13, 3) := by decide +kernel
theorem dX12_jumps_96 : decode cX12_jumps 96 = .ok (.iconst 0, 1) := by decide +kernel
theorem dX12_jumps_97 : decode cX12_jumps 97 = .ok (.iaload, 1) := by decide +kernel
theorem dX12_jumps_98 : decode cX12_jumps 98 = .ok (.ifCond .eq 7, 3) := by decide +kernel
theorem dX12_jumps_101 : decode cX12_jumps 101 = .ok (.iconst 1, 1) := by decide +kernel
theorem dX12_jumps_102 : decode cX12_jumps 102 = .ok (.goto 4, 3) := by decide +kernel
theorem dX12_jumps_105 : decode cX12_jumps 105 = .ok (.iconst 0, 1) := by decide +kernel
theorem dX12_jumps_106 : decode cX12_jumps 106 = .ok (.istore_n 3, 1) := by decide +kernel
theorem dX12_jumps_107 : decode cX12_jumps 107 = .ok (.goto 16, 3) := by decide +kernel
theorem dX12_jumps_110 : decode cX12_jumps 110 = .ok (.iload_n 1, 1) := by decide +kernel
theorem dX12_jumps_111 : decode cX12_jumps 111 = .ok (.iconst 3, 1) := by decide +kernel
theorem dX12_jumps_112 : decode cX12_jumps 112 = .ok (.if_icmp .le 11, 3) := by decide +kernel
theorem dX12_jumps_115 : decode cX12_jumps 115 = .ok (.aload_n 0, 1) := by decide +kernel
theorem dX12_jumps_116 : decode cX12_jumps 116 = .ok (.iload_n 1, 1) := by decide +kernel
theorem dX12_jumps_117 : decode cX12_jumps 117 = .ok (.iconst 4, 1) := by decide +kernel
theorem dX12_jumps_118 : decode cX12_jumps 118 = .ok (.isub, 1) := by decide +kernel
theorem dX12_jumps_119 : decode cX12_jumps 119 = .ok (.invokevirtual 210, 3) := by decide +kernel
theorem dX12_jumps_122 : decode cX12_jumps 122 = .ok (.istore_n 3, 1) := by decide +kernel
theorem dX12_jumps_123 : decode cX12_jumps 123 = .ok (.aload_n 0, 1) := by decide +kernel
theorem dX12_jumps_124 : decode cX12_jumps 124 = .ok (.iload_n 3, 1) := by decide +kernel
theorem dX12_jumps_125 : decode cX12_jumps 125 = .ok (.ifCond .eq 15, 3) := by decide +kernel
theorem dX12_jumps_128 : decode cX12_jumps 128 = .ok (.aload_n 0, 1) := by decide +kernel
theorem dX12_jumps_129 : decode cX12_jumps 129 = .ok (.getfield 102, 3) := by decide +kernel
theorem dX12_jumps_132 : decode cX12_jumps 132 = .ok (.iload_n 2, 1) := by decide +kernel
theorem dX12_jumps_133 : decode cX12_jumps 133 = .ok (.iadd, 1) := by decide +kernel
theorem dX12_jumps_134 : decode cX12_jumps 134 = .ok (.ldc 16, 2) := by decide +kernel
theorem dX12_jumps_136 : decode cX12_jumps 136 = .ok (.iand, 1) := by decide +kernel
theorem dX12_jumps_137 : decode cX12_jumps 137 = .ok (.goto 7, 3) := by decide +kernel
theorem dX12_jumps_140 : decode cX12_jumps 140 = .ok (.aload_n 0, 1) := by decide +kernel
theorem dX12_jumps_141 : decode cX12_jumps 141 = .ok (.getfield 102, 3) := by decide +kernel
theorem dX12_jumps_144 : decode cX12_jumps 144 = .ok (.putfield 102, 3) := by decide +kernel
theorem dX12_jumps_147 : decode cX12_jumps 147 = .ok (.iload_n 1, 1) := by decide +kernel
theorem dX12_jumps_148 : decode cX12_jumps 148 = .ok (.iconst 2, 1) := by decide +kernel
theorem dX12_jumps_149 : decode cX12_jumps 149 = .ok (.if_icmp .ne 17, 3) := by decide +kernel
theorem dX12_jumps_152 : decode cX12_jumps 152 = .ok (.iload_n 3, 1) := by decide +kernel
theorem dX12_jumps_153 : decode cX12_jumps 153 = .ok (.ifCond .eq 8, 3) := by decide +kernel
theorem dX12_jumps_156 : decode cX12_jumps 156 = .ok (.bipush 13, 2) := by decide +kernel
theorem dX12_jumps_158 : decode cX12_jumps 158 = .ok (.goto 19, 3) := by decide +kernel
theorem dX12_jumps_161 : decode cX12_jumps 161 = .ok (.bipush 8, 2) := by decide +kernel
theorem dX12_jumps_163 : decode cX12_jumps 163 = .ok (.goto 14, 3) := by decide +kernel
theorem dX12_jumps_166 : decode cX12_jumps 166 = .ok (.iload_n 3, 1) := by decide +kernel
theorem dX12_jumps_167 : decode cX12_jumps 167 = .ok (.ifCond .eq 8, 3) := by decide +kernel
theorem dX12_jumps_170 : decode cX12_jumps 170 = .ok (.bipush 12, 2) := by decide +kernel
theorem dX12_jumps_172 : decode cX12_jumps 172 = .ok (.goto 5, 3) := by decide +kernel
theorem dX12_jumps_175 : decode cX12_jumps 175 = .ok (.bipush 7, 2) := by decide +kernel
theorem dX12_jumps_177 : decode cX12_jumps 177 = .ok (.ireturn, 1) := by decide +kernel
theorem dX12_nextWord_0 : decode cX12_nextWord 0 = .ok (.aload_n 0, 1) := by decide +kernel
theorem dX12_nextWord_1 : decode cX12_nextWord 1 = .ok (.invokevirtual 105, 3) := by decide +kernel
theorem dX12_nextWord_4 : decode cX12_nextWord 4 = .ok (.istore_n 1, 1) := by decide +kernel
theorem dX12_nextWord_5 : decode cX12_nextWord 5 = .ok (.iload_n 1, 1) := by decide +kernel
theorem dX12_nextWord_6 : decode cX12_nextWord 6 = .ok (.sipush 256, 3) := by decide +kernel
theorem dX12_nextWord_9 : decode cX12_nextWord 9 = .ok (.aload_n 0, 1) := by decide +kernel
theorem dX12_nextWord_10 : decode cX12_nextWord 10 = .ok (.invokevirtual 105, 3) := by decide +kernel
theorem dX12_nextWord_13 : decode cX12_nextWord 13 = .ok (.imul, 1) := by decide +kernel
theorem dX12_nextWord_14 : decode cX12_nextWord 14 = .ok (.iadd, 1) := by decide +kernel
theorem dX12_nextWord_15 : decode cX12_nextWord 15 = .ok (.ireturn, 1) := by decide +kernel
theorem dX12_putWide_0 : decode cX12_putWide 0 = .ok (.iload_n 1, 1) := by decide +kernel
theorem dX12_putWide_1 : decode cX12_putWide 1 = .ok (.iconst 3, 1) := by decide +kernel
theorem dX12_putWide_2 : decode cX12_putWide 2 = .ok (.if_icmp .ne 14, 3) := by decide +kernel
theorem dX12_putWide_5 : decode cX12_putWide 5 = .ok (.aload_n 0, 1) := by decide +kernel
theorem dX12_putWide_6 : decode cX12_putWide 6 = .ok (.iload_n 2, 1) := by decide +kernel
theorem dX12_putWide_7 : decode cX12_putWide 7 = .ok (.ldc 16, 2) := by decide +kernel
theorem dX12_putWide_9 : decode cX12_putWide 9 = .ok (.iand, 1) := by decide +kernel
theorem dX12_putWide_10 : decode cX12_putWide 10 = .ok (.putfield 17, 3) := by decide +kernel
theorem dX12_putWide_13 : decode cX12_putWide 13 = .ok (.goto 11, 3) := by decide +kernel
theorem dX12_putWide_16 : decode cX12_putWide 16 = .ok (.aload_n 0, 1) := by decide +kernel
theorem dX12_putWide_17 : decode cX12_putWide 17 = .ok (.iconst 2, 1) := by decide +kernel
theorem dX12_putWide_18 : decode cX12_putWide 18 = .ok (.iload_n 1, 1) := by decide +kernel
theorem dX12_putWide_19 : decode cX12_putWide 19 = .ok (.imul, 1) := by decide +kernel
theorem dX12_putWide_20 : decode cX12_putWide 20 = .ok (.iload_n 2, 1) := by decide +kernel
theorem dX12_putWide_21 : decode cX12_putWide 21 = .ok (.invokevirtual 112, 3) := by decide +kernel
theorem dX12_putWide_24 : decode cX12_putWide 24 = .ok (.return_, 1) := by decide +kernel
theorem dX12_wide_0 : decode cX12_wide 0 = .ok (.iload_n 1, 1) := by decide +kernel
theorem dX12_wide_1 : decode cX12_wide 1 = .ok (.iconst 3, 1) := by decide +kernel
theorem dX12_wide_2 : decode cX12_wide 2 = .ok (.if_icmp .ne 10, 3) := by decide +kernel
theorem dX12_wide_5 : decode cX12_wide 5 = .ok (.aload_n 0, 1) := by decide +kernel
theorem dX12_wide_6 : decode cX12_wide 6 = .ok (.getfield 17, 3) := by decide +kernel
theorem dX12_wide_9 : decode cX12_wide 9 = .ok (.goto 10, 3) := by decide +kernel
theorem dX12_wide_12 : decode cX12_wide 12 = .ok (.aload_n 0, 1) := by decide +kernel
theorem dX12_wide_13 : decode cX12_wide 13 = .ok (.iconst 2, 1) := by decide +kernel
theorem dX12_wide_14 : decode cX12_wide 14 = .ok (.iload_n 1, 1) := by decide +kernel
theorem dX12_wide_15 : decode cX12_wide 15 = .ok (.imul, 1) := by decide +kernel
theorem dX12_wide_16 : decode cX12_wide 16 = .ok (.invokevirtual 109, 3) := by decide +kernel
theorem dX12_wide_19 : decode cX12_wide 19 = .ok (.ireturn, 1) := by decide +kernel
theorem dX12_add_0 : decode cX12_add 0 = .ok (.iconst 0, 1) := by decide +kernel
theorem dX12_add_1 : decode cX12_add 1 = .ok (.istore 5, 2) := by decide +kernel
theorem dX12_add_3 : decode cX12_add 3 = .ok (.iload_n 3, 1) := by decide +kernel
theorem dX12_add_4 : decode cX12_add 4 = .ok (.istore 6, 2) := by decide +kernel
theorem dX12_add_6 : decode cX12_add 6 = .ok (.iconst 0, 1) := by decide +kernel
theorem dX12_add_7 : decode cX12_add 7 = .ok (.istore 7, 2) := by decide +kernel
theorem dX12_add_9 : decode cX12_add 9 = .ok (.iload 7, 2) := by decide +kernel
theorem dX12_add_11 : decode cX12_add 11 = .ok (.iload 4, 2) := by decide +kernel
theorem dX12_add_13 : decode cX12_add 13 = .ok (.if_icmp .ge 90, 3) := by decide +kernel
theorem dX12_add_16 : decode cX12_add 16 = .ok (.iload_n 1, 1) := by decide +kernel
theorem dX12_add_17 : decode cX12_add 17 = .ok (.iload 7, 2) := by decide +kernel
theorem dX12_add_19 : decode cX12_add 19 = .ok (.ishr, 1) := by decide +kernel
theorem dX12_add_20 : decode cX12_add 20 = .ok (.iconst 1, 1) := by decide +kernel
theorem dX12_add_21 : decode cX12_add 21 = .ok (.iand, 1) := by decide +kernel
theorem dX12_add_22 : decode cX12_add 22 = .ok (.iload_n 2, 1) := by decide +kernel
theorem dX12_add_23 : decode cX12_add 23 = .ok (.iload 7, 2) := by decide +kernel
theorem dX12_add_25 : decode cX12_add 25 = .ok (.ishr, 1) := by decide +kernel
theorem dX12_add_26 : decode cX12_add 26 = .ok (.iconst 1, 1) := by decide +kernel
theorem dX12_add_27 : decode cX12_add 27 = .ok (.iand, 1) := by decide +kernel
theorem dX12_add_28 : decode cX12_add 28 = .ok (.iadd, 1) := by decide +kernel
theorem dX12_add_29 : decode cX12_add 29 = .ok (.iload 6, 2) := by decide +kernel
theorem dX12_add_31 : decode cX12_add 31 = .ok (.ifCond .eq 7, 3) := by decide +kernel
theorem dX12_add_34 : decode cX12_add 34 = .ok (.iconst 1, 1) := by decide +kernel
theorem dX12_add_35 : decode cX12_add 35 = .ok (.goto 4, 3) := by decide +kernel
theorem dX12_add_38 : decode cX12_add 38 = .ok (.iconst 0, 1) := by decide +kernel
theorem dX12_add_39 : decode cX12_add 39 = .ok (.iadd, 1) := by decide +kernel
theorem dX12_add_40 : decode cX12_add 40 = .ok (.istore 8, 2) := by decide +kernel
theorem dX12_add_42 : decode cX12_add 42 = .ok (.iload 7, 2) := by decide +kernel
theorem dX12_add_44 : decode cX12_add 44 = .ok (.iload 4, 2) := by decide +kernel
theorem dX12_add_46 : decode cX12_add 46 = .ok (.iconst 1, 1) := by decide +kernel
theorem dX12_add_47 : decode cX12_add 47 = .ok (.isub, 1) := by decide +kernel
theorem dX12_add_48 : decode cX12_add 48 = .ok (.if_icmp .ne 9, 3) := by decide +kernel
theorem dX12_add_51 : decode cX12_add 51 = .ok (.aload_n 0, 1) := by decide +kernel
theorem dX12_add_52 : decode cX12_add 52 = .ok (.iload 6, 2) := by decide +kernel
theorem dX12_add_54 : decode cX12_add 54 = .ok (.putfield 125, 3) := by decide +kernel
theorem dX12_add_57 : decode cX12_add 57 = .ok (.iload 5, 2) := by decide +kernel
theorem dX12_add_59 : decode cX12_add 59 = .ok (.iload 8, 2) := by decide +kernel
theorem dX12_add_61 : decode cX12_add 61 = .ok (.iconst 1, 1) := by decide +kernel
theorem dX12_add_62 : decode cX12_add 62 = .ok (.iand, 1) := by decide +kernel
theorem dX12_add_63 : decode cX12_add 63 = .ok (.iload 7, 2) := by decide +kernel
theorem dX12_add_65 : decode cX12_add 65 = .ok (.ishl, 1) := by decide +kernel
theorem dX12_add_66 : decode cX12_add 66 = .ok (.ior, 1) := by decide +kernel
theorem dX12_add_67 : decode cX12_add 67 = .ok (.istore 5, 2) := by decide +kernel
theorem dX12_add_69 : decode cX12_add 69 = .ok (.iload 8, 2) := by decide +kernel
theorem dX12_add_71 : decode cX12_add 71 = .ok (.iconst 1, 1) := by decide +kernel
theorem dX12_add_72 : decode cX12_add 72 = .ok (.if_icmp .le 7, 3) := by decide +kernel
theorem dX12_add_75 : decode cX12_add 75 = .ok (.iconst 1, 1) := by decide +kernel
theorem dX12_add_76 : decode cX12_add 76 = .ok (.goto 4, 3) := by decide +kernel
theorem dX12_add_79 : decode cX12_add 79 = .ok (.iconst 0, 1) := by decide +kernel
theorem dX12_add_80 : decode cX12_add 80 = .ok (.istore 6, 2) := by decide +kernel
theorem dX12_add_82 : decode cX12_add 82 = .ok (.iload 7, 2) := by decide +kernel
theorem dX12_add_84 : decode cX12_add 84 = .ok (.iload 4, 2) := by decide +kernel
theorem dX12_add_86 : decode cX12_add 86 = .ok (.iconst 5, 1) := by decide +kernel
theorem dX12_add_87 : decode cX12_add 87 = .ok (.isub, 1) := by decide +kernel
theorem dX12_add_88 : decode cX12_add 88 = .ok (.if_icmp .ne 9, 3) := by decide +kernel
theorem dX12_add_91 : decode cX12_add 91 = .ok (.aload_n 0, 1) := by decide +kernel
theorem dX12_add_92 : decode cX12_add 92 = .ok (.iload 6, 2) := by decide +kernel
theorem dX12_add_94 : decode cX12_add 94 = .ok (.putfield 129, 3) := by decide +kernel
theorem dX12_add_97 : decode cX12_add 97 = .ok (.iinc 7 1, 3) := by decide +kernel
theorem dX12_add_100 : decode cX12_add 100 = .ok (.goto (-91), 3) := by decide +kernel
theorem dX12_add_103 : decode cX12_add 103 = .ok (.aload_n 0, 1) := by decide +kernel
theorem dX12_add_104 : decode cX12_add 104 = .ok (.iload 6, 2) := by decide +kernel
theorem dX12_add_106 : decode cX12_add 106 = .ok (.putfield 132, 3) := by decide +kernel
theorem dX12_add_109 : decode cX12_add 109 = .ok (.iload 5, 2) := by decide +kernel
theorem dX12_add_111 : decode cX12_add 111 = .ok (.ireturn, 1) := by decide +kernel
theorem dX12_setFlag_0 : decode cX12_setFlag 0 = .ok (.aload_n 0, 1) := by decide +kernel
theorem dX12_setFlag_1 : decode cX12_setFlag 1 = .ok (.getfield 13, 3) := by decide +kernel
theorem dX12_setFlag_4 : decode cX12_setFlag 4 = .ok (.bipush 6, 2) := by decide +kernel
theorem dX12_setFlag_6 : decode cX12_setFlag 6 = .ok (.iload_n 2, 1) := by decide +kernel
theorem dX12_setFlag_7 : decode cX12_setFlag 7 = .ok (.ifCond .eq 15, 3) := by decide +kernel
theorem dX12_setFlag_10 : decode cX12_setFlag 10 = .ok (.aload_n 0, 1) := by decide +kernel
theorem dX12_setFlag_11 : decode cX12_setFlag 11 = .ok (.getfield 13, 3) := by decide +kernel
theorem dX12_setFlag_14 : decode cX12_setFlag 14 = .ok (.bipush 6, 2) := by decide +kernel
theorem dX12_setFlag_16 : decode cX12_setFlag 16 = .ok (.iaload, 1) := by decide +kernel
theorem dX12_setFlag_17 : decode cX12_setFlag 17 = .ok (.iload_n 1, 1) := by decide +kernel
theorem dX12_setFlag_18 : decode cX12_setFlag 18 = .ok (.ior, 1) := by decide +kernel
theorem dX12_setFlag_19 : decode cX12_setFlag 19 = .ok (.goto 14, 3) := by decide +kernel
theorem dX12_setFlag_22 : decode cX12_setFlag 22 = .ok (.aload_n 0, 1) := by decide +kernel
theorem dX12_setFlag_23 : decode cX12_setFlag 23 = .ok (.getfield 13, 3) := by decide +kernel
theorem dX12_setFlag_26 : decode cX12_setFlag 26 = .ok (.bipush 6, 2) := by decide +kernel
theorem dX12_setFlag_28 : decode cX12_setFlag 28 = .ok (.iaload, 1) := by decide +kernel
theorem dX12_setFlag_29 : decode cX12_setFlag 29 = .ok (.iload_n 1, 1) := by decide +kernel
theorem dX12_setFlag_30 : decode cX12_setFlag 30 = .ok (.iconst (-1), 1) := by decide +kernel
theorem dX12_setFlag_31 : decode cX12_setFlag 31 = .ok (.ixor, 1) := by decide +kernel
theorem dX12_setFlag_32 : decode cX12_setFlag 32 = .ok (.iand, 1) := by decide +kernel
theorem dX12_setFlag_33 : decode cX12_setFlag 33 = .ok (.iastore, 1) := by decide +kernel
theorem dX12_setFlag_34 : decode cX12_setFlag 34 = .ok (.return_, 1) := by decide +kernel
theorem dX12_wideSum_0 : decode cX12_wideSum 0 = .ok (.aload_n 0, 1) := by decide +kernel
theorem dX12_wideSum_1 : decode cX12_wideSum 1 = .ok (.aload_n 0, 1) := by decide +kernel
theorem dX12_wideSum_2 : decode cX12_wideSum 2 = .ok (.iconst 4, 1) := by decide +kernel
theorem dX12_wideSum_3 : decode cX12_wideSum 3 = .ok (.invokevirtual 109, 3) := by decide +kernel
theorem dX12_wideSum_6 : decode cX12_wideSum 6 = .ok (.iload_n 1, 1) := by decide +kernel
theorem dX12_wideSum_7 : decode cX12_wideSum 7 = .ok (.iconst 0, 1) := by decide +kernel
theorem dX12_wideSum_8 : decode cX12_wideSum 8 = .ok (.bipush 16, 2) := by decide +kernel
theorem dX12_wideSum_10 : decode cX12_wideSum 10 = .ok (.invokevirtual 135, 3) := by decide +kernel
theorem dX12_wideSum_13 : decode cX12_wideSum 13 = .ok (.istore_n 2, 1) := by decide +kernel
theorem dX12_wideSum_14 : decode cX12_wideSum 14 = .ok (.aload_n 0, 1) := by decide +kernel
theorem dX12_wideSum_15 : decode cX12_wideSum 15 = .ok (.bipush 16, 2) := by decide +kernel
theorem dX12_wideSum_17 : decode cX12_wideSum 17 = .ok (.aload_n 0, 1) := by decide +kernel
theorem dX12_wideSum_18 : decode cX12_wideSum 18 = .ok (.getfield 129, 3) := by decide +kernel
theorem dX12_wideSum_21 : decode cX12_wideSum 21 = .ok (.invokevirtual 139, 3) := by decide +kernel
theorem dX12_wideSum_24 : decode cX12_wideSum 24 = .ok (.aload_n 0, 1) := by decide +kernel
theorem dX12_wideSum_25 : decode cX12_wideSum 25 = .ok (.iconst 2, 1) := by decide +kernel
theorem dX12_wideSum_26 : decode cX12_wideSum 26 = .ok (.iconst 0, 1) := by decide +kernel
theorem dX12_wideSum_27 : decode cX12_wideSum 27 = .ok (.invokevirtual 139, 3) := by decide +kernel
theorem dX12_wideSum_30 : decode cX12_wideSum 30 = .ok (.aload_n 0, 1) := by decide +kernel
theorem dX12_wideSum_31 : decode cX12_wideSum 31 = .ok (.iconst 1, 1) := by decide +kernel
theorem dX12_wideSum_32 : decode cX12_wideSum 32 = .ok (.aload_n 0, 1) := by decide +kernel
theorem dX12_wideSum_33 : decode cX12_wideSum 33 = .ok (.getfield 132, 3) := by decide +kernel
theorem dX12_wideSum_36 : decode cX12_wideSum 36 = .ok (.invokevirtual 139, 3) := by decide +kernel
theorem dX12_wideSum_39 : decode cX12_wideSum 39 = .ok (.aload_n 0, 1) := by decide +kernel
theorem dX12_wideSum_40 : decode cX12_wideSum 40 = .ok (.iconst 4, 1) := by decide +kernel
theorem dX12_wideSum_41 : decode cX12_wideSum 41 = .ok (.iload_n 2, 1) := by decide +kernel
theorem dX12_wideSum_42 : decode cX12_wideSum 42 = .ok (.invokevirtual 112, 3) := by decide +kernel
theorem dX12_wideSum_45 : decode cX12_wideSum 45 = .ok (.return_, 1) := by decide +kernel
theorem dX12_putByte_0 : decode cX12_putByte 0 = .ok (.aload_n 0, 1) := by decide +kernel
theorem dX12_putByte_1 : decode cX12_putByte 1 = .ok (.getfield 7, 3) := by decide +kernel
theorem dX12_putByte_4 : decode cX12_putByte 4 = .ok (.iload_n 1, 1) := by decide +kernel
theorem dX12_putByte_5 : decode cX12_putByte 5 = .ok (.sipush 1023, 3) := by decide +kernel
theorem dX12_putByte_8 : decode cX12_putByte 8 = .ok (.iand, 1) := by decide +kernel
theorem dX12_putByte_9 : decode cX12_putByte 9 = .ok (.iload_n 2, 1) := by decide +kernel
theorem dX12_putByte_10 : decode cX12_putByte 10 = .ok (.sipush 255, 3) := by decide +kernel
theorem dX12_putByte_13 : decode cX12_putByte 13 = .ok (.iand, 1) := by decide +kernel
theorem dX12_putByte_14 : decode cX12_putByte 14 = .ok (.iastore, 1) := by decide +kernel
theorem dX12_putByte_15 : decode cX12_putByte 15 = .ok (.return_, 1) := by decide +kernel
theorem dX12_putWord_0 : decode cX12_putWord 0 = .ok (.aload_n 0, 1) := by decide +kernel
theorem dX12_putWord_1 : decode cX12_putWord 1 = .ok (.iload_n 1, 1) := by decide +kernel
theorem dX12_putWord_2 : decode cX12_putWord 2 = .ok (.iload_n 2, 1) := by decide +kernel
theorem dX12_putWord_3 : decode cX12_putWord 3 = .ok (.invokevirtual 98, 3) := by decide +kernel
theorem dX12_putWord_6 : decode cX12_putWord 6 = .ok (.aload_n 0, 1) := by decide +kernel
theorem dX12_putWord_7 : decode cX12_putWord 7 = .ok (.iload_n 1, 1) := by decide +kernel
theorem dX12_putWord_8 : decode cX12_putWord 8 = .ok (.iconst 1, 1) := by decide +kernel
theorem dX12_putWord_9 : decode cX12_putWord 9 = .ok (.iadd, 1) := by decide +kernel
theorem dX12_putWord_10 : decode cX12_putWord 10 = .ok (.iload_n 2, 1) := by decide +kernel
theorem dX12_putWord_11 : decode cX12_putWord 11 = .ok (.bipush 8, 2) := by decide +kernel
theorem dX12_putWord_13 : decode cX12_putWord 13 = .ok (.ishr, 1) := by decide +kernel
theorem dX12_putWord_14 : decode cX12_putWord 14 = .ok (.invokevirtual 98, 3) := by decide +kernel
theorem dX12_putWord_17 : decode cX12_putWord 17 = .ok (.return_, 1) := by decide +kernel
theorem dX12_wordAt_0 : decode cX12_wordAt 0 = .ok (.aload_n 0, 1) := by decide +kernel
theorem dX12_wordAt_1 : decode cX12_wordAt 1 = .ok (.iload_n 1, 1) := by decide +kernel
theorem dX12_wordAt_2 : decode cX12_wordAt 2 = .ok (.invokevirtual 94, 3) := by decide +kernel
theorem dX12_wordAt_5 : decode cX12_wordAt 5 = .ok (.sipush 256, 3) := by decide +kernel
theorem dX12_wordAt_8 : decode cX12_wordAt 8 = .ok (.aload_n 0, 1) := by decide +kernel
theorem dX12_wordAt_9 : decode cX12_wordAt 9 = .ok (.iload_n 1, 1) := by decide +kernel
theorem dX12_wordAt_10 : decode cX12_wordAt 10 = .ok (.iconst 1, 1) := by decide +kernel
theorem dX12_wordAt_11 : decode cX12_wordAt 11 = .ok (.iadd, 1) := by decide +kernel
theorem dX12_wordAt_12 : decode cX12_wordAt 12 = .ok (.invokevirtual 94, 3) := by decide +kernel
theorem dX12_wordAt_15 : decode cX12_wordAt 15 = .ok (.imul, 1) := by decide +kernel
theorem dX12_wordAt_16 : decode cX12_wordAt 16 = .ok (.iadd, 1) := by decide +kernel
theorem dX12_wordAt_17 : decode cX12_wordAt 17 = .ok (.ireturn, 1) := by decide +kernel
theorem dX12_stores_0 : decode cX12_stores 0 = .ok (.iload_n 1, 1) := by decide +kernel
theorem dX12_stores_1 : decode cX12_stores 1 = .ok (.iconst 4, 1) := by decide +kernel
theorem dX12_stores_2 : decode cX12_stores 2 = .ok (.if_icmp .ge 54, 3) := by decide +kernel
theorem dX12_stores_5 : decode cX12_stores 5 = .ok (.aload_n 0, 1) := by decide +kernel
theorem dX12_stores_6 : decode cX12_stores 6 = .ok (.iload_n 1, 1) := by decide +kernel
theorem dX12_stores_7 : decode cX12_stores 7 = .ok (.iconst 2, 1) := by decide +kernel
theorem dX12_stores_8 : decode cX12_stores 8 = .ok (.if_icmp .ge 7, 3) := by decide +kernel
theorem dX12_stores_11 : decode cX12_stores 11 = .ok (.iconst 0, 1) := by decide +kernel
theorem dX12_stores_12 : decode cX12_stores 12 = .ok (.goto 4, 3) := by decide +kernel
theorem dX12_stores_15 : decode cX12_stores 15 = .ok (.iconst 2, 1) := by decide +kernel
theorem dX12_stores_16 : decode cX12_stores 16 = .ok (.invokevirtual 109, 3) := by decide +kernel
theorem dX12_stores_19 : decode cX12_stores 19 = .ok (.istore_n 2, 1) := by decide +kernel
theorem dX12_stores_20 : decode cX12_stores 20 = .ok (.iload_n 1, 1) := by decide +kernel
theorem dX12_stores_21 : decode cX12_stores 21 = .ok (.iconst 1, 1) := by decide +kernel
theorem dX12_stores_22 : decode cX12_stores 22 = .ok (.iand, 1) := by decide +kernel
theorem dX12_stores_23 : decode cX12_stores 23 = .ok (.ifCond .ne 18, 3) := by decide +kernel
theorem dX12_stores_26 : decode cX12_stores 26 = .ok (.aload_n 0, 1) := by decide +kernel
theorem dX12_stores_27 : decode cX12_stores 27 = .ok (.iload_n 2, 1) := by decide +kernel
theorem dX12_stores_28 : decode cX12_stores 28 = .ok (.aload_n 0, 1) := by decide +kernel
theorem dX12_stores_29 : decode cX12_stores 29 = .ok (.getfield 13, 3) := by decide +kernel
theorem dX12_stores_32 : decode cX12_stores 32 = .ok (.bipush 7, 2) := by decide +kernel
theorem dX12_stores_34 : decode cX12_stores 34 = .ok (.iaload, 1) := by decide +kernel
theorem dX12_stores_35 : decode cX12_stores 35 = .ok (.invokevirtual 98, 3) := by decide +kernel
theorem dX12_stores_38 : decode cX12_stores 38 = .ok (.goto 15, 3) := by decide +kernel
theorem dX12_stores_41 : decode cX12_stores 41 = .ok (.aload_n 0, 1) := by decide +kernel
theorem dX12_stores_42 : decode cX12_stores 42 = .ok (.getfield 13, 3) := by decide +kernel
theorem dX12_stores_45 : decode cX12_stores 45 = .ok (.bipush 7, 2) := by decide +kernel
theorem dX12_stores_47 : decode cX12_stores 47 = .ok (.aload_n 0, 1) := by decide +kernel
theorem dX12_stores_48 : decode cX12_stores 48 = .ok (.iload_n 2, 1) := by decide +kernel
theorem dX12_stores_49 : decode cX12_stores 49 = .ok (.invokevirtual 94, 3) := by decide +kernel
theorem dX12_stores_52 : decode cX12_stores 52 = .ok (.iastore, 1) := by decide +kernel
theorem dX12_stores_53 : decode cX12_stores 53 = .ok (.bipush 7, 2) := by decide +kernel
theorem dX12_stores_55 : decode cX12_stores 55 = .ok (.ireturn, 1) := by decide +kernel
theorem dX12_stores_56 : decode cX12_stores 56 = .ok (.aload_n 0, 1) := by decide +kernel
theorem dX12_stores_57 : decode cX12_stores 57 = .ok (.invokevirtual 182, 3) := by decide +kernel
theorem dX12_stores_60 : decode cX12_stores 60 = .ok (.istore_n 2, 1) := by decide +kernel
theorem dX12_stores_61 : decode cX12_stores 61 = .ok (.iload_n 1, 1) := by decide +kernel
theorem dX12_stores_62 : decode cX12_stores 62 = .ok (.iconst 4, 1) := by decide +kernel
theorem dX12_stores_63 : decode cX12_stores 63 = .ok (.if_icmp .ne 16, 3) := by decide +kernel
theorem dX12_stores_66 : decode cX12_stores 66 = .ok (.aload_n 0, 1) := by decide +kernel
theorem dX12_stores_67 : decode cX12_stores 67 = .ok (.iload_n 2, 1) := by decide +kernel
theorem dX12_stores_68 : decode cX12_stores 68 = .ok (.aload_n 0, 1) := by decide +kernel
theorem dX12_stores_69 : decode cX12_stores 69 = .ok (.iconst 4, 1) := by decide +kernel
theorem dX12_stores_70 : decode cX12_stores 70 = .ok (.invokevirtual 109, 3) := by decide +kernel
theorem dX12_stores_73 : decode cX12_stores 73 = .ok (.invokevirtual 115, 3) := by decide +kernel
theorem dX12_stores_76 : decode cX12_stores 76 = .ok (.goto 54, 3) := by decide +kernel
theorem dX12_stores_79 : decode cX12_stores 79 = .ok (.iload_n 1, 1) := by decide +kernel
theorem dX12_stores_80 : decode cX12_stores 80 = .ok (.iconst 5, 1) := by decide +kernel
theorem dX12_stores_81 : decode cX12_stores 81 = .ok (.if_icmp .ne 16, 3) := by decide +kernel
theorem dX12_stores_84 : decode cX12_stores 84 = .ok (.aload_n 0, 1) := by decide +kernel
theorem dX12_stores_85 : decode cX12_stores 85 = .ok (.iconst 4, 1) := by decide +kernel
theorem dX12_stores_86 : decode cX12_stores 86 = .ok (.aload_n 0, 1) := by decide +kernel
theorem dX12_stores_87 : decode cX12_stores 87 = .ok (.iload_n 2, 1) := by decide +kernel
theorem dX12_stores_88 : decode cX12_stores 88 = .ok (.invokevirtual 118, 3) := by decide +kernel
theorem dX12_stores_91 : decode cX12_stores 91 = .ok (.invokevirtual 112, 3) := by decide +kernel
theorem dX12_stores_94 : decode cX12_stores 94 = .ok (.goto 36, 3) := by decide +kernel
theorem dX12_stores_97 : decode cX12_stores 97 = .ok (.iload_n 1, 1) := by decide +kernel
theorem dX12_stores_98 : decode cX12_stores 98 = .ok (.bipush 6, 2) := by decide +kernel
theorem dX12_stores_100 : decode cX12_stores 100 = .ok (.if_icmp .ne 18, 3) := by decide +kernel
theorem dX12_stores_103 : decode cX12_stores 103 = .ok (.aload_n 0, 1) := by decide +kernel
theorem dX12_stores_104 : decode cX12_stores 104 = .ok (.iload_n 2, 1) := by decide +kernel
theorem dX12_stores_105 : decode cX12_stores 105 = .ok (.aload_n 0, 1) := by decide +kernel
theorem dX12_stores_106 : decode cX12_stores 106 = .ok (.getfield 13, 3) := by decide +kernel
theorem dX12_stores_109 : decode cX12_stores 109 = .ok (.bipush 7, 2) := by decide +kernel
theorem dX12_stores_111 : decode cX12_stores 111 = .ok (.iaload, 1) := by decide +kernel
theorem dX12_stores_112 : decode cX12_stores 112 = .ok (.invokevirtual 98, 3) := by decide +kernel
theorem dX12_stores_115 : decode cX12_stores 115 = .ok (.goto 15, 3) := by decide +kernel
theorem dX12_stores_118 : decode cX12_stores 118 = .ok (.aload_n 0, 1) := by decide +kernel
theorem dX12_stores_119 : decode cX12_stores 119 = .ok (.getfield 13, 3) := by decide +kernel
theorem dX12_stores_122 : decode cX12_stores 122 = .ok (.bipush 7, 2) := by decide +kernel
theorem dX12_stores_124 : decode cX12_stores 124 = .ok (.aload_n 0, 1) := by decide +kernel
theorem dX12_stores_125 : decode cX12_stores 125 = .ok (.iload_n 2, 1) := by decide +kernel
theorem dX12_stores_126 : decode cX12_stores 126 = .ok (.invokevirtual 94, 3) := by decide +kernel
theorem dX12_stores_129 : decode cX12_stores 129 = .ok (.iastore, 1) := by decide +kernel
theorem dX12_stores_130 : decode cX12_stores 130 = .ok (.iload_n 1, 1) := by decide +kernel
theorem dX12_stores_131 : decode cX12_stores 131 = .ok (.bipush 6, 2) := by decide +kernel
theorem dX12_stores_133 : decode cX12_stores 133 = .ok (.if_icmp .ge 8, 3) := by decide +kernel
theorem dX12_stores_136 : decode cX12_stores 136 = .ok (.bipush 16, 2) := by decide +kernel
theorem dX12_stores_138 : decode cX12_stores 138 = .ok (.goto 5, 3) := by decide +kernel
theorem dX12_stores_141 : decode cX12_stores 141 = .ok (.bipush 13, 2) := by decide +kernel
theorem dX12_stores_143 : decode cX12_stores 143 = .ok (.ireturn, 1) := by decide +kernel
theorem dX12_get_0 : decode cX12_get 0 = .ok (.iload_n 1, 1) := by decide +kernel
theorem dX12_get_1 : decode cX12_get 1 = .ok (.bipush 6, 2) := by decide +kernel
theorem dX12_get_3 : decode cX12_get 3 = .ok (.if_icmp .ne 15, 3) := by decide +kernel
theorem dX12_get_6 : decode cX12_get 6 = .ok (.aload_n 0, 1) := by decide +kernel
theorem dX12_get_7 : decode cX12_get 7 = .ok (.aload_n 0, 1) := by decide +kernel
theorem dX12_get_8 : decode cX12_get 8 = .ok (.iconst 4, 1) := by decide +kernel
theorem dX12_get_9 : decode cX12_get 9 = .ok (.invokevirtual 109, 3) := by decide +kernel
theorem dX12_get_12 : decode cX12_get 12 = .ok (.invokevirtual 94, 3) := by decide +kernel
theorem dX12_get_15 : decode cX12_get 15 = .ok (.goto 9, 3) := by decide +kernel
theorem dX12_get_18 : decode cX12_get 18 = .ok (.aload_n 0, 1) := by decide +kernel
theorem dX12_get_19 : decode cX12_get 19 = .ok (.getfield 13, 3) := by decide +kernel
theorem dX12_get_22 : decode cX12_get 22 = .ok (.iload_n 1, 1) := by decide +kernel
theorem dX12_get_23 : decode cX12_get 23 = .ok (.iaload, 1) := by decide +kernel
theorem dX12_get_24 : decode cX12_get 24 = .ok (.ireturn, 1) := by decide +kernel
theorem dX12_subtract_0 : decode cX12_subtract 0 = .ok (.iconst 1, 1) := by decide +kernel
theorem dX12_subtract_1 : decode cX12_subtract 1 = .ok (.iload 4, 2) := by decide +kernel
theorem dX12_subtract_3 : decode cX12_subtract 3 = .ok (.ishl, 1) := by decide +kernel
theorem dX12_subtract_4 : decode cX12_subtract 4 = .ok (.iconst 1, 1) := by decide +kernel
theorem dX12_subtract_5 : decode cX12_subtract 5 = .ok (.isub, 1) := by decide +kernel
theorem dX12_subtract_6 : decode cX12_subtract 6 = .ok (.istore 5, 2) := by decide +kernel
theorem dX12_subtract_8 : decode cX12_subtract 8 = .ok (.aload_n 0, 1) := by decide +kernel
theorem dX12_subtract_9 : decode cX12_subtract 9 = .ok (.iload_n 1, 1) := by decide +kernel
theorem dX12_subtract_10 : decode cX12_subtract 10 = .ok (.iload_n 2, 1) := by decide +kernel
theorem dX12_subtract_11 : decode cX12_subtract 11 = .ok (.iload 5, 2) := by decide +kernel
theorem dX12_subtract_13 : decode cX12_subtract 13 = .ok (.ixor, 1) := by decide +kernel
theorem dX12_subtract_14 : decode cX12_subtract 14 = .ok (.iload_n 3, 1) := by decide +kernel
theorem dX12_subtract_15 : decode cX12_subtract 15 = .ok (.ifCond .ne 7, 3) := by decide +kernel
theorem dX12_subtract_18 : decode cX12_subtract 18 = .ok (.iconst 1, 1) := by decide +kernel
theorem dX12_subtract_19 : decode cX12_subtract 19 = .ok (.goto 4, 3) := by decide +kernel
theorem dX12_subtract_22 : decode cX12_subtract 22 = .ok (.iconst 0, 1) := by decide +kernel
theorem dX12_subtract_23 : decode cX12_subtract 23 = .ok (.iload 4, 2) := by decide +kernel
theorem dX12_subtract_25 : decode cX12_subtract 25 = .ok (.invokevirtual 135, 3) := by decide +kernel
theorem dX12_subtract_28 : decode cX12_subtract 28 = .ok (.istore 6, 2) := by decide +kernel
theorem dX12_subtract_30 : decode cX12_subtract 30 = .ok (.aload_n 0, 1) := by decide +kernel
theorem dX12_subtract_31 : decode cX12_subtract 31 = .ok (.aload_n 0, 1) := by decide +kernel
theorem dX12_subtract_32 : decode cX12_subtract 32 = .ok (.getfield 129, 3) := by decide +kernel
theorem dX12_subtract_35 : decode cX12_subtract 35 = .ok (.ifCond .ne 7, 3) := by decide +kernel
theorem dX12_subtract_38 : decode cX12_subtract 38 = .ok (.iconst 1, 1) := by decide +kernel
theorem dX12_subtract_39 : decode cX12_subtract 39 = .ok (.goto 4, 3) := by decide +kernel
theorem dX12_subtract_42 : decode cX12_subtract 42 = .ok (.iconst 0, 1) := by decide +kernel
theorem dX12_subtract_43 : decode cX12_subtract 43 = .ok (.putfield 129, 3) := by decide +kernel
theorem dX12_subtract_46 : decode cX12_subtract 46 = .ok (.aload_n 0, 1) := by decide +kernel
theorem dX12_subtract_47 : decode cX12_subtract 47 = .ok (.aload_n 0, 1) := by decide +kernel
theorem dX12_subtract_48 : decode cX12_subtract 48 = .ok (.getfield 132, 3) := by decide +kernel
theorem dX12_subtract_51 : decode cX12_subtract 51 = .ok (.ifCond .ne 7, 3) := by decide +kernel
theorem dX12_subtract_54 : decode cX12_subtract 54 = .ok (.iconst 1, 1) := by decide +kernel
theorem dX12_subtract_55 : decode cX12_subtract 55 = .ok (.goto 4, 3) := by decide +kernel
theorem dX12_subtract_58 : decode cX12_subtract 58 = .ok (.iconst 0, 1) := by decide +kernel
theorem dX12_subtract_59 : decode cX12_subtract 59 = .ok (.putfield 132, 3) := by decide +kernel
theorem dX12_subtract_62 : decode cX12_subtract 62 = .ok (.iload 6, 2) := by decide +kernel
theorem dX12_subtract_64 : decode cX12_subtract 64 = .ok (.ireturn, 1) := by decide +kernel
theorem dX12_sumFlags_0 : decode cX12_sumFlags 0 = .ok (.aload_n 0, 1) := by decide +kernel
theorem dX12_sumFlags_1 : decode cX12_sumFlags 1 = .ok (.sipush 128, 3) := by decide +kernel
theorem dX12_sumFlags_4 : decode cX12_sumFlags 4 = .ok (.iload_n 1, 1) := by decide +kernel
theorem dX12_sumFlags_5 : decode cX12_sumFlags 5 = .ok (.iload_n 2, 1) := by decide +kernel
theorem dX12_sumFlags_6 : decode cX12_sumFlags 6 = .ok (.iconst 1, 1) := by decide +kernel
theorem dX12_sumFlags_7 : decode cX12_sumFlags 7 = .ok (.isub, 1) := by decide +kernel
theorem dX12_sumFlags_8 : decode cX12_sumFlags 8 = .ok (.ishr, 1) := by decide +kernel
theorem dX12_sumFlags_9 : decode cX12_sumFlags 9 = .ok (.iconst 1, 1) := by decide +kernel
theorem dX12_sumFlags_10 : decode cX12_sumFlags 10 = .ok (.iand, 1) := by decide +kernel
theorem dX12_sumFlags_11 : decode cX12_sumFlags 11 = .ok (.iconst 1, 1) := by decide +kernel
theorem dX12_sumFlags_12 : decode cX12_sumFlags 12 = .ok (.if_icmp .ne 7, 3) := by decide +kernel
theorem dX12_sumFlags_15 : decode cX12_sumFlags 15 = .ok (.iconst 1, 1) := by decide +kernel
theorem dX12_sumFlags_16 : decode cX12_sumFlags 16 = .ok (.goto 4, 3) := by decide +kernel
theorem dX12_sumFlags_19 : decode cX12_sumFlags 19 = .ok (.iconst 0, 1) := by decide +kernel
theorem dX12_sumFlags_20 : decode cX12_sumFlags 20 = .ok (.invokevirtual 139, 3) := by decide +kernel
theorem dX12_sumFlags_23 : decode cX12_sumFlags 23 = .ok (.aload_n 0, 1) := by decide +kernel
theorem dX12_sumFlags_24 : decode cX12_sumFlags 24 = .ok (.bipush 64, 2) := by decide +kernel
theorem dX12_sumFlags_26 : decode cX12_sumFlags 26 = .ok (.iload_n 1, 1) := by decide +kernel
theorem dX12_sumFlags_27 : decode cX12_sumFlags 27 = .ok (.ifCond .ne 7, 3) := by decide +kernel
theorem dX12_sumFlags_30 : decode cX12_sumFlags 30 = .ok (.iconst 1, 1) := by decide +kernel
theorem dX12_sumFlags_31 : decode cX12_sumFlags 31 = .ok (.goto 4, 3) := by decide +kernel
theorem dX12_sumFlags_34 : decode cX12_sumFlags 34 = .ok (.iconst 0, 1) := by decide +kernel
theorem dX12_sumFlags_35 : decode cX12_sumFlags 35 = .ok (.invokevirtual 139, 3) := by decide +kernel
theorem dX12_sumFlags_38 : decode cX12_sumFlags 38 = .ok (.aload_n 0, 1) := by decide +kernel
theorem dX12_sumFlags_39 : decode cX12_sumFlags 39 = .ok (.bipush 16, 2) := by decide +kernel
theorem dX12_sumFlags_41 : decode cX12_sumFlags 41 = .ok (.aload_n 0, 1) := by decide +kernel
theorem dX12_sumFlags_42 : decode cX12_sumFlags 42 = .ok (.getfield 129, 3) := by decide +kernel
theorem dX12_sumFlags_45 : decode cX12_sumFlags 45 = .ok (.invokevirtual 139, 3) := by decide +kernel
theorem dX12_sumFlags_48 : decode cX12_sumFlags 48 = .ok (.aload_n 0, 1) := by decide +kernel
theorem dX12_sumFlags_49 : decode cX12_sumFlags 49 = .ok (.iconst 4, 1) := by decide +kernel
theorem dX12_sumFlags_50 : decode cX12_sumFlags 50 = .ok (.aload_n 0, 1) := by decide +kernel
theorem dX12_sumFlags_51 : decode cX12_sumFlags 51 = .ok (.getfield 125, 3) := by decide +kernel
theorem dX12_sumFlags_54 : decode cX12_sumFlags 54 = .ok (.iload_n 3, 1) := by decide +kernel
theorem dX12_sumFlags_55 : decode cX12_sumFlags 55 = .ok (.ifCond .eq 18, 3) := by decide +kernel
theorem dX12_sumFlags_58 : decode cX12_sumFlags 58 = .ok (.aload_n 0, 1) := by decide +kernel
theorem dX12_sumFlags_59 : decode cX12_sumFlags 59 = .ok (.getfield 132, 3) := by decide +kernel
theorem dX12_sumFlags_62 : decode cX12_sumFlags 62 = .ok (.ifCond .ne 7, 3) := by decide +kernel
theorem dX12_sumFlags_65 : decode cX12_sumFlags 65 = .ok (.iconst 1, 1) := by decide +kernel
theorem dX12_sumFlags_66 : decode cX12_sumFlags 66 = .ok (.goto 11, 3) := by decide +kernel
theorem dX12_sumFlags_69 : decode cX12_sumFlags 69 = .ok (.iconst 0, 1) := by decide +kernel
theorem dX12_sumFlags_70 : decode cX12_sumFlags 70 = .ok (.goto 7, 3) := by decide +kernel
theorem dX12_sumFlags_73 : decode cX12_sumFlags 73 = .ok (.aload_n 0, 1) := by decide +kernel
theorem dX12_sumFlags_74 : decode cX12_sumFlags 74 = .ok (.getfield 132, 3) := by decide +kernel
theorem dX12_sumFlags_77 : decode cX12_sumFlags 77 = .ok (.if_icmp .eq 7, 3) := by decide +kernel
theorem dX12_sumFlags_80 : decode cX12_sumFlags 80 = .ok (.iconst 1, 1) := by decide +kernel
theorem dX12_sumFlags_81 : decode cX12_sumFlags 81 = .ok (.goto 4, 3) := by decide +kernel
theorem dX12_sumFlags_84 : decode cX12_sumFlags 84 = .ok (.iconst 0, 1) := by decide +kernel
theorem dX12_sumFlags_85 : decode cX12_sumFlags 85 = .ok (.invokevirtual 139, 3) := by decide +kernel
theorem dX12_sumFlags_88 : decode cX12_sumFlags 88 = .ok (.aload_n 0, 1) := by decide +kernel
theorem dX12_sumFlags_89 : decode cX12_sumFlags 89 = .ok (.iconst 2, 1) := by decide +kernel
theorem dX12_sumFlags_90 : decode cX12_sumFlags 90 = .ok (.iload_n 3, 1) := by decide +kernel
theorem dX12_sumFlags_91 : decode cX12_sumFlags 91 = .ok (.invokevirtual 139, 3) := by decide +kernel
theorem dX12_sumFlags_94 : decode cX12_sumFlags 94 = .ok (.return_, 1) := by decide +kernel
theorem dX12_step_0 : decode cX12_step 0 = .ok (.iload_n 2, 1) := by decide +kernel
theorem dX12_step_1 : decode cX12_step 1 = .ok (.ifCond .eq 15, 3) := by decide +kernel
theorem dX12_step_4 : decode cX12_step 4 = .ok (.aload_n 0, 1) := by decide +kernel
theorem dX12_step_5 : decode cX12_step 5 = .ok (.iload_n 1, 1) := by decide +kernel
theorem dX12_step_6 : decode cX12_step 6 = .ok (.iconst 1, 1) := by decide +kernel
theorem dX12_step_7 : decode cX12_step 7 = .ok (.iconst 0, 1) := by decide +kernel
theorem dX12_step_8 : decode cX12_step 8 = .ok (.bipush 8, 2) := by decide +kernel
theorem dX12_step_10 : decode cX12_step 10 = .ok (.invokevirtual 154, 3) := by decide +kernel
theorem dX12_step_13 : decode cX12_step 13 = .ok (.goto 12, 3) := by decide +kernel
theorem dX12_step_16 : decode cX12_step 16 = .ok (.aload_n 0, 1) := by decide +kernel
theorem dX12_step_17 : decode cX12_step 17 = .ok (.iload_n 1, 1) := by decide +kernel
theorem dX12_step_18 : decode cX12_step 18 = .ok (.iconst 1, 1) := by decide +kernel
theorem dX12_step_19 : decode cX12_step 19 = .ok (.iconst 0, 1) := by decide +kernel
theorem dX12_step_20 : decode cX12_step 20 = .ok (.bipush 8, 2) := by decide +kernel
theorem dX12_step_22 : decode cX12_step 22 = .ok (.invokevirtual 135, 3) := by decide +kernel
theorem dX12_step_25 : decode cX12_step 25 = .ok (.istore_n 3, 1) := by decide +kernel
theorem dX12_step_26 : decode cX12_step 26 = .ok (.aload_n 0, 1) := by decide +kernel
theorem dX12_step_27 : decode cX12_step 27 = .ok (.iload_n 3, 1) := by decide +kernel
theorem dX12_step_28 : decode cX12_step 28 = .ok (.bipush 8, 2) := by decide +kernel
theorem dX12_step_30 : decode cX12_step 30 = .ok (.iload_n 2, 1) := by decide +kernel
theorem dX12_step_31 : decode cX12_step 31 = .ok (.invokevirtual 150, 3) := by decide +kernel
theorem dX12_step_34 : decode cX12_step 34 = .ok (.iload_n 3, 1) := by decide +kernel
theorem dX12_step_35 : decode cX12_step 35 = .ok (.ireturn, 1) := by decide +kernel
theorem dX12_put_0 : decode cX12_put 0 = .ok (.iload_n 1, 1) := by decide +kernel
theorem dX12_put_1 : decode cX12_put 1 = .ok (.bipush 6, 2) := by decide +kernel
theorem dX12_put_3 : decode cX12_put 3 = .ok (.if_icmp .ne 16, 3) := by decide +kernel
theorem dX12_put_6 : decode cX12_put 6 = .ok (.aload_n 0, 1) := by decide +kernel
theorem dX12_put_7 : decode cX12_put 7 = .ok (.aload_n 0, 1) := by decide +kernel
theorem dX12_put_8 : decode cX12_put 8 = .ok (.iconst 4, 1) := by decide +kernel
theorem dX12_put_9 : decode cX12_put 9 = .ok (.invokevirtual 109, 3) := by decide +kernel
theorem dX12_put_12 : decode cX12_put 12 = .ok (.iload_n 2, 1) := by decide +kernel
theorem dX12_put_13 : decode cX12_put 13 = .ok (.invokevirtual 98, 3) := by decide +kernel
theorem dX12_put_16 : decode cX12_put 16 = .ok (.goto 14, 3) := by decide +kernel
theorem dX12_put_19 : decode cX12_put 19 = .ok (.aload_n 0, 1) := by decide +kernel
theorem dX12_put_20 : decode cX12_put 20 = .ok (.getfield 13, 3) := by decide +kernel
theorem dX12_put_23 : decode cX12_put 23 = .ok (.iload_n 1, 1) := by decide +kernel
theorem dX12_put_24 : decode cX12_put 24 = .ok (.iload_n 2, 1) := by decide +kernel
theorem dX12_put_25 : decode cX12_put 25 = .ok (.sipush 255, 3) := by decide +kernel
theorem dX12_put_28 : decode cX12_put 28 = .ok (.iand, 1) := by decide +kernel
theorem dX12_put_29 : decode cX12_put 29 = .ok (.iastore, 1) := by decide +kernel
theorem dX12_put_30 : decode cX12_put 30 = .ok (.return_, 1) := by decide +kernel
theorem dX12_move_0 : decode cX12_move 0 = .ok (.iload_n 1, 1) := by decide +kernel
theorem dX12_move_1 : decode cX12_move 1 = .ok (.ifCond .eq 13, 3) := by decide +kernel
theorem dX12_move_4 : decode cX12_move 4 = .ok (.iload_n 1, 1) := by decide +kernel
theorem dX12_move_5 : decode cX12_move 5 = .ok (.iconst 2, 1) := by decide +kernel
theorem dX12_move_6 : decode cX12_move 6 = .ok (.if_icmp .eq 8, 3) := by decide +kernel
theorem dX12_move_9 : decode cX12_move 9 = .ok (.iload_n 1, 1) := by decide +kernel
theorem dX12_move_10 : decode cX12_move 10 = .ok (.iconst 4, 1) := by decide +kernel
theorem dX12_move_11 : decode cX12_move 11 = .ok (.if_icmp .ne 7, 3) := by decide +kernel
theorem dX12_move_14 : decode cX12_move 14 = .ok (.iconst 1, 1) := by decide +kernel
theorem dX12_move_15 : decode cX12_move 15 = .ok (.goto 4, 3) := by decide +kernel
theorem dX12_move_18 : decode cX12_move 18 = .ok (.iconst 0, 1) := by decide +kernel
theorem dX12_move_19 : decode cX12_move 19 = .ok (.istore_n 3, 1) := by decide +kernel
theorem dX12_move_20 : decode cX12_move 20 = .ok (.iload_n 3, 1) := by decide +kernel
theorem dX12_move_21 : decode cX12_move 21 = .ok (.ifCond .eq 10, 3) := by decide +kernel
theorem dX12_move_24 : decode cX12_move 24 = .ok (.iload_n 2, 1) := by decide +kernel
theorem dX12_move_25 : decode cX12_move 25 = .ok (.bipush 7, 2) := by decide +kernel
theorem dX12_move_27 : decode cX12_move 27 = .ok (.ishr, 1) := by decide +kernel
theorem dX12_move_28 : decode cX12_move 28 = .ok (.goto 6, 3) := by decide +kernel
theorem dX12_move_31 : decode cX12_move 31 = .ok (.iload_n 2, 1) := by decide +kernel
theorem dX12_move_32 : decode cX12_move 32 = .ok (.iconst 1, 1) := by decide +kernel
theorem dX12_move_33 : decode cX12_move 33 = .ok (.iand, 1) := by decide +kernel
theorem dX12_move_34 : decode cX12_move 34 = .ok (.istore 4, 2) := by decide +kernel
theorem dX12_move_36 : decode cX12_move 36 = .ok (.iload_n 1, 1) := by decide +kernel
theorem dX12_move_37 : decode cX12_move 37 = .ok (.iconst 2, 1) := by decide +kernel
theorem dX12_move_38 : decode cX12_move 38 = .ok (.if_icmp .ge 8, 3) := by decide +kernel
theorem dX12_move_41 : decode cX12_move 41 = .ok (.iload 4, 2) := by decide +kernel
theorem dX12_move_43 : decode cX12_move 43 = .ok (.goto 33, 3) := by decide +kernel
theorem dX12_move_46 : decode cX12_move 46 = .ok (.iload_n 1, 1) := by decide +kernel
theorem dX12_move_47 : decode cX12_move 47 = .ok (.iconst 4, 1) := by decide +kernel
theorem dX12_move_48 : decode cX12_move 48 = .ok (.if_icmp .ge 15, 3) := by decide +kernel
theorem dX12_move_51 : decode cX12_move 51 = .ok (.aload_n 0, 1) := by decide +kernel
theorem dX12_move_52 : decode cX12_move 52 = .ok (.getfield 13, 3) := by decide +kernel
theorem dX12_move_55 : decode cX12_move 55 = .ok (.bipush 6, 2) := by decide +kernel
theorem dX12_move_57 : decode cX12_move 57 = .ok (.iaload, 1) := by decide +kernel
theorem dX12_move_58 : decode cX12_move 58 = .ok (.iconst 1, 1) := by decide +kernel
theorem dX12_move_59 : decode cX12_move 59 = .ok (.iand, 1) := by decide +kernel
theorem dX12_move_60 : decode cX12_move 60 = .ok (.goto 16, 3) := by decide +kernel
theorem dX12_move_63 : decode cX12_move 63 = .ok (.iload_n 1, 1) := by decide +kernel
theorem dX12_move_64 : decode cX12_move 64 = .ok (.iconst 5, 1) := by decide +kernel
theorem dX12_move_65 : decode cX12_move 65 = .ok (.if_icmp .ne 10, 3) := by decide +kernel
theorem dX12_move_68 : decode cX12_move 68 = .ok (.iload_n 2, 1) := by decide +kernel
theorem dX12_move_69 : decode cX12_move 69 = .ok (.bipush 7, 2) := by decide +kernel
theorem dX12_move_71 : decode cX12_move 71 = .ok (.ishr, 1) := by decide +kernel
theorem dX12_move_72 : decode cX12_move 72 = .ok (.goto 4, 3) := by decide +kernel
theorem dX12_move_75 : decode cX12_move 75 = .ok (.iconst 0, 1) := by decide +kernel
theorem dX12_move_76 : decode cX12_move 76 = .ok (.istore 5, 2) := by decide +kernel
theorem dX12_move_78 : decode cX12_move 78 = .ok (.iload_n 3, 1) := by decide +kernel
theorem dX12_move_79 : decode cX12_move 79 = .ok (.ifCond .eq 16, 3) := by decide +kernel
theorem dX12_move_82 : decode cX12_move 82 = .ok (.iload_n 2, 1) := by decide +kernel
theorem dX12_move_83 : decode cX12_move 83 = .ok (.iconst 1, 1) := by decide +kernel
theorem dX12_move_84 : decode cX12_move 84 = .ok (.ishl, 1) := by decide +kernel
theorem dX12_move_85 : decode cX12_move 85 = .ok (.sipush 255, 3) := by decide +kernel
theorem dX12_move_88 : decode cX12_move 88 = .ok (.iand, 1) := by decide +kernel
theorem dX12_move_89 : decode cX12_move 89 = .ok (.iload 5, 2) := by decide +kernel
theorem dX12_move_91 : decode cX12_move 91 = .ok (.ior, 1) := by decide +kernel
theorem dX12_move_92 : decode cX12_move 92 = .ok (.goto 12, 3) := by decide +kernel
theorem dX12_move_95 : decode cX12_move 95 = .ok (.iload_n 2, 1) := by decide +kernel
theorem dX12_move_96 : decode cX12_move 96 = .ok (.iconst 1, 1) := by decide +kernel
theorem dX12_move_97 : decode cX12_move 97 = .ok (.ishr, 1) := by decide +kernel
theorem dX12_move_98 : decode cX12_move 98 = .ok (.iload 5, 2) := by decide +kernel
theorem dX12_move_100 : decode cX12_move 100 = .ok (.bipush 7, 2) := by decide +kernel
theorem dX12_move_102 : decode cX12_move 102 = .ok (.ishl, 1) := by decide +kernel
theorem dX12_move_103 : decode cX12_move 103 = .ok (.ior, 1) := by decide +kernel
theorem dX12_move_104 : decode cX12_move 104 = .ok (.istore 6, 2) := by decide +kernel
theorem dX12_move_106 : decode cX12_move 106 = .ok (.aload_n 0, 1) := by decide +kernel
