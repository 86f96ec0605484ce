theorem dX7_putByte_0 : decode cX7_putByte 0 = .ok (.aload_n 0, 1) := by decide +kernel
theorem dX7_putByte_1 : decode cX7_putByte 1 = .ok (.getfield 9, 3) := by decide +kernel
theorem dX7_putByte_4 : decode cX7_putByte 4 = .ok (.iload_n 1, 1) := by decide +kernel
theorem dX7_putByte_5 : decode cX7_putByte 5 = .ok (.sipush 1023, 3) := by decide +kernel
theorem dX7_putByte_8 : decode cX7_putByte 8 = .ok (.iand, 1) := by decide +kernel
theorem dX7_putByte_9 : decode cX7_putByte 9 = .ok (.iload_n 2, 1) := by decide +kernel
theorem dX7_putByte_10 : decode cX7_putByte 10 = .ok (.sipush 255, 3) := by decide +kernel
theorem dX7_putByte_13 : decode cX7_putByte 13 = .ok (.iand, 1) := by decide +kernel
theorem dX7_putByte_14 : decode cX7_putByte 14 = .ok (.iastore, 1) := by decide +kernel
theorem dX7_putByte_15 : decode cX7_putByte 15 = .ok (.return_, 1) := by decide +kernel
theorem dX1_poke_0 : decode cX1_poke 0 = .ok (.iload_n 1, 1) := by decide +kernel
theorem dX1_poke_1 : decode cX1_poke 1 = .ok (.ifCond .lt 10, 3) := by decide +kernel
theorem dX1_poke_4 : decode cX1_poke 4 = .ok (.iload_n 1, 1) := by decide +kernel
theorem dX1_poke_5 : decode cX1_poke 5 = .ok (.sipush 1024, 3) := by decide +kernel
theorem dX1_poke_8 : decode cX1_poke 8 = .ok (.if_icmp .lt 5, 3) := by decide +kernel
theorem dX1_poke_11 : decode cX1_poke 11 = .ok (.iconst 0, 1) := by decide +kernel
theorem dX1_poke_12 : decode cX1_poke 12 = .ok (.ireturn, 1) := by decide +kernel
theorem dX1_poke_13 : decode cX1_poke 13 = .ok (.aload_n 0, 1) := by decide +kernel
theorem dX1_poke_14 : decode cX1_poke 14 = .ok (.getfield 10, 3) := by decide +kernel
theorem dX1_poke_17 : decode cX1_poke 17 = .ok (.iload_n 1, 1) := by decide +kernel
theorem dX1_poke_18 : decode cX1_poke 18 = .ok (.iload_n 2, 1) := by decide +kernel
theorem dX1_poke_19 : decode cX1_poke 19 = .ok (.invokevirtual 32, 3) := by decide +kernel
theorem dX1_poke_22 : decode cX1_poke 22 = .ok (.iconst 1, 1) := by decide +kernel
theorem dX1_poke_23 : decode cX1_poke 23 = .ok (.ireturn, 1) := by decide +kernel
theorem dX1_poke4_0 : decode cX1_poke4 0 = .ok (.iload_n 1, 1) := by decide +kernel
theorem dX1_poke4_1 : decode cX1_poke4 1 = .ok (.ifCond .lt 10, 3) := by decide +kernel
theorem dX1_poke4_4 : decode cX1_poke4 4 = .ok (.iload_n 1, 1) := by decide +kernel
theorem dX1_poke4_5 : decode cX1_poke4 5 = .ok (.sipush 1020, 3) := by decide +kernel
theorem dX1_poke4_8 : decode cX1_poke4 8 = .ok (.if_icmp .le 5, 3) := by decide +kernel
theorem dX1_poke4_11 : decode cX1_poke4 11 = .ok (.iconst 0, 1) := by decide +kernel
theorem dX1_poke4_12 : decode cX1_poke4 12 = .ok (.ireturn, 1) := by decide +kernel
theorem dX1_poke4_13 : decode cX1_poke4 13 = .ok (.iconst 0, 1) := by decide +kernel
theorem dX1_poke4_14 : decode cX1_poke4 14 = .ok (.istore_n 3, 1) := by decide +kernel
theorem dX1_poke4_15 : decode cX1_poke4 15 = .ok (.iload_n 3, 1) := by decide +kernel
theorem dX1_poke4_16 : decode cX1_poke4 16 = .ok (.iconst 4, 1) := by decide +kernel
theorem dX1_poke4_17 : decode cX1_poke4 17 = .ok (.if_icmp .ge 28, 3) := by decide +kernel
theorem dX1_poke4_20 : decode cX1_poke4 20 = .ok (.aload_n 0, 1) := by decide +kernel
theorem dX1_poke4_21 : decode cX1_poke4 21 = .ok (.getfield 10, 3) := by decide +kernel
theorem dX1_poke4_24 : decode cX1_poke4 24 = .ok (.iload_n 1, 1) := by decide +kernel
theorem dX1_poke4_25 : decode cX1_poke4 25 = .ok (.iload_n 3, 1) := by decide +kernel
theorem dX1_poke4_26 : decode cX1_poke4 26 = .ok (.iadd, 1) := by decide +kernel
theorem dX1_poke4_27 : decode cX1_poke4 27 = .ok (.iload_n 2, 1) := by decide +kernel
theorem dX1_poke4_28 : decode cX1_poke4 28 = .ok (.bipush 24, 2) := by decide +kernel
theorem dX1_poke4_30 : decode cX1_poke4 30 = .ok (.bipush 8, 2) := by decide +kernel
theorem dX1_poke4_32 : decode cX1_poke4 32 = .ok (.iload_n 3, 1) := by decide +kernel
theorem dX1_poke4_33 : decode cX1_poke4 33 = .ok (.imul, 1) := by decide +kernel
theorem dX1_poke4_34 : decode cX1_poke4 34 = .ok (.isub, 1) := by decide +kernel
theorem dX1_poke4_35 : decode cX1_poke4 35 = .ok (.ishr, 1) := by decide +kernel
theorem dX1_poke4_36 : decode cX1_poke4 36 = .ok (.invokevirtual 32, 3) := by decide +kernel
theorem dX1_poke4_39 : decode cX1_poke4 39 = .ok (.iinc 3 1, 3) := by decide +kernel
theorem dX1_poke4_42 : decode cX1_poke4 42 = .ok (.goto (-27), 3) := by decide +kernel
theorem dX1_poke4_45 : decode cX1_poke4 45 = .ok (.iconst 1, 1) := by decide +kernel
theorem dX1_poke4_46 : decode cX1_poke4 46 = .ok (.ireturn, 1) := by decide +kernel
theorem dX7_byteAt_0 : decode cX7_byteAt 0 = .ok (.aload_n 0, 1) := by decide +kernel
theorem dX7_byteAt_1 : decode cX7_byteAt 1 = .ok (.getfield 9, 3) := by decide +kernel
theorem dX7_byteAt_4 : decode cX7_byteAt 4 = .ok (.iload_n 1, 1) := by decide +kernel
theorem dX7_byteAt_5 : decode cX7_byteAt 5 = .ok (.sipush 1023, 3) := by decide +kernel
theorem dX7_byteAt_8 : decode cX7_byteAt 8 = .ok (.iand, 1) := by decide +kernel
theorem dX7_byteAt_9 : decode cX7_byteAt 9 = .ok (.iaload, 1) := by decide +kernel
theorem dX7_byteAt_10 : decode cX7_byteAt 10 = .ok (.ireturn, 1) := by decide +kernel
theorem dX1_peek_0 : decode cX1_peek 0 = .ok (.iload_n 1, 1) := by decide +kernel
theorem dX1_peek_1 : decode cX1_peek 1 = .ok (.ifCond .lt 10, 3) := by decide +kernel
theorem dX1_peek_4 : decode cX1_peek 4 = .ok (.iload_n 1, 1) := by decide +kernel
theorem dX1_peek_5 : decode cX1_peek 5 = .ok (.sipush 1024, 3) := by decide +kernel
theorem dX1_peek_8 : decode cX1_peek 8 = .ok (.if_icmp .lt 5, 3) := by decide +kernel
theorem dX1_peek_11 : decode cX1_peek 11 = .ok (.iconst (-1), 1) := by decide +kernel
theorem dX1_peek_12 : decode cX1_peek 12 = .ok (.ireturn, 1) := by decide +kernel
theorem dX1_peek_13 : decode cX1_peek 13 = .ok (.aload_n 0, 1) := by decide +kernel
theorem dX1_peek_14 : decode cX1_peek 14 = .ok (.getfield 10, 3) := by decide +kernel
theorem dX1_peek_17 : decode cX1_peek 17 = .ok (.iload_n 1, 1) := by decide +kernel
theorem dX1_peek_18 : decode cX1_peek 18 = .ok (.invokevirtual 36, 3) := by decide +kernel
theorem dX1_peek_21 : decode cX1_peek 21 = .ok (.ireturn, 1) := by decide +kernel
theorem dX10_facePair_0 : decode cX10_facePair 0 = .ok (.iload_n 0, 1) := by decide +kernel
theorem dX10_facePair_1 : decode cX10_facePair 1 = .ok (.iconst 3, 1) := by decide +kernel
theorem dX10_facePair_2 : decode cX10_facePair 2 = .ok (.iadd, 1) := by decide +kernel
theorem dX10_facePair_3 : decode cX10_facePair 3 = .ok (.iconst 3, 1) := by decide +kernel
theorem dX10_facePair_4 : decode cX10_facePair 4 = .ok (.iand, 1) := by decide +kernel
theorem dX10_facePair_5 : decode cX10_facePair 5 = .ok (.ireturn, 1) := by decide +kernel
theorem dX2_pair_0 : decode cX2_pair 0 = .ok (.iload_n 1, 1) := by decide +kernel
theorem dX2_pair_1 : decode cX2_pair 1 = .ok (.iconst 3, 1) := by decide +kernel
theorem dX2_pair_2 : decode cX2_pair 2 = .ok (.if_icmp .ne 22, 3) := by decide +kernel
theorem dX2_pair_5 : decode cX2_pair 5 = .ok (.aload_n 0, 1) := by decide +kernel
theorem dX2_pair_6 : decode cX2_pair 6 = .ok (.getfield 7, 3) := by decide +kernel
theorem dX2_pair_9 : decode cX2_pair 9 = .ok (.bipush 7, 2) := by decide +kernel
theorem dX2_pair_11 : decode cX2_pair 11 = .ok (.iaload, 1) := by decide +kernel
theorem dX2_pair_12 : decode cX2_pair 12 = .ok (.bipush 8, 2) := by decide +kernel
theorem dX2_pair_14 : decode cX2_pair 14 = .ok (.ishl, 1) := by decide +kernel
theorem dX2_pair_15 : decode cX2_pair 15 = .ok (.aload_n 0, 1) := by decide +kernel
theorem dX2_pair_16 : decode cX2_pair 16 = .ok (.getfield 7, 3) := by decide +kernel
theorem dX2_pair_19 : decode cX2_pair 19 = .ok (.bipush 6, 2) := by decide +kernel
theorem dX2_pair_21 : decode cX2_pair 21 = .ok (.iaload, 1) := by decide +kernel
theorem dX2_pair_22 : decode cX2_pair 22 = .ok (.ior, 1) := by decide +kernel
theorem dX2_pair_23 : decode cX2_pair 23 = .ok (.ireturn, 1) := by decide +kernel
theorem dX2_pair_24 : decode cX2_pair 24 = .ok (.iconst 2, 1) := by decide +kernel
theorem dX2_pair_25 : decode cX2_pair 25 = .ok (.iload_n 1, 1) := by decide +kernel
theorem dX2_pair_26 : decode cX2_pair 26 = .ok (.iconst 3, 1) := by decide +kernel
theorem dX2_pair_27 : decode cX2_pair 27 = .ok (.iand, 1) := by decide +kernel
theorem dX2_pair_28 : decode cX2_pair 28 = .ok (.imul, 1) := by decide +kernel
theorem dX2_pair_29 : decode cX2_pair 29 = .ok (.istore_n 2, 1) := by decide +kernel
theorem dX2_pair_30 : decode cX2_pair 30 = .ok (.aload_n 0, 1) := by decide +kernel
theorem dX2_pair_31 : decode cX2_pair 31 = .ok (.getfield 7, 3) := by decide +kernel
theorem dX2_pair_34 : decode cX2_pair 34 = .ok (.iload_n 2, 1) := by decide +kernel
theorem dX2_pair_35 : decode cX2_pair 35 = .ok (.iaload, 1) := by decide +kernel
theorem dX2_pair_36 : decode cX2_pair 36 = .ok (.bipush 8, 2) := by decide +kernel
theorem dX2_pair_38 : decode cX2_pair 38 = .ok (.ishl, 1) := by decide +kernel
theorem dX2_pair_39 : decode cX2_pair 39 = .ok (.aload_n 0, 1) := by decide +kernel
theorem dX2_pair_40 : decode cX2_pair 40 = .ok (.getfield 7, 3) := by decide +kernel
theorem dX2_pair_43 : decode cX2_pair 43 = .ok (.iload_n 2, 1) := by decide +kernel
theorem dX2_pair_44 : decode cX2_pair 44 = .ok (.iconst 1, 1) := by decide +kernel
theorem dX2_pair_45 : decode cX2_pair 45 = .ok (.iadd, 1) := by decide +kernel
theorem dX2_pair_46 : decode cX2_pair 46 = .ok (.iaload, 1) := by decide +kernel
theorem dX2_pair_47 : decode cX2_pair 47 = .ok (.ior, 1) := by decide +kernel
theorem dX2_pair_48 : decode cX2_pair 48 = .ok (.ireturn, 1) := by decide +kernel
theorem dX10_numbered_0 : decode cX10_numbered 0 = .ok (.iload_n 1, 1) := by decide +kernel
theorem dX10_numbered_1 : decode cX10_numbered 1 = .ok (.tableswitch 98 0 10 #[59, 59, 59, 59, 71, 71, 71, 71, 83, 88, 93], 59) := by decide +kernel
theorem dX10_numbered_60 : decode cX10_numbered 60 = .ok (.aload_n 0, 1) := by decide +kernel
theorem dX10_numbered_61 : decode cX10_numbered 61 = .ok (.getfield 12, 3) := by decide +kernel
theorem dX10_numbered_64 : decode cX10_numbered 64 = .ok (.iload_n 1, 1) := by decide +kernel
theorem dX10_numbered_65 : decode cX10_numbered 65 = .ok (.invokestatic 40, 3) := by decide +kernel
theorem dX10_numbered_68 : decode cX10_numbered 68 = .ok (.invokevirtual 32, 3) := by decide +kernel
theorem dX10_numbered_71 : decode cX10_numbered 71 = .ok (.ireturn, 1) := by decide +kernel
theorem dX10_numbered_72 : decode cX10_numbered 72 = .ok (.aload_n 0, 1) := by decide +kernel
theorem dX10_numbered_73 : decode cX10_numbered 73 = .ok (.getfield 18, 3) := by decide +kernel
theorem dX10_numbered_76 : decode cX10_numbered 76 = .ok (.iload_n 1, 1) := by decide +kernel
theorem dX10_numbered_77 : decode cX10_numbered 77 = .ok (.invokestatic 40, 3) := by decide +kernel
theorem dX10_numbered_80 : decode cX10_numbered 80 = .ok (.invokevirtual 32, 3) := by decide +kernel
theorem dX10_numbered_83 : decode cX10_numbered 83 = .ok (.ireturn, 1) := by decide +kernel
theorem dX10_numbered_84 : decode cX10_numbered 84 = .ok (.aload_n 0, 1) := by decide +kernel
theorem dX10_numbered_85 : decode cX10_numbered 85 = .ok (.getfield 22, 3) := by decide +kernel
theorem dX10_numbered_88 : decode cX10_numbered 88 = .ok (.ireturn, 1) := by decide +kernel
theorem dX10_numbered_89 : decode cX10_numbered 89 = .ok (.aload_n 0, 1) := by decide +kernel
theorem dX10_numbered_90 : decode cX10_numbered 90 = .ok (.getfield 26, 3) := by decide +kernel
theorem dX10_numbered_93 : decode cX10_numbered 93 = .ok (.ireturn, 1) := by decide +kernel
theorem dX10_numbered_94 : decode cX10_numbered 94 = .ok (.aload_n 0, 1) := by decide +kernel
theorem dX10_numbered_95 : decode cX10_numbered 95 = .ok (.getfield 29, 3) := by decide +kernel
theorem dX10_numbered_98 : decode cX10_numbered 98 = .ok (.ireturn, 1) := by decide +kernel
theorem dX10_numbered_99 : decode cX10_numbered 99 = .ok (.iconst (-1), 1) := by decide +kernel
theorem dX10_numbered_100 : decode cX10_numbered 100 = .ok (.ireturn, 1) := by decide +kernel
theorem dX1_register_0 : decode cX1_register 0 = .ok (.iload_n 1, 1) := by decide +kernel
theorem dX1_register_1 : decode cX1_register 1 = .ok (.lookupswitch 51 #[(11, 27), (12, 43)], 27) := by decide +kernel
theorem dX1_register_28 : decode cX1_register 28 = .ok (.aload_n 0, 1) := by decide +kernel
theorem dX1_register_29 : decode cX1_register 29 = .ok (.getfield 28, 3) := by decide +kernel
theorem dX1_register_32 : decode cX1_register 32 = .ok (.getfield 40, 3) := by decide +kernel
theorem dX1_register_35 : decode cX1_register 35 = .ok (.ifCond .eq 7, 3) := by decide +kernel
theorem dX1_register_38 : decode cX1_register 38 = .ok (.iconst 1, 1) := by decide +kernel
theorem dX1_register_39 : decode cX1_register 39 = .ok (.goto 4, 3) := by decide +kernel
theorem dX1_register_42 : decode cX1_register 42 = .ok (.iconst 0, 1) := by decide +kernel
theorem dX1_register_43 : decode cX1_register 43 = .ok (.ireturn, 1) := by decide +kernel
theorem dX1_register_44 : decode cX1_register 44 = .ok (.aload_n 0, 1) := by decide +kernel
theorem dX1_register_45 : decode cX1_register 45 = .ok (.getfield 28, 3) := by decide +kernel
theorem dX1_register_48 : decode cX1_register 48 = .ok (.getfield 44, 3) := by decide +kernel
theorem dX1_register_51 : decode cX1_register 51 = .ok (.ireturn, 1) := by decide +kernel
theorem dX1_register_52 : decode cX1_register 52 = .ok (.aload_n 0, 1) := by decide +kernel
theorem dX1_register_53 : decode cX1_register 53 = .ok (.getfield 28, 3) := by decide +kernel
theorem dX1_register_56 : decode cX1_register 56 = .ok (.getfield 48, 3) := by decide +kernel
theorem dX1_register_59 : decode cX1_register 59 = .ok (.iload_n 1, 1) := by decide +kernel
theorem dX1_register_60 : decode cX1_register 60 = .ok (.invokevirtual 52, 3) := by decide +kernel
theorem dX1_register_63 : decode cX1_register 63 = .ok (.ireturn, 1) := by decide +kernel
theorem dX2_putPair_0 : decode cX2_putPair 0 = .ok (.iload_n 2, 1) := by decide +kernel
theorem dX2_putPair_1 : decode cX2_putPair 1 = .ok (.bipush 8, 2) := by decide +kernel
theorem dX2_putPair_3 : decode cX2_putPair 3 = .ok (.ishr, 1) := by decide +kernel
theorem dX2_putPair_4 : decode cX2_putPair 4 = .ok (.sipush 255, 3) := by decide +kernel
theorem dX2_putPair_7 : decode cX2_putPair 7 = .ok (.iand, 1) := by decide +kernel
theorem dX2_putPair_8 : decode cX2_putPair 8 = .ok (.istore_n 3, 1) := by decide +kernel
theorem dX2_putPair_9 : decode cX2_putPair 9 = .ok (.iload_n 2, 1) := by decide +kernel
theorem dX2_putPair_10 : decode cX2_putPair 10 = .ok (.sipush 255, 3) := by decide +kernel
theorem dX2_putPair_13 : decode cX2_putPair 13 = .ok (.iand, 1) := by decide +kernel
theorem dX2_putPair_14 : decode cX2_putPair 14 = .ok (.istore 4, 2) := by decide +kernel
theorem dX2_putPair_16 : decode cX2_putPair 16 = .ok (.iload_n 1, 1) := by decide +kernel
theorem dX2_putPair_17 : decode cX2_putPair 17 = .ok (.iconst 3, 1) := by decide +kernel
theorem dX2_putPair_18 : decode cX2_putPair 18 = .ok (.if_icmp .ne 25, 3) := by decide +kernel
theorem dX2_putPair_21 : decode cX2_putPair 21 = .ok (.aload_n 0, 1) := by decide +kernel
theorem dX2_putPair_22 : decode cX2_putPair 22 = .ok (.getfield 7, 3) := by decide +kernel
theorem dX2_putPair_25 : decode cX2_putPair 25 = .ok (.bipush 7, 2) := by decide +kernel
theorem dX2_putPair_27 : decode cX2_putPair 27 = .ok (.iload_n 3, 1) := by decide +kernel
theorem dX2_putPair_28 : decode cX2_putPair 28 = .ok (.iastore, 1) := by decide +kernel
theorem dX2_putPair_29 : decode cX2_putPair 29 = .ok (.aload_n 0, 1) := by decide +kernel
theorem dX2_putPair_30 : decode cX2_putPair 30 = .ok (.getfield 7, 3) := by decide +kernel
theorem dX2_putPair_33 : decode cX2_putPair 33 = .ok (.bipush 6, 2) := by decide +kernel
theorem dX2_putPair_35 : decode cX2_putPair 35 = .ok (.iload 4, 2) := by decide +kernel
theorem dX2_putPair_37 : decode cX2_putPair 37 = .ok (.sipush 215, 3) := by decide +kernel
theorem dX2_putPair_40 : decode cX2_putPair 40 = .ok (.iand, 1) := by decide +kernel
theorem dX2_putPair_41 : decode cX2_putPair 41 = .ok (.iastore, 1) := by decide +kernel
theorem dX2_putPair_42 : decode cX2_putPair 42 = .ok (.return_, 1) := by decide +kernel
theorem dX2_putPair_43 : decode cX2_putPair 43 = .ok (.iconst 2, 1) := by decide +kernel
theorem dX2_putPair_44 : decode cX2_putPair 44 = .ok (.iload_n 1, 1) := by decide +kernel
theorem dX2_putPair_45 : decode cX2_putPair 45 = .ok (.iconst 3, 1) := by decide +kernel
theorem dX2_putPair_46 : decode cX2_putPair 46 = .ok (.iand, 1) := by decide +kernel
theorem dX2_putPair_47 : decode cX2_putPair 47 = .ok (.imul, 1) := by decide +kernel
theorem dX2_putPair_48 : decode cX2_putPair 48 = .ok (.istore 5, 2) := by decide +kernel
theorem dX2_putPair_50 : decode cX2_putPair 50 = .ok (.aload_n 0, 1) := by decide +kernel
theorem dX2_putPair_51 : decode cX2_putPair 51 = .ok (.getfield 7, 3) := by decide +kernel
theorem dX2_putPair_54 : decode cX2_putPair 54 = .ok (.iload 5, 2) := by decide +kernel
theorem dX2_putPair_56 : decode cX2_putPair 56 = .ok (.iload_n 3, 1) := by decide +kernel
theorem dX2_putPair_57 : decode cX2_putPair 57 = .ok (.iastore, 1) := by decide +kernel
theorem dX2_putPair_58 : decode cX2_putPair 58 = .ok (.aload_n 0, 1) := by decide +kernel
theorem dX2_putPair_59 : decode cX2_putPair 59 = .ok (.getfield 7, 3) := by decide +kernel
theorem dX2_putPair_62 : decode cX2_putPair 62 = .ok (.iload 5, 2) := by decide +kernel
theorem dX2_putPair_64 : decode cX2_putPair 64 = .ok (.iconst 1, 1) := by decide +kernel
theorem dX2_putPair_65 : decode cX2_putPair 65 = .ok (.iadd, 1) := by decide +kernel
theorem dX2_putPair_66 : decode cX2_putPair 66 = .ok (.iload 4, 2) := by decide +kernel
theorem dX2_putPair_68 : decode cX2_putPair 68 = .ok (.iastore, 1) := by decide +kernel
theorem dX2_putPair_69 : decode cX2_putPair 69 = .ok (.return_, 1) := by decide +kernel
theorem dX10_putNumbered_0 : decode cX10_putNumbered 0 = .ok (.iload_n 1, 1) := by decide +kernel
theorem dX10_putNumbered_1 : decode cX10_putNumbered 1 = .ok (.tableswitch 118 0 10 #[59, 59, 59, 59, 73, 73, 73, 73, 87, 97, 107], 59) := by decide +kernel
theorem dX10_putNumbered_60 : decode cX10_putNumbered 60 = .ok (.aload_n 0, 1) := by decide +kernel
theorem dX10_putNumbered_61 : decode cX10_putNumbered 61 = .ok (.getfield 12, 3) := by decide +kernel
theorem dX10_putNumbered_64 : decode cX10_putNumbered 64 = .ok (.iload_n 1, 1) := by decide +kernel
theorem dX10_putNumbered_65 : decode cX10_putNumbered 65 = .ok (.invokestatic 40, 3) := by decide +kernel
theorem dX10_putNumbered_68 : decode cX10_putNumbered 68 = .ok (.iload_n 2, 1) := by decide +kernel
theorem dX10_putNumbered_69 : decode cX10_putNumbered 69 = .ok (.invokevirtual 36, 3) := by decide +kernel
theorem dX10_putNumbered_72 : decode cX10_putNumbered 72 = .ok (.iconst 1, 1) := by decide +kernel
theorem dX10_putNumbered_73 : decode cX10_putNumbered 73 = .ok (.ireturn, 1) := by decide +kernel
theorem dX10_putNumbered_74 : decode cX10_putNumbered 74 = .ok (.aload_n 0, 1) := by decide +kernel
theorem dX10_putNumbered_75 : decode cX10_putNumbered 75 = .ok (.getfield 18, 3) := by decide +kernel
theorem dX10_putNumbered_78 : decode cX10_putNumbered 78 = .ok (.iload_n 1, 1) := by decide +kernel
theorem dX10_putNumbered_79 : decode cX10_putNumbered 79 = .ok (.invokestatic 40, 3) := by decide +kernel
theorem dX10_putNumbered_82 : decode cX10_putNumbered 82 = .ok (.iload_n 2, 1) := by decide +kernel
theorem dX10_putNumbered_83 : decode cX10_putNumbered 83 = .ok (.invokevirtual 36, 3) := by decide +kernel
theorem dX10_putNumbered_86 : decode cX10_putNumbered 86 = .ok (.iconst 1, 1) := by decide +kernel
theorem dX10_putNumbered_87 : decode cX10_putNumbered 87 = .ok (.ireturn, 1) := by decide +kernel
theorem dX10_putNumbered_88 : decode cX10_putNumbered 88 = .ok (.aload_n 0, 1) := by decide +kernel
theorem dX10_putNumbered_89 : decode cX10_putNumbered 89 = .ok (.iload_n 2, 1) := by decide +kernel
theorem dX10_putNumbered_90 : decode cX10_putNumbered 90 = .ok (.ldc 21, 2) := by decide +kernel
theorem dX10_putNumbered_92 : decode cX10_putNumbered 92 = .ok (.iand, 1) := by decide +kernel
theorem dX10_putNumbered_93 : decode cX10_putNumbered 93 = .ok (.putfield 22, 3) := by decide +kernel
theorem dX10_putNumbered_96 : decode cX10_putNumbered 96 = .ok (.iconst 1, 1) := by decide +kernel
theorem dX10_putNumbered_97 : decode cX10_putNumbered 97 = .ok (.ireturn, 1) := by decide +kernel
theorem dX10_putNumbered_98 : decode cX10_putNumbered 98 = .ok (.aload_n 0, 1) := by decide +kernel
theorem dX10_putNumbered_99 : decode cX10_putNumbered 99 = .ok (.iload_n 2, 1) := by decide +kernel
theorem dX10_putNumbered_100 : decode cX10_putNumbered 100 = .ok (.ldc 21, 2) := by decide +kernel
theorem dX10_putNumbered_102 : decode cX10_putNumbered 102 = .ok (.iand, 1) := by decide +kernel
theorem dX10_putNumbered_103 : decode cX10_putNumbered 103 = .ok (.putfield 26, 3) := by decide +kernel
theorem dX10_putNumbered_106 : decode cX10_putNumbered 106 = .ok (.iconst 1, 1) := by decide +kernel
theorem dX10_putNumbered_107 : decode cX10_putNumbered 107 = .ok (.ireturn, 1) := by decide +kernel
theorem dX10_putNumbered_108 : decode cX10_putNumbered 108 = .ok (.aload_n 0, 1) := by decide +kernel
theorem dX10_putNumbered_109 : decode cX10_putNumbered 109 = .ok (.iload_n 2, 1) := by decide +kernel
theorem dX10_putNumbered_110 : decode cX10_putNumbered 110 = .ok (.sipush 255, 3) := by decide +kernel
theorem dX10_putNumbered_113 : decode cX10_putNumbered 113 = .ok (.iand, 1) := by decide +kernel
theorem dX10_putNumbered_114 : decode cX10_putNumbered 114 = .ok (.putfield 29, 3) := by decide +kernel
theorem dX10_putNumbered_117 : decode cX10_putNumbered 117 = .ok (.iconst 1, 1) := by decide +kernel
theorem dX10_putNumbered_118 : decode cX10_putNumbered 118 = .ok (.ireturn, 1) := by decide +kernel
theorem dX10_putNumbered_119 : decode cX10_putNumbered 119 = .ok (.iconst 0, 1) := by decide +kernel
theorem dX10_putNumbered_120 : decode cX10_putNumbered 120 = .ok (.ireturn, 1) := by decide +kernel
theorem dX1_set_0 : decode cX1_set 0 = .ok (.aload_n 0, 1) := by decide +kernel
theorem dX1_set_1 : decode cX1_set 1 = .ok (.getfield 28, 3) := by decide +kernel
theorem dX1_set_4 : decode cX1_set 4 = .ok (.getfield 48, 3) := by decide +kernel
theorem dX1_set_7 : decode cX1_set 7 = .ok (.iload_n 1, 1) := by decide +kernel
theorem dX1_set_8 : decode cX1_set 8 = .ok (.iload_n 2, 1) := by decide +kernel
theorem dX1_set_9 : decode cX1_set 9 = .ok (.invokevirtual 57, 3) := by decide +kernel
theorem dX1_set_12 : decode cX1_set 12 = .ok (.ireturn, 1) := by decide +kernel
theorem dX9_nextByte_0 : decode cX9_nextByte 0 = .ok (.aload_n 0, 1) := by decide +kernel
theorem dX9_nextByte_1 : decode cX9_nextByte 1 = .ok (.getfield 42, 3) := by decide +kernel
theorem dX9_nextByte_4 : decode cX9_nextByte 4 = .ok (.aload_n 0, 1) := by decide +kernel
theorem dX9_nextByte_5 : decode cX9_nextByte 5 = .ok (.getfield 10, 3) := by decide +kernel
theorem dX9_nextByte_8 : decode cX9_nextByte 8 = .ok (.getfield 64, 3) := by decide +kernel
theorem dX9_nextByte_11 : decode cX9_nextByte 11 = .ok (.invokevirtual 190, 3) := by decide +kernel
theorem dX9_nextByte_14 : decode cX9_nextByte 14 = .ok (.istore_n 1, 1) := by decide +kernel
theorem dX9_nextByte_15 : decode cX9_nextByte 15 = .ok (.aload_n 0, 1) := by decide +kernel
theorem dX9_nextByte_16 : decode cX9_nextByte 16 = .ok (.getfield 10, 3) := by decide +kernel
theorem dX9_nextByte_19 : decode cX9_nextByte 19 = .ok (.aload_n 0, 1) := by decide +kernel
theorem dX9_nextByte_20 : decode cX9_nextByte 20 = .ok (.getfield 10, 3) := by decide +kernel
theorem dX9_nextByte_23 : decode cX9_nextByte 23 = .ok (.getfield 64, 3) := by decide +kernel
theorem dX9_nextByte_26 : decode cX9_nextByte 26 = .ok (.iconst 1, 1) := by decide +kernel
theorem dX9_nextByte_27 : decode cX9_nextByte 27 = .ok (.iadd, 1) := by decide +kernel
theorem dX9_nextByte_28 : decode cX9_nextByte 28 = .ok (.ldc 171, 2) := by decide +kernel
theorem dX9_nextByte_30 : decode cX9_nextByte 30 = .ok (.iand, 1) := by decide +kernel
theorem dX9_nextByte_31 : decode cX9_nextByte 31 = .ok (.putfield 64, 3) := by decide +kernel
theorem dX9_nextByte_34 : decode cX9_nextByte 34 = .ok (.iload_n 1, 1) := by decide +kernel
theorem dX9_nextByte_35 : decode cX9_nextByte 35 = .ok (.ireturn, 1) := by decide +kernel
theorem dX10_exchange_0 : decode cX10_exchange 0 = .ok (.aload_n 0, 1) := by decide +kernel
theorem dX10_exchange_1 : decode cX10_exchange 1 = .ok (.getfield 12, 3) := by decide +kernel
theorem dX10_exchange_4 : decode cX10_exchange 4 = .ok (.iload_n 1, 1) := by decide +kernel
theorem dX10_exchange_5 : decode cX10_exchange 5 = .ok (.invokevirtual 32, 3) := by decide +kernel
theorem dX10_exchange_8 : decode cX10_exchange 8 = .ok (.istore_n 2, 1) := by decide +kernel
theorem dX10_exchange_9 : decode cX10_exchange 9 = .ok (.aload_n 0, 1) := by decide +kernel
theorem dX10_exchange_10 : decode cX10_exchange 10 = .ok (.getfield 12, 3) := by decide +kernel
theorem dX10_exchange_13 : decode cX10_exchange 13 = .ok (.iload_n 1, 1) := by decide +kernel
theorem dX10_exchange_14 : decode cX10_exchange 14 = .ok (.aload_n 0, 1) := by decide +kernel
theorem dX10_exchange_15 : decode cX10_exchange 15 = .ok (.getfield 18, 3) := by decide +kernel
theorem dX10_exchange_18 : decode cX10_exchange 18 = .ok (.iload_n 1, 1) := by decide +kernel
theorem dX10_exchange_19 : decode cX10_exchange 19 = .ok (.invokevirtual 32, 3) := by decide +kernel
theorem dX10_exchange_22 : decode cX10_exchange 22 = .ok (.invokevirtual 36, 3) := by decide +kernel
theorem dX10_exchange_25 : decode cX10_exchange 25 = .ok (.aload_n 0, 1) := by decide +kernel
theorem dX10_exchange_26 : decode cX10_exchange 26 = .ok (.getfield 18, 3) := by decide +kernel
theorem dX10_exchange_29 : decode cX10_exchange 29 = .ok (.iload_n 1, 1) := by decide +kernel
theorem dX10_exchange_30 : decode cX10_exchange 30 = .ok (.iload_n 2, 1) := by decide +kernel
theorem dX10_exchange_31 : decode cX10_exchange 31 = .ok (.invokevirtual 36, 3) := by decide +kernel
theorem dX10_exchange_34 : decode cX10_exchange 34 = .ok (.return_, 1) := by decide +kernel
theorem dX9_goOn_0 : decode cX9_goOn 0 = .ok (.aload_n 0, 1) := by decide +kernel
theorem dX9_goOn_1 : decode cX9_goOn 1 = .ok (.invokevirtual 67, 3) := by decide +kernel
theorem dX9_goOn_4 : decode cX9_goOn 4 = .ok (.i2b, 1) := by decide +kernel
theorem dX9_goOn_5 : decode cX9_goOn 5 = .ok (.istore_n 2, 1) := by decide +kernel
theorem dX9_goOn_6 : decode cX9_goOn 6 = .ok (.iload_n 1, 1) := by decide +kernel
theorem dX9_goOn_7 : decode cX9_goOn 7 = .ok (.ifCond .ne 6, 3) := by decide +kernel
theorem dX9_goOn_10 : decode cX9_goOn 10 = .ok (.bipush 7, 2) := by decide +kernel
theorem dX9_goOn_12 : decode cX9_goOn 12 = .ok (.ireturn, 1) := by decide +kernel
theorem dX9_goOn_13 : decode cX9_goOn 13 = .ok (.aload_n 0, 1) := by decide +kernel
theorem dX9_goOn_14 : decode cX9_goOn 14 = .ok (.getfield 10, 3) := by decide +kernel
theorem dX9_goOn_17 : decode cX9_goOn 17 = .ok (.aload_n 0, 1) := by decide +kernel
theorem dX9_goOn_18 : decode cX9_goOn 18 = .ok (.getfield 10, 3) := by decide +kernel
theorem dX9_goOn_21 : decode cX9_goOn 21 = .ok (.getfield 64, 3) := by decide +kernel
theorem dX9_goOn_24 : decode cX9_goOn 24 = .ok (.iload_n 2, 1) := by decide +kernel
theorem dX9_goOn_25 : decode cX9_goOn 25 = .ok (.iadd, 1) := by decide +kernel
theorem dX9_goOn_26 : decode cX9_goOn 26 = .ok (.ldc 171, 2) := by decide +kernel
theorem dX9_goOn_28 : decode cX9_goOn 28 = .ok (.iand, 1) := by decide +kernel
theorem dX9_goOn_29 : decode cX9_goOn 29 = .ok (.putfield 64, 3) := by decide +kernel
theorem dX9_goOn_32 : decode cX9_goOn 32 = .ok (.bipush 12, 2) := by decide +kernel
theorem dX9_goOn_34 : decode cX9_goOn 34 = .ok (.ireturn, 1) := by decide +kernel
theorem dX9_condition_0 : decode cX9_condition 0 = .ok (.iload_n 1, 1) := by decide +kernel
theorem dX9_condition_1 : decode cX9_condition 1 = .ok (.iconst 1, 1) := by decide +kernel
theorem dX9_condition_2 : decode cX9_condition 2 = .ok (.ishr, 1) := by decide +kernel
theorem dX9_condition_3 : decode cX9_condition 3 = .ok (.tableswitch 41 0 2 #[25, 31, 36], 25) := by decide +kernel
theorem dX9_condition_28 : decode cX9_condition 28 = .ok (.bipush 64, 2) := by decide +kernel
theorem dX9_condition_30 : decode cX9_condition 30 = .ok (.istore_n 2, 1) := by decide +kernel
theorem dX9_condition_31 : decode cX9_condition 31 = .ok (.goto 17, 3) := by decide +kernel
theorem dX9_condition_34 : decode cX9_condition 34 = .ok (.iconst 1, 1) := by decide +kernel
theorem dX9_condition_35 : decode cX9_condition 35 = .ok (.istore_n 2, 1) := by decide +kernel
theorem dX9_condition_36 : decode cX9_condition 36 = .ok (.goto 12, 3) := by decide +kernel
theorem dX9_condition_39 : decode cX9_condition 39 = .ok (.iconst 4, 1) := by decide +kernel
theorem dX9_condition_40 : decode cX9_condition 40 = .ok (.istore_n 2, 1) := by decide +kernel
theorem dX9_condition_41 : decode cX9_condition 41 = .ok (.goto 7, 3) := by decide +kernel
theorem dX9_condition_44 : decode cX9_condition 44 = .ok (.sipush 128, 3) := by decide +kernel
theorem dX9_condition_47 : decode cX9_condition 47 = .ok (.istore_n 2, 1) := by decide +kernel
theorem dX9_condition_48 : decode cX9_condition 48 = .ok (.aload_n 0, 1) := by decide +kernel
theorem dX9_condition_49 : decode cX9_condition 49 = .ok (.getfield 61, 3) := by decide +kernel
theorem dX9_condition_52 : decode cX9_condition 52 = .ok (.bipush 6, 2) := by decide +kernel
theorem dX9_condition_54 : decode cX9_condition 54 = .ok (.iaload, 1) := by decide +kernel
theorem dX9_condition_55 : decode cX9_condition 55 = .ok (.iload_n 2, 1) := by decide +kernel
theorem dX9_condition_56 : decode cX9_condition 56 = .ok (.iand, 1) := by decide +kernel
theorem dX9_condition_57 : decode cX9_condition 57 = .ok (.ifCond .eq 7, 3) := by decide +kernel
theorem dX9_condition_60 : decode cX9_condition 60 = .ok (.iconst 1, 1) := by decide +kernel
theorem dX9_condition_61 : decode cX9_condition 61 = .ok (.goto 4, 3) := by decide +kernel
theorem dX9_condition_64 : decode cX9_condition 64 = .ok (.iconst 0, 1) := by decide +kernel
theorem dX9_condition_65 : decode cX9_condition 65 = .ok (.istore_n 3, 1) := by decide +kernel
theorem dX9_condition_66 : decode cX9_condition 66 = .ok (.iload_n 3, 1) := by decide +kernel
theorem dX9_condition_67 : decode cX9_condition 67 = .ok (.iload_n 1, 1) := by decide +kernel
theorem dX9_condition_68 : decode cX9_condition 68 = .ok (.iconst 1, 1) := by decide +kernel
theorem dX9_condition_69 : decode cX9_condition 69 = .ok (.iand, 1) := by decide +kernel
theorem dX9_condition_70 : decode cX9_condition 70 = .ok (.ifCond .eq 7, 3) := by decide +kernel
theorem dX9_condition_73 : decode cX9_condition 73 = .ok (.iconst 1, 1) := by decide +kernel
theorem dX9_condition_74 : decode cX9_condition 74 = .ok (.goto 4, 3) := by decide +kernel
theorem dX9_condition_77 : decode cX9_condition 77 = .ok (.iconst 0, 1) := by decide +kernel
theorem dX9_condition_78 : decode cX9_condition 78 = .ok (.if_icmp .ne 7, 3) := by decide +kernel
theorem dX9_condition_81 : decode cX9_condition 81 = .ok (.iconst 1, 1) := by decide +kernel
theorem dX9_condition_82 : decode cX9_condition 82 = .ok (.goto 4, 3) := by decide +kernel
theorem dX9_condition_85 : decode cX9_condition 85 = .ok (.iconst 0, 1) := by decide +kernel
theorem dX9_condition_86 : decode cX9_condition 86 = .ok (.ireturn, 1) := by decide +kernel
theorem dX9_relative_0 : decode cX9_relative 0 = .ok (.iload_n 1, 1) := by decide +kernel
theorem dX9_relative_1 : decode cX9_relative 1 = .ok (.tableswitch 88 0 3 #[31, 33, 43, 82], 31) := by decide +kernel
theorem dX9_relative_32 : decode cX9_relative 32 = .ok (.iconst 4, 1) := by decide +kernel
theorem dX9_relative_33 : decode cX9_relative 33 = .ok (.ireturn, 1) := by decide +kernel
theorem dX9_relative_34 : decode cX9_relative 34 = .ok (.aload_n 0, 1) := by decide +kernel
theorem dX9_relative_35 : decode cX9_relative 35 = .ok (.getfield 10, 3) := by decide +kernel
theorem dX9_relative_38 : decode cX9_relative 38 = .ok (.iconst 3, 1) := by decide +kernel
theorem dX9_relative_39 : decode cX9_relative 39 = .ok (.invokevirtual 160, 3) := by decide +kernel
theorem dX9_relative_42 : decode cX9_relative 42 = .ok (.iconst 4, 1) := by decide +kernel
theorem dX9_relative_43 : decode cX9_relative 43 = .ok (.ireturn, 1) := by decide +kernel
theorem dX9_relative_44 : decode cX9_relative 44 = .ok (.aload_n 0, 1) := by decide +kernel
theorem dX9_relative_45 : decode cX9_relative 45 = .ok (.getfield 61, 3) := by decide +kernel
theorem dX9_relative_48 : decode cX9_relative 48 = .ok (.iconst 0, 1) := by decide +kernel
theorem dX9_relative_49 : decode cX9_relative 49 = .ok (.aload_n 0, 1) := by decide +kernel
theorem dX9_relative_50 : decode cX9_relative 50 = .ok (.getfield 61, 3) := by decide +kernel
theorem dX9_relative_53 : decode cX9_relative 53 = .ok (.iconst 0, 1) := by decide +kernel
theorem dX9_relative_54 : decode cX9_relative 54 = .ok (.iaload, 1) := by decide +kernel
theorem dX9_relative_55 : decode cX9_relative 55 = .ok (.iconst 1, 1) := by decide +kernel
theorem dX9_relative_56 : decode cX9_relative 56 = .ok (.isub, 1) := by decide +kernel
theorem dX9_relative_57 : decode cX9_relative 57 = .ok (.sipush 255, 3) := by decide +kernel
theorem dX9_relative_60 : decode cX9_relative 60 = .ok (.iand, 1) := by decide +kernel
theorem dX9_relative_61 : decode cX9_relative 61 = .ok (.iastore, 1) := by decide +kernel
theorem dX9_relative_62 : decode cX9_relative 62 = .ok (.aload_n 0, 1) := by decide +kernel
theorem dX9_relative_63 : decode cX9_relative 63 = .ok (.aload_n 0, 1) := by decide +kernel
theorem dX9_relative_64 : decode cX9_relative 64 = .ok (.getfield 61, 3) := by decide +kernel
theorem dX9_relative_67 : decode cX9_relative 67 = .ok (.iconst 0, 1) := by decide +kernel
theorem dX9_relative_68 : decode cX9_relative 68 = .ok (.iaload, 1) := by decide +kernel
theorem dX9_relative_69 : decode cX9_relative 69 = .ok (.ifCond .eq 7, 3) := by decide +kernel
theorem dX9_relative_72 : decode cX9_relative 72 = .ok (.iconst 1, 1) := by decide +kernel
theorem dX9_relative_73 : decode cX9_relative 73 = .ok (.goto 4, 3) := by decide +kernel
theorem dX9_relative_76 : decode cX9_relative 76 = .ok (.iconst 0, 1) := by decide +kernel
theorem dX9_relative_77 : decode cX9_relative 77 = .ok (.invokevirtual 163, 3) := by decide +kernel
theorem dX9_relative_80 : decode cX9_relative 80 = .ok (.iconst 1, 1) := by decide +kernel
theorem dX9_relative_81 : decode cX9_relative 81 = .ok (.iadd, 1) := by decide +kernel
theorem dX9_relative_82 : decode cX9_relative 82 = .ok (.ireturn, 1) := by decide +kernel
theorem dX9_relative_83 : decode cX9_relative 83 = .ok (.aload_n 0, 1) := by decide +kernel
theorem dX9_relative_84 : decode cX9_relative 84 = .ok (.iconst 1, 1) := by decide +kernel
theorem dX9_relative_85 : decode cX9_relative 85 = .ok (.invokevirtual 163, 3) := by decide +kernel
theorem dX9_relative_88 : decode cX9_relative 88 = .ok (.ireturn, 1) := by decide +kernel
theorem dX9_relative_89 : decode cX9_relative 89 = .ok (.aload_n 0, 1) := by decide +kernel
theorem dX9_relative_90 : decode cX9_relative 90 = .ok (.aload_n 0, 1) := by decide +kernel
theorem dX9_relative_91 : decode cX9_relative 91 = .ok (.iload_n 1, 1) := by decide +kernel
theorem dX9_relative_92 : decode cX9_relative 92 = .ok (.iconst 3, 1) := by decide +kernel
theorem dX9_relative_93 : decode cX9_relative 93 = .ok (.iand, 1) := by decide +kernel
theorem dX9_relative_94 : decode cX9_relative 94 = .ok (.invokevirtual 167, 3) := by decide +kernel
theorem dX9_relative_97 : decode cX9_relative 97 = .ok (.invokevirtual 163, 3) := by decide +kernel
theorem dX9_relative_100 : decode cX9_relative 100 = .ok (.ireturn, 1) := by decide +kernel
theorem dX9_nextWord_0 : decode cX9_nextWord 0 = .ok (.aload_n 0, 1) := by decide +kernel
theorem dX9_nextWord_1 : decode cX9_nextWord 1 = .ok (.invokevirtual 67, 3) := by decide +kernel
theorem dX9_nextWord_4 : decode cX9_nextWord 4 = .ok (.istore_n 1, 1) := by decide +kernel
theorem dX9_nextWord_5 : decode cX9_nextWord 5 = .ok (.iload_n 1, 1) := by decide +kernel
theorem dX9_nextWord_6 : decode cX9_nextWord 6 = .ok (.aload_n 0, 1) := by decide +kernel
theorem dX9_nextWord_7 : decode cX9_nextWord 7 = .ok (.invokevirtual 67, 3) := by decide +kernel
theorem dX9_nextWord_10 : decode cX9_nextWord 10 = .ok (.bipush 8, 2) := by decide +kernel
theorem dX9_nextWord_12 : decode cX9_nextWord 12 = .ok (.ishl, 1) := by decide +kernel
theorem dX9_nextWord_13 : decode cX9_nextWord 13 = .ok (.ior, 1) := by decide +kernel
theorem dX9_nextWord_14 : decode cX9_nextWord 14 = .ok (.ireturn, 1) := by decide +kernel
theorem dX9_putWide_0 : decode cX9_putWide 0 = .ok (.iload_n 1, 1) := by decide +kernel
theorem dX9_putWide_1 : decode cX9_putWide 1 = .ok (.iconst 3, 1) := by decide +kernel
theorem dX9_putWide_2 : decode cX9_putWide 2 = .ok (.if_icmp .ne 17, 3) := by decide +kernel
theorem dX9_putWide_5 : decode cX9_putWide 5 = .ok (.aload_n 0, 1) := by decide +kernel
theorem dX9_putWide_6 : decode cX9_putWide 6 = .ok (.getfield 10, 3) := by decide +kernel
theorem dX9_putWide_9 : decode cX9_putWide 9 = .ok (.iload_n 2, 1) := by decide +kernel
theorem dX9_putWide_10 : decode cX9_putWide 10 = .ok (.ldc 171, 2) := by decide +kernel
theorem dX9_putWide_12 : decode cX9_putWide 12 = .ok (.iand, 1) := by decide +kernel
theorem dX9_putWide_13 : decode cX9_putWide 13 = .ok (.putfield 214, 3) := by decide +kernel
theorem dX9_putWide_16 : decode cX9_putWide 16 = .ok (.goto 12, 3) := by decide +kernel
theorem dX9_putWide_19 : decode cX9_putWide 19 = .ok (.aload_n 0, 1) := by decide +kernel
theorem dX9_putWide_20 : decode cX9_putWide 20 = .ok (.getfield 54, 3) := by decide +kernel
theorem dX9_putWide_23 : decode cX9_putWide 23 = .ok (.iload_n 1, 1) := by decide +kernel
theorem dX9_putWide_24 : decode cX9_putWide 24 = .ok (.iload_n 2, 1) := by decide +kernel
theorem dX9_putWide_25 : decode cX9_putWide 25 = .ok (.invokevirtual 181, 3) := by decide +kernel
theorem dX9_putWide_28 : decode cX9_putWide 28 = .ok (.return_, 1) := by decide +kernel
theorem dX9_wide_0 : decode cX9_wide 0 = .ok (.iload_n 1, 1) := by decide +kernel
theorem dX9_wide_1 : decode cX9_wide 1 = .ok (.iconst 3, 1) := by decide +kernel
theorem dX9_wide_2 : decode cX9_wide 2 = .ok (.if_icmp .ne 13, 3) := by decide +kernel
theorem dX9_wide_5 : decode cX9_wide 5 = .ok (.aload_n 0, 1) := by decide +kernel
theorem dX9_wide_6 : decode cX9_wide 6 = .ok (.getfield 10, 3) := by decide +kernel
theorem dX9_wide_9 : decode cX9_wide 9 = .ok (.getfield 214, 3) := by decide +kernel
theorem dX9_wide_12 : decode cX9_wide 12 = .ok (.goto 11, 3) := by decide +kernel
theorem dX9_wide_15 : decode cX9_wide 15 = .ok (.aload_n 0, 1) := by decide +kernel
theorem dX9_wide_16 : decode cX9_wide 16 = .ok (.getfield 54, 3) := by decide +kernel
theorem dX9_wide_19 : decode cX9_wide 19 = .ok (.iload_n 1, 1) := by decide +kernel
theorem dX9_wide_20 : decode cX9_wide 20 = .ok (.invokevirtual 175, 3) := by decide +kernel
theorem dX9_wide_23 : decode cX9_wide 23 = .ok (.ireturn, 1) := by decide +kernel
theorem dX6_wordSignAndZero_0 : decode cX6_wordSignAndZero 0 = .ok (.iload_n 0, 1) := by decide +kernel
theorem dX6_wordSignAndZero_1 : decode cX6_wordSignAndZero 1 = .ok (.bipush 8, 2) := by decide +kernel
theorem dX6_wordSignAndZero_3 : decode cX6_wordSignAndZero 3 = .ok (.ishr, 1) := by decide +kernel
theorem dX6_wordSignAndZero_4 : decode cX6_wordSignAndZero 4 = .ok (.sipush 128, 3) := by decide +kernel
theorem dX6_wordSignAndZero_7 : decode cX6_wordSignAndZero 7 = .ok (.iand, 1) := by decide +kernel
theorem dX6_wordSignAndZero_8 : decode cX6_wordSignAndZero 8 = .ok (.iload_n 0, 1) := by decide +kernel
theorem dX6_wordSignAndZero_9 : decode cX6_wordSignAndZero 9 = .ok (.ifCond .ne 8, 3) := by decide +kernel
theorem dX6_wordSignAndZero_12 : decode cX6_wordSignAndZero 12 = .ok (.bipush 64, 2) := by decide +kernel
theorem dX6_wordSignAndZero_14 : decode cX6_wordSignAndZero 14 = .ok (.goto 4, 3) := by decide +kernel
theorem dX6_wordSignAndZero_17 : decode cX6_wordSignAndZero 17 = .ok (.iconst 0, 1) := by decide +kernel
theorem dX6_wordSignAndZero_18 : decode cX6_wordSignAndZero 18 = .ok (.ior, 1) := by decide +kernel
theorem dX6_wordSignAndZero_19 : decode cX6_wordSignAndZero 19 = .ok (.ireturn, 1) := by decide +kernel
theorem dX6_addWords_0 : decode cX6_addWords 0 = .ok (.iload_n 0, 1) := by decide +kernel
theorem dX6_addWords_1 : decode cX6_addWords 1 = .ok (.iload_n 1, 1) := by decide +kernel
theorem dX6_addWords_2 : decode cX6_addWords 2 = .ok (.iadd, 1) := by decide +kernel
theorem dX6_addWords_3 : decode cX6_addWords 3 = .ok (.iload_n 2, 1) := by decide +kernel
theorem dX6_addWords_4 : decode cX6_addWords 4 = .ok (.iadd, 1) := by decide +kernel
theorem dX6_addWords_5 : decode cX6_addWords 5 = .ok (.istore_n 3, 1) := by decide +kernel
theorem dX6_addWords_6 : decode cX6_addWords 6 = .ok (.iload_n 3, 1) := by decide +kernel
theorem dX6_addWords_7 : decode cX6_addWords 7 = .ok (.ldc 13, 2) := by decide +kernel
theorem dX6_addWords_9 : decode cX6_addWords 9 = .ok (.iand, 1) := by decide +kernel
theorem dX6_addWords_10 : decode cX6_addWords 10 = .ok (.istore 4, 2) := by decide +kernel
theorem dX6_addWords_12 : decode cX6_addWords 12 = .ok (.iload_n 0, 1) := by decide +kernel
theorem dX6_addWords_13 : decode cX6_addWords 13 = .ok (.iload_n 1, 1) := by decide +kernel
theorem dX6_addWords_14 : decode cX6_addWords 14 = .ok (.ixor, 1) := by decide +kernel
theorem dX6_addWords_15 : decode cX6_addWords 15 = .ok (.iload_n 3, 1) := by decide +kernel
theorem dX6_addWords_16 : decode cX6_addWords 16 = .ok (.ixor, 1) := by decide +kernel
theorem dX6_addWords_17 : decode cX6_addWords 17 = .ok (.bipush 8, 2) := by decide +kernel
theorem dX6_addWords_19 : decode cX6_addWords 19 = .ok (.ishr, 1) := by decide +kernel
theorem dX6_addWords_20 : decode cX6_addWords 20 = .ok (.bipush 16, 2) := by decide +kernel
theorem dX6_addWords_22 : decode cX6_addWords 22 = .ok (.iand, 1) := by decide +kernel
theorem dX6_addWords_23 : decode cX6_addWords 23 = .ok (.istore 5, 2) := by decide +kernel
theorem dX6_addWords_25 : decode cX6_addWords 25 = .ok (.iload_n 0, 1) := by decide +kernel
theorem dX6_addWords_26 : decode cX6_addWords 26 = .ok (.iload_n 3, 1) := by decide +kernel
theorem dX6_addWords_27 : decode cX6_addWords 27 = .ok (.ixor, 1) := by decide +kernel
theorem dX6_addWords_28 : decode cX6_addWords 28 = .ok (.iload_n 1, 1) := by decide +kernel
theorem dX6_addWords_29 : decode cX6_addWords 29 = .ok (.iload_n 3, 1) := by decide +kernel
theorem dX6_addWords_30 : decode cX6_addWords 30 = .ok (.ixor, 1) := by decide +kernel
theorem dX6_addWords_31 : decode cX6_addWords 31 = .ok (.iand, 1) := by decide +kernel
theorem dX6_addWords_32 : decode cX6_addWords 32 = .ok (.ldc 14, 2) := by decide +kernel
theorem dX6_addWords_34 : decode cX6_addWords 34 = .ok (.iand, 1) := by decide +kernel
theorem dX6_addWords_35 : decode cX6_addWords 35 = .ok (.bipush 13, 2) := by decide +kernel
theorem dX6_addWords_37 : decode cX6_addWords 37 = .ok (.ishr, 1) := by decide +kernel
theorem dX6_addWords_38 : decode cX6_addWords 38 = .ok (.istore 6, 2) := by decide +kernel
theorem dX6_addWords_40 : decode cX6_addWords 40 = .ok (.iload 4, 2) := by decide +kernel
theorem dX6_addWords_42 : decode cX6_addWords 42 = .ok (.bipush 8, 2) := by decide +kernel
theorem dX6_addWords_44 : decode cX6_addWords 44 = .ok (.ishl, 1) := by decide +kernel
theorem dX6_addWords_45 : decode cX6_addWords 45 = .ok (.iload 4, 2) := by decide +kernel
theorem dX6_addWords_47 : decode cX6_addWords 47 = .ok (.invokestatic 15, 3) := by decide +kernel
theorem dX6_addWords_50 : decode cX6_addWords 50 = .ok (.ior, 1) := by decide +kernel
theorem dX6_addWords_51 : decode cX6_addWords 51 = .ok (.iload 5, 2) := by decide +kernel
theorem dX6_addWords_53 : decode cX6_addWords 53 = .ok (.ior, 1) := by decide +kernel
theorem dX6_addWords_54 : decode cX6_addWords 54 = .ok (.iload 6, 2) := by decide +kernel
theorem dX6_addWords_56 : decode cX6_addWords 56 = .ok (.ior, 1) := by decide +kernel
theorem dX6_addWords_57 : decode cX6_addWords 57 = .ok (.iload_n 3, 1) := by decide +kernel
theorem dX6_addWords_58 : decode cX6_addWords 58 = .ok (.bipush 16, 2) := by decide +kernel
theorem dX6_addWords_60 : decode cX6_addWords 60 = .ok (.ishr, 1) := by decide +kernel
theorem dX6_addWords_61 : decode cX6_addWords 61 = .ok (.ior, 1) := by decide +kernel
theorem dX6_addWords_62 : decode cX6_addWords 62 = .ok (.ireturn, 1) := by decide +kernel
theorem dX9_changeFlags_0 : decode cX9_changeFlags 0 = .ok (.aload_n 0, 1) := by decide +kernel
theorem dX9_changeFlags_1 : decode cX9_changeFlags 1 = .ok (.getfield 61, 3) := by decide +kernel
theorem dX9_changeFlags_4 : decode cX9_changeFlags 4 = .ok (.bipush 6, 2) := by decide +kernel
theorem dX9_changeFlags_6 : decode cX9_changeFlags 6 = .ok (.aload_n 0, 1) := by decide +kernel
theorem dX9_changeFlags_7 : decode cX9_changeFlags 7 = .ok (.getfield 61, 3) := by decide +kernel
theorem dX9_changeFlags_10 : decode cX9_changeFlags 10 = .ok (.bipush 6, 2) := by decide +kernel
theorem dX9_changeFlags_12 : decode cX9_changeFlags 12 = .ok (.iaload, 1) := by decide +kernel
theorem dX9_changeFlags_13 : decode cX9_changeFlags 13 = .ok (.iload_n 1, 1) := by decide +kernel
theorem dX9_changeFlags_14 : decode cX9_changeFlags 14 = .ok (.iconst (-1), 1) := by decide +kernel
theorem dX9_changeFlags_15 : decode cX9_changeFlags 15 = .ok (.ixor, 1) := by decide +kernel
theorem dX9_changeFlags_16 : decode cX9_changeFlags 16 = .ok (.iand, 1) := by decide +kernel
theorem dX9_changeFlags_17 : decode cX9_changeFlags 17 = .ok (.iload_n 2, 1) := by decide +kernel
theorem dX9_changeFlags_18 : decode cX9_changeFlags 18 = .ok (.iload_n 1, 1) := by decide +kernel
theorem dX9_changeFlags_19 : decode cX9_changeFlags 19 = .ok (.iand, 1) := by decide +kernel
theorem dX9_changeFlags_20 : decode cX9_changeFlags 20 = .ok (.ior, 1) := by decide +kernel
theorem dX9_changeFlags_21 : decode cX9_changeFlags 21 = .ok (.iastore, 1) := by decide +kernel
theorem dX9_changeFlags_22 : decode cX9_changeFlags 22 = .ok (.return_, 1) := by decide +kernel
theorem dX9_wordLoadOrSum_0 : decode cX9_wordLoadOrSum 0 = .ok (.iload_n 1, 1) := by decide +kernel
theorem dX9_wordLoadOrSum_1 : decode cX9_wordLoadOrSum 1 = .ok (.bipush 8, 2) := by decide +kernel
theorem dX9_wordLoadOrSum_3 : decode cX9_wordLoadOrSum 3 = .ok (.iand, 1) := by decide +kernel
theorem dX9_wordLoadOrSum_4 : decode cX9_wordLoadOrSum 4 = .ok (.ifCond .ne 17, 3) := by decide +kernel
theorem dX9_wordLoadOrSum_7 : decode cX9_wordLoadOrSum 7 = .ok (.aload_n 0, 1) := by decide +kernel
theorem dX9_wordLoadOrSum_8 : decode cX9_wordLoadOrSum 8 = .ok (.iload_n 1, 1) := by decide +kernel
theorem dX9_wordLoadOrSum_9 : decode cX9_wordLoadOrSum 9 = .ok (.iconst 4, 1) := by decide +kernel
theorem dX9_wordLoadOrSum_10 : decode cX9_wordLoadOrSum 10 = .ok (.ishr, 1) := by decide +kernel
theorem dX9_wordLoadOrSum_11 : decode cX9_wordLoadOrSum 11 = .ok (.aload_n 0, 1) := by decide +kernel
theorem dX9_wordLoadOrSum_12 : decode cX9_wordLoadOrSum 12 = .ok (.invokevirtual 172, 3) := by decide +kernel
theorem dX9_wordLoadOrSum_15 : decode cX9_wordLoadOrSum 15 = .ok (.invokevirtual 138, 3) := by decide +kernel
theorem dX9_wordLoadOrSum_18 : decode cX9_wordLoadOrSum 18 = .ok (.bipush 10, 2) := by decide +kernel
theorem dX9_wordLoadOrSum_20 : decode cX9_wordLoadOrSum 20 = .ok (.ireturn, 1) := by decide +kernel
theorem dX9_wordLoadOrSum_21 : decode cX9_wordLoadOrSum 21 = .ok (.aload_n 0, 1) := by decide +kernel
theorem dX9_wordLoadOrSum_22 : decode cX9_wordLoadOrSum 22 = .ok (.getfield 54, 3) := by decide +kernel
theorem dX9_wordLoadOrSum_25 : decode cX9_wordLoadOrSum 25 = .ok (.iconst 2, 1) := by decide +kernel
theorem dX9_wordLoadOrSum_26 : decode cX9_wordLoadOrSum 26 = .ok (.invokevirtual 175, 3) := by decide +kernel
theorem dX9_wordLoadOrSum_29 : decode cX9_wordLoadOrSum 29 = .ok (.aload_n 0, 1) := by decide +kernel
theorem dX9_wordLoadOrSum_30 : decode cX9_wordLoadOrSum 30 = .ok (.iload_n 1, 1) := by decide +kernel
theorem dX9_wordLoadOrSum_31 : decode cX9_wordLoadOrSum 31 = .ok (.iconst 4, 1) := by decide +kernel
theorem dX9_wordLoadOrSum_32 : decode cX9_wordLoadOrSum 32 = .ok (.ishr, 1) := by decide +kernel
theorem dX9_wordLoadOrSum_33 : decode cX9_wordLoadOrSum 33 = .ok (.invokevirtual 135, 3) := by decide +kernel
theorem dX9_wordLoadOrSum_36 : decode cX9_wordLoadOrSum 36 = .ok (.iconst 0, 1) := by decide +kernel
theorem dX9_wordLoadOrSum_37 : decode cX9_wordLoadOrSum 37 = .ok (.invokestatic 178, 3) := by decide +kernel
theorem dX9_wordLoadOrSum_40 : decode cX9_wordLoadOrSum 40 = .ok (.istore_n 2, 1) := by decide +kernel
theorem dX9_wordLoadOrSum_41 : decode cX9_wordLoadOrSum 41 = .ok (.aload_n 0, 1) := by decide +kernel
theorem dX9_wordLoadOrSum_42 : decode cX9_wordLoadOrSum 42 = .ok (.getfield 54, 3) := by decide +kernel
theorem dX9_wordLoadOrSum_45 : decode cX9_wordLoadOrSum 45 = .ok (.iconst 2, 1) := by decide +kernel
theorem dX9_wordLoadOrSum_46 : decode cX9_wordLoadOrSum 46 = .ok (.iload_n 2, 1) := by decide +kernel
theorem dX9_wordLoadOrSum_47 : decode cX9_wordLoadOrSum 47 = .ok (.bipush 8, 2) := by decide +kernel
theorem dX9_wordLoadOrSum_49 : decode cX9_wordLoadOrSum 49 = .ok (.ishr, 1) := by decide +kernel
theorem dX9_wordLoadOrSum_50 : decode cX9_wordLoadOrSum 50 = .ok (.invokevirtual 181, 3) := by decide +kernel
theorem dX9_wordLoadOrSum_53 : decode cX9_wordLoadOrSum 53 = .ok (.aload_n 0, 1) := by decide +kernel
theorem dX9_wordLoadOrSum_54 : decode cX9_wordLoadOrSum 54 = .ok (.bipush 19, 2) := by decide +kernel
theorem dX9_wordLoadOrSum_56 : decode cX9_wordLoadOrSum 56 = .ok (.iload_n 2, 1) := by decide +kernel
theorem dX9_wordLoadOrSum_57 : decode cX9_wordLoadOrSum 57 = .ok (.invokevirtual 184, 3) := by decide +kernel
theorem dX9_wordLoadOrSum_60 : decode cX9_wordLoadOrSum 60 = .ok (.bipush 11, 2) := by decide +kernel
theorem dX9_wordLoadOrSum_62 : decode cX9_wordLoadOrSum 62 = .ok (.ireturn, 1) := by decide +kernel
theorem dX7_putWord_0 : decode cX7_putWord 0 = .ok (.aload_n 0, 1) := by decide +kernel
theorem dX7_putWord_1 : decode cX7_putWord 1 = .ok (.iload_n 1, 1) := by decide +kernel
theorem dX7_putWord_2 : decode cX7_putWord 2 = .ok (.iload_n 2, 1) := by decide +kernel
theorem dX7_putWord_3 : decode cX7_putWord 3 = .ok (.invokevirtual 17, 3) := by decide +kernel
theorem dX7_putWord_6 : decode cX7_putWord 6 = .ok (.aload_n 0, 1) := by decide +kernel
theorem dX7_putWord_7 : decode cX7_putWord 7 = .ok (.iload_n 1, 1) := by decide +kernel
theorem dX7_putWord_8 : decode cX7_putWord 8 = .ok (.iconst 1, 1) := by decide +kernel
theorem dX7_putWord_9 : decode cX7_putWord 9 = .ok (.iadd, 1) := by decide +kernel
theorem dX7_putWord_10 : decode cX7_putWord 10 = .ok (.iload_n 2, 1) := by decide +kernel
theorem dX7_putWord_11 : decode cX7_putWord 11 = .ok (.bipush 8, 2) := by decide +kernel
theorem dX7_putWord_13 : decode cX7_putWord 13 = .ok (.ishr, 1) := by decide +kernel
theorem dX7_putWord_14 : decode cX7_putWord 14 = .ok (.invokevirtual 17, 3) := by decide +kernel
theorem dX7_putWord_17 : decode cX7_putWord 17 = .ok (.return_, 1) := by decide +kernel
theorem dX7_wordAt_0 : decode cX7_wordAt 0 = .ok (.aload_n 0, 1) := by decide +kernel
theorem dX7_wordAt_1 : decode cX7_wordAt 1 = .ok (.iload_n 1, 1) := by decide +kernel
theorem dX7_wordAt_2 : decode cX7_wordAt 2 = .ok (.invokevirtual 13, 3) := by decide +kernel
theorem dX7_wordAt_5 : decode cX7_wordAt 5 = .ok (.aload_n 0, 1) := by decide +kernel
theorem dX7_wordAt_6 : decode cX7_wordAt 6 = .ok (.iload_n 1, 1) := by decide +kernel
theorem dX7_wordAt_7 : decode cX7_wordAt 7 = .ok (.iconst 1, 1) := by decide +kernel
theorem dX7_wordAt_8 : decode cX7_wordAt 8 = .ok (.iadd, 1) := by decide +kernel
theorem dX7_wordAt_9 : decode cX7_wordAt 9 = .ok (.invokevirtual 13, 3) := by decide +kernel
theorem dX7_wordAt_12 : decode cX7_wordAt 12 = .ok (.bipush 8, 2) := by decide +kernel
theorem dX7_wordAt_14 : decode cX7_wordAt 14 = .ok (.ishl, 1) := by decide +kernel
theorem dX7_wordAt_15 : decode cX7_wordAt 15 = .ok (.ior, 1) := by decide +kernel
theorem dX7_wordAt_16 : decode cX7_wordAt 16 = .ok (.ireturn, 1) := by decide +kernel
theorem dX9_transfer_0 : decode cX9_transfer 0 = .ok (.iload_n 1, 1) := by decide +kernel
theorem dX9_transfer_1 : decode cX9_transfer 1 = .ok (.tableswitch 162 0 6 #[43, 70, 43, 70, 97, 119, 141], 43) := by decide +kernel
theorem dX9_transfer_44 : decode cX9_transfer 44 = .ok (.aload_n 0, 1) := by decide +kernel
theorem dX9_transfer_45 : decode cX9_transfer 45 = .ok (.getfield 42, 3) := by decide +kernel
theorem dX9_transfer_48 : decode cX9_transfer 48 = .ok (.aload_n 0, 1) := by decide +kernel
theorem dX9_transfer_49 : decode cX9_transfer 49 = .ok (.getfield 54, 3) := by decide +kernel
theorem dX9_transfer_52 : decode cX9_transfer 52 = .ok (.iload_n 1, 1) := by decide +kernel
theorem dX9_transfer_53 : decode cX9_transfer 53 = .ok (.iconst 1, 1) := by decide +kernel
theorem dX9_transfer_54 : decode cX9_transfer 54 = .ok (.ishr, 1) := by decide +kernel
theorem dX9_transfer_55 : decode cX9_transfer 55 = .ok (.invokevirtual 175, 3) := by decide +kernel
theorem dX9_transfer_58 : decode cX9_transfer 58 = .ok (.aload_n 0, 1) := by decide +kernel
theorem dX9_transfer_59 : decode cX9_transfer 59 = .ok (.getfield 61, 3) := by decide +kernel
theorem dX9_transfer_62 : decode cX9_transfer 62 = .ok (.bipush 7, 2) := by decide +kernel
theorem dX9_transfer_64 : decode cX9_transfer 64 = .ok (.iaload, 1) := by decide +kernel
theorem dX9_transfer_65 : decode cX9_transfer 65 = .ok (.invokevirtual 187, 3) := by decide +kernel
theorem dX9_transfer_68 : decode cX9_transfer 68 = .ok (.bipush 7, 2) := by decide +kernel
theorem dX9_transfer_70 : decode cX9_transfer 70 = .ok (.ireturn, 1) := by decide +kernel
theorem dX9_transfer_71 : decode cX9_transfer 71 = .ok (.aload_n 0, 1) := by decide +kernel
theorem dX9_transfer_72 : decode cX9_transfer 72 = .ok (.getfield 61, 3) := by decide +kernel
theorem dX9_transfer_75 : decode cX9_transfer 75 = .ok (.bipush 7, 2) := by decide +kernel
theorem dX9_transfer_77 : decode cX9_transfer 77 = .ok (.aload_n 0, 1) := by decide +kernel
theorem dX9_transfer_78 : decode cX9_transfer 78 = .ok (.getfield 42, 3) := by decide +kernel
theorem dX9_transfer_81 : decode cX9_transfer 81 = .ok (.aload_n 0, 1) := by decide +kernel
theorem dX9_transfer_82 : decode cX9_transfer 82 = .ok (.getfield 54, 3) := by decide +kernel
theorem dX9_transfer_85 : decode cX9_transfer 85 = .ok (.iload_n 1, 1) := by decide +kernel
theorem dX9_transfer_86 : decode cX9_transfer 86 = .ok (.iconst 1, 1) := by decide +kernel
theorem dX9_transfer_87 : decode cX9_transfer 87 = .ok (.ishr, 1) := by decide +kernel
theorem dX9_transfer_88 : decode cX9_transfer 88 = .ok (.invokevirtual 175, 3) := by decide +kernel
theorem dX9_transfer_91 : decode cX9_transfer 91 = .ok (.invokevirtual 190, 3) := by decide +kernel
theorem dX9_transfer_94 : decode cX9_transfer 94 = .ok (.iastore, 1) := by decide +kernel
theorem dX9_transfer_95 : decode cX9_transfer 95 = .ok (.bipush 7, 2) := by decide +kernel
theorem dX9_transfer_97 : decode cX9_transfer 97 = .ok (.ireturn, 1) := by decide +kernel
theorem dX9_transfer_98 : decode cX9_transfer 98 = .ok (.aload_n 0, 1) := by decide +kernel
theorem dX9_transfer_99 : decode cX9_transfer 99 = .ok (.getfield 42, 3) := by decide +kernel
theorem dX9_transfer_102 : decode cX9_transfer 102 = .ok (.aload_n 0, 1) := by decide +kernel
theorem dX9_transfer_103 : decode cX9_transfer 103 = .ok (.invokevirtual 172, 3) := by decide +kernel
theorem dX9_transfer_106 : decode cX9_transfer 106 = .ok (.aload_n 0, 1) := by decide +kernel
theorem dX9_transfer_107 : decode cX9_transfer 107 = .ok (.getfield 54, 3) := by decide +kernel
theorem dX9_transfer_110 : decode cX9_transfer 110 = .ok (.iconst 2, 1) := by decide +kernel
theorem dX9_transfer_111 : decode cX9_transfer 111 = .ok (.invokevirtual 175, 3) := by decide +kernel
theorem dX9_transfer_114 : decode cX9_transfer 114 = .ok (.invokevirtual 193, 3) := by decide +kernel
theorem dX9_transfer_117 : decode cX9_transfer 117 = .ok (.bipush 16, 2) := by decide +kernel
theorem dX9_transfer_119 : decode cX9_transfer 119 = .ok (.ireturn, 1) := by decide +kernel
theorem dX9_transfer_120 : decode cX9_transfer 120 = .ok (.aload_n 0, 1) := by decide +kernel
theorem dX9_transfer_121 : decode cX9_transfer 121 = .ok (.getfield 54, 3) := by decide +kernel
theorem dX9_transfer_124 : decode cX9_transfer 124 = .ok (.iconst 2, 1) := by decide +kernel
theorem dX9_transfer_125 : decode cX9_transfer 125 = .ok (.aload_n 0, 1) := by decide +kernel
theorem dX9_transfer_126 : decode cX9_transfer 126 = .ok (.getfield 42, 3) := by decide +kernel
theorem dX9_transfer_129 : decode cX9_transfer 129 = .ok (.aload_n 0, 1) := by decide +kernel
theorem dX9_transfer_130 : decode cX9_transfer 130 = .ok (.invokevirtual 172, 3) := by decide +kernel
theorem dX9_transfer_133 : decode cX9_transfer 133 = .ok (.invokevirtual 118, 3) := by decide +kernel
theorem dX9_transfer_136 : decode cX9_transfer 136 = .ok (.invokevirtual 181, 3) := by decide +kernel
theorem dX9_transfer_139 : decode cX9_transfer 139 = .ok (.bipush 16, 2) := by decide +kernel
theorem dX9_transfer_141 : decode cX9_transfer 141 = .ok (.ireturn, 1) := by decide +kernel
theorem dX9_transfer_142 : decode cX9_transfer 142 = .ok (.aload_n 0, 1) := by decide +kernel
theorem dX9_transfer_143 : decode cX9_transfer 143 = .ok (.getfield 42, 3) := by decide +kernel
theorem dX9_transfer_146 : decode cX9_transfer 146 = .ok (.aload_n 0, 1) := by decide +kernel
theorem dX9_transfer_147 : decode cX9_transfer 147 = .ok (.invokevirtual 172, 3) := by decide +kernel
theorem dX9_transfer_150 : decode cX9_transfer 150 = .ok (.aload_n 0, 1) := by decide +kernel
theorem dX9_transfer_151 : decode cX9_transfer 151 = .ok (.getfield 61, 3) := by decide +kernel
theorem dX9_transfer_154 : decode cX9_transfer 154 = .ok (.bipush 7, 2) := by decide +kernel
theorem dX9_transfer_156 : decode cX9_transfer 156 = .ok (.iaload, 1) := by decide +kernel
theorem dX9_transfer_157 : decode cX9_transfer 157 = .ok (.invokevirtual 187, 3) := by decide +kernel
theorem dX9_transfer_160 : decode cX9_transfer 160 = .ok (.bipush 13, 2) := by decide +kernel
theorem dX9_transfer_162 : decode cX9_transfer 162 = .ok (.ireturn, 1) := by decide +kernel
theorem dX9_transfer_163 : decode cX9_transfer 163 = .ok (.aload_n 0, 1) := by decide +kernel
theorem dX9_transfer_164 : decode cX9_transfer 164 = .ok (.getfield 61, 3) := by decide +kernel
theorem dX9_transfer_167 : decode cX9_transfer 167 = .ok (.bipush 7, 2) := by decide +kernel
theorem dX9_transfer_169 : decode cX9_transfer 169 = .ok (.aload_n 0, 1) := by decide +kernel
theorem dX9_transfer_170 : decode cX9_transfer 170 = .ok (.getfield 42, 3) := by decide +kernel
theorem dX9_transfer_173 : decode cX9_transfer 173 = .ok (.aload_n 0, 1) := by decide +kernel
theorem dX9_transfer_174 : decode cX9_transfer 174 = .ok (.invokevirtual 172, 3) := by decide +kernel
theorem dX9_transfer_177 : decode cX9_transfer 177 = .ok (.invokevirtual 190, 3) := by decide +kernel
theorem dX9_transfer_180 : decode cX9_transfer 180 = .ok (.iastore, 1) := by decide +kernel
theorem dX9_transfer_181 : decode cX9_transfer 181 = .ok (.bipush 13, 2) := by decide +kernel
theorem dX9_transfer_183 : decode cX9_transfer 183 = .ok (.ireturn, 1) := by decide +kernel
theorem dX9_read_0 : decode cX9_read 0 = .ok (.iload_n 1, 1) := by decide +kernel
theorem dX9_read_1 : decode cX9_read 1 = .ok (.bipush 6, 2) := by decide +kernel
theorem dX9_read_3 : decode cX9_read 3 = .ok (.if_icmp .ne 19, 3) := by decide +kernel
theorem dX9_read_6 : decode cX9_read 6 = .ok (.aload_n 0, 1) := by decide +kernel
theorem dX9_read_7 : decode cX9_read 7 = .ok (.getfield 42, 3) := by decide +kernel
theorem dX9_read_10 : decode cX9_read 10 = .ok (.aload_n 0, 1) := by decide +kernel
theorem dX9_read_11 : decode cX9_read 11 = .ok (.getfield 54, 3) := by decide +kernel
theorem dX9_read_14 : decode cX9_read 14 = .ok (.iconst 2, 1) := by decide +kernel
theorem dX9_read_15 : decode cX9_read 15 = .ok (.invokevirtual 175, 3) := by decide +kernel
theorem dX9_read_18 : decode cX9_read 18 = .ok (.invokevirtual 190, 3) := by decide +kernel
theorem dX9_read_21 : decode cX9_read 21 = .ok (.ireturn, 1) := by decide +kernel
theorem dX9_read_22 : decode cX9_read 22 = .ok (.aload_n 0, 1) := by decide +kernel
theorem dX9_read_23 : decode cX9_read 23 = .ok (.getfield 61, 3) := by decide +kernel
theorem dX9_read_26 : decode cX9_read 26 = .ok (.iload_n 1, 1) := by decide +kernel
theorem dX9_read_27 : decode cX9_read 27 = .ok (.bipush 7, 2) := by decide +kernel
theorem dX9_read_29 : decode cX9_read 29 = .ok (.iand, 1) := by decide +kernel
theorem dX9_read_30 : decode cX9_read 30 = .ok (.iaload, 1) := by decide +kernel
theorem dX9_read_31 : decode cX9_read 31 = .ok (.ireturn, 1) := by decide +kernel
theorem dX6_signAndZero_0 : decode cX6_signAndZero 0 = .ok (.iload_n 0, 1) := by decide +kernel
theorem dX6_signAndZero_1 : decode cX6_signAndZero 1 = .ok (.sipush 128, 3) := by decide +kernel
theorem dX6_signAndZero_4 : decode cX6_signAndZero 4 = .ok (.iand, 1) := by decide +kernel
theorem dX6_signAndZero_5 : decode cX6_signAndZero 5 = .ok (.iload_n 0, 1) := by decide +kernel
theorem dX6_signAndZero_6 : decode cX6_signAndZero 6 = .ok (.ifCond .ne 8, 3) := by decide +kernel
theorem dX6_signAndZero_9 : decode cX6_signAndZero 9 = .ok (.bipush 64, 2) := by decide +kernel
theorem dX6_signAndZero_11 : decode cX6_signAndZero 11 = .ok (.goto 4, 3) := by decide +kernel
theorem dX6_signAndZero_14 : decode cX6_signAndZero 14 = .ok (.iconst 0, 1) := by decide +kernel
theorem dX6_signAndZero_15 : decode cX6_signAndZero 15 = .ok (.ior, 1) := by decide +kernel
theorem dX6_signAndZero_16 : decode cX6_signAndZero 16 = .ok (.ireturn, 1) := by decide +kernel
theorem dX6_add_0 : decode cX6_add 0 = .ok (.iload_n 0, 1) := by decide +kernel
theorem dX6_add_1 : decode cX6_add 1 = .ok (.iload_n 1, 1) := by decide +kernel
theorem dX6_add_2 : decode cX6_add 2 = .ok (.iadd, 1) := by decide +kernel
theorem dX6_add_3 : decode cX6_add 3 = .ok (.iload_n 2, 1) := by decide +kernel
theorem dX6_add_4 : decode cX6_add 4 = .ok (.iadd, 1) := by decide +kernel
theorem dX6_add_5 : decode cX6_add 5 = .ok (.istore_n 3, 1) := by decide +kernel
theorem dX6_add_6 : decode cX6_add 6 = .ok (.iload_n 3, 1) := by decide +kernel
theorem dX6_add_7 : decode cX6_add 7 = .ok (.sipush 255, 3) := by decide +kernel
theorem dX6_add_10 : decode cX6_add 10 = .ok (.iand, 1) := by decide +kernel
theorem dX6_add_11 : decode cX6_add 11 = .ok (.istore 4, 2) := by decide +kernel
theorem dX6_add_13 : decode cX6_add 13 = .ok (.iload_n 0, 1) := by decide +kernel
theorem dX6_add_14 : decode cX6_add 14 = .ok (.iload_n 1, 1) := by decide +kernel
theorem dX6_add_15 : decode cX6_add 15 = .ok (.ixor, 1) := by decide +kernel
theorem dX6_add_16 : decode cX6_add 16 = .ok (.iload_n 3, 1) := by decide +kernel
theorem dX6_add_17 : decode cX6_add 17 = .ok (.ixor, 1) := by decide +kernel
theorem dX6_add_18 : decode cX6_add 18 = .ok (.bipush 16, 2) := by decide +kernel
theorem dX6_add_20 : decode cX6_add 20 = .ok (.iand, 1) := by decide +kernel
theorem dX6_add_21 : decode cX6_add 21 = .ok (.istore 5, 2) := by decide +kernel
theorem dX6_add_23 : decode cX6_add 23 = .ok (.iload_n 0, 1) := by decide +kernel
theorem dX6_add_24 : decode cX6_add 24 = .ok (.iload_n 3, 1) := by decide +kernel
theorem dX6_add_25 : decode cX6_add 25 = .ok (.ixor, 1) := by decide +kernel
theorem dX6_add_26 : decode cX6_add 26 = .ok (.iload_n 1, 1) := by decide +kernel
theorem dX6_add_27 : decode cX6_add 27 = .ok (.iload_n 3, 1) := by decide +kernel
theorem dX6_add_28 : decode cX6_add 28 = .ok (.ixor, 1) := by decide +kernel
theorem dX6_add_29 : decode cX6_add 29 = .ok (.iand, 1) := by decide +kernel
theorem dX6_add_30 : decode cX6_add 30 = .ok (.sipush 128, 3) := by decide +kernel
theorem dX6_add_33 : decode cX6_add 33 = .ok (.iand, 1) := by decide +kernel
theorem dX6_add_34 : decode cX6_add 34 = .ok (.iconst 5, 1) := by decide +kernel
theorem dX6_add_35 : decode cX6_add 35 = .ok (.ishr, 1) := by decide +kernel
theorem dX6_add_36 : decode cX6_add 36 = .ok (.istore 6, 2) := by decide +kernel
theorem dX6_add_38 : decode cX6_add 38 = .ok (.iload 4, 2) := by decide +kernel
theorem dX6_add_40 : decode cX6_add 40 = .ok (.bipush 8, 2) := by decide +kernel
theorem dX6_add_42 : decode cX6_add 42 = .ok (.ishl, 1) := by decide +kernel
theorem dX6_add_43 : decode cX6_add 43 = .ok (.iload 4, 2) := by decide +kernel
theorem dX6_add_45 : decode cX6_add 45 = .ok (.invokestatic 9, 3) := by decide +kernel
theorem dX6_add_48 : decode cX6_add 48 = .ok (.ior, 1) := by decide +kernel
theorem dX6_add_49 : decode cX6_add 49 = .ok (.iload 5, 2) := by decide +kernel
theorem dX6_add_51 : decode cX6_add 51 = .ok (.ior, 1) := by decide +kernel
theorem dX6_add_52 : decode cX6_add 52 = .ok (.iload 6, 2) := by decide +kernel
theorem dX6_add_54 : decode cX6_add 54 = .ok (.ior, 1) := by decide +kernel
theorem dX6_add_55 : decode cX6_add 55 = .ok (.iload_n 3, 1) := by decide +kernel
theorem dX6_add_56 : decode cX6_add 56 = .ok (.bipush 8, 2) := by decide +kernel
theorem dX6_add_58 : decode cX6_add 58 = .ok (.ishr, 1) := by decide +kernel
theorem dX6_add_59 : decode cX6_add 59 = .ok (.ior, 1) := by decide +kernel
theorem dX6_add_60 : decode cX6_add 60 = .ok (.ireturn, 1) := by decide +kernel
theorem dX9_write_0 : decode cX9_write 0 = .ok (.iload_n 1, 1) := by decide +kernel
theorem dX9_write_1 : decode cX9_write 1 = .ok (.bipush 6, 2) := by decide +kernel
theorem dX9_write_3 : decode cX9_write 3 = .ok (.if_icmp .ne 22, 3) := by decide +kernel
theorem dX9_write_6 : decode cX9_write 6 = .ok (.aload_n 0, 1) := by decide +kernel
theorem dX9_write_7 : decode cX9_write 7 = .ok (.getfield 42, 3) := by decide +kernel
theorem dX9_write_10 : decode cX9_write 10 = .ok (.aload_n 0, 1) := by decide +kernel
theorem dX9_write_11 : decode cX9_write 11 = .ok (.getfield 54, 3) := by decide +kernel
theorem dX9_write_14 : decode cX9_write 14 = .ok (.iconst 2, 1) := by decide +kernel
theorem dX9_write_15 : decode cX9_write 15 = .ok (.invokevirtual 175, 3) := by decide +kernel
theorem dX9_write_18 : decode cX9_write 18 = .ok (.iload_n 2, 1) := by decide +kernel
theorem dX9_write_19 : decode cX9_write 19 = .ok (.invokevirtual 187, 3) := by decide +kernel
theorem dX9_write_22 : decode cX9_write 22 = .ok (.goto 13, 3) := by decide +kernel
theorem dX9_write_25 : decode cX9_write 25 = .ok (.aload_n 0, 1) := by decide +kernel
theorem dX9_write_26 : decode cX9_write 26 = .ok (.getfield 61, 3) := by decide +kernel
theorem dX9_write_29 : decode cX9_write 29 = .ok (.iload_n 1, 1) := by decide +kernel
theorem dX9_write_30 : decode cX9_write 30 = .ok (.bipush 7, 2) := by decide +kernel
theorem dX9_write_32 : decode cX9_write 32 = .ok (.iand, 1) := by decide +kernel
theorem dX9_write_33 : decode cX9_write 33 = .ok (.iload_n 2, 1) := by decide +kernel
theorem dX9_write_34 : decode cX9_write 34 = .ok (.iastore, 1) := by decide +kernel
theorem dX9_write_35 : decode cX9_write 35 = .ok (.return_, 1) := by decide +kernel
theorem dX9_step_0 : decode cX9_step 0 = .ok (.aload_n 0, 1) := by decide +kernel
theorem dX9_step_1 : decode cX9_step 1 = .ok (.iload_n 1, 1) := by decide +kernel
theorem dX9_step_2 : decode cX9_step 2 = .ok (.iload_n 2, 1) := by decide +kernel
theorem dX9_step_3 : decode cX9_step 3 = .ok (.bipush 8, 2) := by decide +kernel
theorem dX9_step_5 : decode cX9_step 5 = .ok (.ishr, 1) := by decide +kernel
theorem dX9_step_6 : decode cX9_step 6 = .ok (.invokevirtual 154, 3) := by decide +kernel
theorem dX9_step_9 : decode cX9_step 9 = .ok (.aload_n 0, 1) := by decide +kernel
theorem dX9_step_10 : decode cX9_step 10 = .ok (.sipush 214, 3) := by decide +kernel
theorem dX9_step_13 : decode cX9_step 13 = .ok (.iload_n 2, 1) := by decide +kernel
theorem dX9_step_14 : decode cX9_step 14 = .ok (.invokevirtual 184, 3) := by decide +kernel
theorem dX9_step_17 : decode cX9_step 17 = .ok (.iload_n 1, 1) := by decide +kernel
theorem dX9_step_18 : decode cX9_step 18 = .ok (.bipush 6, 2) := by decide +kernel
theorem dX9_step_20 : decode cX9_step 20 = .ok (.if_icmp .ne 8, 3) := by decide +kernel
theorem dX9_step_23 : decode cX9_step 23 = .ok (.bipush 11, 2) := by decide +kernel
theorem dX9_step_25 : decode cX9_step 25 = .ok (.goto 4, 3) := by decide +kernel
theorem dX9_step_28 : decode cX9_step 28 = .ok (.iconst 4, 1) := by decide +kernel
theorem dX9_step_29 : decode cX9_step 29 = .ok (.ireturn, 1) := by decide +kernel
theorem dX6_subtract_0 : decode cX6_subtract 0 = .ok (.iload_n 0, 1) := by decide +kernel
theorem dX6_subtract_1 : decode cX6_subtract 1 = .ok (.iload_n 1, 1) := by decide +kernel
theorem dX6_subtract_2 : decode cX6_subtract 2 = .ok (.isub, 1) := by decide +kernel
theorem dX6_subtract_3 : decode cX6_subtract 3 = .ok (.iload_n 2, 1) := by decide +kernel
theorem dX6_subtract_4 : decode cX6_subtract 4 = .ok (.isub, 1) := by decide +kernel
theorem dX6_subtract_5 : decode cX6_subtract 5 = .ok (.istore_n 3, 1) := by decide +kernel
theorem dX6_subtract_6 : decode cX6_subtract 6 = .ok (.iload_n 3, 1) := by decide +kernel
theorem dX6_subtract_7 : decode cX6_subtract 7 = .ok (.sipush 255, 3) := by decide +kernel
theorem dX6_subtract_10 : decode cX6_subtract 10 = .ok (.iand, 1) := by decide +kernel
theorem dX6_subtract_11 : decode cX6_subtract 11 = .ok (.istore 4, 2) := by decide +kernel
theorem dX6_subtract_13 : decode cX6_subtract 13 = .ok (.iload_n 0, 1) := by decide +kernel
theorem dX6_subtract_14 : decode cX6_subtract 14 = .ok (.iload_n 1, 1) := by decide +kernel
theorem dX6_subtract_15 : decode cX6_subtract 15 = .ok (.ixor, 1) := by decide +kernel
theorem dX6_subtract_16 : decode cX6_subtract 16 = .ok (.iload_n 3, 1) := by decide +kernel
theorem dX6_subtract_17 : decode cX6_subtract 17 = .ok (.ixor, 1) := by decide +kernel
theorem dX6_subtract_18 : decode cX6_subtract 18 = .ok (.bipush 16, 2) := by decide +kernel
theorem dX6_subtract_20 : decode cX6_subtract 20 = .ok (.iand, 1) := by decide +kernel
theorem dX6_subtract_21 : decode cX6_subtract 21 = .ok (.istore 5, 2) := by decide +kernel
theorem dX6_subtract_23 : decode cX6_subtract 23 = .ok (.iload_n 0, 1) := by decide +kernel
theorem dX6_subtract_24 : decode cX6_subtract 24 = .ok (.iload_n 1, 1) := by decide +kernel
theorem dX6_subtract_25 : decode cX6_subtract 25 = .ok (.ixor, 1) := by decide +kernel
theorem dX6_subtract_26 : decode cX6_subtract 26 = .ok (.iload_n 0, 1) := by decide +kernel
theorem dX6_subtract_27 : decode cX6_subtract 27 = .ok (.iload_n 3, 1) := by decide +kernel
theorem dX6_subtract_28 : decode cX6_subtract 28 = .ok (.ixor, 1) := by decide +kernel
theorem dX6_subtract_29 : decode cX6_subtract 29 = .ok (.iand, 1) := by decide +kernel
theorem dX6_subtract_30 : decode cX6_subtract 30 = .ok (.sipush 128, 3) := by decide +kernel
theorem dX6_subtract_33 : decode cX6_subtract 33 = .ok (.iand, 1) := by decide +kernel
theorem dX6_subtract_34 : decode cX6_subtract 34 = .ok (.iconst 5, 1) := by decide +kernel
theorem dX6_subtract_35 : decode cX6_subtract 35 = .ok (.ishr, 1) := by decide +kernel
theorem dX6_subtract_36 : decode cX6_subtract 36 = .ok (.istore 6, 2) := by decide +kernel
theorem dX6_subtract_38 : decode cX6_subtract 38 = .ok (.iload 4, 2) := by decide +kernel
theorem dX6_subtract_40 : decode cX6_subtract 40 = .ok (.bipush 8, 2) := by decide +kernel
theorem dX6_subtract_42 : decode cX6_subtract 42 = .ok (.ishl, 1) := by decide +kernel
theorem dX6_subtract_43 : decode cX6_subtract 43 = .ok (.iload 4, 2) := by decide +kernel
theorem dX6_subtract_45 : decode cX6_subtract 45 = .ok (.invokestatic 9, 3) := by decide +kernel
theorem dX6_subtract_48 : decode cX6_subtract 48 = .ok (.ior, 1) := by decide +kernel
theorem dX6_subtract_49 : decode cX6_subtract 49 = .ok (.iload 5, 2) := by decide +kernel
theorem dX6_subtract_51 : decode cX6_subtract 51 = .ok (.ior, 1) := by decide +kernel
theorem dX6_subtract_52 : decode cX6_subtract 52 = .ok (.iload 6, 2) := by decide +kernel
theorem dX6_subtract_54 : decode cX6_subtract 54 = .ok (.ior, 1) := by decide +kernel
theorem dX6_subtract_55 : decode cX6_subtract 55 = .ok (.iconst 2, 1) := by decide +kernel
theorem dX6_subtract_56 : decode cX6_subtract 56 = .ok (.ior, 1) := by decide +kernel
theorem dX6_subtract_57 : decode cX6_subtract 57 = .ok (.iload_n 3, 1) := by decide +kernel
theorem dX6_subtract_58 : decode cX6_subtract 58 = .ok (.bipush 8, 2) := by decide +kernel
theorem dX6_subtract_60 : decode cX6_subtract 60 = .ok (.ishr, 1) := by decide +kernel
theorem dX6_subtract_61 : decode cX6_subtract 61 = .ok (.iconst 1, 1) := by decide +kernel
theorem dX6_subtract_62 : decode cX6_subtract 62 = .ok (.iand, 1) := by decide +kernel
theorem dX6_subtract_63 : decode cX6_subtract 63 = .ok (.ior, 1) := by decide +kernel
theorem dX6_subtract_64 : decode cX6_subtract 64 = .ok (.ireturn, 1) := by decide +kernel
theorem dX13_bitCount_0 : decode cX13_bitCount 0 = .ok (.iload_n 0, 1) := by decide +kernel
theorem dX13_bitCount_1 : decode cX13_bitCount 1 = .ok (.iload_n 0, 1) := by decide +kernel
theorem dX13_bitCount_2 : decode cX13_bitCount 2 = .ok (.iconst 1, 1) := by decide +kernel
theorem dX13_bitCount_3 : decode cX13_bitCount 3 = .ok (.iushr, 1) := by decide +kernel
theorem dX13_bitCount_4 : decode cX13_bitCount 4 = .ok (.ldc_w 265, 3) := by decide +kernel
theorem dX13_bitCount_7 : decode cX13_bitCount 7 = .ok (.iand, 1) := by decide +kernel
theorem dX13_bitCount_8 : decode cX13_bitCount 8 = .ok (.isub, 1) := by decide +kernel
theorem dX13_bitCount_9 : decode cX13_bitCount 9 = .ok (.istore_n 0, 1) := by decide +kernel
theorem dX13_bitCount_10 : decode cX13_bitCount 10 = .ok (.iload_n 0, 1) := by decide +kernel
theorem dX13_bitCount_11 : decode cX13_bitCount 11 = .ok (.ldc_w 266, 3) := by decide +kernel
theorem dX13_bitCount_14 : decode cX13_bitCount 14 = .ok (.iand, 1) := by decide +kernel
theorem dX13_bitCount_15 : decode cX13_bitCount 15 = .ok (.iload_n 0, 1) := by decide +kernel
theorem dX13_bitCount_16 : decode cX13_bitCount 16 = .ok (.iconst 2, 1) := by decide +kernel
theorem dX13_bitCount_17 : decode cX13_bitCount 17 = .ok (.iushr, 1) := by decide +kernel
theorem dX13_bitCount_18 : decode cX13_bitCount 18 = .ok (.ldc_w 266, 3) := by decide +kernel
theorem dX13_bitCount_21 : decode cX13_bitCount 21 = .ok (.iand, 1) := by decide +kernel
theorem dX13_bitCount_22 : decode cX13_bitCount 22 = .ok (.iadd, 1) := by decide +kernel
theorem dX13_bitCount_23 : decode cX13_bitCount 23 = .ok (.istore_n 0, 1) := by decide +kernel
theorem dX13_bitCount_24 : decode cX13_bitCount 24 = .ok (.iload_n 0, 1) := by decide +kernel
theorem dX13_bitCount_25 : decode cX13_bitCount 25 = .ok (.iload_n 0, 1) := by decide +kernel
theorem dX13_bitCount_26 : decode cX13_bitCount 26 = .ok (.iconst 4, 1) := by decide +kernel
theorem dX13_bitCount_27 : decode cX13_bitCount 27 = .ok (.iushr, 1) := by decide +kernel
theorem dX13_bitCount_28 : decode cX13_bitCount 28 = .ok (.iadd, 1) := by decide +kernel
theorem dX13_bitCount_29 : decode cX13_bitCount 29 = .ok (.ldc_w 267, 3) := by decide +kernel
theorem dX13_bitCount_32 : decode cX13_bitCount 32 = .ok (.iand, 1) := by decide +kernel
theorem dX13_bitCount_33 : decode cX13_bitCount 33 = .ok (.istore_n 0, 1) := by decide +kernel
theorem dX13_bitCount_34 : decode cX13_bitCount 34 = .ok (.iload_n 0, 1) := by decide +kernel
theorem dX13_bitCount_35 : decode cX13_bitCount 35 = .ok (.iload_n 0, 1) := by decide +kernel
theorem dX13_bitCount_36 : decode cX13_bitCount 36 = .ok (.bipush 8, 2) := by decide +kernel
theorem dX13_bitCount_38 : decode cX13_bitCount 38 = .ok (.iushr, 1) := by decide +kernel
theorem dX13_bitCount_39 : decode cX13_bitCount 39 = .ok (.iadd, 1) := by decide +kernel
theorem dX13_bitCount_40 : decode cX13_bitCount 40 = .ok (.istore_n 0, 1) := by decide +kernel
theorem dX13_bitCount_41 : decode cX13_bitCount 41 = .ok (.iload_n 0, 1) := by decide +kernel
theorem dX13_bitCount_42 : decode cX13_bitCount 42 = .ok (.iload_n 0, 1) := by decide +kernel
theorem dX13_bitCount_43 : decode cX13_bitCount 43 = .ok (.bipush 16, 2) := by decide +kernel
theorem dX13_bitCount_45 : decode cX13_bitCount 45 = .ok (.iushr, 1) := by decide +kernel
theorem dX13_bitCount_46 : decode cX13_bitCount 46 = .ok (.iadd, 1) := by decide +kernel
theorem dX13_bitCount_47 : decode cX13_bitCount 47 = .ok (.istore_n 0, 1) := by decide +kernel
theorem dX13_bitCount_48 : decode cX13_bitCount 48 = .ok (.iload_n 0, 1) := by decide +kernel
theorem dX13_bitCount_49 : decode cX13_bitCount 49 = .ok (.bipush 63, 2) := by decide +kernel
theorem dX13_bitCount_51 : decode cX13_bitCount 51 = .ok (.iand, 1) := by decide +kernel
theorem dX13_bitCount_52 : decode cX13_bitCount 52 = .ok (.ireturn, 1) := by decide +kernel
theorem dX6_withParity_0 : decode cX6_withParity 0 = .ok (.iload_n 0, 1) := by decide +kernel
theorem dX6_withParity_1 : decode cX6_withParity 1 = .ok (.invokestatic 28, 3) := by decide +kernel
theorem dX6_withParity_4 : decode cX6_withParity 4 = .ok (.iconst 1, 1) := by decide +kernel
theorem dX6_withParity_5 : decode cX6_withParity 5 = .ok (.iand, 1) := by decide +kernel
theorem dX6_withParity_6 : decode cX6_withParity 6 = .ok (.ifCond .ne 7, 3) := by decide +kernel
theorem dX6_withParity_9 : decode cX6_withParity 9 = .ok (.iconst 4, 1) := by decide +kernel
theorem dX6_withParity_10 : decode cX6_withParity 10 = .ok (.goto 4, 3) := by decide +kernel
theorem dX6_withParity_13 : decode cX6_withParity 13 = .ok (.iconst 0, 1) := by decide +kernel
theorem dX6_withParity_14 : decode cX6_withParity 14 = .ok (.istore_n 1, 1) := by decide +kernel
theorem dX6_withParity_15 : decode cX6_withParity 15 = .ok (.iload_n 0, 1) := by decide +kernel
theorem dX6_withParity_16 : decode cX6_withParity 16 = .ok (.bipush 8, 2) := by decide +kernel
theorem dX6_withParity_18 : decode cX6_withParity 18 = .ok (.ishl, 1) := by decide +kernel
theorem dX6_withParity_19 : decode cX6_withParity 19 = .ok (.iload_n 0, 1) := by decide +kernel
theorem dX6_withParity_20 : decode cX6_withParity 20 = .ok (.invokestatic 9, 3) := by decide +kernel
theorem dX6_withParity_23 : decode cX6_withParity 23 = .ok (.ior, 1) := by decide +kernel
theorem dX6_withParity_24 : decode cX6_withParity 24 = .ok (.iload_n 1, 1) := by decide +kernel
theorem dX6_withParity_25 : decode cX6_withParity 25 = .ok (.ior, 1) := by decide +kernel
theorem dX6_withParity_26 : decode cX6_withParity 26 = .ok (.ireturn, 1) := by decide +kernel
theorem dX6_shift_0 : decode cX6_shift 0 = .ok (.iload_n 0, 1) := by decide +kernel
theorem dX6_shift_1 : decode cX6_shift 1 = .ok (.iconst 1, 1) := by decide +kernel
theorem dX6_shift_2 : decode cX6_shift 2 = .ok (.iand, 1) := by decide +kernel
theorem dX6_shift_3 : decode cX6_shift 3 = .ok (.ifCond .ne 7, 3) := by decide +kernel
theorem dX6_shift_6 : decode cX6_shift 6 = .ok (.iconst 1, 1) := by decide +kernel
theorem dX6_shift_7 : decode cX6_shift 7 = .ok (.goto 4, 3) := by decide +kernel
theorem dX6_shift_10 : decode cX6_shift 10 = .ok (.iconst 0, 1) := by decide +kernel
theorem dX6_shift_11 : decode cX6_shift 11 = .ok (.istore_n 3, 1) := by decide +kernel
theorem dX6_shift_12 : decode cX6_shift 12 = .ok (.iload_n 3, 1) := by decide +kernel
theorem dX6_shift_13 : decode cX6_shift 13 = .ok (.ifCond .eq 10, 3) := by decide +kernel
theorem dX6_shift_16 : decode cX6_shift 16 = .ok (.iload_n 1, 1) := by decide +kernel
theorem dX6_shift_17 : decode cX6_shift 17 = .ok (.bipush 7, 2) := by decide +kernel
theorem dX6_shift_19 : decode cX6_shift 19 = .ok (.ishr, 1) := by decide +kernel
theorem dX6_shift_20 : decode cX6_shift 20 = .ok (.goto 6, 3) := by decide +kernel
theorem dX6_shift_23 : decode cX6_shift 23 = .ok (.iload_n 1, 1) := by decide +kernel
theorem dX6_shift_24 : decode cX6_shift 24 = .ok (.iconst 1, 1) := by decide +kernel
theorem dX6_shift_25 : decode cX6_shift 25 = .ok (.iand, 1) := by decide +kernel
theorem dX6_shift_26 : decode cX6_shift 26 = .ok (.istore 4, 2) := by decide +kernel
theorem dX6_shift_28 : decode cX6_shift 28 = .ok (.iload_n 0, 1) := by decide +kernel
theorem dX6_shift_29 : decode cX6_shift 29 = .ok (.tableswitch 61 0 5 #[39, 39, 46, 46, 61, 52], 39) := by decide +kernel
theorem dX6_shift_68 : decode cX6_shift 68 = .ok (.iload 4, 2) := by decide +kernel
theorem dX6_shift_70 : decode cX6_shift 70 = .ok (.istore 5, 2) := by decide +kernel
theorem dX6_shift_72 : decode cX6_shift 72 = .ok (.goto 21, 3) := by decide +kernel
theorem dX6_shift_75 : decode cX6_shift 75 = .ok (.iload_n 2, 1) := by decide +kernel
theorem dX6_shift_76 : decode cX6_shift 76 = .ok (.istore 5, 2) := by decide +kernel
theorem dX6_shift_78 : decode cX6_shift 78 = .ok (.goto 15, 3) := by decide +kernel
theorem dX6_shift_81 : decode cX6_shift 81 = .ok (.iload_n 1, 1) := by decide +kernel
theorem dX6_shift_82 : decode cX6_shift 82 = .ok (.bipush 7, 2) := by decide +kernel
theorem dX6_shift_84 : decode cX6_shift 84 = .ok (.ishr, 1) := by decide +kernel
theorem dX6_shift_85 : decode cX6_shift 85 = .ok (.istore 5, 2) := by decide +kernel
theorem dX6_shift_87 : decode cX6_shift 87 = .ok (.goto 6, 3) := by decide +kernel
theorem dX6_shift_90 : decode cX6_shift 90 = .ok (.iconst 0, 1) := by decide +kernel
theorem dX6_shift_91 : decode cX6_shift 91 = .ok (.istore 5, 2) := by decide +kernel
