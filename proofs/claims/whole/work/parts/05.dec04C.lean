theorem dX8_detail_40 : decode cX8_detail 40 = .ok (.iconst 1, 1) := by decide +kernel
theorem dX8_detail_41 : decode cX8_detail 41 = .ok (.goto 4, 3) := by decide +kernel
theorem dX8_detail_44 : decode cX8_detail 44 = .ok (.iconst 0, 1) := by decide +kernel
theorem dX8_detail_45 : decode cX8_detail 45 = .ok (.ireturn, 1) := by decide +kernel
theorem dX8_detail_46 : decode cX8_detail 46 = .ok (.aload_n 0, 1) := by decide +kernel
theorem dX8_detail_47 : decode cX8_detail 47 = .ok (.getfield 19, 3) := by decide +kernel
theorem dX8_detail_50 : decode cX8_detail 50 = .ok (.ireturn, 1) := by decide +kernel
theorem dX8_detail_51 : decode cX8_detail 51 = .ok (.iconst (-1), 1) := by decide +kernel
theorem dX8_detail_52 : decode cX8_detail 52 = .ok (.ireturn, 1) := by decide +kernel
theorem dX1_device_0 : decode cX1_device 0 = .ok (.iload_n 1, 1) := by decide +kernel
theorem dX1_device_1 : decode cX1_device 1 = .ok (.ifCond .lt 15, 3) := by decide +kernel
theorem dX1_device_4 : decode cX1_device 4 = .ok (.iload_n 1, 1) := by decide +kernel
theorem dX1_device_5 : decode cX1_device 5 = .ok (.aload_n 0, 1) := by decide +kernel
theorem dX1_device_6 : decode cX1_device 6 = .ok (.getfield 19, 3) := by decide +kernel
theorem dX1_device_9 : decode cX1_device 9 = .ok (.getfield 91, 3) := by decide +kernel
theorem dX1_device_12 : decode cX1_device 12 = .ok (.arraylength, 1) := by decide +kernel
theorem dX1_device_13 : decode cX1_device 13 = .ok (.if_icmp .lt 5, 3) := by decide +kernel
theorem dX1_device_16 : decode cX1_device 16 = .ok (.iconst (-1), 1) := by decide +kernel
theorem dX1_device_17 : decode cX1_device 17 = .ok (.ireturn, 1) := by decide +kernel
theorem dX1_device_18 : decode cX1_device 18 = .ok (.aload_n 0, 1) := by decide +kernel
theorem dX1_device_19 : decode cX1_device 19 = .ok (.getfield 19, 3) := by decide +kernel
theorem dX1_device_22 : decode cX1_device 22 = .ok (.getfield 91, 3) := by decide +kernel
theorem dX1_device_25 : decode cX1_device 25 = .ok (.iload_n 1, 1) := by decide +kernel
theorem dX1_device_26 : decode cX1_device 26 = .ok (.aaload, 1) := by decide +kernel
theorem dX1_device_27 : decode cX1_device 27 = .ok (.astore_n 3, 1) := by decide +kernel
theorem dX1_device_28 : decode cX1_device 28 = .ok (.iload_n 2, 1) := by decide +kernel
theorem dX1_device_29 : decode cX1_device 29 = .ok (.tableswitch 58 0 2 #[27, 40, 53], 27) := by decide +kernel
theorem dX1_device_56 : decode cX1_device 56 = .ok (.aload_n 3, 1) := by decide +kernel
theorem dX1_device_57 : decode cX1_device 57 = .ok (.getfield 95, 3) := by decide +kernel
theorem dX1_device_60 : decode cX1_device 60 = .ok (.ifCond .eq 7, 3) := by decide +kernel
theorem dX1_device_63 : decode cX1_device 63 = .ok (.iconst 1, 1) := by decide +kernel
theorem dX1_device_64 : decode cX1_device 64 = .ok (.goto 4, 3) := by decide +kernel
theorem dX1_device_67 : decode cX1_device 67 = .ok (.iconst 0, 1) := by decide +kernel
theorem dX1_device_68 : decode cX1_device 68 = .ok (.ireturn, 1) := by decide +kernel
theorem dX1_device_69 : decode cX1_device 69 = .ok (.aload_n 3, 1) := by decide +kernel
theorem dX1_device_70 : decode cX1_device 70 = .ok (.getfield 100, 3) := by decide +kernel
theorem dX1_device_73 : decode cX1_device 73 = .ok (.ifCond .eq 7, 3) := by decide +kernel
theorem dX1_device_76 : decode cX1_device 76 = .ok (.iconst 1, 1) := by decide +kernel
theorem dX1_device_77 : decode cX1_device 77 = .ok (.goto 4, 3) := by decide +kernel
theorem dX1_device_80 : decode cX1_device 80 = .ok (.iconst 0, 1) := by decide +kernel
theorem dX1_device_81 : decode cX1_device 81 = .ok (.ireturn, 1) := by decide +kernel
theorem dX1_device_82 : decode cX1_device 82 = .ok (.aload_n 3, 1) := by decide +kernel
theorem dX1_device_83 : decode cX1_device 83 = .ok (.getfield 103, 3) := by decide +kernel
theorem dX1_device_86 : decode cX1_device 86 = .ok (.ireturn, 1) := by decide +kernel
theorem dX1_device_87 : decode cX1_device 87 = .ok (.aload_n 3, 1) := by decide +kernel
theorem dX1_device_88 : decode cX1_device 88 = .ok (.iload_n 2, 1) := by decide +kernel
theorem dX1_device_89 : decode cX1_device 89 = .ok (.invokevirtual 106, 3) := by decide +kernel
theorem dX1_device_92 : decode cX1_device 92 = .ok (.ireturn, 1) := by decide +kernel
theorem dX1_passed_0 : decode cX1_passed 0 = .ok (.iload_n 1, 1) := by decide +kernel
theorem dX1_passed_1 : decode cX1_passed 1 = .ok (.tableswitch 51 0 2 #[27, 35, 43], 27) := by decide +kernel
theorem dX1_passed_28 : decode cX1_passed 28 = .ok (.aload_n 0, 1) := by decide +kernel
theorem dX1_passed_29 : decode cX1_passed 29 = .ok (.getfield 28, 3) := by decide +kernel
theorem dX1_passed_32 : decode cX1_passed 32 = .ok (.getfield 109, 3) := by decide +kernel
theorem dX1_passed_35 : decode cX1_passed 35 = .ok (.ireturn, 1) := by decide +kernel
theorem dX1_passed_36 : decode cX1_passed 36 = .ok (.aload_n 0, 1) := by decide +kernel
theorem dX1_passed_37 : decode cX1_passed 37 = .ok (.getfield 28, 3) := by decide +kernel
theorem dX1_passed_40 : decode cX1_passed 40 = .ok (.getfield 112, 3) := by decide +kernel
theorem dX1_passed_43 : decode cX1_passed 43 = .ok (.ireturn, 1) := by decide +kernel
theorem dX1_passed_44 : decode cX1_passed 44 = .ok (.aload_n 0, 1) := by decide +kernel
theorem dX1_passed_45 : decode cX1_passed 45 = .ok (.getfield 28, 3) := by decide +kernel
theorem dX1_passed_48 : decode cX1_passed 48 = .ok (.getfield 115, 3) := by decide +kernel
theorem dX1_passed_51 : decode cX1_passed 51 = .ok (.ireturn, 1) := by decide +kernel
theorem dX1_passed_52 : decode cX1_passed 52 = .ok (.iconst (-1), 1) := by decide +kernel
theorem dX1_passed_53 : decode cX1_passed 53 = .ok (.ireturn, 1) := by decide +kernel
