theorem dX4_isSieve_3 : decode cX4_isSieve 3 = .ok (.getfield 7, 3) := by decide +kernel
theorem dX4_isSieve_6 : decode cX4_isSieve 6 = .ok (.bipush 24, 2) := by decide +kernel
theorem dX4_isSieve_8 : decode cX4_isSieve 8 = .ok (.iaload, 1) := by decide +kernel
theorem dX4_isSieve_9 : decode cX4_isSieve 9 = .ok (.iconst 1, 1) := by decide +kernel
theorem dX4_isSieve_10 : decode cX4_isSieve 10 = .ok (.isub, 1) := by decide +kernel
theorem dX4_isSieve_11 : decode cX4_isSieve 11 = .ok (.invokestatic 30, 3) := by decide +kernel
theorem dX4_isSieve_14 : decode cX4_isSieve 14 = .ok (.ireturn, 1) := by decide +kernel
theorem dX4_openness_0 : decode cX4_openness 0 = .ok (.aload_n 0, 1) := by decide +kernel
theorem dX4_openness_1 : decode cX4_openness 1 = .ok (.iload_n 1, 1) := by decide +kernel
theorem dX4_openness_2 : decode cX4_openness 2 = .ok (.invokevirtual 76, 3) := by decide +kernel
theorem dX4_openness_5 : decode cX4_openness 5 = .ok (.ifCond .ne 7, 3) := by decide +kernel
theorem dX4_openness_8 : decode cX4_openness 8 = .ok (.sipush 1000, 3) := by decide +kernel
theorem dX4_openness_11 : decode cX4_openness 11 = .ok (.ireturn, 1) := by decide +kernel
theorem dX4_openness_12 : decode cX4_openness 12 = .ok (.sipush 1000, 3) := by decide +kernel
theorem dX4_openness_15 : decode cX4_openness 15 = .ok (.aload_n 0, 1) := by decide +kernel
theorem dX4_openness_16 : decode cX4_openness 16 = .ok (.getfield 7, 3) := by decide +kernel
theorem dX4_openness_19 : decode cX4_openness 19 = .ok (.aload_n 0, 1) := by decide +kernel
theorem dX4_openness_20 : decode cX4_openness 20 = .ok (.iload_n 1, 1) := by decide +kernel
theorem dX4_openness_21 : decode cX4_openness 21 = .ok (.invokevirtual 80, 3) := by decide +kernel
theorem dX4_openness_24 : decode cX4_openness 24 = .ok (.bipush 10, 2) := by decide +kernel
theorem dX4_openness_26 : decode cX4_openness 26 = .ok (.iadd, 1) := by decide +kernel
theorem dX4_openness_27 : decode cX4_openness 27 = .ok (.iaload, 1) := by decide +kernel
theorem dX4_openness_28 : decode cX4_openness 28 = .ok (.sipush 1000, 3) := by decide +kernel
theorem dX4_openness_31 : decode cX4_openness 31 = .ok (.imul, 1) := by decide +kernel
theorem dX4_openness_32 : decode cX4_openness 32 = .ok (.aload_n 0, 1) := by decide +kernel
theorem dX4_openness_33 : decode cX4_openness 33 = .ok (.getfield 7, 3) := by decide +kernel
theorem dX4_openness_36 : decode cX4_openness 36 = .ok (.bipush 20, 2) := by decide +kernel
theorem dX4_openness_38 : decode cX4_openness 38 = .ok (.iaload, 1) := by decide +kernel
theorem dX4_openness_39 : decode cX4_openness 39 = .ok (.idiv, 1) := by decide +kernel
theorem dX4_openness_40 : decode cX4_openness 40 = .ok (.isub, 1) := by decide +kernel
theorem dX4_openness_41 : decode cX4_openness 41 = .ok (.istore_n 2, 1) := by decide +kernel
theorem dX4_openness_42 : decode cX4_openness 42 = .ok (.iload_n 2, 1) := by decide +kernel
theorem dX4_openness_43 : decode cX4_openness 43 = .ok (.bipush 100, 2) := by decide +kernel
theorem dX4_openness_45 : decode cX4_openness 45 = .ok (.if_icmp .ge 8, 3) := by decide +kernel
theorem dX4_openness_48 : decode cX4_openness 48 = .ok (.bipush 100, 2) := by decide +kernel
theorem dX4_openness_50 : decode cX4_openness 50 = .ok (.goto 4, 3) := by decide +kernel
theorem dX4_openness_53 : decode cX4_openness 53 = .ok (.iload_n 2, 1) := by decide +kernel
theorem dX4_openness_54 : decode cX4_openness 54 = .ok (.ireturn, 1) := by decide +kernel
theorem dX4_tray_0 : decode cX4_tray 0 = .ok (.aload_n 0, 1) := by decide +kernel
theorem dX4_tray_1 : decode cX4_tray 1 = .ok (.iload_n 1, 1) := by decide +kernel
theorem dX4_tray_2 : decode cX4_tray 2 = .ok (.invokevirtual 83, 3) := by decide +kernel
theorem dX4_tray_5 : decode cX4_tray 5 = .ok (.ifCond .eq 12, 3) := by decide +kernel
theorem dX4_tray_8 : decode cX4_tray 8 = .ok (.iload_n 2, 1) := by decide +kernel
theorem dX4_tray_9 : decode cX4_tray 9 = .ok (.iconst 0, 1) := by decide +kernel
theorem dX4_tray_10 : decode cX4_tray 10 = .ok (.iconst 4, 1) := by decide +kernel
theorem dX4_tray_11 : decode cX4_tray 11 = .ok (.invokestatic 30, 3) := by decide +kernel
theorem dX4_tray_14 : decode cX4_tray 14 = .ok (.ifCond .ne 5, 3) := by decide +kernel
theorem dX4_tray_17 : decode cX4_tray 17 = .ok (.iconst (-1), 1) := by decide +kernel
theorem dX4_tray_18 : decode cX4_tray 18 = .ok (.ireturn, 1) := by decide +kernel
theorem dX4_tray_19 : decode cX4_tray 19 = .ok (.iload_n 2, 1) := by decide +kernel
theorem dX4_tray_20 : decode cX4_tray 20 = .ok (.tableswitch 92 0 3 #[32, 54, 64, 78], 32) := by decide +kernel
theorem dX4_tray_52 : decode cX4_tray 52 = .ok (.aload_n 0, 1) := by decide +kernel
theorem dX4_tray_53 : decode cX4_tray 53 = .ok (.iload_n 1, 1) := by decide +kernel
theorem dX4_tray_54 : decode cX4_tray 54 = .ok (.invokevirtual 76, 3) := by decide +kernel
theorem dX4_tray_57 : decode cX4_tray 57 = .ok (.ifCond .eq 15, 3) := by decide +kernel
theorem dX4_tray_60 : decode cX4_tray 60 = .ok (.aload_n 0, 1) := by decide +kernel
theorem dX4_tray_61 : decode cX4_tray 61 = .ok (.getfield 7, 3) := by decide +kernel
theorem dX4_tray_64 : decode cX4_tray 64 = .ok (.bipush 25, 2) := by decide +kernel
theorem dX4_tray_66 : decode cX4_tray 66 = .ok (.iload_n 1, 1) := by decide +kernel
theorem dX4_tray_67 : decode cX4_tray 67 = .ok (.iadd, 1) := by decide +kernel
theorem dX4_tray_68 : decode cX4_tray 68 = .ok (.iaload, 1) := by decide +kernel
theorem dX4_tray_69 : decode cX4_tray 69 = .ok (.goto 4, 3) := by decide +kernel
theorem dX4_tray_72 : decode cX4_tray 72 = .ok (.iconst 0, 1) := by decide +kernel
theorem dX4_tray_73 : decode cX4_tray 73 = .ok (.ireturn, 1) := by decide +kernel
theorem dX4_tray_74 : decode cX4_tray 74 = .ok (.aload_n 0, 1) := by decide +kernel
theorem dX4_tray_75 : decode cX4_tray 75 = .ok (.aload_n 0, 1) := by decide +kernel
theorem dX4_tray_76 : decode cX4_tray 76 = .ok (.iload_n 1, 1) := by decide +kernel
theorem dX4_tray_77 : decode cX4_tray 77 = .ok (.invokevirtual 80, 3) := by decide +kernel
theorem dX4_tray_80 : decode cX4_tray 80 = .ok (.invokevirtual 37, 3) := by decide +kernel
theorem dX4_tray_83 : decode cX4_tray 83 = .ok (.ireturn, 1) := by decide +kernel
theorem dX4_tray_84 : decode cX4_tray 84 = .ok (.aload_n 0, 1) := by decide +kernel
theorem dX4_tray_85 : decode cX4_tray 85 = .ok (.getfield 7, 3) := by decide +kernel
theorem dX4_tray_88 : decode cX4_tray 88 = .ok (.aload_n 0, 1) := by decide +kernel
theorem dX4_tray_89 : decode cX4_tray 89 = .ok (.iload_n 1, 1) := by decide +kernel
theorem dX4_tray_90 : decode cX4_tray 90 = .ok (.invokevirtual 80, 3) := by decide +kernel
theorem dX4_tray_93 : decode cX4_tray 93 = .ok (.bipush 10, 2) := by decide +kernel
theorem dX4_tray_95 : decode cX4_tray 95 = .ok (.iadd, 1) := by decide +kernel
theorem dX4_tray_96 : decode cX4_tray 96 = .ok (.iaload, 1) := by decide +kernel
theorem dX4_tray_97 : decode cX4_tray 97 = .ok (.ireturn, 1) := by decide +kernel
theorem dX4_tray_98 : decode cX4_tray 98 = .ok (.aload_n 0, 1) := by decide +kernel
theorem dX4_tray_99 : decode cX4_tray 99 = .ok (.getfield 7, 3) := by decide +kernel
theorem dX4_tray_102 : decode cX4_tray 102 = .ok (.aload_n 0, 1) := by decide +kernel
theorem dX4_tray_103 : decode cX4_tray 103 = .ok (.iload_n 1, 1) := by decide +kernel
theorem dX4_tray_104 : decode cX4_tray 104 = .ok (.invokevirtual 80, 3) := by decide +kernel
theorem dX4_tray_107 : decode cX4_tray 107 = .ok (.bipush 11, 2) := by decide +kernel
theorem dX4_tray_109 : decode cX4_tray 109 = .ok (.iadd, 1) := by decide +kernel
theorem dX4_tray_110 : decode cX4_tray 110 = .ok (.iaload, 1) := by decide +kernel
theorem dX4_tray_111 : decode cX4_tray 111 = .ok (.ireturn, 1) := by decide +kernel
theorem dX4_tray_112 : decode cX4_tray 112 = .ok (.aload_n 0, 1) := by decide +kernel
theorem dX4_tray_113 : decode cX4_tray 113 = .ok (.iload_n 1, 1) := by decide +kernel
theorem dX4_tray_114 : decode cX4_tray 114 = .ok (.invokevirtual 86, 3) := by decide +kernel
theorem dX4_tray_117 : decode cX4_tray 117 = .ok (.ireturn, 1) := by decide +kernel
theorem dX4_on_0 : decode cX4_on 0 = .ok (.aload_n 0, 1) := by decide +kernel
theorem dX4_on_1 : decode cX4_on 1 = .ok (.iload_n 1, 1) := by decide +kernel
theorem dX4_on_2 : decode cX4_on 2 = .ok (.invokevirtual 83, 3) := by decide +kernel
theorem dX4_on_5 : decode cX4_on 5 = .ok (.ifCond .eq 13, 3) := by decide +kernel
theorem dX4_on_8 : decode cX4_on 8 = .ok (.iload_n 2, 1) := by decide +kernel
theorem dX4_on_9 : decode cX4_on 9 = .ok (.iconst 0, 1) := by decide +kernel
theorem dX4_on_10 : decode cX4_on 10 = .ok (.bipush 9, 2) := by decide +kernel
theorem dX4_on_12 : decode cX4_on 12 = .ok (.invokestatic 30, 3) := by decide +kernel
theorem dX4_on_15 : decode cX4_on 15 = .ok (.ifCond .ne 7, 3) := by decide +kernel
theorem dX4_on_18 : decode cX4_on 18 = .ok (.iconst (-1), 1) := by decide +kernel
theorem dX4_on_19 : decode cX4_on 19 = .ok (.goto 15, 3) := by decide +kernel
theorem dX4_on_22 : decode cX4_on 22 = .ok (.aload_n 0, 1) := by decide +kernel
theorem dX4_on_23 : decode cX4_on 23 = .ok (.getfield 7, 3) := by decide +kernel
theorem dX4_on_26 : decode cX4_on 26 = .ok (.aload_n 0, 1) := by decide +kernel
theorem dX4_on_27 : decode cX4_on 27 = .ok (.iload_n 1, 1) := by decide +kernel
theorem dX4_on_28 : decode cX4_on 28 = .ok (.invokevirtual 80, 3) := by decide +kernel
theorem dX4_on_31 : decode cX4_on 31 = .ok (.iload_n 2, 1) := by decide +kernel
theorem dX4_on_32 : decode cX4_on 32 = .ok (.iadd, 1) := by decide +kernel
theorem dX4_on_33 : decode cX4_on 33 = .ok (.iaload, 1) := by decide +kernel
theorem dX4_on_34 : decode cX4_on 34 = .ok (.ireturn, 1) := by decide +kernel
theorem dX4_charge_0 : decode cX4_charge 0 = .ok (.aload_n 0, 1) := by decide +kernel
theorem dX4_charge_1 : decode cX4_charge 1 = .ok (.iconst 0, 1) := by decide +kernel
theorem dX4_charge_2 : decode cX4_charge 2 = .ok (.invokevirtual 37, 3) := by decide +kernel
theorem dX4_charge_5 : decode cX4_charge 5 = .ok (.istore_n 1, 1) := by decide +kernel
theorem dX4_charge_6 : decode cX4_charge 6 = .ok (.aload_n 0, 1) := by decide +kernel
theorem dX4_charge_7 : decode cX4_charge 7 = .ok (.getfield 7, 3) := by decide +kernel
theorem dX4_charge_10 : decode cX4_charge 10 = .ok (.bipush 24, 2) := by decide +kernel
theorem dX4_charge_12 : decode cX4_charge 12 = .ok (.iaload, 1) := by decide +kernel
theorem dX4_charge_13 : decode cX4_charge 13 = .ok (.ifCond .eq 7, 3) := by decide +kernel
theorem dX4_charge_16 : decode cX4_charge 16 = .ok (.iload_n 1, 1) := by decide +kernel
theorem dX4_charge_17 : decode cX4_charge 17 = .ok (.ifCond .ne 6, 3) := by decide +kernel
theorem dX4_charge_20 : decode cX4_charge 20 = .ok (.bipush (-2), 2) := by decide +kernel
theorem dX4_charge_22 : decode cX4_charge 22 = .ok (.ireturn, 1) := by decide +kernel
theorem dX4_charge_23 : decode cX4_charge 23 = .ok (.aload_n 0, 1) := by decide +kernel
theorem dX4_charge_24 : decode cX4_charge 24 = .ok (.invokevirtual 34, 3) := by decide +kernel
theorem dX4_charge_27 : decode cX4_charge 27 = .ok (.aload_n 0, 1) := by decide +kernel
theorem dX4_charge_28 : decode cX4_charge 28 = .ok (.invokevirtual 70, 3) := by decide +kernel
theorem dX4_charge_31 : decode cX4_charge 31 = .ok (.iconst 0, 1) := by decide +kernel
theorem dX4_charge_32 : decode cX4_charge 32 = .ok (.istore_n 2, 1) := by decide +kernel
theorem dX4_charge_33 : decode cX4_charge 33 = .ok (.iload_n 2, 1) := by decide +kernel
theorem dX4_charge_34 : decode cX4_charge 34 = .ok (.bipush 10, 2) := by decide +kernel
theorem dX4_charge_36 : decode cX4_charge 36 = .ok (.if_icmp .ge 38, 3) := by decide +kernel
theorem dX4_charge_39 : decode cX4_charge 39 = .ok (.aload_n 0, 1) := by decide +kernel
theorem dX4_charge_40 : decode cX4_charge 40 = .ok (.getfield 7, 3) := by decide +kernel
theorem dX4_charge_43 : decode cX4_charge 43 = .ok (.aload_n 0, 1) := by decide +kernel
theorem dX4_charge_44 : decode cX4_charge 44 = .ok (.iconst 0, 1) := by decide +kernel
theorem dX4_charge_45 : decode cX4_charge 45 = .ok (.invokevirtual 80, 3) := by decide +kernel
theorem dX4_charge_48 : decode cX4_charge 48 = .ok (.iload_n 2, 1) := by decide +kernel
theorem dX4_charge_49 : decode cX4_charge 49 = .ok (.iadd, 1) := by decide +kernel
theorem dX4_charge_50 : decode cX4_charge 50 = .ok (.aload_n 0, 1) := by decide +kernel
theorem dX4_charge_51 : decode cX4_charge 51 = .ok (.getfield 7, 3) := by decide +kernel
theorem dX4_charge_54 : decode cX4_charge 54 = .ok (.iconst 0, 1) := by decide +kernel
theorem dX4_charge_55 : decode cX4_charge 55 = .ok (.iload_n 2, 1) := by decide +kernel
theorem dX4_charge_56 : decode cX4_charge 56 = .ok (.iadd, 1) := by decide +kernel
theorem dX4_charge_57 : decode cX4_charge 57 = .ok (.iaload, 1) := by decide +kernel
theorem dX4_charge_58 : decode cX4_charge 58 = .ok (.iastore, 1) := by decide +kernel
theorem dX4_charge_59 : decode cX4_charge 59 = .ok (.aload_n 0, 1) := by decide +kernel
theorem dX4_charge_60 : decode cX4_charge 60 = .ok (.getfield 7, 3) := by decide +kernel
theorem dX4_charge_63 : decode cX4_charge 63 = .ok (.iconst 0, 1) := by decide +kernel
theorem dX4_charge_64 : decode cX4_charge 64 = .ok (.iload_n 2, 1) := by decide +kernel
theorem dX4_charge_65 : decode cX4_charge 65 = .ok (.iadd, 1) := by decide +kernel
theorem dX4_charge_66 : decode cX4_charge 66 = .ok (.iconst 0, 1) := by decide +kernel
theorem dX4_charge_67 : decode cX4_charge 67 = .ok (.iastore, 1) := by decide +kernel
theorem dX4_charge_68 : decode cX4_charge 68 = .ok (.iinc 2 1, 3) := by decide +kernel
theorem dX4_charge_71 : decode cX4_charge 71 = .ok (.goto (-38), 3) := by decide +kernel
theorem dX4_charge_74 : decode cX4_charge 74 = .ok (.aload_n 0, 1) := by decide +kernel
theorem dX4_charge_75 : decode cX4_charge 75 = .ok (.getfield 7, 3) := by decide +kernel
theorem dX4_charge_78 : decode cX4_charge 78 = .ok (.bipush 49, 2) := by decide +kernel
theorem dX4_charge_80 : decode cX4_charge 80 = .ok (.iconst 1, 1) := by decide +kernel
theorem dX4_charge_81 : decode cX4_charge 81 = .ok (.iastore, 1) := by decide +kernel
theorem dX4_charge_82 : decode cX4_charge 82 = .ok (.aload_n 0, 1) := by decide +kernel
theorem dX4_charge_83 : decode cX4_charge 83 = .ok (.getfield 7, 3) := by decide +kernel
theorem dX4_charge_86 : decode cX4_charge 86 = .ok (.bipush 50, 2) := by decide +kernel
theorem dX4_charge_88 : decode cX4_charge 88 = .ok (.iload_n 1, 1) := by decide +kernel
theorem dX4_charge_89 : decode cX4_charge 89 = .ok (.iastore, 1) := by decide +kernel
theorem dX4_charge_90 : decode cX4_charge 90 = .ok (.iload_n 1, 1) := by decide +kernel
theorem dX4_charge_91 : decode cX4_charge 91 = .ok (.ireturn, 1) := by decide +kernel
theorem dX4_falling_0 : decode cX4_falling 0 = .ok (.iload_n 2, 1) := by decide +kernel
theorem dX4_falling_1 : decode cX4_falling 1 = .ok (.iconst 1, 1) := by decide +kernel
theorem dX4_falling_2 : decode cX4_falling 2 = .ok (.if_icmp .ne 9, 3) := by decide +kernel
theorem dX4_falling_5 : decode cX4_falling 5 = .ok (.ldc2_w 89, 3) := by decide +kernel
theorem dX4_falling_8 : decode cX4_falling 8 = .ok (.goto 17, 3) := by decide +kernel
theorem dX4_falling_11 : decode cX4_falling 11 = .ok (.iload_n 2, 1) := by decide +kernel
theorem dX4_falling_12 : decode cX4_falling 12 = .ok (.iconst 2, 1) := by decide +kernel
theorem dX4_falling_13 : decode cX4_falling 13 = .ok (.if_icmp .ne 9, 3) := by decide +kernel
theorem dX4_falling_16 : decode cX4_falling 16 = .ok (.ldc2_w 91, 3) := by decide +kernel
theorem dX4_falling_19 : decode cX4_falling 19 = .ok (.goto 6, 3) := by decide +kernel
theorem dX4_falling_22 : decode cX4_falling 22 = .ok (.ldc2_w 93, 3) := by decide +kernel
theorem dX4_falling_25 : decode cX4_falling 25 = .ok (.lstore_n 3, 1) := by decide +kernel
theorem dX4_falling_26 : decode cX4_falling 26 = .ok (.iload_n 0, 1) := by decide +kernel
theorem dX4_falling_27 : decode cX4_falling 27 = .ok (.i2l, 1) := by decide +kernel
theorem dX4_falling_28 : decode cX4_falling 28 = .ok (.iload_n 1, 1) := by decide +kernel
theorem dX4_falling_29 : decode cX4_falling 29 = .ok (.i2l, 1) := by decide +kernel
theorem dX4_falling_30 : decode cX4_falling 30 = .ok (.lload_n 3, 1) := by decide +kernel
theorem dX4_falling_31 : decode cX4_falling 31 = .ok (.lmul, 1) := by decide +kernel
theorem dX4_falling_32 : decode cX4_falling 32 = .ok (.lmul, 1) := by decide +kernel
theorem dX4_falling_33 : decode cX4_falling 33 = .ok (.ldc2_w 95, 3) := by decide +kernel
theorem dX4_falling_36 : decode cX4_falling 36 = .ok (.ldiv, 1) := by decide +kernel
theorem dX4_falling_37 : decode cX4_falling 37 = .ok (.l2i, 1) := by decide +kernel
theorem dX4_falling_38 : decode cX4_falling 38 = .ok (.istore 5, 2) := by decide +kernel
theorem dX4_falling_40 : decode cX4_falling 40 = .ok (.iload_n 0, 1) := by decide +kernel
theorem dX4_falling_41 : decode cX4_falling 41 = .ok (.ifCond .le 12, 3) := by decide +kernel
theorem dX4_falling_44 : decode cX4_falling 44 = .ok (.iload 5, 2) := by decide +kernel
theorem dX4_falling_46 : decode cX4_falling 46 = .ok (.ifCond .ne 7, 3) := by decide +kernel
theorem dX4_falling_49 : decode cX4_falling 49 = .ok (.iconst 1, 1) := by decide +kernel
theorem dX4_falling_50 : decode cX4_falling 50 = .ok (.goto 5, 3) := by decide +kernel
theorem dX4_falling_53 : decode cX4_falling 53 = .ok (.iload 5, 2) := by decide +kernel
theorem dX4_falling_55 : decode cX4_falling 55 = .ok (.ireturn, 1) := by decide +kernel
theorem dX4_minute_0 : decode cX4_minute 0 = .ok (.iconst 0, 1) := by decide +kernel
theorem dX4_minute_1 : decode cX4_minute 1 = .ok (.istore_n 1, 1) := by decide +kernel
theorem dX4_minute_2 : decode cX4_minute 2 = .ok (.aload_n 0, 1) := by decide +kernel
theorem dX4_minute_3 : decode cX4_minute 3 = .ok (.getfield 7, 3) := by decide +kernel
theorem dX4_minute_6 : decode cX4_minute 6 = .ok (.bipush 24, 2) := by decide +kernel
theorem dX4_minute_8 : decode cX4_minute 8 = .ok (.iaload, 1) := by decide +kernel
theorem dX4_minute_9 : decode cX4_minute 9 = .ok (.iconst 1, 1) := by decide +kernel
theorem dX4_minute_10 : decode cX4_minute 10 = .ok (.isub, 1) := by decide +kernel
theorem dX4_minute_11 : decode cX4_minute 11 = .ok (.istore_n 2, 1) := by decide +kernel
theorem dX4_minute_12 : decode cX4_minute 12 = .ok (.iload_n 2, 1) := by decide +kernel
theorem dX4_minute_13 : decode cX4_minute 13 = .ok (.ifCond .lt 157, 3) := by decide +kernel
theorem dX4_minute_16 : decode cX4_minute 16 = .ok (.aload_n 0, 1) := by decide +kernel
theorem dX4_minute_17 : decode cX4_minute 17 = .ok (.iload_n 2, 1) := by decide +kernel
theorem dX4_minute_18 : decode cX4_minute 18 = .ok (.invokevirtual 80, 3) := by decide +kernel
theorem dX4_minute_21 : decode cX4_minute 21 = .ok (.istore_n 3, 1) := by decide +kernel
theorem dX4_minute_22 : decode cX4_minute 22 = .ok (.aload_n 0, 1) := by decide +kernel
theorem dX4_minute_23 : decode cX4_minute 23 = .ok (.getfield 7, 3) := by decide +kernel
theorem dX4_minute_26 : decode cX4_minute 26 = .ok (.bipush 25, 2) := by decide +kernel
theorem dX4_minute_28 : decode cX4_minute 28 = .ok (.iload_n 2, 1) := by decide +kernel
theorem dX4_minute_29 : decode cX4_minute 29 = .ok (.iadd, 1) := by decide +kernel
theorem dX4_minute_30 : decode cX4_minute 30 = .ok (.iaload, 1) := by decide +kernel
theorem dX4_minute_31 : decode cX4_minute 31 = .ok (.istore 4, 2) := by decide +kernel
theorem dX4_minute_33 : decode cX4_minute 33 = .ok (.aload_n 0, 1) := by decide +kernel
theorem dX4_minute_34 : decode cX4_minute 34 = .ok (.iload_n 2, 1) := by decide +kernel
theorem dX4_minute_35 : decode cX4_minute 35 = .ok (.invokevirtual 86, 3) := by decide +kernel
theorem dX4_minute_38 : decode cX4_minute 38 = .ok (.istore 5, 2) := by decide +kernel
theorem dX4_minute_40 : decode cX4_minute 40 = .ok (.iconst 0, 1) := by decide +kernel
theorem dX4_minute_41 : decode cX4_minute 41 = .ok (.istore 6, 2) := by decide +kernel
theorem dX4_minute_43 : decode cX4_minute 43 = .ok (.iload 6, 2) := by decide +kernel
theorem dX4_minute_45 : decode cX4_minute 45 = .ok (.iload 4, 2) := by decide +kernel
theorem dX4_minute_47 : decode cX4_minute 47 = .ok (.if_icmp .ge 66, 3) := by decide +kernel
theorem dX4_minute_50 : decode cX4_minute 50 = .ok (.aload_n 0, 1) := by decide +kernel
theorem dX4_minute_51 : decode cX4_minute 51 = .ok (.getfield 7, 3) := by decide +kernel
theorem dX4_minute_54 : decode cX4_minute 54 = .ok (.iload_n 3, 1) := by decide +kernel
theorem dX4_minute_55 : decode cX4_minute 55 = .ok (.iload 6, 2) := by decide +kernel
theorem dX4_minute_57 : decode cX4_minute 57 = .ok (.iadd, 1) := by decide +kernel
theorem dX4_minute_58 : decode cX4_minute 58 = .ok (.iaload, 1) := by decide +kernel
theorem dX4_minute_59 : decode cX4_minute 59 = .ok (.iload 5, 2) := by decide +kernel
theorem dX4_minute_61 : decode cX4_minute 61 = .ok (.iload 4, 2) := by decide +kernel
theorem dX4_minute_63 : decode cX4_minute 63 = .ok (.iload 6, 2) := by decide +kernel
theorem dX4_minute_65 : decode cX4_minute 65 = .ok (.isub, 1) := by decide +kernel
theorem dX4_minute_66 : decode cX4_minute 66 = .ok (.invokestatic 97, 3) := by decide +kernel
theorem dX4_minute_69 : decode cX4_minute 69 = .ok (.istore 7, 2) := by decide +kernel
theorem dX4_minute_71 : decode cX4_minute 71 = .ok (.aload_n 0, 1) := by decide +kernel
theorem dX4_minute_72 : decode cX4_minute 72 = .ok (.getfield 7, 3) := by decide +kernel
theorem dX4_minute_75 : decode cX4_minute 75 = .ok (.iload_n 3, 1) := by decide +kernel
theorem dX4_minute_76 : decode cX4_minute 76 = .ok (.iload 6, 2) := by decide +kernel
theorem dX4_minute_78 : decode cX4_minute 78 = .ok (.iadd, 1) := by decide +kernel
theorem dX4_minute_79 : decode cX4_minute 79 = .ok (.dup2, 1) := by decide +kernel
theorem dX4_minute_80 : decode cX4_minute 80 = .ok (.iaload, 1) := by decide +kernel
theorem dX4_minute_81 : decode cX4_minute 81 = .ok (.iload 7, 2) := by decide +kernel
theorem dX4_minute_83 : decode cX4_minute 83 = .ok (.isub, 1) := by decide +kernel
theorem dX4_minute_84 : decode cX4_minute 84 = .ok (.iastore, 1) := by decide +kernel
theorem dX4_minute_85 : decode cX4_minute 85 = .ok (.aload_n 0, 1) := by decide +kernel
theorem dX4_minute_86 : decode cX4_minute 86 = .ok (.getfield 7, 3) := by decide +kernel
theorem dX4_minute_89 : decode cX4_minute 89 = .ok (.iload_n 3, 1) := by decide +kernel
theorem dX4_minute_90 : decode cX4_minute 90 = .ok (.bipush 12, 2) := by decide +kernel
theorem dX4_minute_92 : decode cX4_minute 92 = .ok (.iadd, 1) := by decide +kernel
theorem dX4_minute_93 : decode cX4_minute 93 = .ok (.iload 6, 2) := by decide +kernel
theorem dX4_minute_95 : decode cX4_minute 95 = .ok (.iadd, 1) := by decide +kernel
theorem dX4_minute_96 : decode cX4_minute 96 = .ok (.dup2, 1) := by decide +kernel
theorem dX4_minute_97 : decode cX4_minute 97 = .ok (.iaload, 1) := by decide +kernel
theorem dX4_minute_98 : decode cX4_minute 98 = .ok (.iload 7, 2) := by decide +kernel
theorem dX4_minute_100 : decode cX4_minute 100 = .ok (.iadd, 1) := by decide +kernel
theorem dX4_minute_101 : decode cX4_minute 101 = .ok (.iastore, 1) := by decide +kernel
theorem dX4_minute_102 : decode cX4_minute 102 = .ok (.iload_n 1, 1) := by decide +kernel
theorem dX4_minute_103 : decode cX4_minute 103 = .ok (.iload 7, 2) := by decide +kernel
theorem dX4_minute_105 : decode cX4_minute 105 = .ok (.iadd, 1) := by decide +kernel
theorem dX4_minute_106 : decode cX4_minute 106 = .ok (.istore_n 1, 1) := by decide +kernel
theorem dX4_minute_107 : decode cX4_minute 107 = .ok (.iinc 6 1, 3) := by decide +kernel
theorem dX4_minute_110 : decode cX4_minute 110 = .ok (.goto (-67), 3) := by decide +kernel
theorem dX4_minute_113 : decode cX4_minute 113 = .ok (.aload_n 0, 1) := by decide +kernel
theorem dX4_minute_114 : decode cX4_minute 114 = .ok (.getfield 7, 3) := by decide +kernel
theorem dX4_minute_117 : decode cX4_minute 117 = .ok (.iload_n 3, 1) := by decide +kernel
theorem dX4_minute_118 : decode cX4_minute 118 = .ok (.iload 4, 2) := by decide +kernel
theorem dX4_minute_120 : decode cX4_minute 120 = .ok (.iadd, 1) := by decide +kernel
theorem dX4_minute_121 : decode cX4_minute 121 = .ok (.iaload, 1) := by decide +kernel
theorem dX4_minute_122 : decode cX4_minute 122 = .ok (.aload_n 0, 1) := by decide +kernel
theorem dX4_minute_123 : decode cX4_minute 123 = .ok (.getfield 7, 3) := by decide +kernel
theorem dX4_minute_126 : decode cX4_minute 126 = .ok (.bipush 21, 2) := by decide +kernel
theorem dX4_minute_128 : decode cX4_minute 128 = .ok (.iaload, 1) := by decide +kernel
theorem dX4_minute_129 : decode cX4_minute 129 = .ok (.imul, 1) := by decide +kernel
theorem dX4_minute_130 : decode cX4_minute 130 = .ok (.sipush 1000, 3) := by decide +kernel
theorem dX4_minute_133 : decode cX4_minute 133 = .ok (.idiv, 1) := by decide +kernel
theorem dX4_minute_134 : decode cX4_minute 134 = .ok (.istore 6, 2) := by decide +kernel
theorem dX4_minute_136 : decode cX4_minute 136 = .ok (.aload_n 0, 1) := by decide +kernel
theorem dX4_minute_137 : decode cX4_minute 137 = .ok (.getfield 7, 3) := by decide +kernel
theorem dX4_minute_140 : decode cX4_minute 140 = .ok (.iload_n 3, 1) := by decide +kernel
theorem dX4_minute_141 : decode cX4_minute 141 = .ok (.iload 4, 2) := by decide +kernel
theorem dX4_minute_143 : decode cX4_minute 143 = .ok (.iadd, 1) := by decide +kernel
theorem dX4_minute_144 : decode cX4_minute 144 = .ok (.dup2, 1) := by decide +kernel
theorem dX4_minute_145 : decode cX4_minute 145 = .ok (.iaload, 1) := by decide +kernel
theorem dX4_minute_146 : decode cX4_minute 146 = .ok (.iload 6, 2) := by decide +kernel
theorem dX4_minute_148 : decode cX4_minute 148 = .ok (.isub, 1) := by decide +kernel
theorem dX4_minute_149 : decode cX4_minute 149 = .ok (.iastore, 1) := by decide +kernel
theorem dX4_minute_150 : decode cX4_minute 150 = .ok (.aload_n 0, 1) := by decide +kernel
theorem dX4_minute_151 : decode cX4_minute 151 = .ok (.getfield 7, 3) := by decide +kernel
theorem dX4_minute_154 : decode cX4_minute 154 = .ok (.iload_n 3, 1) := by decide +kernel
theorem dX4_minute_155 : decode cX4_minute 155 = .ok (.bipush 10, 2) := by decide +kernel
theorem dX4_minute_157 : decode cX4_minute 157 = .ok (.iadd, 1) := by decide +kernel
theorem dX4_minute_158 : decode cX4_minute 158 = .ok (.dup2, 1) := by decide +kernel
theorem dX4_minute_159 : decode cX4_minute 159 = .ok (.iaload, 1) := by decide +kernel
theorem dX4_minute_160 : decode cX4_minute 160 = .ok (.iload 6, 2) := by decide +kernel
theorem dX4_minute_162 : decode cX4_minute 162 = .ok (.iadd, 1) := by decide +kernel
theorem dX4_minute_163 : decode cX4_minute 163 = .ok (.iastore, 1) := by decide +kernel
theorem dX4_minute_164 : decode cX4_minute 164 = .ok (.iinc 2 (-1), 3) := by decide +kernel
theorem dX4_minute_167 : decode cX4_minute 167 = .ok (.goto (-155), 3) := by decide +kernel
theorem dX4_minute_170 : decode cX4_minute 170 = .ok (.aload_n 0, 1) := by decide +kernel
theorem dX4_minute_171 : decode cX4_minute 171 = .ok (.aload_n 0, 1) := by decide +kernel
theorem dX4_minute_172 : decode cX4_minute 172 = .ok (.getfield 7, 3) := by decide +kernel
theorem dX4_minute_175 : decode cX4_minute 175 = .ok (.bipush 24, 2) := by decide +kernel
theorem dX4_minute_177 : decode cX4_minute 177 = .ok (.iaload, 1) := by decide +kernel
theorem dX4_minute_178 : decode cX4_minute 178 = .ok (.invokevirtual 80, 3) := by decide +kernel
theorem dX4_minute_181 : decode cX4_minute 181 = .ok (.istore_n 2, 1) := by decide +kernel
theorem dX4_minute_182 : decode cX4_minute 182 = .ok (.aload_n 0, 1) := by decide +kernel
theorem dX4_minute_183 : decode cX4_minute 183 = .ok (.getfield 7, 3) := by decide +kernel
theorem dX4_minute_186 : decode cX4_minute 186 = .ok (.iload_n 2, 1) := by decide +kernel
theorem dX4_minute_187 : decode cX4_minute 187 = .ok (.dup2, 1) := by decide +kernel
theorem dX4_minute_188 : decode cX4_minute 188 = .ok (.iaload, 1) := by decide +kernel
theorem dX4_minute_189 : decode cX4_minute 189 = .ok (.aload_n 0, 1) := by decide +kernel
theorem dX4_minute_190 : decode cX4_minute 190 = .ok (.getfield 7, 3) := by decide +kernel
theorem dX4_minute_193 : decode cX4_minute 193 = .ok (.iload_n 2, 1) := by decide +kernel
theorem dX4_minute_194 : decode cX4_minute 194 = .ok (.iaload, 1) := by decide +kernel
theorem dX4_minute_195 : decode cX4_minute 195 = .ok (.aload_n 0, 1) := by decide +kernel
theorem dX4_minute_196 : decode cX4_minute 196 = .ok (.getfield 7, 3) := by decide +kernel
theorem dX4_minute_199 : decode cX4_minute 199 = .ok (.bipush 22, 2) := by decide +kernel
theorem dX4_minute_201 : decode cX4_minute 201 = .ok (.iaload, 1) := by decide +kernel
theorem dX4_minute_202 : decode cX4_minute 202 = .ok (.imul, 1) := by decide +kernel
theorem dX4_minute_203 : decode cX4_minute 203 = .ok (.sipush 1000, 3) := by decide +kernel
theorem dX4_minute_206 : decode cX4_minute 206 = .ok (.idiv, 1) := by decide +kernel
theorem dX4_minute_207 : decode cX4_minute 207 = .ok (.isub, 1) := by decide +kernel
theorem dX4_minute_208 : decode cX4_minute 208 = .ok (.iastore, 1) := by decide +kernel
theorem dX4_minute_209 : decode cX4_minute 209 = .ok (.aload_n 0, 1) := by decide +kernel
theorem dX4_minute_210 : decode cX4_minute 210 = .ok (.getfield 7, 3) := by decide +kernel
theorem dX4_minute_213 : decode cX4_minute 213 = .ok (.bipush 51, 2) := by decide +kernel
theorem dX4_minute_215 : decode cX4_minute 215 = .ok (.dup2, 1) := by decide +kernel
theorem dX4_minute_216 : decode cX4_minute 216 = .ok (.iaload, 1) := by decide +kernel
theorem dX4_minute_217 : decode cX4_minute 217 = .ok (.iconst 1, 1) := by decide +kernel
theorem dX4_minute_218 : decode cX4_minute 218 = .ok (.iadd, 1) := by decide +kernel
theorem dX4_minute_219 : decode cX4_minute 219 = .ok (.iastore, 1) := by decide +kernel
theorem dX4_minute_220 : decode cX4_minute 220 = .ok (.aload_n 0, 1) := by decide +kernel
theorem dX4_minute_221 : decode cX4_minute 221 = .ok (.getfield 7, 3) := by decide +kernel
theorem dX4_minute_224 : decode cX4_minute 224 = .ok (.bipush 52, 2) := by decide +kernel
theorem dX4_minute_226 : decode cX4_minute 226 = .ok (.iload_n 1, 1) := by decide +kernel
theorem dX4_minute_227 : decode cX4_minute 227 = .ok (.iastore, 1) := by decide +kernel
theorem dX4_minute_228 : decode cX4_minute 228 = .ok (.iload_n 1, 1) := by decide +kernel
theorem dX4_minute_229 : decode cX4_minute 229 = .ok (.ireturn, 1) := by decide +kernel
theorem dX4_shake_0 : decode cX4_shake 0 = .ok (.iload_n 1, 1) := by decide +kernel
theorem dX4_shake_1 : decode cX4_shake 1 = .ok (.iconst 1, 1) := by decide +kernel
theorem dX4_shake_2 : decode cX4_shake 2 = .ok (.sipush 200, 3) := by decide +kernel
theorem dX4_shake_5 : decode cX4_shake 5 = .ok (.invokestatic 30, 3) := by decide +kernel
theorem dX4_shake_8 : decode cX4_shake 8 = .ok (.ifCond .ne 5, 3) := by decide +kernel
theorem dX4_shake_11 : decode cX4_shake 11 = .ok (.iconst (-1), 1) := by decide +kernel
theorem dX4_shake_12 : decode cX4_shake 12 = .ok (.ireturn, 1) := by decide +kernel
theorem dX4_shake_13 : decode cX4_shake 13 = .ok (.aload_n 0, 1) := by decide +kernel
theorem dX4_shake_14 : decode cX4_shake 14 = .ok (.getfield 7, 3) := by decide +kernel
theorem dX4_shake_17 : decode cX4_shake 17 = .ok (.bipush 49, 2) := by decide +kernel
theorem dX4_shake_19 : decode cX4_shake 19 = .ok (.iaload, 1) := by decide +kernel
theorem dX4_shake_20 : decode cX4_shake 20 = .ok (.ifCond .ne 6, 3) := by decide +kernel
theorem dX4_shake_23 : decode cX4_shake 23 = .ok (.bipush (-2), 2) := by decide +kernel
theorem dX4_shake_25 : decode cX4_shake 25 = .ok (.ireturn, 1) := by decide +kernel
theorem dX4_shake_26 : decode cX4_shake 26 = .ok (.aload_n 0, 1) := by decide +kernel
theorem dX4_shake_27 : decode cX4_shake 27 = .ok (.invokevirtual 34, 3) := by decide +kernel
theorem dX4_shake_30 : decode cX4_shake 30 = .ok (.iconst 0, 1) := by decide +kernel
theorem dX4_shake_31 : decode cX4_shake 31 = .ok (.istore_n 2, 1) := by decide +kernel
theorem dX4_shake_32 : decode cX4_shake 32 = .ok (.iconst 0, 1) := by decide +kernel
theorem dX4_shake_33 : decode cX4_shake 33 = .ok (.istore_n 3, 1) := by decide +kernel
theorem dX4_shake_34 : decode cX4_shake 34 = .ok (.iload_n 3, 1) := by decide +kernel
theorem dX4_shake_35 : decode cX4_shake 35 = .ok (.iload_n 1, 1) := by decide +kernel
theorem dX4_shake_36 : decode cX4_shake 36 = .ok (.if_icmp .ge 16, 3) := by decide +kernel
theorem dX4_shake_39 : decode cX4_shake 39 = .ok (.iload_n 2, 1) := by decide +kernel
theorem dX4_shake_40 : decode cX4_shake 40 = .ok (.aload_n 0, 1) := by decide +kernel
theorem dX4_shake_41 : decode cX4_shake 41 = .ok (.invokevirtual 101, 3) := by decide +kernel
theorem dX4_shake_44 : decode cX4_shake 44 = .ok (.iadd, 1) := by decide +kernel
theorem dX4_shake_45 : decode cX4_shake 45 = .ok (.istore_n 2, 1) := by decide +kernel
theorem dX4_shake_46 : decode cX4_shake 46 = .ok (.iinc 3 1, 3) := by decide +kernel
theorem dX4_shake_49 : decode cX4_shake 49 = .ok (.goto (-15), 3) := by decide +kernel
theorem dX4_shake_52 : decode cX4_shake 52 = .ok (.iload_n 2, 1) := by decide +kernel
theorem dX4_shake_53 : decode cX4_shake 53 = .ok (.ireturn, 1) := by decide +kernel
theorem dX4_collect_0 : decode cX4_collect 0 = .ok (.aload_n 0, 1) := by decide +kernel
theorem dX4_collect_1 : decode cX4_collect 1 = .ok (.iload_n 1, 1) := by decide +kernel
theorem dX4_collect_2 : decode cX4_collect 2 = .ok (.invokevirtual 83, 3) := by decide +kernel
theorem dX4_collect_5 : decode cX4_collect 5 = .ok (.ifCond .ne 5, 3) := by decide +kernel
theorem dX4_collect_8 : decode cX4_collect 8 = .ok (.iconst (-1), 1) := by decide +kernel
theorem dX4_collect_9 : decode cX4_collect 9 = .ok (.ireturn, 1) := by decide +kernel
theorem dX4_collect_10 : decode cX4_collect 10 = .ok (.aload_n 0, 1) := by decide +kernel
theorem dX4_collect_11 : decode cX4_collect 11 = .ok (.getfield 7, 3) := by decide +kernel
theorem dX4_collect_14 : decode cX4_collect 14 = .ok (.bipush 49, 2) := by decide +kernel
theorem dX4_collect_16 : decode cX4_collect 16 = .ok (.iaload, 1) := by decide +kernel
theorem dX4_collect_17 : decode cX4_collect 17 = .ok (.ifCond .ne 6, 3) := by decide +kernel
theorem dX4_collect_20 : decode cX4_collect 20 = .ok (.bipush (-2), 2) := by decide +kernel
theorem dX4_collect_22 : decode cX4_collect 22 = .ok (.ireturn, 1) := by decide +kernel
theorem dX4_collect_23 : decode cX4_collect 23 = .ok (.aload_n 0, 1) := by decide +kernel
theorem dX4_collect_24 : decode cX4_collect 24 = .ok (.invokevirtual 34, 3) := by decide +kernel
theorem dX4_collect_27 : decode cX4_collect 27 = .ok (.aload_n 0, 1) := by decide +kernel
theorem dX4_collect_28 : decode cX4_collect 28 = .ok (.aload_n 0, 1) := by decide +kernel
theorem dX4_collect_29 : decode cX4_collect 29 = .ok (.iload_n 1, 1) := by decide +kernel
theorem dX4_collect_30 : decode cX4_collect 30 = .ok (.invokevirtual 80, 3) := by decide +kernel
theorem dX4_collect_33 : decode cX4_collect 33 = .ok (.invokevirtual 37, 3) := by decide +kernel
theorem dX4_collect_36 : decode cX4_collect 36 = .ok (.istore_n 2, 1) := by decide +kernel
theorem dX4_collect_37 : decode cX4_collect 37 = .ok (.iconst 0, 1) := by decide +kernel
theorem dX4_collect_38 : decode cX4_collect 38 = .ok (.istore_n 3, 1) := by decide +kernel
theorem dX4_collect_39 : decode cX4_collect 39 = .ok (.iload_n 3, 1) := by decide +kernel
theorem dX4_collect_40 : decode cX4_collect 40 = .ok (.bipush 10, 2) := by decide +kernel
theorem dX4_collect_42 : decode cX4_collect 42 = .ok (.if_icmp .ge 22, 3) := by decide +kernel
theorem dX4_collect_45 : decode cX4_collect 45 = .ok (.aload_n 0, 1) := by decide +kernel
theorem dX4_collect_46 : decode cX4_collect 46 = .ok (.getfield 7, 3) := by decide +kernel
theorem dX4_collect_49 : decode cX4_collect 49 = .ok (.aload_n 0, 1) := by decide +kernel
theorem dX4_collect_50 : decode cX4_collect 50 = .ok (.iload_n 1, 1) := by decide +kernel
theorem dX4_collect_51 : decode cX4_collect 51 = .ok (.invokevirtual 80, 3) := by decide +kernel
theorem dX4_collect_54 : decode cX4_collect 54 = .ok (.iload_n 3, 1) := by decide +kernel
theorem dX4_collect_55 : decode cX4_collect 55 = .ok (.iadd, 1) := by decide +kernel
theorem dX4_collect_56 : decode cX4_collect 56 = .ok (.iconst 0, 1) := by decide +kernel
theorem dX4_collect_57 : decode cX4_collect 57 = .ok (.iastore, 1) := by decide +kernel
theorem dX4_collect_58 : decode cX4_collect 58 = .ok (.iinc 3 1, 3) := by decide +kernel
theorem dX4_collect_61 : decode cX4_collect 61 = .ok (.goto (-22), 3) := by decide +kernel
theorem dX4_collect_64 : decode cX4_collect 64 = .ok (.aload_n 0, 1) := by decide +kernel
theorem dX4_collect_65 : decode cX4_collect 65 = .ok (.getfield 7, 3) := by decide +kernel
theorem dX4_collect_68 : decode cX4_collect 68 = .ok (.aload_n 0, 1) := by decide +kernel
theorem dX4_collect_69 : decode cX4_collect 69 = .ok (.iload_n 1, 1) := by decide +kernel
theorem dX4_collect_70 : decode cX4_collect 70 = .ok (.invokevirtual 80, 3) := by decide +kernel
theorem dX4_collect_73 : decode cX4_collect 73 = .ok (.bipush 11, 2) := by decide +kernel
theorem dX4_collect_75 : decode cX4_collect 75 = .ok (.iadd, 1) := by decide +kernel
theorem dX4_collect_76 : decode cX4_collect 76 = .ok (.dup2, 1) := by decide +kernel
theorem dX4_collect_77 : decode cX4_collect 77 = .ok (.iaload, 1) := by decide +kernel
theorem dX4_collect_78 : decode cX4_collect 78 = .ok (.iload_n 2, 1) := by decide +kernel
theorem dX4_collect_79 : decode cX4_collect 79 = .ok (.iadd, 1) := by decide +kernel
theorem dX4_collect_80 : decode cX4_collect 80 = .ok (.iastore, 1) := by decide +kernel
theorem dX4_collect_81 : decode cX4_collect 81 = .ok (.iload_n 2, 1) := by decide +kernel
theorem dX4_collect_82 : decode cX4_collect 82 = .ok (.ireturn, 1) := by decide +kernel
theorem dX4_brush_0 : decode cX4_brush 0 = .ok (.aload_n 0, 1) := by decide +kernel
theorem dX4_brush_1 : decode cX4_brush 1 = .ok (.iload_n 1, 1) := by decide +kernel
theorem dX4_brush_2 : decode cX4_brush 2 = .ok (.invokevirtual 76, 3) := by decide +kernel
theorem dX4_brush_5 : decode cX4_brush 5 = .ok (.ifCond .eq 12, 3) := by decide +kernel
theorem dX4_brush_8 : decode cX4_brush 8 = .ok (.iload_n 2, 1) := by decide +kernel
theorem dX4_brush_9 : decode cX4_brush 9 = .ok (.iconst 0, 1) := by decide +kernel
theorem dX4_brush_10 : decode cX4_brush 10 = .ok (.iconst 1, 1) := by decide +kernel
theorem dX4_brush_11 : decode cX4_brush 11 = .ok (.invokestatic 30, 3) := by decide +kernel
theorem dX4_brush_14 : decode cX4_brush 14 = .ok (.ifCond .ne 5, 3) := by decide +kernel
theorem dX4_brush_17 : decode cX4_brush 17 = .ok (.iconst (-1), 1) := by decide +kernel
theorem dX4_brush_18 : decode cX4_brush 18 = .ok (.ireturn, 1) := by decide +kernel
theorem dX4_brush_19 : decode cX4_brush 19 = .ok (.aload_n 0, 1) := by decide +kernel
theorem dX4_brush_20 : decode cX4_brush 20 = .ok (.getfield 7, 3) := by decide +kernel
theorem dX4_brush_23 : decode cX4_brush 23 = .ok (.bipush 49, 2) := by decide +kernel
theorem dX4_brush_25 : decode cX4_brush 25 = .ok (.iaload, 1) := by decide +kernel
theorem dX4_brush_26 : decode cX4_brush 26 = .ok (.ifCond .ne 6, 3) := by decide +kernel
theorem dX4_brush_29 : decode cX4_brush 29 = .ok (.bipush (-2), 2) := by decide +kernel
theorem dX4_brush_31 : decode cX4_brush 31 = .ok (.ireturn, 1) := by decide +kernel
theorem dX4_brush_32 : decode cX4_brush 32 = .ok (.aload_n 0, 1) := by decide +kernel
theorem dX4_brush_33 : decode cX4_brush 33 = .ok (.invokevirtual 34, 3) := by decide +kernel
theorem dX4_brush_36 : decode cX4_brush 36 = .ok (.aload_n 0, 1) := by decide +kernel
theorem dX4_brush_37 : decode cX4_brush 37 = .ok (.getfield 7, 3) := by decide +kernel
theorem dX4_brush_40 : decode cX4_brush 40 = .ok (.aload_n 0, 1) := by decide +kernel
theorem dX4_brush_41 : decode cX4_brush 41 = .ok (.iload_n 1, 1) := by decide +kernel
theorem dX4_brush_42 : decode cX4_brush 42 = .ok (.invokevirtual 80, 3) := by decide +kernel
theorem dX4_brush_45 : decode cX4_brush 45 = .ok (.bipush 10, 2) := by decide +kernel
theorem dX4_brush_47 : decode cX4_brush 47 = .ok (.iadd, 1) := by decide +kernel
theorem dX4_brush_48 : decode cX4_brush 48 = .ok (.iaload, 1) := by decide +kernel
theorem dX4_brush_49 : decode cX4_brush 49 = .ok (.istore_n 3, 1) := by decide +kernel
theorem dX4_brush_50 : decode cX4_brush 50 = .ok (.aload_n 0, 1) := by decide +kernel
theorem dX4_brush_51 : decode cX4_brush 51 = .ok (.getfield 7, 3) := by decide +kernel
theorem dX4_brush_54 : decode cX4_brush 54 = .ok (.aload_n 0, 1) := by decide +kernel
theorem dX4_brush_55 : decode cX4_brush 55 = .ok (.iload_n 1, 1) := by decide +kernel
theorem dX4_brush_56 : decode cX4_brush 56 = .ok (.invokevirtual 80, 3) := by decide +kernel
theorem dX4_brush_59 : decode cX4_brush 59 = .ok (.bipush 10, 2) := by decide +kernel
theorem dX4_brush_61 : decode cX4_brush 61 = .ok (.iadd, 1) := by decide +kernel
theorem dX4_brush_62 : decode cX4_brush 62 = .ok (.iconst 0, 1) := by decide +kernel
theorem dX4_brush_63 : decode cX4_brush 63 = .ok (.iastore, 1) := by decide +kernel
theorem dX4_brush_64 : decode cX4_brush 64 = .ok (.aload_n 0, 1) := by decide +kernel
theorem dX4_brush_65 : decode cX4_brush 65 = .ok (.getfield 7, 3) := by decide +kernel
theorem dX4_brush_68 : decode cX4_brush 68 = .ok (.aload_n 0, 1) := by decide +kernel
theorem dX4_brush_69 : decode cX4_brush 69 = .ok (.iload_n 1, 1) := by decide +kernel
theorem dX4_brush_70 : decode cX4_brush 70 = .ok (.invokevirtual 80, 3) := by decide +kernel
theorem dX4_brush_73 : decode cX4_brush 73 = .ok (.bipush 11, 2) := by decide +kernel
theorem dX4_brush_75 : decode cX4_brush 75 = .ok (.iadd, 1) := by decide +kernel
theorem dX4_brush_76 : decode cX4_brush 76 = .ok (.dup2, 1) := by decide +kernel
theorem dX4_brush_77 : decode cX4_brush 77 = .ok (.iaload, 1) := by decide +kernel
theorem dX4_brush_78 : decode cX4_brush 78 = .ok (.iload_n 2, 1) := by decide +kernel
theorem dX4_brush_79 : decode cX4_brush 79 = .ok (.iconst 1, 1) := by decide +kernel
theorem dX4_brush_80 : decode cX4_brush 80 = .ok (.if_icmp .ne 7, 3) := by decide +kernel
theorem dX4_brush_83 : decode cX4_brush 83 = .ok (.iload_n 3, 1) := by decide +kernel
theorem dX4_brush_84 : decode cX4_brush 84 = .ok (.goto 4, 3) := by decide +kernel
theorem dX4_brush_87 : decode cX4_brush 87 = .ok (.iconst 0, 1) := by decide +kernel
theorem dX4_brush_88 : decode cX4_brush 88 = .ok (.iadd, 1) := by decide +kernel
theorem dX4_brush_89 : decode cX4_brush 89 = .ok (.iastore, 1) := by decide +kernel
theorem dX4_brush_90 : decode cX4_brush 90 = .ok (.iload_n 3, 1) := by decide +kernel
theorem dX4_brush_91 : decode cX4_brush 91 = .ok (.ireturn, 1) := by decide +kernel
theorem dX4_lost_0 : decode cX4_lost 0 = .ok (.aload_n 0, 1) := by decide +kernel
theorem dX4_lost_1 : decode cX4_lost 1 = .ok (.getfield 7, 3) := by decide +kernel
theorem dX4_lost_4 : decode cX4_lost 4 = .ok (.bipush 50, 2) := by decide +kernel
theorem dX4_lost_6 : decode cX4_lost 6 = .ok (.iaload, 1) := by decide +kernel
theorem dX4_lost_7 : decode cX4_lost 7 = .ok (.istore_n 1, 1) := by decide +kernel
theorem dX4_lost_8 : decode cX4_lost 8 = .ok (.iconst 0, 1) := by decide +kernel
theorem dX4_lost_9 : decode cX4_lost 9 = .ok (.istore_n 2, 1) := by decide +kernel
theorem dX4_lost_10 : decode cX4_lost 10 = .ok (.iload_n 2, 1) := by decide +kernel
theorem dX4_lost_11 : decode cX4_lost 11 = .ok (.aload_n 0, 1) := by decide +kernel
theorem dX4_lost_12 : decode cX4_lost 12 = .ok (.getfield 7, 3) := by decide +kernel
theorem dX4_lost_15 : decode cX4_lost 15 = .ok (.bipush 24, 2) := by decide +kernel
theorem dX4_lost_17 : decode cX4_lost 17 = .ok (.iaload, 1) := by decide +kernel
theorem dX4_lost_18 : decode cX4_lost 18 = .ok (.if_icmp .gt 49, 3) := by decide +kernel
theorem dX4_lost_21 : decode cX4_lost 21 = .ok (.iload_n 1, 1) := by decide +kernel
theorem dX4_lost_22 : decode cX4_lost 22 = .ok (.aload_n 0, 1) := by decide +kernel
theorem dX4_lost_23 : decode cX4_lost 23 = .ok (.aload_n 0, 1) := by decide +kernel
theorem dX4_lost_24 : decode cX4_lost 24 = .ok (.iload_n 2, 1) := by decide +kernel
theorem dX4_lost_25 : decode cX4_lost 25 = .ok (.invokevirtual 80, 3) := by decide +kernel
theorem dX4_lost_28 : decode cX4_lost 28 = .ok (.invokevirtual 37, 3) := by decide +kernel
theorem dX4_lost_31 : decode cX4_lost 31 = .ok (.aload_n 0, 1) := by decide +kernel
theorem dX4_lost_32 : decode cX4_lost 32 = .ok (.getfield 7, 3) := by decide +kernel
theorem dX4_lost_35 : decode cX4_lost 35 = .ok (.aload_n 0, 1) := by decide +kernel
theorem dX4_lost_36 : decode cX4_lost 36 = .ok (.iload_n 2, 1) := by decide +kernel
theorem dX4_lost_37 : decode cX4_lost 37 = .ok (.invokevirtual 80, 3) := by decide +kernel
theorem dX4_lost_40 : decode cX4_lost 40 = .ok (.bipush 10, 2) := by decide +kernel
theorem dX4_lost_42 : decode cX4_lost 42 = .ok (.iadd, 1) := by decide +kernel
theorem dX4_lost_43 : decode cX4_lost 43 = .ok (.iaload, 1) := by decide +kernel
theorem dX4_lost_44 : decode cX4_lost 44 = .ok (.iadd, 1) := by decide +kernel
theorem dX4_lost_45 : decode cX4_lost 45 = .ok (.aload_n 0, 1) := by decide +kernel
theorem dX4_lost_46 : decode cX4_lost 46 = .ok (.getfield 7, 3) := by decide +kernel
theorem dX4_lost_49 : decode cX4_lost 49 = .ok (.aload_n 0, 1) := by decide +kernel
theorem dX4_lost_50 : decode cX4_lost 50 = .ok (.iload_n 2, 1) := by decide +kernel
theorem dX4_lost_51 : decode cX4_lost 51 = .ok (.invokevirtual 80, 3) := by decide +kernel
theorem dX4_lost_54 : decode cX4_lost 54 = .ok (.bipush 11, 2) := by decide +kernel
theorem dX4_lost_56 : decode cX4_lost 56 = .ok (.iadd, 1) := by decide +kernel
theorem dX4_lost_57 : decode cX4_lost 57 = .ok (.iaload, 1) := by decide +kernel
theorem dX4_lost_58 : decode cX4_lost 58 = .ok (.iadd, 1) := by decide +kernel
theorem dX4_lost_59 : decode cX4_lost 59 = .ok (.isub, 1) := by decide +kernel
theorem dX4_lost_60 : decode cX4_lost 60 = .ok (.istore_n 1, 1) := by decide +kernel
theorem dX4_lost_61 : decode cX4_lost 61 = .ok (.iinc 2 1, 3) := by decide +kernel
theorem dX4_lost_64 : decode cX4_lost 64 = .ok (.goto (-54), 3) := by decide +kernel
theorem dX4_lost_67 : decode cX4_lost 67 = .ok (.iload_n 1, 1) := by decide +kernel
theorem dX4_lost_68 : decode cX4_lost 68 = .ok (.ireturn, 1) := by decide +kernel
theorem dX4_loss_0 : decode cX4_loss 0 = .ok (.aload_n 0, 1) := by decide +kernel
theorem dX4_loss_1 : decode cX4_loss 1 = .ok (.getfield 7, 3) := by decide +kernel
theorem dX4_loss_4 : decode cX4_loss 4 = .ok (.bipush 49, 2) := by decide +kernel
theorem dX4_loss_6 : decode cX4_loss 6 = .ok (.iaload, 1) := by decide +kernel
theorem dX4_loss_7 : decode cX4_loss 7 = .ok (.ifCond .ne 8, 3) := by decide +kernel
theorem dX4_loss_10 : decode cX4_loss 10 = .ok (.bipush (-2), 2) := by decide +kernel
theorem dX4_loss_12 : decode cX4_loss 12 = .ok (.goto 7, 3) := by decide +kernel
theorem dX4_loss_15 : decode cX4_loss 15 = .ok (.aload_n 0, 1) := by decide +kernel
theorem dX4_loss_16 : decode cX4_loss 16 = .ok (.invokevirtual 104, 3) := by decide +kernel
theorem dX4_loss_19 : decode cX4_loss 19 = .ok (.ireturn, 1) := by decide +kernel
theorem dX4_isGood_0 : decode cX4_isGood 0 = .ok (.aload_n 0, 1) := by decide +kernel
theorem dX4_isGood_1 : decode cX4_isGood 1 = .ok (.getfield 7, 3) := by decide +kernel
theorem dX4_isGood_4 : decode cX4_isGood 4 = .ok (.bipush 49, 2) := by decide +kernel
theorem dX4_isGood_6 : decode cX4_isGood 6 = .ok (.iaload, 1) := by decide +kernel
theorem dX4_isGood_7 : decode cX4_isGood 7 = .ok (.ifCond .ne 8, 3) := by decide +kernel
theorem dX4_isGood_10 : decode cX4_isGood 10 = .ok (.bipush (-2), 2) := by decide +kernel
theorem dX4_isGood_12 : decode cX4_isGood 12 = .ok (.goto 38, 3) := by decide +kernel
theorem dX4_isGood_15 : decode cX4_isGood 15 = .ok (.aload_n 0, 1) := by decide +kernel
theorem dX4_isGood_16 : decode cX4_isGood 16 = .ok (.invokevirtual 104, 3) := by decide +kernel
theorem dX4_isGood_19 : decode cX4_isGood 19 = .ok (.i2l, 1) := by decide +kernel
theorem dX4_isGood_20 : decode cX4_isGood 20 = .ok (.ldc2_w 107, 3) := by decide +kernel
theorem dX4_isGood_23 : decode cX4_isGood 23 = .ok (.lmul, 1) := by decide +kernel
theorem dX4_isGood_24 : decode cX4_isGood 24 = .ok (.aload_n 0, 1) := by decide +kernel
theorem dX4_isGood_25 : decode cX4_isGood 25 = .ok (.getfield 7, 3) := by decide +kernel
theorem dX4_isGood_28 : decode cX4_isGood 28 = .ok (.bipush 23, 2) := by decide +kernel
theorem dX4_isGood_30 : decode cX4_isGood 30 = .ok (.iaload, 1) := by decide +kernel
theorem dX4_isGood_31 : decode cX4_isGood 31 = .ok (.i2l, 1) := by decide +kernel
theorem dX4_isGood_32 : decode cX4_isGood 32 = .ok (.aload_n 0, 1) := by decide +kernel
theorem dX4_isGood_33 : decode cX4_isGood 33 = .ok (.getfield 7, 3) := by decide +kernel
theorem dX4_isGood_36 : decode cX4_isGood 36 = .ok (.bipush 50, 2) := by decide +kernel
theorem dX4_isGood_38 : decode cX4_isGood 38 = .ok (.iaload, 1) := by decide +kernel
theorem dX4_isGood_39 : decode cX4_isGood 39 = .ok (.i2l, 1) := by decide +kernel
theorem dX4_isGood_40 : decode cX4_isGood 40 = .ok (.lmul, 1) := by decide +kernel
theorem dX4_isGood_41 : decode cX4_isGood 41 = .ok (.lcmp, 1) := by decide +kernel
theorem dX4_isGood_42 : decode cX4_isGood 42 = .ok (.ifCond .gt 7, 3) := by decide +kernel
theorem dX4_isGood_45 : decode cX4_isGood 45 = .ok (.iconst 1, 1) := by decide +kernel
theorem dX4_isGood_46 : decode cX4_isGood 46 = .ok (.goto 4, 3) := by decide +kernel
theorem dX4_isGood_49 : decode cX4_isGood 49 = .ok (.iconst 0, 1) := by decide +kernel
theorem dX4_isGood_50 : decode cX4_isGood 50 = .ok (.ireturn, 1) := by decide +kernel
theorem dX4_collected_0 : decode cX4_collected 0 = .ok (.iconst 0, 1) := by decide +kernel
theorem dX4_collected_1 : decode cX4_collected 1 = .ok (.istore_n 2, 1) := by decide +kernel
theorem dX4_collected_2 : decode cX4_collected 2 = .ok (.iload_n 1, 1) := by decide +kernel
theorem dX4_collected_3 : decode cX4_collected 3 = .ok (.istore_n 3, 1) := by decide +kernel
theorem dX4_collected_4 : decode cX4_collected 4 = .ok (.iload_n 3, 1) := by decide +kernel
theorem dX4_collected_5 : decode cX4_collected 5 = .ok (.aload_n 0, 1) := by decide +kernel
theorem dX4_collected_6 : decode cX4_collected 6 = .ok (.getfield 7, 3) := by decide +kernel
theorem dX4_collected_9 : decode cX4_collected 9 = .ok (.bipush 24, 2) := by decide +kernel
theorem dX4_collected_11 : decode cX4_collected 11 = .ok (.iaload, 1) := by decide +kernel
theorem dX4_collected_12 : decode cX4_collected 12 = .ok (.if_icmp .gt 25, 3) := by decide +kernel
theorem dX4_collected_15 : decode cX4_collected 15 = .ok (.iload_n 2, 1) := by decide +kernel
theorem dX4_collected_16 : decode cX4_collected 16 = .ok (.aload_n 0, 1) := by decide +kernel
theorem dX4_collected_17 : decode cX4_collected 17 = .ok (.getfield 7, 3) := by decide +kernel
theorem dX4_collected_20 : decode cX4_collected 20 = .ok (.aload_n 0, 1) := by decide +kernel
theorem dX4_collected_21 : decode cX4_collected 21 = .ok (.iload_n 3, 1) := by decide +kernel
theorem dX4_collected_22 : decode cX4_collected 22 = .ok (.invokevirtual 80, 3) := by decide +kernel
theorem dX4_collected_25 : decode cX4_collected 25 = .ok (.bipush 11, 2) := by decide +kernel
theorem dX4_collected_27 : decode cX4_collected 27 = .ok (.iadd, 1) := by decide +kernel
theorem dX4_collected_28 : decode cX4_collected 28 = .ok (.iaload, 1) := by decide +kernel
theorem dX4_collected_29 : decode cX4_collected 29 = .ok (.iadd, 1) := by decide +kernel
theorem dX4_collected_30 : decode cX4_collected 30 = .ok (.istore_n 2, 1) := by decide +kernel
theorem dX4_collected_31 : decode cX4_collected 31 = .ok (.iinc 3 1, 3) := by decide +kernel
theorem dX4_collected_34 : decode cX4_collected 34 = .ok (.goto (-30), 3) := by decide +kernel
theorem dX4_collected_37 : decode cX4_collected 37 = .ok (.iload_n 2, 1) := by decide +kernel
theorem dX4_collected_38 : decode cX4_collected 38 = .ok (.ireturn, 1) := by decide +kernel
theorem dX4_isTold_0 : decode cX4_isTold 0 = .ok (.aload_n 0, 1) := by decide +kernel
theorem dX4_isTold_1 : decode cX4_isTold 1 = .ok (.getfield 7, 3) := by decide +kernel
theorem dX4_isTold_4 : decode cX4_isTold 4 = .ok (.bipush 49, 2) := by decide +kernel
theorem dX4_isTold_6 : decode cX4_isTold 6 = .ok (.iaload, 1) := by decide +kernel
theorem dX4_isTold_7 : decode cX4_isTold 7 = .ok (.iconst 1, 1) := by decide +kernel
theorem dX4_isTold_8 : decode cX4_isTold 8 = .ok (.if_icmp .ne 15, 3) := by decide +kernel
theorem dX4_isTold_11 : decode cX4_isTold 11 = .ok (.aload_n 0, 1) := by decide +kernel
theorem dX4_isTold_12 : decode cX4_isTold 12 = .ok (.iconst 0, 1) := by decide +kernel
theorem dX4_isTold_13 : decode cX4_isTold 13 = .ok (.invokevirtual 109, 3) := by decide +kernel
theorem dX4_isTold_16 : decode cX4_isTold 16 = .ok (.ifCond .le 7, 3) := by decide +kernel
theorem dX4_isTold_19 : decode cX4_isTold 19 = .ok (.iconst 1, 1) := by decide +kernel
theorem dX4_isTold_20 : decode cX4_isTold 20 = .ok (.goto 4, 3) := by decide +kernel
theorem dX4_isTold_23 : decode cX4_isTold 23 = .ok (.iconst 0, 1) := by decide +kernel
theorem dX4_isTold_24 : decode cX4_isTold 24 = .ok (.ireturn, 1) := by decide +kernel
theorem dX4_passes_0 : decode cX4_passes 0 = .ok (.aload_n 0, 1) := by decide +kernel
theorem dX4_passes_1 : decode cX4_passes 1 = .ok (.iload_n 1, 1) := by decide +kernel
theorem dX4_passes_2 : decode cX4_passes 2 = .ok (.iconst 1, 1) := by decide +kernel
theorem dX4_passes_3 : decode cX4_passes 3 = .ok (.iadd, 1) := by decide +kernel
theorem dX4_passes_4 : decode cX4_passes 4 = .ok (.invokevirtual 109, 3) := by decide +kernel
theorem dX4_passes_7 : decode cX4_passes 7 = .ok (.i2l, 1) := by decide +kernel
theorem dX4_passes_8 : decode cX4_passes 8 = .ok (.ldc2_w 107, 3) := by decide +kernel
theorem dX4_passes_11 : decode cX4_passes 11 = .ok (.lmul, 1) := by decide +kernel
theorem dX4_passes_12 : decode cX4_passes 12 = .ok (.aload_n 0, 1) := by decide +kernel
theorem dX4_passes_13 : decode cX4_passes 13 = .ok (.iconst 0, 1) := by decide +kernel
theorem dX4_passes_14 : decode cX4_passes 14 = .ok (.invokevirtual 109, 3) := by decide +kernel
theorem dX4_passes_17 : decode cX4_passes 17 = .ok (.i2l, 1) := by decide +kernel
theorem dX4_passes_18 : decode cX4_passes 18 = .ok (.ldiv, 1) := by decide +kernel
theorem dX4_passes_19 : decode cX4_passes 19 = .ok (.l2i, 1) := by decide +kernel
theorem dX4_passes_20 : decode cX4_passes 20 = .ok (.ireturn, 1) := by decide +kernel
theorem dX4_passing_0 : decode cX4_passing 0 = .ok (.aload_n 0, 1) := by decide +kernel
theorem dX4_passing_1 : decode cX4_passing 1 = .ok (.iload_n 1, 1) := by decide +kernel
theorem dX4_passing_2 : decode cX4_passing 2 = .ok (.invokevirtual 76, 3) := by decide +kernel
theorem dX4_passing_5 : decode cX4_passing 5 = .ok (.ifCond .ne 7, 3) := by decide +kernel
theorem dX4_passing_8 : decode cX4_passing 8 = .ok (.iconst (-1), 1) := by decide +kernel
theorem dX4_passing_9 : decode cX4_passing 9 = .ok (.goto 20, 3) := by decide +kernel
theorem dX4_passing_12 : decode cX4_passing 12 = .ok (.aload_n 0, 1) := by decide +kernel
theorem dX4_passing_13 : decode cX4_passing 13 = .ok (.invokevirtual 112, 3) := by decide +kernel
theorem dX4_passing_16 : decode cX4_passing 16 = .ok (.ifCond .eq 11, 3) := by decide +kernel
theorem dX4_passing_19 : decode cX4_passing 19 = .ok (.aload_n 0, 1) := by decide +kernel
theorem dX4_passing_20 : decode cX4_passing 20 = .ok (.iload_n 1, 1) := by decide +kernel
theorem dX4_passing_21 : decode cX4_passing 21 = .ok (.invokevirtual 115, 3) := by decide +kernel
theorem dX4_passing_24 : decode cX4_passing 24 = .ok (.goto 5, 3) := by decide +kernel
theorem dX4_passing_27 : decode cX4_passing 27 = .ok (.bipush (-2), 2) := by decide +kernel
theorem dX4_passing_29 : decode cX4_passing 29 = .ok (.ireturn, 1) := by decide +kernel
theorem dX4_misses_0 : decode cX4_misses 0 = .ok (.aload_n 0, 1) := by decide +kernel
theorem dX4_misses_1 : decode cX4_misses 1 = .ok (.invokevirtual 112, 3) := by decide +kernel
theorem dX4_misses_4 : decode cX4_misses 4 = .ok (.ifCond .ne 6, 3) := by decide +kernel
theorem dX4_misses_7 : decode cX4_misses 7 = .ok (.bipush (-2), 2) := by decide +kernel
theorem dX4_misses_9 : decode cX4_misses 9 = .ok (.ireturn, 1) := by decide +kernel
theorem dX4_misses_10 : decode cX4_misses 10 = .ok (.iconst 0, 1) := by decide +kernel
theorem dX4_misses_11 : decode cX4_misses 11 = .ok (.istore_n 1, 1) := by decide +kernel
theorem dX4_misses_12 : decode cX4_misses 12 = .ok (.iconst 0, 1) := by decide +kernel
theorem dX4_misses_13 : decode cX4_misses 13 = .ok (.istore_n 2, 1) := by decide +kernel
theorem dX4_misses_14 : decode cX4_misses 14 = .ok (.iload_n 2, 1) := by decide +kernel
theorem dX4_misses_15 : decode cX4_misses 15 = .ok (.aload_n 0, 1) := by decide +kernel
theorem dX4_misses_16 : decode cX4_misses 16 = .ok (.getfield 7, 3) := by decide +kernel
theorem dX4_misses_19 : decode cX4_misses 19 = .ok (.bipush 24, 2) := by decide +kernel
theorem dX4_misses_21 : decode cX4_misses 21 = .ok (.iaload, 1) := by decide +kernel
theorem dX4_misses_22 : decode cX4_misses 22 = .ok (.if_icmp .ge 59, 3) := by decide +kernel
theorem dX4_misses_25 : decode cX4_misses 25 = .ok (.bipush 31, 2) := by decide +kernel
theorem dX4_misses_27 : decode cX4_misses 27 = .ok (.iconst 2, 1) := by decide +kernel
theorem dX4_misses_28 : decode cX4_misses 28 = .ok (.aload_n 0, 1) := by decide +kernel
theorem dX4_misses_29 : decode cX4_misses 29 = .ok (.getfield 7, 3) := by decide +kernel
theorem dX4_misses_32 : decode cX4_misses 32 = .ok (.bipush 25, 2) := by decide +kernel
theorem dX4_misses_34 : decode cX4_misses 34 = .ok (.iload_n 2, 1) := by decide +kernel
theorem dX4_misses_35 : decode cX4_misses 35 = .ok (.iadd, 1) := by decide +kernel
theorem dX4_misses_36 : decode cX4_misses 36 = .ok (.iaload, 1) := by decide +kernel
theorem dX4_misses_37 : decode cX4_misses 37 = .ok (.imul, 1) := by decide +kernel
theorem dX4_misses_38 : decode cX4_misses 38 = .ok (.iadd, 1) := by decide +kernel
theorem dX4_misses_39 : decode cX4_misses 39 = .ok (.iconst 2, 1) := by decide +kernel
theorem dX4_misses_40 : decode cX4_misses 40 = .ok (.isub, 1) := by decide +kernel
theorem dX4_misses_41 : decode cX4_misses 41 = .ok (.istore_n 3, 1) := by decide +kernel
theorem dX4_misses_42 : decode cX4_misses 42 = .ok (.iload_n 1, 1) := by decide +kernel
theorem dX4_misses_43 : decode cX4_misses 43 = .ok (.aload_n 0, 1) := by decide +kernel
theorem dX4_misses_44 : decode cX4_misses 44 = .ok (.iload_n 2, 1) := by decide +kernel
theorem dX4_misses_45 : decode cX4_misses 45 = .ok (.invokevirtual 115, 3) := by decide +kernel
theorem dX4_misses_48 : decode cX4_misses 48 = .ok (.aload_n 0, 1) := by decide +kernel
theorem dX4_misses_49 : decode cX4_misses 49 = .ok (.getfield 7, 3) := by decide +kernel
theorem dX4_misses_52 : decode cX4_misses 52 = .ok (.iload_n 3, 1) := by decide +kernel
theorem dX4_misses_53 : decode cX4_misses 53 = .ok (.iaload, 1) := by decide +kernel
theorem dX4_misses_54 : decode cX4_misses 54 = .ok (.aload_n 0, 1) := by decide +kernel
theorem dX4_misses_55 : decode cX4_misses 55 = .ok (.getfield 7, 3) := by decide +kernel
theorem dX4_misses_58 : decode cX4_misses 58 = .ok (.iload_n 3, 1) := by decide +kernel
theorem dX4_misses_59 : decode cX4_misses 59 = .ok (.iconst 1, 1) := by decide +kernel
theorem dX4_misses_60 : decode cX4_misses 60 = .ok (.iadd, 1) := by decide +kernel
theorem dX4_misses_61 : decode cX4_misses 61 = .ok (.iaload, 1) := by decide +kernel
theorem dX4_misses_62 : decode cX4_misses 62 = .ok (.invokestatic 30, 3) := by decide +kernel
theorem dX4_misses_65 : decode cX4_misses 65 = .ok (.ifCond .eq 7, 3) := by decide +kernel
theorem dX4_misses_68 : decode cX4_misses 68 = .ok (.iconst 0, 1) := by decide +kernel
theorem dX4_misses_69 : decode cX4_misses 69 = .ok (.goto 4, 3) := by decide +kernel
theorem dX4_misses_72 : decode cX4_misses 72 = .ok (.iconst 1, 1) := by decide +kernel
theorem dX4_misses_73 : decode cX4_misses 73 = .ok (.iadd, 1) := by decide +kernel
theorem dX4_misses_74 : decode cX4_misses 74 = .ok (.istore_n 1, 1) := by decide +kernel
theorem dX4_misses_75 : decode cX4_misses 75 = .ok (.iinc 2 1, 3) := by decide +kernel
theorem dX4_misses_78 : decode cX4_misses 78 = .ok (.goto (-64), 3) := by decide +kernel
theorem dX4_misses_81 : decode cX4_misses 81 = .ok (.iload_n 1, 1) := by decide +kernel
theorem dX4_misses_82 : decode cX4_misses 82 = .ok (.ireturn, 1) := by decide +kernel
theorem dX4_modulus_0 : decode cX4_modulus 0 = .ok (.aload_n 0, 1) := by decide +kernel
theorem dX4_modulus_1 : decode cX4_modulus 1 = .ok (.invokevirtual 112, 3) := by decide +kernel
theorem dX4_modulus_4 : decode cX4_modulus 4 = .ok (.ifCond .ne 6, 3) := by decide +kernel
theorem dX4_modulus_7 : decode cX4_modulus 7 = .ok (.bipush (-2), 2) := by decide +kernel
theorem dX4_modulus_9 : decode cX4_modulus 9 = .ok (.ireturn, 1) := by decide +kernel
theorem dX4_modulus_10 : decode cX4_modulus 10 = .ok (.iconst 0, 1) := by decide +kernel
theorem dX4_modulus_11 : decode cX4_modulus 11 = .ok (.istore_n 1, 1) := by decide +kernel
theorem dX4_modulus_12 : decode cX4_modulus 12 = .ok (.iconst 0, 1) := by decide +kernel
theorem dX4_modulus_13 : decode cX4_modulus 13 = .ok (.istore_n 2, 1) := by decide +kernel
theorem dX4_modulus_14 : decode cX4_modulus 14 = .ok (.iload_n 2, 1) := by decide +kernel
theorem dX4_modulus_15 : decode cX4_modulus 15 = .ok (.aload_n 0, 1) := by decide +kernel
theorem dX4_modulus_16 : decode cX4_modulus 16 = .ok (.getfield 7, 3) := by decide +kernel
theorem dX4_modulus_19 : decode cX4_modulus 19 = .ok (.bipush 24, 2) := by decide +kernel
theorem dX4_modulus_21 : decode cX4_modulus 21 = .ok (.iaload, 1) := by decide +kernel
theorem dX4_modulus_22 : decode cX4_modulus 22 = .ok (.if_icmp .ge 21, 3) := by decide +kernel
theorem dX4_modulus_25 : decode cX4_modulus 25 = .ok (.iload_n 1, 1) := by decide +kernel
theorem dX4_modulus_26 : decode cX4_modulus 26 = .ok (.sipush 1000, 3) := by decide +kernel
theorem dX4_modulus_29 : decode cX4_modulus 29 = .ok (.aload_n 0, 1) := by decide +kernel
theorem dX4_modulus_30 : decode cX4_modulus 30 = .ok (.iload_n 2, 1) := by decide +kernel
theorem dX4_modulus_31 : decode cX4_modulus 31 = .ok (.invokevirtual 115, 3) := by decide +kernel
theorem dX4_modulus_34 : decode cX4_modulus 34 = .ok (.isub, 1) := by decide +kernel
theorem dX4_modulus_35 : decode cX4_modulus 35 = .ok (.iadd, 1) := by decide +kernel
theorem dX4_modulus_36 : decode cX4_modulus 36 = .ok (.istore_n 1, 1) := by decide +kernel
theorem dX4_modulus_37 : decode cX4_modulus 37 = .ok (.iinc 2 1, 3) := by decide +kernel
theorem dX4_modulus_40 : decode cX4_modulus 40 = .ok (.goto (-26), 3) := by decide +kernel
theorem dX4_modulus_43 : decode cX4_modulus 43 = .ok (.iload_n 1, 1) := by decide +kernel
theorem dX4_modulus_44 : decode cX4_modulus 44 = .ok (.bipush 10, 2) := by decide +kernel
theorem dX4_modulus_46 : decode cX4_modulus 46 = .ok (.idiv, 1) := by decide +kernel
theorem dX4_modulus_47 : decode cX4_modulus 47 = .ok (.ireturn, 1) := by decide +kernel
theorem dX4_truePassing_0 : decode cX4_truePassing 0 = .ok (.iload_n 1, 1) := by decide +kernel
theorem dX4_truePassing_1 : decode cX4_truePassing 1 = .ok (.iconst 1, 1) := by decide +kernel
theorem dX4_truePassing_2 : decode cX4_truePassing 2 = .ok (.bipush 9, 2) := by decide +kernel
theorem dX4_truePassing_4 : decode cX4_truePassing 4 = .ok (.invokestatic 30, 3) := by decide +kernel
theorem dX4_truePassing_7 : decode cX4_truePassing 7 = .ok (.ifCond .ne 5, 3) := by decide +kernel
theorem dX4_truePassing_10 : decode cX4_truePassing 10 = .ok (.iconst (-1), 1) := by decide +kernel
theorem dX4_truePassing_11 : decode cX4_truePassing 11 = .ok (.ireturn, 1) := by decide +kernel
theorem dX4_truePassing_12 : decode cX4_truePassing 12 = .ok (.aload_n 0, 1) := by decide +kernel
theorem dX4_truePassing_13 : decode cX4_truePassing 13 = .ok (.iconst 0, 1) := by decide +kernel
theorem dX4_truePassing_14 : decode cX4_truePassing 14 = .ok (.invokevirtual 37, 3) := by decide +kernel
theorem dX4_truePassing_17 : decode cX4_truePassing 17 = .ok (.istore_n 2, 1) := by decide +kernel
theorem dX4_truePassing_18 : decode cX4_truePassing 18 = .ok (.iload_n 2, 1) := by decide +kernel
theorem dX4_truePassing_19 : decode cX4_truePassing 19 = .ok (.ifCond .ne 6, 3) := by decide +kernel
theorem dX4_truePassing_22 : decode cX4_truePassing 22 = .ok (.bipush (-2), 2) := by decide +kernel
theorem dX4_truePassing_24 : decode cX4_truePassing 24 = .ok (.ireturn, 1) := by decide +kernel
theorem dX4_truePassing_25 : decode cX4_truePassing 25 = .ok (.lconst 0, 1) := by decide +kernel
theorem dX4_truePassing_26 : decode cX4_truePassing 26 = .ok (.lstore_n 3, 1) := by decide +kernel
theorem dX4_truePassing_27 : decode cX4_truePassing 27 = .ok (.iconst 0, 1) := by decide +kernel
theorem dX4_truePassing_28 : decode cX4_truePassing 28 = .ok (.istore 5, 2) := by decide +kernel
theorem dX4_truePassing_30 : decode cX4_truePassing 30 = .ok (.iload 5, 2) := by decide +kernel
theorem dX4_truePassing_32 : decode cX4_truePassing 32 = .ok (.iload_n 1, 1) := by decide +kernel
theorem dX4_truePassing_33 : decode cX4_truePassing 33 = .ok (.if_icmp .ge 22, 3) := by decide +kernel
theorem dX4_truePassing_36 : decode cX4_truePassing 36 = .ok (.lload_n 3, 1) := by decide +kernel
theorem dX4_truePassing_37 : decode cX4_truePassing 37 = .ok (.aload_n 0, 1) := by decide +kernel
theorem dX4_truePassing_38 : decode cX4_truePassing 38 = .ok (.getfield 7, 3) := by decide +kernel
theorem dX4_truePassing_41 : decode cX4_truePassing 41 = .ok (.iconst 0, 1) := by decide +kernel
theorem dX4_truePassing_42 : decode cX4_truePassing 42 = .ok (.iload 5, 2) := by decide +kernel
theorem dX4_truePassing_44 : decode cX4_truePassing 44 = .ok (.iadd, 1) := by decide +kernel
theorem dX4_truePassing_45 : decode cX4_truePassing 45 = .ok (.iaload, 1) := by decide +kernel
theorem dX4_truePassing_46 : decode cX4_truePassing 46 = .ok (.i2l, 1) := by decide +kernel
theorem dX4_truePassing_47 : decode cX4_truePassing 47 = .ok (.ladd, 1) := by decide +kernel
theorem dX4_truePassing_48 : decode cX4_truePassing 48 = .ok (.lstore_n 3, 1) := by decide +kernel
theorem dX4_truePassing_49 : decode cX4_truePassing 49 = .ok (.iinc 5 1, 3) := by decide +kernel
theorem dX4_truePassing_52 : decode cX4_truePassing 52 = .ok (.goto (-22), 3) := by decide +kernel
theorem dX4_truePassing_55 : decode cX4_truePassing 55 = .ok (.lload_n 3, 1) := by decide +kernel
theorem dX4_truePassing_56 : decode cX4_truePassing 56 = .ok (.ldc2_w 107, 3) := by decide +kernel
theorem dX4_truePassing_59 : decode cX4_truePassing 59 = .ok (.lmul, 1) := by decide +kernel
theorem dX4_truePassing_60 : decode cX4_truePassing 60 = .ok (.iload_n 2, 1) := by decide +kernel
theorem dX4_truePassing_61 : decode cX4_truePassing 61 = .ok (.i2l, 1) := by decide +kernel
theorem dX4_truePassing_62 : decode cX4_truePassing 62 = .ok (.ldiv, 1) := by decide +kernel
theorem dX4_truePassing_63 : decode cX4_truePassing 63 = .ok (.l2i, 1) := by decide +kernel
theorem dX4_truePassing_64 : decode cX4_truePassing 64 = .ok (.ireturn, 1) := by decide +kernel
theorem dX4_keeps_0 : decode cX4_keeps 0 = .ok (.iconst 0, 1) := by decide +kernel
theorem dX4_keeps_1 : decode cX4_keeps 1 = .ok (.istore_n 1, 1) := by decide +kernel
theorem dX4_keeps_2 : decode cX4_keeps 2 = .ok (.iload_n 1, 1) := by decide +kernel
theorem dX4_keeps_3 : decode cX4_keeps 3 = .ok (.sipush 137, 3) := by decide +kernel
theorem dX4_keeps_6 : decode cX4_keeps 6 = .ok (.if_icmp .ge 21, 3) := by decide +kernel
theorem dX4_keeps_9 : decode cX4_keeps 9 = .ok (.aload_n 0, 1) := by decide +kernel
theorem dX4_keeps_10 : decode cX4_keeps 10 = .ok (.getfield 20, 3) := by decide +kernel
theorem dX4_keeps_13 : decode cX4_keeps 13 = .ok (.iload_n 1, 1) := by decide +kernel
theorem dX4_keeps_14 : decode cX4_keeps 14 = .ok (.aload_n 0, 1) := by decide +kernel
theorem dX4_keeps_15 : decode cX4_keeps 15 = .ok (.getfield 7, 3) := by decide +kernel
theorem dX4_keeps_18 : decode cX4_keeps 18 = .ok (.iload_n 1, 1) := by decide +kernel
theorem dX4_keeps_19 : decode cX4_keeps 19 = .ok (.iaload, 1) := by decide +kernel
theorem dX4_keeps_20 : decode cX4_keeps 20 = .ok (.iastore, 1) := by decide +kernel
theorem dX4_keeps_21 : decode cX4_keeps 21 = .ok (.iinc 1 1, 3) := by decide +kernel
theorem dX4_keeps_24 : decode cX4_keeps 24 = .ok (.goto (-22), 3) := by decide +kernel
theorem dX4_keeps_27 : decode cX4_keeps 27 = .ok (.return_, 1) := by decide +kernel
theorem dX4_restores_0 : decode cX4_restores 0 = .ok (.iconst 0, 1) := by decide +kernel
theorem dX4_restores_1 : decode cX4_restores 1 = .ok (.istore_n 1, 1) := by decide +kernel
theorem dX4_restores_2 : decode cX4_restores 2 = .ok (.iload_n 1, 1) := by decide +kernel
theorem dX4_restores_3 : decode cX4_restores 3 = .ok (.sipush 137, 3) := by decide +kernel
theorem dX4_restores_6 : decode cX4_restores 6 = .ok (.if_icmp .ge 21, 3) := by decide +kernel
theorem dX4_restores_9 : decode cX4_restores 9 = .ok (.aload_n 0, 1) := by decide +kernel
theorem dX4_restores_10 : decode cX4_restores 10 = .ok (.getfield 7, 3) := by decide +kernel
theorem dX4_restores_13 : decode cX4_restores 13 = .ok (.iload_n 1, 1) := by decide +kernel
theorem dX4_restores_14 : decode cX4_restores 14 = .ok (.aload_n 0, 1) := by decide +kernel
theorem dX4_restores_15 : decode cX4_restores 15 = .ok (.getfield 20, 3) := by decide +kernel
theorem dX4_restores_18 : decode cX4_restores 18 = .ok (.iload_n 1, 1) := by decide +kernel
theorem dX4_restores_19 : decode cX4_restores 19 = .ok (.iaload, 1) := by decide +kernel
theorem dX4_restores_20 : decode cX4_restores 20 = .ok (.iastore, 1) := by decide +kernel
theorem dX4_restores_21 : decode cX4_restores 21 = .ok (.iinc 1 1, 3) := by decide +kernel
theorem dX4_restores_24 : decode cX4_restores 24 = .ok (.goto (-22), 3) := by decide +kernel
theorem dX4_restores_27 : decode cX4_restores 27 = .ok (.return_, 1) := by decide +kernel
theorem dX4_minutesTo_0 : decode cX4_minutesTo 0 = .ok (.iload_n 1, 1) := by decide +kernel
theorem dX4_minutesTo_1 : decode cX4_minutesTo 1 = .ok (.iconst 1, 1) := by decide +kernel
theorem dX4_minutesTo_2 : decode cX4_minutesTo 2 = .ok (.sipush 9999, 3) := by decide +kernel
theorem dX4_minutesTo_5 : decode cX4_minutesTo 5 = .ok (.invokestatic 30, 3) := by decide +kernel
theorem dX4_minutesTo_8 : decode cX4_minutesTo 8 = .ok (.ifCond .ne 5, 3) := by decide +kernel
theorem dX4_minutesTo_11 : decode cX4_minutesTo 11 = .ok (.iconst (-1), 1) := by decide +kernel
theorem dX4_minutesTo_12 : decode cX4_minutesTo 12 = .ok (.ireturn, 1) := by decide +kernel
theorem dX4_minutesTo_13 : decode cX4_minutesTo 13 = .ok (.aload_n 0, 1) := by decide +kernel
theorem dX4_minutesTo_14 : decode cX4_minutesTo 14 = .ok (.getfield 7, 3) := by decide +kernel
theorem dX4_minutesTo_17 : decode cX4_minutesTo 17 = .ok (.bipush 49, 2) := by decide +kernel
theorem dX4_minutesTo_19 : decode cX4_minutesTo 19 = .ok (.iaload, 1) := by decide +kernel
theorem dX4_minutesTo_20 : decode cX4_minutesTo 20 = .ok (.ifCond .ne 6, 3) := by decide +kernel
theorem dX4_minutesTo_23 : decode cX4_minutesTo 23 = .ok (.bipush (-2), 2) := by decide +kernel
theorem dX4_minutesTo_25 : decode cX4_minutesTo 25 = .ok (.ireturn, 1) := by decide +kernel
theorem dX4_minutesTo_26 : decode cX4_minutesTo 26 = .ok (.aload_n 0, 1) := by decide +kernel
theorem dX4_minutesTo_27 : decode cX4_minutesTo 27 = .ok (.invokevirtual 118, 3) := by decide +kernel
theorem dX4_minutesTo_30 : decode cX4_minutesTo 30 = .ok (.bipush (-9), 2) := by decide +kernel
theorem dX4_minutesTo_32 : decode cX4_minutesTo 32 = .ok (.istore_n 2, 1) := by decide +kernel
theorem dX4_minutesTo_33 : decode cX4_minutesTo 33 = .ok (.iconst 1, 1) := by decide +kernel
theorem dX4_minutesTo_34 : decode cX4_minutesTo 34 = .ok (.istore_n 3, 1) := by decide +kernel
theorem dX4_minutesTo_35 : decode cX4_minutesTo 35 = .ok (.iload_n 3, 1) := by decide +kernel
theorem dX4_minutesTo_36 : decode cX4_minutesTo 36 = .ok (.sipush 500, 3) := by decide +kernel
theorem dX4_minutesTo_39 : decode cX4_minutesTo 39 = .ok (.if_icmp .gt 30, 3) := by decide +kernel
theorem dX4_minutesTo_42 : decode cX4_minutesTo 42 = .ok (.iload_n 2, 1) := by decide +kernel
theorem dX4_minutesTo_43 : decode cX4_minutesTo 43 = .ok (.bipush (-9), 2) := by decide +kernel
theorem dX4_minutesTo_45 : decode cX4_minutesTo 45 = .ok (.if_icmp .ne 24, 3) := by decide +kernel
theorem dX4_minutesTo_48 : decode cX4_minutesTo 48 = .ok (.aload_n 0, 1) := by decide +kernel
theorem dX4_minutesTo_49 : decode cX4_minutesTo 49 = .ok (.invokevirtual 101, 3) := by decide +kernel
theorem dX4_minutesTo_52 : decode cX4_minutesTo 52 = .ok (.iload_n 1, 1) := by decide +kernel
theorem dX4_minutesTo_53 : decode cX4_minutesTo 53 = .ok (.if_icmp .ge 7, 3) := by decide +kernel
theorem dX4_minutesTo_56 : decode cX4_minutesTo 56 = .ok (.iload_n 3, 1) := by decide +kernel
theorem dX4_minutesTo_57 : decode cX4_minutesTo 57 = .ok (.goto 5, 3) := by decide +kernel
theorem dX4_minutesTo_60 : decode cX4_minutesTo 60 = .ok (.bipush (-9), 2) := by decide +kernel
theorem dX4_minutesTo_62 : decode cX4_minutesTo 62 = .ok (.istore_n 2, 1) := by decide +kernel
theorem dX4_minutesTo_63 : decode cX4_minutesTo 63 = .ok (.iinc 3 1, 3) := by decide +kernel
theorem dX4_minutesTo_66 : decode cX4_minutesTo 66 = .ok (.goto (-31), 3) := by decide +kernel
theorem dX4_minutesTo_69 : decode cX4_minutesTo 69 = .ok (.aload_n 0, 1) := by decide +kernel
theorem dX4_minutesTo_70 : decode cX4_minutesTo 70 = .ok (.invokevirtual 121, 3) := by decide +kernel
theorem dX4_minutesTo_73 : decode cX4_minutesTo 73 = .ok (.iload_n 2, 1) := by decide +kernel
theorem dX4_minutesTo_74 : decode cX4_minutesTo 74 = .ok (.ireturn, 1) := by decide +kernel
theorem dX4_dustIn_0 : decode cX4_dustIn 0 = .ok (.iload_n 1, 1) := by decide +kernel
theorem dX4_dustIn_1 : decode cX4_dustIn 1 = .ok (.iconst 1, 1) := by decide +kernel
theorem dX4_dustIn_2 : decode cX4_dustIn 2 = .ok (.sipush 500, 3) := by decide +kernel
theorem dX4_dustIn_5 : decode cX4_dustIn 5 = .ok (.invokestatic 30, 3) := by decide +kernel
theorem dX4_dustIn_8 : decode cX4_dustIn 8 = .ok (.ifCond .ne 5, 3) := by decide +kernel
theorem dX4_dustIn_11 : decode cX4_dustIn 11 = .ok (.iconst (-1), 1) := by decide +kernel
theorem dX4_dustIn_12 : decode cX4_dustIn 12 = .ok (.ireturn, 1) := by decide +kernel
theorem dX4_dustIn_13 : decode cX4_dustIn 13 = .ok (.aload_n 0, 1) := by decide +kernel
theorem dX4_dustIn_14 : decode cX4_dustIn 14 = .ok (.getfield 7, 3) := by decide +kernel
theorem dX4_dustIn_17 : decode cX4_dustIn 17 = .ok (.bipush 49, 2) := by decide +kernel
theorem dX4_dustIn_19 : decode cX4_dustIn 19 = .ok (.iaload, 1) := by decide +kernel
theorem dX4_dustIn_20 : decode cX4_dustIn 20 = .ok (.ifCond .ne 6, 3) := by decide +kernel
theorem dX4_dustIn_23 : decode cX4_dustIn 23 = .ok (.bipush (-2), 2) := by decide +kernel
theorem dX4_dustIn_25 : decode cX4_dustIn 25 = .ok (.ireturn, 1) := by decide +kernel
theorem dX4_dustIn_26 : decode cX4_dustIn 26 = .ok (.aload_n 0, 1) := by decide +kernel
theorem dX4_dustIn_27 : decode cX4_dustIn 27 = .ok (.invokevirtual 118, 3) := by decide +kernel
theorem dX4_dustIn_30 : decode cX4_dustIn 30 = .ok (.aload_n 0, 1) := by decide +kernel
theorem dX4_dustIn_31 : decode cX4_dustIn 31 = .ok (.invokevirtual 104, 3) := by decide +kernel
theorem dX4_dustIn_34 : decode cX4_dustIn 34 = .ok (.istore_n 2, 1) := by decide +kernel
theorem dX4_dustIn_35 : decode cX4_dustIn 35 = .ok (.iconst 0, 1) := by decide +kernel
theorem dX4_dustIn_36 : decode cX4_dustIn 36 = .ok (.istore_n 3, 1) := by decide +kernel
theorem dX4_dustIn_37 : decode cX4_dustIn 37 = .ok (.iconst 0, 1) := by decide +kernel
theorem dX4_dustIn_38 : decode cX4_dustIn 38 = .ok (.istore 4, 2) := by decide +kernel
theorem dX4_dustIn_40 : decode cX4_dustIn 40 = .ok (.iload 4, 2) := by decide +kernel
theorem dX4_dustIn_42 : decode cX4_dustIn 42 = .ok (.iload_n 1, 1) := by decide +kernel
theorem dX4_dustIn_43 : decode cX4_dustIn 43 = .ok (.if_icmp .ge 16, 3) := by decide +kernel
theorem dX4_dustIn_46 : decode cX4_dustIn 46 = .ok (.iload_n 3, 1) := by decide +kernel
theorem dX4_dustIn_47 : decode cX4_dustIn 47 = .ok (.aload_n 0, 1) := by decide +kernel
theorem dX4_dustIn_48 : decode cX4_dustIn 48 = .ok (.invokevirtual 101, 3) := by decide +kernel
theorem dX4_dustIn_51 : decode cX4_dustIn 51 = .ok (.iadd, 1) := by decide +kernel
theorem dX4_dustIn_52 : decode cX4_dustIn 52 = .ok (.istore_n 3, 1) := by decide +kernel
theorem dX4_dustIn_53 : decode cX4_dustIn 53 = .ok (.iinc 4 1, 3) := by decide +kernel
theorem dX4_dustIn_56 : decode cX4_dustIn 56 = .ok (.goto (-16), 3) := by decide +kernel
theorem dX4_dustIn_59 : decode cX4_dustIn 59 = .ok (.aload_n 0, 1) := by decide +kernel
theorem dX4_dustIn_60 : decode cX4_dustIn 60 = .ok (.invokevirtual 104, 3) := by decide +kernel
theorem dX4_dustIn_63 : decode cX4_dustIn 63 = .ok (.iload_n 2, 1) := by decide +kernel
theorem dX4_dustIn_64 : decode cX4_dustIn 64 = .ok (.isub, 1) := by decide +kernel
theorem dX4_dustIn_65 : decode cX4_dustIn 65 = .ok (.istore 4, 2) := by decide +kernel
theorem dX4_dustIn_67 : decode cX4_dustIn 67 = .ok (.aload_n 0, 1) := by decide +kernel
theorem dX4_dustIn_68 : decode cX4_dustIn 68 = .ok (.invokevirtual 121, 3) := by decide +kernel
theorem dX4_dustIn_71 : decode cX4_dustIn 71 = .ok (.iload_n 3, 1) := by decide +kernel
theorem dX4_dustIn_72 : decode cX4_dustIn 72 = .ok (.ifCond .ge 7, 3) := by decide +kernel
theorem dX4_dustIn_75 : decode cX4_dustIn 75 = .ok (.iload_n 3, 1) := by decide +kernel
theorem dX4_dustIn_76 : decode cX4_dustIn 76 = .ok (.goto 5, 3) := by decide +kernel
theorem dX4_dustIn_79 : decode cX4_dustIn 79 = .ok (.iload 4, 2) := by decide +kernel
theorem dX4_dustIn_81 : decode cX4_dustIn 81 = .ok (.ireturn, 1) := by decide +kernel
theorem dL_law_0 : decode cL_law 0 = .ok (.new 7, 3) := by decide +kernel
theorem dL_law_3 : decode cL_law 3 = .ok (.dup, 1) := by decide +kernel
theorem dL_law_4 : decode cL_law 4 = .ok (.invokespecial 9, 3) := by decide +kernel
theorem dL_law_7 : decode cL_law 7 = .ok (.astore_n 1, 1) := by decide +kernel
theorem dL_law_8 : decode cL_law 8 = .ok (.new 10, 3) := by decide +kernel
theorem dL_law_11 : decode cL_law 11 = .ok (.dup, 1) := by decide +kernel
theorem dL_law_12 : decode cL_law 12 = .ok (.invokespecial 12, 3) := by decide +kernel
theorem dL_law_15 : decode cL_law 15 = .ok (.astore_n 2, 1) := by decide +kernel
theorem dL_law_16 : decode cL_law 16 = .ok (.iconst 0, 1) := by decide +kernel
theorem dL_law_17 : decode cL_law 17 = .ok (.istore_n 3, 1) := by decide +kernel
theorem dL_law_18 : decode cL_law 18 = .ok (.iload_n 3, 1) := by decide +kernel
theorem dL_law_19 : decode cL_law 19 = .ok (.aload_n 0, 1) := by decide +kernel
theorem dL_law_20 : decode cL_law 20 = .ok (.arraylength, 1) := by decide +kernel
theorem dL_law_21 : decode cL_law 21 = .ok (.iconst 5, 1) := by decide +kernel
theorem dL_law_22 : decode cL_law 22 = .ok (.isub, 1) := by decide +kernel
theorem dL_law_23 : decode cL_law 23 = .ok (.if_icmp .gt 814, 3) := by decide +kernel
theorem dL_law_26 : decode cL_law 26 = .ok (.aload_n 0, 1) := by decide +kernel
theorem dL_law_27 : decode cL_law 27 = .ok (.iload_n 3, 1) := by decide +kernel
theorem dL_law_28 : decode cL_law 28 = .ok (.iaload, 1) := by decide +kernel
theorem dL_law_29 : decode cL_law 29 = .ok (.bipush 31, 2) := by decide +kernel
theorem dL_law_31 : decode cL_law 31 = .ok (.iand, 1) := by decide +kernel
theorem dL_law_32 : decode cL_law 32 = .ok (.tableswitch 799 0 28 #[132, 165, 188, 211, 234, 257, 270, 293, 306, 319, 342, 365, 418, 461, 484, 517, 550, 563, 586, 609, 642, 655, 668, 691, 704, 717, 740, 763, 786], 132) := by decide +kernel
theorem dL_law_164 : decode cL_law 164 = .ok (.aload_n 1, 1) := by decide +kernel
theorem dL_law_165 : decode cL_law 165 = .ok (.aload_n 0, 1) := by decide +kernel
theorem dL_law_166 : decode cL_law 166 = .ok (.iload_n 3, 1) := by decide +kernel
theorem dL_law_167 : decode cL_law 167 = .ok (.iconst 1, 1) := by decide +kernel
theorem dL_law_168 : decode cL_law 168 = .ok (.iadd, 1) := by decide +kernel
theorem dL_law_169 : decode cL_law 169 = .ok (.iaload, 1) := by decide +kernel
theorem dL_law_170 : decode cL_law 170 = .ok (.aload_n 0, 1) := by decide +kernel
theorem dL_law_171 : decode cL_law 171 = .ok (.iload_n 3, 1) := by decide +kernel
theorem dL_law_172 : decode cL_law 172 = .ok (.iconst 2, 1) := by decide +kernel
theorem dL_law_173 : decode cL_law 173 = .ok (.iadd, 1) := by decide +kernel
theorem dL_law_174 : decode cL_law 174 = .ok (.iaload, 1) := by decide +kernel
theorem dL_law_175 : decode cL_law 175 = .ok (.invokevirtual 13, 3) := by decide +kernel
theorem dL_law_178 : decode cL_law 178 = .ok (.aload_n 2, 1) := by decide +kernel
theorem dL_law_179 : decode cL_law 179 = .ok (.aload_n 0, 1) := by decide +kernel
theorem dL_law_180 : decode cL_law 180 = .ok (.iload_n 3, 1) := by decide +kernel
theorem dL_law_181 : decode cL_law 181 = .ok (.iconst 1, 1) := by decide +kernel
theorem dL_law_182 : decode cL_law 182 = .ok (.iadd, 1) := by decide +kernel
theorem dL_law_183 : decode cL_law 183 = .ok (.iaload, 1) := by decide +kernel
theorem dL_law_184 : decode cL_law 184 = .ok (.aload_n 0, 1) := by decide +kernel
theorem dL_law_185 : decode cL_law 185 = .ok (.iload_n 3, 1) := by decide +kernel
theorem dL_law_186 : decode cL_law 186 = .ok (.iconst 2, 1) := by decide +kernel
theorem dL_law_187 : decode cL_law 187 = .ok (.iadd, 1) := by decide +kernel
theorem dL_law_188 : decode cL_law 188 = .ok (.iaload, 1) := by decide +kernel
theorem dL_law_189 : decode cL_law 189 = .ok (.invokevirtual 17, 3) := by decide +kernel
theorem dL_law_192 : decode cL_law 192 = .ok (.if_icmp .eq 639, 3) := by decide +kernel
theorem dL_law_195 : decode cL_law 195 = .ok (.iconst 0, 1) := by decide +kernel
theorem dL_law_196 : decode cL_law 196 = .ok (.ireturn, 1) := by decide +kernel
theorem dL_law_197 : decode cL_law 197 = .ok (.aload_n 1, 1) := by decide +kernel
theorem dL_law_198 : decode cL_law 198 = .ok (.aload_n 0, 1) := by decide +kernel
theorem dL_law_199 : decode cL_law 199 = .ok (.iload_n 3, 1) := by decide +kernel
theorem dL_law_200 : decode cL_law 200 = .ok (.iconst 1, 1) := by decide +kernel
theorem dL_law_201 : decode cL_law 201 = .ok (.iadd, 1) := by decide +kernel
theorem dL_law_202 : decode cL_law 202 = .ok (.iaload, 1) := by decide +kernel
theorem dL_law_203 : decode cL_law 203 = .ok (.invokevirtual 18, 3) := by decide +kernel
theorem dL_law_206 : decode cL_law 206 = .ok (.aload_n 2, 1) := by decide +kernel
theorem dL_law_207 : decode cL_law 207 = .ok (.aload_n 0, 1) := by decide +kernel
theorem dL_law_208 : decode cL_law 208 = .ok (.iload_n 3, 1) := by decide +kernel
theorem dL_law_209 : decode cL_law 209 = .ok (.iconst 1, 1) := by decide +kernel
theorem dL_law_210 : decode cL_law 210 = .ok (.iadd, 1) := by decide +kernel
theorem dL_law_211 : decode cL_law 211 = .ok (.iaload, 1) := by decide +kernel
theorem dL_law_212 : decode cL_law 212 = .ok (.invokevirtual 22, 3) := by decide +kernel
theorem dL_law_215 : decode cL_law 215 = .ok (.if_icmp .eq 616, 3) := by decide +kernel
theorem dL_law_218 : decode cL_law 218 = .ok (.iconst 0, 1) := by decide +kernel
theorem dL_law_219 : decode cL_law 219 = .ok (.ireturn, 1) := by decide +kernel
theorem dL_law_220 : decode cL_law 220 = .ok (.aload_n 1, 1) := by decide +kernel
theorem dL_law_221 : decode cL_law 221 = .ok (.aload_n 0, 1) := by decide +kernel
theorem dL_law_222 : decode cL_law 222 = .ok (.iload_n 3, 1) := by decide +kernel
theorem dL_law_223 : decode cL_law 223 = .ok (.iconst 1, 1) := by decide +kernel
theorem dL_law_224 : decode cL_law 224 = .ok (.iadd, 1) := by decide +kernel
theorem dL_law_225 : decode cL_law 225 = .ok (.iaload, 1) := by decide +kernel
theorem dL_law_226 : decode cL_law 226 = .ok (.invokevirtual 23, 3) := by decide +kernel
theorem dL_law_229 : decode cL_law 229 = .ok (.aload_n 2, 1) := by decide +kernel
theorem dL_law_230 : decode cL_law 230 = .ok (.aload_n 0, 1) := by decide +kernel
theorem dL_law_231 : decode cL_law 231 = .ok (.iload_n 3, 1) := by decide +kernel
theorem dL_law_232 : decode cL_law 232 = .ok (.iconst 1, 1) := by decide +kernel
theorem dL_law_233 : decode cL_law 233 = .ok (.iadd, 1) := by decide +kernel
theorem dL_law_234 : decode cL_law 234 = .ok (.iaload, 1) := by decide +kernel
theorem dL_law_235 : decode cL_law 235 = .ok (.invokevirtual 26, 3) := by decide +kernel
theorem dL_law_238 : decode cL_law 238 = .ok (.if_icmp .eq 593, 3) := by decide +kernel
theorem dL_law_241 : decode cL_law 241 = .ok (.iconst 0, 1) := by decide +kernel
theorem dL_law_242 : decode cL_law 242 = .ok (.ireturn, 1) := by decide +kernel
theorem dL_law_243 : decode cL_law 243 = .ok (.aload_n 1, 1) := by decide +kernel
theorem dL_law_244 : decode cL_law 244 = .ok (.aload_n 0, 1) := by decide +kernel
theorem dL_law_245 : decode cL_law 245 = .ok (.iload_n 3, 1) := by decide +kernel
theorem dL_law_246 : decode cL_law 246 = .ok (.iconst 1, 1) := by decide +kernel
theorem dL_law_247 : decode cL_law 247 = .ok (.iadd, 1) := by decide +kernel
theorem dL_law_248 : decode cL_law 248 = .ok (.iaload, 1) := by decide +kernel
theorem dL_law_249 : decode cL_law 249 = .ok (.invokevirtual 27, 3) := by decide +kernel
theorem dL_law_252 : decode cL_law 252 = .ok (.aload_n 2, 1) := by decide +kernel
theorem dL_law_253 : decode cL_law 253 = .ok (.aload_n 0, 1) := by decide +kernel
theorem dL_law_254 : decode cL_law 254 = .ok (.iload_n 3, 1) := by decide +kernel
theorem dL_law_255 : decode cL_law 255 = .ok (.iconst 1, 1) := by decide +kernel
theorem dL_law_256 : decode cL_law 256 = .ok (.iadd, 1) := by decide +kernel
theorem dL_law_257 : decode cL_law 257 = .ok (.iaload, 1) := by decide +kernel
theorem dL_law_258 : decode cL_law 258 = .ok (.invokevirtual 30, 3) := by decide +kernel
theorem dL_law_261 : decode cL_law 261 = .ok (.if_icmp .eq 570, 3) := by decide +kernel
theorem dL_law_264 : decode cL_law 264 = .ok (.iconst 0, 1) := by decide +kernel
theorem dL_law_265 : decode cL_law 265 = .ok (.ireturn, 1) := by decide +kernel
theorem dL_law_266 : decode cL_law 266 = .ok (.aload_n 1, 1) := by decide +kernel
theorem dL_law_267 : decode cL_law 267 = .ok (.aload_n 0, 1) := by decide +kernel
theorem dL_law_268 : decode cL_law 268 = .ok (.iload_n 3, 1) := by decide +kernel
theorem dL_law_269 : decode cL_law 269 = .ok (.iconst 1, 1) := by decide +kernel
theorem dL_law_270 : decode cL_law 270 = .ok (.iadd, 1) := by decide +kernel
theorem dL_law_271 : decode cL_law 271 = .ok (.iaload, 1) := by decide +kernel
theorem dL_law_272 : decode cL_law 272 = .ok (.invokevirtual 31, 3) := by decide +kernel
theorem dL_law_275 : decode cL_law 275 = .ok (.aload_n 2, 1) := by decide +kernel
theorem dL_law_276 : decode cL_law 276 = .ok (.aload_n 0, 1) := by decide +kernel
theorem dL_law_277 : decode cL_law 277 = .ok (.iload_n 3, 1) := by decide +kernel
theorem dL_law_278 : decode cL_law 278 = .ok (.iconst 1, 1) := by decide +kernel
theorem dL_law_279 : decode cL_law 279 = .ok (.iadd, 1) := by decide +kernel
theorem dL_law_280 : decode cL_law 280 = .ok (.iaload, 1) := by decide +kernel
theorem dL_law_281 : decode cL_law 281 = .ok (.invokevirtual 34, 3) := by decide +kernel
theorem dL_law_284 : decode cL_law 284 = .ok (.if_icmp .eq 547, 3) := by decide +kernel
theorem dL_law_287 : decode cL_law 287 = .ok (.iconst 0, 1) := by decide +kernel
theorem dL_law_288 : decode cL_law 288 = .ok (.ireturn, 1) := by decide +kernel
theorem dL_law_289 : decode cL_law 289 = .ok (.aload_n 1, 1) := by decide +kernel
theorem dL_law_290 : decode cL_law 290 = .ok (.invokevirtual 35, 3) := by decide +kernel
theorem dL_law_293 : decode cL_law 293 = .ok (.aload_n 2, 1) := by decide +kernel
theorem dL_law_294 : decode cL_law 294 = .ok (.invokevirtual 39, 3) := by decide +kernel
theorem dL_law_297 : decode cL_law 297 = .ok (.if_icmp .eq 534, 3) := by decide +kernel
theorem dL_law_300 : decode cL_law 300 = .ok (.iconst 0, 1) := by decide +kernel
theorem dL_law_301 : decode cL_law 301 = .ok (.ireturn, 1) := by decide +kernel
theorem dL_law_302 : decode cL_law 302 = .ok (.aload_n 1, 1) := by decide +kernel
theorem dL_law_303 : decode cL_law 303 = .ok (.aload_n 0, 1) := by decide +kernel
theorem dL_law_304 : decode cL_law 304 = .ok (.iload_n 3, 1) := by decide +kernel
theorem dL_law_305 : decode cL_law 305 = .ok (.iconst 1, 1) := by decide +kernel
theorem dL_law_306 : decode cL_law 306 = .ok (.iadd, 1) := by decide +kernel
theorem dL_law_307 : decode cL_law 307 = .ok (.iaload, 1) := by decide +kernel
theorem dL_law_308 : decode cL_law 308 = .ok (.invokevirtual 40, 3) := by decide +kernel
theorem dL_law_311 : decode cL_law 311 = .ok (.aload_n 2, 1) := by decide +kernel
theorem dL_law_312 : decode cL_law 312 = .ok (.aload_n 0, 1) := by decide +kernel
theorem dL_law_313 : decode cL_law 313 = .ok (.iload_n 3, 1) := by decide +kernel
theorem dL_law_314 : decode cL_law 314 = .ok (.iconst 1, 1) := by decide +kernel
theorem dL_law_315 : decode cL_law 315 = .ok (.iadd, 1) := by decide +kernel
theorem dL_law_316 : decode cL_law 316 = .ok (.iaload, 1) := by decide +kernel
theorem dL_law_317 : decode cL_law 317 = .ok (.invokevirtual 43, 3) := by decide +kernel
theorem dL_law_320 : decode cL_law 320 = .ok (.if_icmp .eq 511, 3) := by decide +kernel
theorem dL_law_323 : decode cL_law 323 = .ok (.iconst 0, 1) := by decide +kernel
theorem dL_law_324 : decode cL_law 324 = .ok (.ireturn, 1) := by decide +kernel
theorem dL_law_325 : decode cL_law 325 = .ok (.aload_n 1, 1) := by decide +kernel
theorem dL_law_326 : decode cL_law 326 = .ok (.invokevirtual 44, 3) := by decide +kernel
theorem dL_law_329 : decode cL_law 329 = .ok (.aload_n 2, 1) := by decide +kernel
theorem dL_law_330 : decode cL_law 330 = .ok (.invokevirtual 47, 3) := by decide +kernel
theorem dL_law_333 : decode cL_law 333 = .ok (.if_icmp .eq 498, 3) := by decide +kernel
theorem dL_law_336 : decode cL_law 336 = .ok (.iconst 0, 1) := by decide +kernel
theorem dL_law_337 : decode cL_law 337 = .ok (.ireturn, 1) := by decide +kernel
theorem dL_law_338 : decode cL_law 338 = .ok (.aload_n 1, 1) := by decide +kernel
theorem dL_law_339 : decode cL_law 339 = .ok (.invokevirtual 48, 3) := by decide +kernel
theorem dL_law_342 : decode cL_law 342 = .ok (.aload_n 2, 1) := by decide +kernel
theorem dL_law_343 : decode cL_law 343 = .ok (.invokevirtual 51, 3) := by decide +kernel
theorem dL_law_346 : decode cL_law 346 = .ok (.if_icmp .eq 485, 3) := by decide +kernel
theorem dL_law_349 : decode cL_law 349 = .ok (.iconst 0, 1) := by decide +kernel
theorem dL_law_350 : decode cL_law 350 = .ok (.ireturn, 1) := by decide +kernel
theorem dL_law_351 : decode cL_law 351 = .ok (.aload_n 1, 1) := by decide +kernel
theorem dL_law_352 : decode cL_law 352 = .ok (.aload_n 0, 1) := by decide +kernel
theorem dL_law_353 : decode cL_law 353 = .ok (.iload_n 3, 1) := by decide +kernel
theorem dL_law_354 : decode cL_law 354 = .ok (.iconst 1, 1) := by decide +kernel
theorem dL_law_355 : decode cL_law 355 = .ok (.iadd, 1) := by decide +kernel
theorem dL_law_356 : decode cL_law 356 = .ok (.iaload, 1) := by decide +kernel
theorem dL_law_357 : decode cL_law 357 = .ok (.invokevirtual 52, 3) := by decide +kernel
theorem dL_law_360 : decode cL_law 360 = .ok (.aload_n 2, 1) := by decide +kernel
theorem dL_law_361 : decode cL_law 361 = .ok (.aload_n 0, 1) := by decide +kernel
theorem dL_law_362 : decode cL_law 362 = .ok (.iload_n 3, 1) := by decide +kernel
theorem dL_law_363 : decode cL_law 363 = .ok (.iconst 1, 1) := by decide +kernel
theorem dL_law_364 : decode cL_law 364 = .ok (.iadd, 1) := by decide +kernel
theorem dL_law_365 : decode cL_law 365 = .ok (.iaload, 1) := by decide +kernel
theorem dL_law_366 : decode cL_law 366 = .ok (.invokevirtual 55, 3) := by decide +kernel
theorem dL_law_369 : decode cL_law 369 = .ok (.if_icmp .eq 462, 3) := by decide +kernel
theorem dL_law_372 : decode cL_law 372 = .ok (.iconst 0, 1) := by decide +kernel
theorem dL_law_373 : decode cL_law 373 = .ok (.ireturn, 1) := by decide +kernel
theorem dL_law_374 : decode cL_law 374 = .ok (.aload_n 1, 1) := by decide +kernel
theorem dL_law_375 : decode cL_law 375 = .ok (.aload_n 0, 1) := by decide +kernel
theorem dL_law_376 : decode cL_law 376 = .ok (.iload_n 3, 1) := by decide +kernel
theorem dL_law_377 : decode cL_law 377 = .ok (.iconst 1, 1) := by decide +kernel
theorem dL_law_378 : decode cL_law 378 = .ok (.iadd, 1) := by decide +kernel
theorem dL_law_379 : decode cL_law 379 = .ok (.iaload, 1) := by decide +kernel
theorem dL_law_380 : decode cL_law 380 = .ok (.invokevirtual 56, 3) := by decide +kernel
theorem dL_law_383 : decode cL_law 383 = .ok (.aload_n 2, 1) := by decide +kernel
theorem dL_law_384 : decode cL_law 384 = .ok (.aload_n 0, 1) := by decide +kernel
theorem dL_law_385 : decode cL_law 385 = .ok (.iload_n 3, 1) := by decide +kernel
theorem dL_law_386 : decode cL_law 386 = .ok (.iconst 1, 1) := by decide +kernel
theorem dL_law_387 : decode cL_law 387 = .ok (.iadd, 1) := by decide +kernel
theorem dL_law_388 : decode cL_law 388 = .ok (.iaload, 1) := by decide +kernel
theorem dL_law_389 : decode cL_law 389 = .ok (.invokevirtual 59, 3) := by decide +kernel
theorem dL_law_392 : decode cL_law 392 = .ok (.if_icmp .eq 439, 3) := by decide +kernel
theorem dL_law_395 : decode cL_law 395 = .ok (.iconst 0, 1) := by decide +kernel
theorem dL_law_396 : decode cL_law 396 = .ok (.ireturn, 1) := by decide +kernel
theorem dL_law_397 : decode cL_law 397 = .ok (.aload_n 1, 1) := by decide +kernel
theorem dL_law_398 : decode cL_law 398 = .ok (.aload_n 0, 1) := by decide +kernel
theorem dL_law_399 : decode cL_law 399 = .ok (.iload_n 3, 1) := by decide +kernel
theorem dL_law_400 : decode cL_law 400 = .ok (.iconst 1, 1) := by decide +kernel
theorem dL_law_401 : decode cL_law 401 = .ok (.iadd, 1) := by decide +kernel
theorem dL_law_402 : decode cL_law 402 = .ok (.iaload, 1) := by decide +kernel
theorem dL_law_403 : decode cL_law 403 = .ok (.aload_n 0, 1) := by decide +kernel
theorem dL_law_404 : decode cL_law 404 = .ok (.iload_n 3, 1) := by decide +kernel
theorem dL_law_405 : decode cL_law 405 = .ok (.iconst 2, 1) := by decide +kernel
theorem dL_law_406 : decode cL_law 406 = .ok (.iadd, 1) := by decide +kernel
theorem dL_law_407 : decode cL_law 407 = .ok (.iaload, 1) := by decide +kernel
theorem dL_law_408 : decode cL_law 408 = .ok (.aload_n 0, 1) := by decide +kernel
theorem dL_law_409 : decode cL_law 409 = .ok (.iload_n 3, 1) := by decide +kernel
theorem dL_law_410 : decode cL_law 410 = .ok (.iconst 3, 1) := by decide +kernel
theorem dL_law_411 : decode cL_law 411 = .ok (.iadd, 1) := by decide +kernel
theorem dL_law_412 : decode cL_law 412 = .ok (.iaload, 1) := by decide +kernel
theorem dL_law_413 : decode cL_law 413 = .ok (.aload_n 0, 1) := by decide +kernel
theorem dL_law_414 : decode cL_law 414 = .ok (.iload_n 3, 1) := by decide +kernel
theorem dL_law_415 : decode cL_law 415 = .ok (.iconst 4, 1) := by decide +kernel
theorem dL_law_416 : decode cL_law 416 = .ok (.iadd, 1) := by decide +kernel
theorem dL_law_417 : decode cL_law 417 = .ok (.iaload, 1) := by decide +kernel
theorem dL_law_418 : decode cL_law 418 = .ok (.invokevirtual 60, 3) := by decide +kernel
theorem dL_law_421 : decode cL_law 421 = .ok (.aload_n 2, 1) := by decide +kernel
theorem dL_law_422 : decode cL_law 422 = .ok (.aload_n 0, 1) := by decide +kernel
theorem dL_law_423 : decode cL_law 423 = .ok (.iload_n 3, 1) := by decide +kernel
theorem dL_law_424 : decode cL_law 424 = .ok (.iconst 1, 1) := by decide +kernel
theorem dL_law_425 : decode cL_law 425 = .ok (.iadd, 1) := by decide +kernel
theorem dL_law_426 : decode cL_law 426 = .ok (.iaload, 1) := by decide +kernel
theorem dL_law_427 : decode cL_law 427 = .ok (.aload_n 0, 1) := by decide +kernel
theorem dL_law_428 : decode cL_law 428 = .ok (.iload_n 3, 1) := by decide +kernel
theorem dL_law_429 : decode cL_law 429 = .ok (.iconst 2, 1) := by decide +kernel
theorem dL_law_430 : decode cL_law 430 = .ok (.iadd, 1) := by decide +kernel
theorem dL_law_431 : decode cL_law 431 = .ok (.iaload, 1) := by decide +kernel
theorem dL_law_432 : decode cL_law 432 = .ok (.aload_n 0, 1) := by decide +kernel
theorem dL_law_433 : decode cL_law 433 = .ok (.iload_n 3, 1) := by decide +kernel
theorem dL_law_434 : decode cL_law 434 = .ok (.iconst 3, 1) := by decide +kernel
theorem dL_law_435 : decode cL_law 435 = .ok (.iadd, 1) := by decide +kernel
theorem dL_law_436 : decode cL_law 436 = .ok (.iaload, 1) := by decide +kernel
theorem dL_law_437 : decode cL_law 437 = .ok (.aload_n 0, 1) := by decide +kernel
theorem dL_law_438 : decode cL_law 438 = .ok (.iload_n 3, 1) := by decide +kernel
theorem dL_law_439 : decode cL_law 439 = .ok (.iconst 4, 1) := by decide +kernel
theorem dL_law_440 : decode cL_law 440 = .ok (.iadd, 1) := by decide +kernel
theorem dL_law_441 : decode cL_law 441 = .ok (.iaload, 1) := by decide +kernel
theorem dL_law_442 : decode cL_law 442 = .ok (.invokevirtual 64, 3) := by decide +kernel
theorem dL_law_445 : decode cL_law 445 = .ok (.if_icmp .eq 386, 3) := by decide +kernel
theorem dL_law_448 : decode cL_law 448 = .ok (.iconst 0, 1) := by decide +kernel
theorem dL_law_449 : decode cL_law 449 = .ok (.ireturn, 1) := by decide +kernel
theorem dL_law_450 : decode cL_law 450 = .ok (.aload_n 1, 1) := by decide +kernel
theorem dL_law_451 : decode cL_law 451 = .ok (.aload_n 0, 1) := by decide +kernel
theorem dL_law_452 : decode cL_law 452 = .ok (.iload_n 3, 1) := by decide +kernel
theorem dL_law_453 : decode cL_law 453 = .ok (.iconst 1, 1) := by decide +kernel
theorem dL_law_454 : decode cL_law 454 = .ok (.iadd, 1) := by decide +kernel
theorem dL_law_455 : decode cL_law 455 = .ok (.iaload, 1) := by decide +kernel
theorem dL_law_456 : decode cL_law 456 = .ok (.aload_n 0, 1) := by decide +kernel
theorem dL_law_457 : decode cL_law 457 = .ok (.iload_n 3, 1) := by decide +kernel
theorem dL_law_458 : decode cL_law 458 = .ok (.iconst 2, 1) := by decide +kernel
theorem dL_law_459 : decode cL_law 459 = .ok (.iadd, 1) := by decide +kernel
theorem dL_law_460 : decode cL_law 460 = .ok (.iaload, 1) := by decide +kernel
theorem dL_law_461 : decode cL_law 461 = .ok (.aload_n 0, 1) := by decide +kernel
theorem dL_law_462 : decode cL_law 462 = .ok (.iload_n 3, 1) := by decide +kernel
theorem dL_law_463 : decode cL_law 463 = .ok (.iconst 3, 1) := by decide +kernel
theorem dL_law_464 : decode cL_law 464 = .ok (.iadd, 1) := by decide +kernel
theorem dL_law_465 : decode cL_law 465 = .ok (.iaload, 1) := by decide +kernel
theorem dL_law_466 : decode cL_law 466 = .ok (.invokevirtual 65, 3) := by decide +kernel
theorem dL_law_469 : decode cL_law 469 = .ok (.aload_n 2, 1) := by decide +kernel
theorem dL_law_470 : decode cL_law 470 = .ok (.aload_n 0, 1) := by decide +kernel
theorem dL_law_471 : decode cL_law 471 = .ok (.iload_n 3, 1) := by decide +kernel
theorem dL_law_472 : decode cL_law 472 = .ok (.iconst 1, 1) := by decide +kernel
theorem dL_law_473 : decode cL_law 473 = .ok (.iadd, 1) := by decide +kernel
theorem dL_law_474 : decode cL_law 474 = .ok (.iaload, 1) := by decide +kernel
theorem dL_law_475 : decode cL_law 475 = .ok (.aload_n 0, 1) := by decide +kernel
theorem dL_law_476 : decode cL_law 476 = .ok (.iload_n 3, 1) := by decide +kernel
theorem dL_law_477 : decode cL_law 477 = .ok (.iconst 2, 1) := by decide +kernel
theorem dL_law_478 : decode cL_law 478 = .ok (.iadd, 1) := by decide +kernel
theorem dL_law_479 : decode cL_law 479 = .ok (.iaload, 1) := by decide +kernel
theorem dL_law_480 : decode cL_law 480 = .ok (.aload_n 0, 1) := by decide +kernel
theorem dL_law_481 : decode cL_law 481 = .ok (.iload_n 3, 1) := by decide +kernel
theorem dL_law_482 : decode cL_law 482 = .ok (.iconst 3, 1) := by decide +kernel
theorem dL_law_483 : decode cL_law 483 = .ok (.iadd, 1) := by decide +kernel
theorem dL_law_484 : decode cL_law 484 = .ok (.iaload, 1) := by decide +kernel
theorem dL_law_485 : decode cL_law 485 = .ok (.invokevirtual 69, 3) := by decide +kernel
theorem dL_law_488 : decode cL_law 488 = .ok (.if_icmp .eq 343, 3) := by decide +kernel
theorem dL_law_491 : decode cL_law 491 = .ok (.iconst 0, 1) := by decide +kernel
theorem dL_law_492 : decode cL_law 492 = .ok (.ireturn, 1) := by decide +kernel
theorem dL_law_493 : decode cL_law 493 = .ok (.aload_n 1, 1) := by decide +kernel
theorem dL_law_494 : decode cL_law 494 = .ok (.aload_n 0, 1) := by decide +kernel
theorem dL_law_495 : decode cL_law 495 = .ok (.iload_n 3, 1) := by decide +kernel
theorem dL_law_496 : decode cL_law 496 = .ok (.iconst 1, 1) := by decide +kernel
theorem dL_law_497 : decode cL_law 497 = .ok (.iadd, 1) := by decide +kernel
theorem dL_law_498 : decode cL_law 498 = .ok (.iaload, 1) := by decide +kernel
theorem dL_law_499 : decode cL_law 499 = .ok (.invokevirtual 70, 3) := by decide +kernel
theorem dL_law_502 : decode cL_law 502 = .ok (.aload_n 2, 1) := by decide +kernel
theorem dL_law_503 : decode cL_law 503 = .ok (.aload_n 0, 1) := by decide +kernel
theorem dL_law_504 : decode cL_law 504 = .ok (.iload_n 3, 1) := by decide +kernel
theorem dL_law_505 : decode cL_law 505 = .ok (.iconst 1, 1) := by decide +kernel
theorem dL_law_506 : decode cL_law 506 = .ok (.iadd, 1) := by decide +kernel
theorem dL_law_507 : decode cL_law 507 = .ok (.iaload, 1) := by decide +kernel
theorem dL_law_508 : decode cL_law 508 = .ok (.invokevirtual 73, 3) := by decide +kernel
theorem dL_law_511 : decode cL_law 511 = .ok (.if_icmp .eq 320, 3) := by decide +kernel
theorem dL_law_514 : decode cL_law 514 = .ok (.iconst 0, 1) := by decide +kernel
theorem dL_law_515 : decode cL_law 515 = .ok (.ireturn, 1) := by decide +kernel
theorem dL_law_516 : decode cL_law 516 = .ok (.aload_n 1, 1) := by decide +kernel
theorem dL_law_517 : decode cL_law 517 = .ok (.aload_n 0, 1) := by decide +kernel
theorem dL_law_518 : decode cL_law 518 = .ok (.iload_n 3, 1) := by decide +kernel
theorem dL_law_519 : decode cL_law 519 = .ok (.iconst 1, 1) := by decide +kernel
theorem dL_law_520 : decode cL_law 520 = .ok (.iadd, 1) := by decide +kernel
theorem dL_law_521 : decode cL_law 521 = .ok (.iaload, 1) := by decide +kernel
theorem dL_law_522 : decode cL_law 522 = .ok (.aload_n 0, 1) := by decide +kernel
theorem dL_law_523 : decode cL_law 523 = .ok (.iload_n 3, 1) := by decide +kernel
theorem dL_law_524 : decode cL_law 524 = .ok (.iconst 2, 1) := by decide +kernel
theorem dL_law_525 : decode cL_law 525 = .ok (.iadd, 1) := by decide +kernel
theorem dL_law_526 : decode cL_law 526 = .ok (.iaload, 1) := by decide +kernel
theorem dL_law_527 : decode cL_law 527 = .ok (.invokevirtual 74, 3) := by decide +kernel
theorem dL_law_530 : decode cL_law 530 = .ok (.aload_n 2, 1) := by decide +kernel
theorem dL_law_531 : decode cL_law 531 = .ok (.aload_n 0, 1) := by decide +kernel
theorem dL_law_532 : decode cL_law 532 = .ok (.iload_n 3, 1) := by decide +kernel
theorem dL_law_533 : decode cL_law 533 = .ok (.iconst 1, 1) := by decide +kernel
theorem dL_law_534 : decode cL_law 534 = .ok (.iadd, 1) := by decide +kernel
theorem dL_law_535 : decode cL_law 535 = .ok (.iaload, 1) := by decide +kernel
theorem dL_law_536 : decode cL_law 536 = .ok (.aload_n 0, 1) := by decide +kernel
theorem dL_law_537 : decode cL_law 537 = .ok (.iload_n 3, 1) := by decide +kernel
theorem dL_law_538 : decode cL_law 538 = .ok (.iconst 2, 1) := by decide +kernel
theorem dL_law_539 : decode cL_law 539 = .ok (.iadd, 1) := by decide +kernel
theorem dL_law_540 : decode cL_law 540 = .ok (.iaload, 1) := by decide +kernel
theorem dL_law_541 : decode cL_law 541 = .ok (.invokevirtual 77, 3) := by decide +kernel
theorem dL_law_544 : decode cL_law 544 = .ok (.if_icmp .eq 287, 3) := by decide +kernel
theorem dL_law_547 : decode cL_law 547 = .ok (.iconst 0, 1) := by decide +kernel
theorem dL_law_548 : decode cL_law 548 = .ok (.ireturn, 1) := by decide +kernel
theorem dL_law_549 : decode cL_law 549 = .ok (.aload_n 1, 1) := by decide +kernel
theorem dL_law_550 : decode cL_law 550 = .ok (.aload_n 0, 1) := by decide +kernel
theorem dL_law_551 : decode cL_law 551 = .ok (.iload_n 3, 1) := by decide +kernel
theorem dL_law_552 : decode cL_law 552 = .ok (.iconst 1, 1) := by decide +kernel
theorem dL_law_553 : decode cL_law 553 = .ok (.iadd, 1) := by decide +kernel
theorem dL_law_554 : decode cL_law 554 = .ok (.iaload, 1) := by decide +kernel
theorem dL_law_555 : decode cL_law 555 = .ok (.aload_n 0, 1) := by decide +kernel
theorem dL_law_556 : decode cL_law 556 = .ok (.iload_n 3, 1) := by decide +kernel
theorem dL_law_557 : decode cL_law 557 = .ok (.iconst 2, 1) := by decide +kernel
theorem dL_law_558 : decode cL_law 558 = .ok (.iadd, 1) := by decide +kernel
theorem dL_law_559 : decode cL_law 559 = .ok (.iaload, 1) := by decide +kernel
theorem dL_law_560 : decode cL_law 560 = .ok (.invokevirtual 78, 3) := by decide +kernel
theorem dL_law_563 : decode cL_law 563 = .ok (.aload_n 2, 1) := by decide +kernel
theorem dL_law_564 : decode cL_law 564 = .ok (.aload_n 0, 1) := by decide +kernel
theorem dL_law_565 : decode cL_law 565 = .ok (.iload_n 3, 1) := by decide +kernel
theorem dL_law_566 : decode cL_law 566 = .ok (.iconst 1, 1) := by decide +kernel
theorem dL_law_567 : decode cL_law 567 = .ok (.iadd, 1) := by decide +kernel
theorem dL_law_568 : decode cL_law 568 = .ok (.iaload, 1) := by decide +kernel
theorem dL_law_569 : decode cL_law 569 = .ok (.aload_n 0, 1) := by decide +kernel
theorem dL_law_570 : decode cL_law 570 = .ok (.iload_n 3, 1) := by decide +kernel
theorem dL_law_571 : decode cL_law 571 = .ok (.iconst 2, 1) := by decide +kernel
theorem dL_law_572 : decode cL_law 572 = .ok (.iadd, 1) := by decide +kernel
theorem dL_law_573 : decode cL_law 573 = .ok (.iaload, 1) := by decide +kernel
theorem dL_law_574 : decode cL_law 574 = .ok (.invokevirtual 81, 3) := by decide +kernel
theorem dL_law_577 : decode cL_law 577 = .ok (.if_icmp .eq 254, 3) := by decide +kernel
theorem dL_law_580 : decode cL_law 580 = .ok (.iconst 0, 1) := by decide +kernel
theorem dL_law_581 : decode cL_law 581 = .ok (.ireturn, 1) := by decide +kernel
theorem dL_law_582 : decode cL_law 582 = .ok (.aload_n 1, 1) := by decide +kernel
theorem dL_law_583 : decode cL_law 583 = .ok (.invokevirtual 82, 3) := by decide +kernel
theorem dL_law_586 : decode cL_law 586 = .ok (.aload_n 2, 1) := by decide +kernel
theorem dL_law_587 : decode cL_law 587 = .ok (.invokevirtual 85, 3) := by decide +kernel
theorem dL_law_590 : decode cL_law 590 = .ok (.if_icmp .eq 241, 3) := by decide +kernel
theorem dL_law_593 : decode cL_law 593 = .ok (.iconst 0, 1) := by decide +kernel
theorem dL_law_594 : decode cL_law 594 = .ok (.ireturn, 1) := by decide +kernel
theorem dL_law_595 : decode cL_law 595 = .ok (.aload_n 1, 1) := by decide +kernel
theorem dL_law_596 : decode cL_law 596 = .ok (.aload_n 0, 1) := by decide +kernel
theorem dL_law_597 : decode cL_law 597 = .ok (.iload_n 3, 1) := by decide +kernel
theorem dL_law_598 : decode cL_law 598 = .ok (.iconst 1, 1) := by decide +kernel
theorem dL_law_599 : decode cL_law 599 = .ok (.iadd, 1) := by decide +kernel
theorem dL_law_600 : decode cL_law 600 = .ok (.iaload, 1) := by decide +kernel
theorem dL_law_601 : decode cL_law 601 = .ok (.invokevirtual 86, 3) := by decide +kernel
theorem dL_law_604 : decode cL_law 604 = .ok (.aload_n 2, 1) := by decide +kernel
theorem dL_law_605 : decode cL_law 605 = .ok (.aload_n 0, 1) := by decide +kernel
theorem dL_law_606 : decode cL_law 606 = .ok (.iload_n 3, 1) := by decide +kernel
theorem dL_law_607 : decode cL_law 607 = .ok (.iconst 1, 1) := by decide +kernel
theorem dL_law_608 : decode cL_law 608 = .ok (.iadd, 1) := by decide +kernel
theorem dL_law_609 : decode cL_law 609 = .ok (.iaload, 1) := by decide +kernel
theorem dL_law_610 : decode cL_law 610 = .ok (.invokevirtual 89, 3) := by decide +kernel
theorem dL_law_613 : decode cL_law 613 = .ok (.if_icmp .eq 218, 3) := by decide +kernel
theorem dL_law_616 : decode cL_law 616 = .ok (.iconst 0, 1) := by decide +kernel
theorem dL_law_617 : decode cL_law 617 = .ok (.ireturn, 1) := by decide +kernel
theorem dL_law_618 : decode cL_law 618 = .ok (.aload_n 1, 1) := by decide +kernel
theorem dL_law_619 : decode cL_law 619 = .ok (.aload_n 0, 1) := by decide +kernel
theorem dL_law_620 : decode cL_law 620 = .ok (.iload_n 3, 1) := by decide +kernel
theorem dL_law_621 : decode cL_law 621 = .ok (.iconst 1, 1) := by decide +kernel
theorem dL_law_622 : decode cL_law 622 = .ok (.iadd, 1) := by decide +kernel
theorem dL_law_623 : decode cL_law 623 = .ok (.iaload, 1) := by decide +kernel
theorem dL_law_624 : decode cL_law 624 = .ok (.invokevirtual 90, 3) := by decide +kernel
theorem dL_law_627 : decode cL_law 627 = .ok (.aload_n 2, 1) := by decide +kernel
theorem dL_law_628 : decode cL_law 628 = .ok (.aload_n 0, 1) := by decide +kernel
theorem dL_law_629 : decode cL_law 629 = .ok (.iload_n 3, 1) := by decide +kernel
theorem dL_law_630 : decode cL_law 630 = .ok (.iconst 1, 1) := by decide +kernel
theorem dL_law_631 : decode cL_law 631 = .ok (.iadd, 1) := by decide +kernel
theorem dL_law_632 : decode cL_law 632 = .ok (.iaload, 1) := by decide +kernel
theorem dL_law_633 : decode cL_law 633 = .ok (.invokevirtual 93, 3) := by decide +kernel
theorem dL_law_636 : decode cL_law 636 = .ok (.if_icmp .eq 195, 3) := by decide +kernel
theorem dL_law_639 : decode cL_law 639 = .ok (.iconst 0, 1) := by decide +kernel
theorem dL_law_640 : decode cL_law 640 = .ok (.ireturn, 1) := by decide +kernel
theorem dL_law_641 : decode cL_law 641 = .ok (.aload_n 1, 1) := by decide +kernel
theorem dL_law_642 : decode cL_law 642 = .ok (.aload_n 0, 1) := by decide +kernel
theorem dL_law_643 : decode cL_law 643 = .ok (.iload_n 3, 1) := by decide +kernel
theorem dL_law_644 : decode cL_law 644 = .ok (.iconst 1, 1) := by decide +kernel
theorem dL_law_645 : decode cL_law 645 = .ok (.iadd, 1) := by decide +kernel
theorem dL_law_646 : decode cL_law 646 = .ok (.iaload, 1) := by decide +kernel
theorem dL_law_647 : decode cL_law 647 = .ok (.aload_n 0, 1) := by decide +kernel
theorem dL_law_648 : decode cL_law 648 = .ok (.iload_n 3, 1) := by decide +kernel
theorem dL_law_649 : decode cL_law 649 = .ok (.iconst 2, 1) := by decide +kernel
theorem dL_law_650 : decode cL_law 650 = .ok (.iadd, 1) := by decide +kernel
theorem dL_law_651 : decode cL_law 651 = .ok (.iaload, 1) := by decide +kernel
theorem dL_law_652 : decode cL_law 652 = .ok (.invokevirtual 94, 3) := by decide +kernel
theorem dL_law_655 : decode cL_law 655 = .ok (.aload_n 2, 1) := by decide +kernel
theorem dL_law_656 : decode cL_law 656 = .ok (.aload_n 0, 1) := by decide +kernel
theorem dL_law_657 : decode cL_law 657 = .ok (.iload_n 3, 1) := by decide +kernel
theorem dL_law_658 : decode cL_law 658 = .ok (.iconst 1, 1) := by decide +kernel
theorem dL_law_659 : decode cL_law 659 = .ok (.iadd, 1) := by decide +kernel
theorem dL_law_660 : decode cL_law 660 = .ok (.iaload, 1) := by decide +kernel
theorem dL_law_661 : decode cL_law 661 = .ok (.aload_n 0, 1) := by decide +kernel
theorem dL_law_662 : decode cL_law 662 = .ok (.iload_n 3, 1) := by decide +kernel
theorem dL_law_663 : decode cL_law 663 = .ok (.iconst 2, 1) := by decide +kernel
theorem dL_law_664 : decode cL_law 664 = .ok (.iadd, 1) := by decide +kernel
theorem dL_law_665 : decode cL_law 665 = .ok (.iaload, 1) := by decide +kernel
theorem dL_law_666 : decode cL_law 666 = .ok (.invokevirtual 97, 3) := by decide +kernel
theorem dL_law_669 : decode cL_law 669 = .ok (.if_icmp .eq 162, 3) := by decide +kernel
theorem dL_law_672 : decode cL_law 672 = .ok (.iconst 0, 1) := by decide +kernel
theorem dL_law_673 : decode cL_law 673 = .ok (.ireturn, 1) := by decide +kernel
theorem dL_law_674 : decode cL_law 674 = .ok (.aload_n 1, 1) := by decide +kernel
theorem dL_law_675 : decode cL_law 675 = .ok (.invokevirtual 98, 3) := by decide +kernel
theorem dL_law_678 : decode cL_law 678 = .ok (.aload_n 2, 1) := by decide +kernel
theorem dL_law_679 : decode cL_law 679 = .ok (.invokevirtual 101, 3) := by decide +kernel
theorem dL_law_682 : decode cL_law 682 = .ok (.if_icmp .eq 149, 3) := by decide +kernel
theorem dL_law_685 : decode cL_law 685 = .ok (.iconst 0, 1) := by decide +kernel
theorem dL_law_686 : decode cL_law 686 = .ok (.ireturn, 1) := by decide +kernel
theorem dL_law_687 : decode cL_law 687 = .ok (.aload_n 1, 1) := by decide +kernel
theorem dL_law_688 : decode cL_law 688 = .ok (.invokevirtual 102, 3) := by decide +kernel
theorem dL_law_691 : decode cL_law 691 = .ok (.aload_n 2, 1) := by decide +kernel
theorem dL_law_692 : decode cL_law 692 = .ok (.invokevirtual 105, 3) := by decide +kernel
theorem dL_law_695 : decode cL_law 695 = .ok (.if_icmp .eq 136, 3) := by decide +kernel
theorem dL_law_698 : decode cL_law 698 = .ok (.iconst 0, 1) := by decide +kernel
theorem dL_law_699 : decode cL_law 699 = .ok (.ireturn, 1) := by decide +kernel
theorem dL_law_700 : decode cL_law 700 = .ok (.aload_n 1, 1) := by decide +kernel
theorem dL_law_701 : decode cL_law 701 = .ok (.aload_n 0, 1) := by decide +kernel
theorem dL_law_702 : decode cL_law 702 = .ok (.iload_n 3, 1) := by decide +kernel
theorem dL_law_703 : decode cL_law 703 = .ok (.iconst 1, 1) := by decide +kernel
theorem dL_law_704 : decode cL_law 704 = .ok (.iadd, 1) := by decide +kernel
theorem dL_law_705 : decode cL_law 705 = .ok (.iaload, 1) := by decide +kernel
theorem dL_law_706 : decode cL_law 706 = .ok (.invokevirtual 106, 3) := by decide +kernel
theorem dL_law_709 : decode cL_law 709 = .ok (.aload_n 2, 1) := by decide +kernel
theorem dL_law_710 : decode cL_law 710 = .ok (.aload_n 0, 1) := by decide +kernel
theorem dL_law_711 : decode cL_law 711 = .ok (.iload_n 3, 1) := by decide +kernel
theorem dL_law_712 : decode cL_law 712 = .ok (.iconst 1, 1) := by decide +kernel
theorem dL_law_713 : decode cL_law 713 = .ok (.iadd, 1) := by decide +kernel
theorem dL_law_714 : decode cL_law 714 = .ok (.iaload, 1) := by decide +kernel
theorem dL_law_715 : decode cL_law 715 = .ok (.invokevirtual 109, 3) := by decide +kernel
theorem dL_law_718 : decode cL_law 718 = .ok (.if_icmp .eq 113, 3) := by decide +kernel
theorem dL_law_721 : decode cL_law 721 = .ok (.iconst 0, 1) := by decide +kernel
theorem dL_law_722 : decode cL_law 722 = .ok (.ireturn, 1) := by decide +kernel
theorem dL_law_723 : decode cL_law 723 = .ok (.aload_n 1, 1) := by decide +kernel
theorem dL_law_724 : decode cL_law 724 = .ok (.invokevirtual 110, 3) := by decide +kernel
theorem dL_law_727 : decode cL_law 727 = .ok (.aload_n 2, 1) := by decide +kernel
theorem dL_law_728 : decode cL_law 728 = .ok (.invokevirtual 113, 3) := by decide +kernel
theorem dL_law_731 : decode cL_law 731 = .ok (.if_icmp .eq 100, 3) := by decide +kernel
theorem dL_law_734 : decode cL_law 734 = .ok (.iconst 0, 1) := by decide +kernel
theorem dL_law_735 : decode cL_law 735 = .ok (.ireturn, 1) := by decide +kernel
theorem dL_law_736 : decode cL_law 736 = .ok (.aload_n 1, 1) := by decide +kernel
theorem dL_law_737 : decode cL_law 737 = .ok (.invokevirtual 114, 3) := by decide +kernel
theorem dL_law_740 : decode cL_law 740 = .ok (.aload_n 2, 1) := by decide +kernel
theorem dL_law_741 : decode cL_law 741 = .ok (.invokevirtual 117, 3) := by decide +kernel
theorem dL_law_744 : decode cL_law 744 = .ok (.if_icmp .eq 87, 3) := by decide +kernel
theorem dL_law_747 : decode cL_law 747 = .ok (.iconst 0, 1) := by decide +kernel
theorem dL_law_748 : decode cL_law 748 = .ok (.ireturn, 1) := by decide +kernel
theorem dL_law_749 : decode cL_law 749 = .ok (.aload_n 1, 1) := by decide +kernel
theorem dL_law_750 : decode cL_law 750 = .ok (.aload_n 0, 1) := by decide +kernel
theorem dL_law_751 : decode cL_law 751 = .ok (.iload_n 3, 1) := by decide +kernel
theorem dL_law_752 : decode cL_law 752 = .ok (.iconst 1, 1) := by decide +kernel
theorem dL_law_753 : decode cL_law 753 = .ok (.iadd, 1) := by decide +kernel
theorem dL_law_754 : decode cL_law 754 = .ok (.iaload, 1) := by decide +kernel
theorem dL_law_755 : decode cL_law 755 = .ok (.invokevirtual 118, 3) := by decide +kernel
theorem dL_law_758 : decode cL_law 758 = .ok (.aload_n 2, 1) := by decide +kernel
theorem dL_law_759 : decode cL_law 759 = .ok (.aload_n 0, 1) := by decide +kernel
theorem dL_law_760 : decode cL_law 760 = .ok (.iload_n 3, 1) := by decide +kernel
theorem dL_law_761 : decode cL_law 761 = .ok (.iconst 1, 1) := by decide +kernel
theorem dL_law_762 : decode cL_law 762 = .ok (.iadd, 1) := by decide +kernel
theorem dL_law_763 : decode cL_law 763 = .ok (.iaload, 1) := by decide +kernel
theorem dL_law_764 : decode cL_law 764 = .ok (.invokevirtual 121, 3) := by decide +kernel
theorem dL_law_767 : decode cL_law 767 = .ok (.if_icmp .eq 64, 3) := by decide +kernel
theorem dL_law_770 : decode cL_law 770 = .ok (.iconst 0, 1) := by decide +kernel
theorem dL_law_771 : decode cL_law 771 = .ok (.ireturn, 1) := by decide +kernel
theorem dL_law_772 : decode cL_law 772 = .ok (.aload_n 1, 1) := by decide +kernel
theorem dL_law_773 : decode cL_law 773 = .ok (.aload_n 0, 1) := by decide +kernel
theorem dL_law_774 : decode cL_law 774 = .ok (.iload_n 3, 1) := by decide +kernel
theorem dL_law_775 : decode cL_law 775 = .ok (.iconst 1, 1) := by decide +kernel
theorem dL_law_776 : decode cL_law 776 = .ok (.iadd, 1) := by decide +kernel
theorem dL_law_777 : decode cL_law 777 = .ok (.iaload, 1) := by decide +kernel
theorem dL_law_778 : decode cL_law 778 = .ok (.invokevirtual 122, 3) := by decide +kernel
theorem dL_law_781 : decode cL_law 781 = .ok (.aload_n 2, 1) := by decide +kernel
theorem dL_law_782 : decode cL_law 782 = .ok (.aload_n 0, 1) := by decide +kernel
theorem dL_law_783 : decode cL_law 783 = .ok (.iload_n 3, 1) := by decide +kernel
theorem dL_law_784 : decode cL_law 784 = .ok (.iconst 1, 1) := by decide +kernel
theorem dL_law_785 : decode cL_law 785 = .ok (.iadd, 1) := by decide +kernel
theorem dL_law_786 : decode cL_law 786 = .ok (.iaload, 1) := by decide +kernel
theorem dL_law_787 : decode cL_law 787 = .ok (.invokevirtual 125, 3) := by decide +kernel
theorem dL_law_790 : decode cL_law 790 = .ok (.if_icmp .eq 41, 3) := by decide +kernel
theorem dL_law_793 : decode cL_law 793 = .ok (.iconst 0, 1) := by decide +kernel
theorem dL_law_794 : decode cL_law 794 = .ok (.ireturn, 1) := by decide +kernel
theorem dL_law_795 : decode cL_law 795 = .ok (.aload_n 1, 1) := by decide +kernel
theorem dL_law_796 : decode cL_law 796 = .ok (.aload_n 0, 1) := by decide +kernel
theorem dL_law_797 : decode cL_law 797 = .ok (.iload_n 3, 1) := by decide +kernel
theorem dL_law_798 : decode cL_law 798 = .ok (.iconst 1, 1) := by decide +kernel
theorem dL_law_799 : decode cL_law 799 = .ok (.iadd, 1) := by decide +kernel
theorem dL_law_800 : decode cL_law 800 = .ok (.iaload, 1) := by decide +kernel
theorem dL_law_801 : decode cL_law 801 = .ok (.invokevirtual 126, 3) := by decide +kernel
theorem dL_law_804 : decode cL_law 804 = .ok (.aload_n 2, 1) := by decide +kernel
theorem dL_law_805 : decode cL_law 805 = .ok (.aload_n 0, 1) := by decide +kernel
theorem dL_law_806 : decode cL_law 806 = .ok (.iload_n 3, 1) := by decide +kernel
theorem dL_law_807 : decode cL_law 807 = .ok (.iconst 1, 1) := by decide +kernel
theorem dL_law_808 : decode cL_law 808 = .ok (.iadd, 1) := by decide +kernel
theorem dL_law_809 : decode cL_law 809 = .ok (.iaload, 1) := by decide +kernel
theorem dL_law_810 : decode cL_law 810 = .ok (.invokevirtual 129, 3) := by decide +kernel
theorem dL_law_813 : decode cL_law 813 = .ok (.if_icmp .eq 18, 3) := by decide +kernel
theorem dL_law_816 : decode cL_law 816 = .ok (.iconst 0, 1) := by decide +kernel
theorem dL_law_817 : decode cL_law 817 = .ok (.ireturn, 1) := by decide +kernel
theorem dL_law_818 : decode cL_law 818 = .ok (.aload_n 1, 1) := by decide +kernel
theorem dL_law_819 : decode cL_law 819 = .ok (.invokevirtual 130, 3) := by decide +kernel
theorem dL_law_822 : decode cL_law 822 = .ok (.aload_n 2, 1) := by decide +kernel
theorem dL_law_823 : decode cL_law 823 = .ok (.invokevirtual 133, 3) := by decide +kernel
theorem dL_law_826 : decode cL_law 826 = .ok (.if_icmp .eq 5, 3) := by decide +kernel
theorem dL_law_829 : decode cL_law 829 = .ok (.iconst 0, 1) := by decide +kernel
theorem dL_law_830 : decode cL_law 830 = .ok (.ireturn, 1) := by decide +kernel
theorem dL_law_831 : decode cL_law 831 = .ok (.iinc 3 5, 3) := by decide +kernel
theorem dL_law_834 : decode cL_law 834 = .ok (.goto (-816), 3) := by decide +kernel
theorem dL_law_837 : decode cL_law 837 = .ok (.iconst 1, 1) := by decide +kernel
theorem dL_law_838 : decode cL_law 838 = .ok (.ireturn, 1) := by decide +kernel
