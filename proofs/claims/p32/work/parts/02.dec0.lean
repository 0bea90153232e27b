theorem dX0_init_0 : decode cX0_init 0 = .ok (.aload_n 0, 1) := by decide +kernel
theorem dX0_init_1 : decode cX0_init 1 = .ok (.invokespecial 3, 3) := by decide +kernel
theorem dX0_init_4 : decode cX0_init 4 = .ok (.aload_n 0, 1) := by decide +kernel
theorem dX0_init_5 : decode cX0_init 5 = .ok (.bipush 80, 2) := by decide +kernel
theorem dX0_init_7 : decode cX0_init 7 = .ok (.newarray .char, 2) := by decide +kernel
theorem dX0_init_9 : decode cX0_init 9 = .ok (.putfield 9, 3) := by decide +kernel
theorem dX0_init_12 : decode cX0_init 12 = .ok (.aload_n 0, 1) := by decide +kernel
theorem dX0_init_13 : decode cX0_init 13 = .ok (.bipush 10, 2) := by decide +kernel
theorem dX0_init_15 : decode cX0_init 15 = .ok (.newarray .int, 2) := by decide +kernel
theorem dX0_init_17 : decode cX0_init 17 = .ok (.putfield 15, 3) := by decide +kernel
theorem dX0_init_20 : decode cX0_init 20 = .ok (.aload_n 0, 1) := by decide +kernel
theorem dX0_init_21 : decode cX0_init 21 = .ok (.bipush 10, 2) := by decide +kernel
theorem dX0_init_23 : decode cX0_init 23 = .ok (.newarray .boolean, 2) := by decide +kernel
theorem dX0_init_25 : decode cX0_init 25 = .ok (.putfield 19, 3) := by decide +kernel
theorem dX0_init_28 : decode cX0_init 28 = .ok (.return_, 1) := by decide +kernel
theorem dX1_init_0 : decode cX1_init 0 = .ok (.aload_n 0, 1) := by decide +kernel
theorem dX1_init_1 : decode cX1_init 1 = .ok (.invokespecial 3, 3) := by decide +kernel
theorem dX1_init_4 : decode cX1_init 4 = .ok (.aload_n 0, 1) := by decide +kernel
theorem dX1_init_5 : decode cX1_init 5 = .ok (.bipush 10, 2) := by decide +kernel
theorem dX1_init_7 : decode cX1_init 7 = .ok (.newarray .int, 2) := by decide +kernel
theorem dX1_init_9 : decode cX1_init 9 = .ok (.putfield 9, 3) := by decide +kernel
theorem dX1_init_12 : decode cX1_init 12 = .ok (.aload_n 0, 1) := by decide +kernel
theorem dX1_init_13 : decode cX1_init 13 = .ok (.bipush 10, 2) := by decide +kernel
theorem dX1_init_15 : decode cX1_init 15 = .ok (.newarray .int, 2) := by decide +kernel
theorem dX1_init_17 : decode cX1_init 17 = .ok (.putfield 15, 3) := by decide +kernel
theorem dX1_init_20 : decode cX1_init 20 = .ok (.aload_n 0, 1) := by decide +kernel
theorem dX1_init_21 : decode cX1_init 21 = .ok (.bipush 7, 2) := by decide +kernel
theorem dX1_init_23 : decode cX1_init 23 = .ok (.anewarray 18, 3) := by decide +kernel
theorem dX1_init_26 : decode cX1_init 26 = .ok (.putfield 20, 3) := by decide +kernel
theorem dX1_init_29 : decode cX1_init 29 = .ok (.aload_n 0, 1) := by decide +kernel
theorem dX1_init_30 : decode cX1_init 30 = .ok (.bipush 10, 2) := by decide +kernel
theorem dX1_init_32 : decode cX1_init 32 = .ok (.newarray .int, 2) := by decide +kernel
theorem dX1_init_34 : decode cX1_init 34 = .ok (.putfield 24, 3) := by decide +kernel
theorem dX1_init_37 : decode cX1_init 37 = .ok (.aload_n 0, 1) := by decide +kernel
theorem dX1_init_38 : decode cX1_init 38 = .ok (.bipush 10, 2) := by decide +kernel
theorem dX1_init_40 : decode cX1_init 40 = .ok (.newarray .int, 2) := by decide +kernel
theorem dX1_init_42 : decode cX1_init 42 = .ok (.putfield 27, 3) := by decide +kernel
theorem dX1_init_45 : decode cX1_init 45 = .ok (.aload_n 0, 1) := by decide +kernel
theorem dX1_init_46 : decode cX1_init 46 = .ok (.sipush 500, 3) := by decide +kernel
theorem dX1_init_49 : decode cX1_init 49 = .ok (.putfield 30, 3) := by decide +kernel
theorem dX1_init_52 : decode cX1_init 52 = .ok (.aload_n 0, 1) := by decide +kernel
theorem dX1_init_53 : decode cX1_init 53 = .ok (.bipush 20, 2) := by decide +kernel
theorem dX1_init_55 : decode cX1_init 55 = .ok (.putfield 34, 3) := by decide +kernel
theorem dX1_init_58 : decode cX1_init 58 = .ok (.aload_n 0, 1) := by decide +kernel
theorem dX1_init_59 : decode cX1_init 59 = .ok (.iconst 2, 1) := by decide +kernel
theorem dX1_init_60 : decode cX1_init 60 = .ok (.putfield 37, 3) := by decide +kernel
theorem dX1_init_63 : decode cX1_init 63 = .ok (.aload_n 0, 1) := by decide +kernel
theorem dX1_init_64 : decode cX1_init 64 = .ok (.iconst 5, 1) := by decide +kernel
theorem dX1_init_65 : decode cX1_init 65 = .ok (.putfield 40, 3) := by decide +kernel
theorem dX1_init_68 : decode cX1_init 68 = .ok (.iconst 0, 1) := by decide +kernel
theorem dX1_init_69 : decode cX1_init 69 = .ok (.istore_n 1, 1) := by decide +kernel
theorem dX1_init_70 : decode cX1_init 70 = .ok (.iload_n 1, 1) := by decide +kernel
theorem dX1_init_71 : decode cX1_init 71 = .ok (.bipush 6, 2) := by decide +kernel
theorem dX1_init_73 : decode cX1_init 73 = .ok (.if_icmp .gt 22, 3) := by decide +kernel
theorem dX1_init_76 : decode cX1_init 76 = .ok (.aload_n 0, 1) := by decide +kernel
theorem dX1_init_77 : decode cX1_init 77 = .ok (.getfield 20, 3) := by decide +kernel
theorem dX1_init_80 : decode cX1_init 80 = .ok (.iload_n 1, 1) := by decide +kernel
theorem dX1_init_81 : decode cX1_init 81 = .ok (.new 18, 3) := by decide +kernel
theorem dX1_init_84 : decode cX1_init 84 = .ok (.dup, 1) := by decide +kernel
theorem dX1_init_85 : decode cX1_init 85 = .ok (.invokespecial 43, 3) := by decide +kernel
theorem dX1_init_88 : decode cX1_init 88 = .ok (.aastore, 1) := by decide +kernel
theorem dX1_init_89 : decode cX1_init 89 = .ok (.iinc 1 1, 3) := by decide +kernel
theorem dX1_init_92 : decode cX1_init 92 = .ok (.goto (-22), 3) := by decide +kernel
theorem dX1_init_95 : decode cX1_init 95 = .ok (.iconst 1, 1) := by decide +kernel
theorem dX1_init_96 : decode cX1_init 96 = .ok (.istore_n 1, 1) := by decide +kernel
theorem dX1_init_97 : decode cX1_init 97 = .ok (.iload_n 1, 1) := by decide +kernel
theorem dX1_init_98 : decode cX1_init 98 = .ok (.bipush 9, 2) := by decide +kernel
theorem dX1_init_100 : decode cX1_init 100 = .ok (.if_icmp .gt 18, 3) := by decide +kernel
theorem dX1_init_103 : decode cX1_init 103 = .ok (.aload_n 0, 1) := by decide +kernel
theorem dX1_init_104 : decode cX1_init 104 = .ok (.getfield 27, 3) := by decide +kernel
theorem dX1_init_107 : decode cX1_init 107 = .ok (.iload_n 1, 1) := by decide +kernel
theorem dX1_init_108 : decode cX1_init 108 = .ok (.sipush 1000, 3) := by decide +kernel
theorem dX1_init_111 : decode cX1_init 111 = .ok (.iastore, 1) := by decide +kernel
theorem dX1_init_112 : decode cX1_init 112 = .ok (.iinc 1 1, 3) := by decide +kernel
theorem dX1_init_115 : decode cX1_init 115 = .ok (.goto (-18), 3) := by decide +kernel
theorem dX1_init_118 : decode cX1_init 118 = .ok (.return_, 1) := by decide +kernel
theorem dX1_copyFrom_0 : decode cX1_copyFrom 0 = .ok (.aload_n 1, 1) := by decide +kernel
theorem dX1_copyFrom_1 : decode cX1_copyFrom 1 = .ok (.getfield 9, 3) := by decide +kernel
theorem dX1_copyFrom_4 : decode cX1_copyFrom 4 = .ok (.aload_n 0, 1) := by decide +kernel
theorem dX1_copyFrom_5 : decode cX1_copyFrom 5 = .ok (.getfield 9, 3) := by decide +kernel
theorem dX1_copyFrom_8 : decode cX1_copyFrom 8 = .ok (.invokestatic 44, 3) := by decide +kernel
theorem dX1_copyFrom_11 : decode cX1_copyFrom 11 = .ok (.aload_n 1, 1) := by decide +kernel
theorem dX1_copyFrom_12 : decode cX1_copyFrom 12 = .ok (.getfield 15, 3) := by decide +kernel
theorem dX1_copyFrom_15 : decode cX1_copyFrom 15 = .ok (.aload_n 0, 1) := by decide +kernel
theorem dX1_copyFrom_16 : decode cX1_copyFrom 16 = .ok (.getfield 15, 3) := by decide +kernel
theorem dX1_copyFrom_19 : decode cX1_copyFrom 19 = .ok (.invokestatic 44, 3) := by decide +kernel
theorem dX1_copyFrom_22 : decode cX1_copyFrom 22 = .ok (.iconst 0, 1) := by decide +kernel
theorem dX1_copyFrom_23 : decode cX1_copyFrom 23 = .ok (.istore_n 2, 1) := by decide +kernel
theorem dX1_copyFrom_24 : decode cX1_copyFrom 24 = .ok (.iload_n 2, 1) := by decide +kernel
theorem dX1_copyFrom_25 : decode cX1_copyFrom 25 = .ok (.bipush 6, 2) := by decide +kernel
theorem dX1_copyFrom_27 : decode cX1_copyFrom 27 = .ok (.if_icmp .gt 24, 3) := by decide +kernel
theorem dX1_copyFrom_30 : decode cX1_copyFrom 30 = .ok (.aload_n 0, 1) := by decide +kernel
theorem dX1_copyFrom_31 : decode cX1_copyFrom 31 = .ok (.getfield 20, 3) := by decide +kernel
theorem dX1_copyFrom_34 : decode cX1_copyFrom 34 = .ok (.iload_n 2, 1) := by decide +kernel
theorem dX1_copyFrom_35 : decode cX1_copyFrom 35 = .ok (.aaload, 1) := by decide +kernel
theorem dX1_copyFrom_36 : decode cX1_copyFrom 36 = .ok (.aload_n 1, 1) := by decide +kernel
theorem dX1_copyFrom_37 : decode cX1_copyFrom 37 = .ok (.getfield 20, 3) := by decide +kernel
theorem dX1_copyFrom_40 : decode cX1_copyFrom 40 = .ok (.iload_n 2, 1) := by decide +kernel
theorem dX1_copyFrom_41 : decode cX1_copyFrom 41 = .ok (.aaload, 1) := by decide +kernel
theorem dX1_copyFrom_42 : decode cX1_copyFrom 42 = .ok (.invokevirtual 48, 3) := by decide +kernel
theorem dX1_copyFrom_45 : decode cX1_copyFrom 45 = .ok (.iinc 2 1, 3) := by decide +kernel
theorem dX1_copyFrom_48 : decode cX1_copyFrom 48 = .ok (.goto (-24), 3) := by decide +kernel
theorem dX1_copyFrom_51 : decode cX1_copyFrom 51 = .ok (.aload_n 1, 1) := by decide +kernel
theorem dX1_copyFrom_52 : decode cX1_copyFrom 52 = .ok (.getfield 24, 3) := by decide +kernel
theorem dX1_copyFrom_55 : decode cX1_copyFrom 55 = .ok (.aload_n 0, 1) := by decide +kernel
theorem dX1_copyFrom_56 : decode cX1_copyFrom 56 = .ok (.getfield 24, 3) := by decide +kernel
theorem dX1_copyFrom_59 : decode cX1_copyFrom 59 = .ok (.invokestatic 44, 3) := by decide +kernel
theorem dX1_copyFrom_62 : decode cX1_copyFrom 62 = .ok (.aload_n 1, 1) := by decide +kernel
theorem dX1_copyFrom_63 : decode cX1_copyFrom 63 = .ok (.getfield 27, 3) := by decide +kernel
theorem dX1_copyFrom_66 : decode cX1_copyFrom 66 = .ok (.aload_n 0, 1) := by decide +kernel
theorem dX1_copyFrom_67 : decode cX1_copyFrom 67 = .ok (.getfield 27, 3) := by decide +kernel
theorem dX1_copyFrom_70 : decode cX1_copyFrom 70 = .ok (.invokestatic 44, 3) := by decide +kernel
theorem dX1_copyFrom_73 : decode cX1_copyFrom 73 = .ok (.aload_n 0, 1) := by decide +kernel
theorem dX1_copyFrom_74 : decode cX1_copyFrom 74 = .ok (.aload_n 1, 1) := by decide +kernel
theorem dX1_copyFrom_75 : decode cX1_copyFrom 75 = .ok (.getfield 52, 3) := by decide +kernel
theorem dX1_copyFrom_78 : decode cX1_copyFrom 78 = .ok (.putfield 52, 3) := by decide +kernel
theorem dX1_copyFrom_81 : decode cX1_copyFrom 81 = .ok (.aload_n 0, 1) := by decide +kernel
theorem dX1_copyFrom_82 : decode cX1_copyFrom 82 = .ok (.aload_n 1, 1) := by decide +kernel
theorem dX1_copyFrom_83 : decode cX1_copyFrom 83 = .ok (.getfield 30, 3) := by decide +kernel
theorem dX1_copyFrom_86 : decode cX1_copyFrom 86 = .ok (.putfield 30, 3) := by decide +kernel
theorem dX1_copyFrom_89 : decode cX1_copyFrom 89 = .ok (.aload_n 0, 1) := by decide +kernel
theorem dX1_copyFrom_90 : decode cX1_copyFrom 90 = .ok (.aload_n 1, 1) := by decide +kernel
theorem dX1_copyFrom_91 : decode cX1_copyFrom 91 = .ok (.getfield 34, 3) := by decide +kernel
theorem dX1_copyFrom_94 : decode cX1_copyFrom 94 = .ok (.putfield 34, 3) := by decide +kernel
theorem dX1_copyFrom_97 : decode cX1_copyFrom 97 = .ok (.aload_n 0, 1) := by decide +kernel
theorem dX1_copyFrom_98 : decode cX1_copyFrom 98 = .ok (.aload_n 1, 1) := by decide +kernel
theorem dX1_copyFrom_99 : decode cX1_copyFrom 99 = .ok (.getfield 37, 3) := by decide +kernel
theorem dX1_copyFrom_102 : decode cX1_copyFrom 102 = .ok (.putfield 37, 3) := by decide +kernel
theorem dX1_copyFrom_105 : decode cX1_copyFrom 105 = .ok (.aload_n 0, 1) := by decide +kernel
theorem dX1_copyFrom_106 : decode cX1_copyFrom 106 = .ok (.aload_n 1, 1) := by decide +kernel
theorem dX1_copyFrom_107 : decode cX1_copyFrom 107 = .ok (.getfield 40, 3) := by decide +kernel
theorem dX1_copyFrom_110 : decode cX1_copyFrom 110 = .ok (.putfield 40, 3) := by decide +kernel
theorem dX1_copyFrom_113 : decode cX1_copyFrom 113 = .ok (.aload_n 0, 1) := by decide +kernel
theorem dX1_copyFrom_114 : decode cX1_copyFrom 114 = .ok (.aload_n 1, 1) := by decide +kernel
theorem dX1_copyFrom_115 : decode cX1_copyFrom 115 = .ok (.getfield 55, 3) := by decide +kernel
theorem dX1_copyFrom_118 : decode cX1_copyFrom 118 = .ok (.putfield 55, 3) := by decide +kernel
theorem dX1_copyFrom_121 : decode cX1_copyFrom 121 = .ok (.aload_n 0, 1) := by decide +kernel
theorem dX1_copyFrom_122 : decode cX1_copyFrom 122 = .ok (.aload_n 1, 1) := by decide +kernel
theorem dX1_copyFrom_123 : decode cX1_copyFrom 123 = .ok (.getfield 59, 3) := by decide +kernel
theorem dX1_copyFrom_126 : decode cX1_copyFrom 126 = .ok (.putfield 59, 3) := by decide +kernel
theorem dX1_copyFrom_129 : decode cX1_copyFrom 129 = .ok (.aload_n 0, 1) := by decide +kernel
theorem dX1_copyFrom_130 : decode cX1_copyFrom 130 = .ok (.aload_n 1, 1) := by decide +kernel
theorem dX1_copyFrom_131 : decode cX1_copyFrom 131 = .ok (.getfield 62, 3) := by decide +kernel
theorem dX1_copyFrom_134 : decode cX1_copyFrom 134 = .ok (.putfield 62, 3) := by decide +kernel
theorem dX1_copyFrom_137 : decode cX1_copyFrom 137 = .ok (.aload_n 0, 1) := by decide +kernel
theorem dX1_copyFrom_138 : decode cX1_copyFrom 138 = .ok (.aload_n 1, 1) := by decide +kernel
theorem dX1_copyFrom_139 : decode cX1_copyFrom 139 = .ok (.getfield 65, 3) := by decide +kernel
theorem dX1_copyFrom_142 : decode cX1_copyFrom 142 = .ok (.putfield 65, 3) := by decide +kernel
theorem dX1_copyFrom_145 : decode cX1_copyFrom 145 = .ok (.return_, 1) := by decide +kernel
theorem dX1_isTray_0 : decode cX1_isTray 0 = .ok (.iload_n 1, 1) := by decide +kernel
theorem dX1_isTray_1 : decode cX1_isTray 1 = .ok (.iconst 0, 1) := by decide +kernel
theorem dX1_isTray_2 : decode cX1_isTray 2 = .ok (.aload_n 0, 1) := by decide +kernel
theorem dX1_isTray_3 : decode cX1_isTray 3 = .ok (.getfield 52, 3) := by decide +kernel
theorem dX1_isTray_6 : decode cX1_isTray 6 = .ok (.invokestatic 68, 3) := by decide +kernel
theorem dX1_isTray_9 : decode cX1_isTray 9 = .ok (.ireturn, 1) := by decide +kernel
theorem dX1_isSieve_0 : decode cX1_isSieve 0 = .ok (.iload_n 1, 1) := by decide +kernel
theorem dX1_isSieve_1 : decode cX1_isSieve 1 = .ok (.iconst 0, 1) := by decide +kernel
theorem dX1_isSieve_2 : decode cX1_isSieve 2 = .ok (.aload_n 0, 1) := by decide +kernel
theorem dX1_isSieve_3 : decode cX1_isSieve 3 = .ok (.getfield 52, 3) := by decide +kernel
theorem dX1_isSieve_6 : decode cX1_isSieve 6 = .ok (.iconst 1, 1) := by decide +kernel
theorem dX1_isSieve_7 : decode cX1_isSieve 7 = .ok (.isub, 1) := by decide +kernel
theorem dX1_isSieve_8 : decode cX1_isSieve 8 = .ok (.invokestatic 68, 3) := by decide +kernel
theorem dX1_isSieve_11 : decode cX1_isSieve 11 = .ok (.ireturn, 1) := by decide +kernel
theorem dX1_halveSample_0 : decode cX1_halveSample 0 = .ok (.iconst 1, 1) := by decide +kernel
theorem dX1_halveSample_1 : decode cX1_halveSample 1 = .ok (.istore_n 2, 1) := by decide +kernel
theorem dX1_halveSample_2 : decode cX1_halveSample 2 = .ok (.iconst 0, 1) := by decide +kernel
theorem dX1_halveSample_3 : decode cX1_halveSample 3 = .ok (.istore_n 3, 1) := by decide +kernel
theorem dX1_halveSample_4 : decode cX1_halveSample 4 = .ok (.iload_n 3, 1) := by decide +kernel
theorem dX1_halveSample_5 : decode cX1_halveSample 5 = .ok (.bipush 10, 2) := by decide +kernel
theorem dX1_halveSample_7 : decode cX1_halveSample 7 = .ok (.if_icmp .ge 109, 3) := by decide +kernel
theorem dX1_halveSample_10 : decode cX1_halveSample 10 = .ok (.aload_n 0, 1) := by decide +kernel
theorem dX1_halveSample_11 : decode cX1_halveSample 11 = .ok (.getfield 9, 3) := by decide +kernel
theorem dX1_halveSample_14 : decode cX1_halveSample 14 = .ok (.iload_n 3, 1) := by decide +kernel
theorem dX1_halveSample_15 : decode cX1_halveSample 15 = .ok (.iaload, 1) := by decide +kernel
theorem dX1_halveSample_16 : decode cX1_halveSample 16 = .ok (.iconst 2, 1) := by decide +kernel
theorem dX1_halveSample_17 : decode cX1_halveSample 17 = .ok (.idiv, 1) := by decide +kernel
theorem dX1_halveSample_18 : decode cX1_halveSample 18 = .ok (.istore 4, 2) := by decide +kernel
theorem dX1_halveSample_20 : decode cX1_halveSample 20 = .ok (.iload 4, 2) := by decide +kernel
theorem dX1_halveSample_22 : decode cX1_halveSample 22 = .ok (.istore 5, 2) := by decide +kernel
theorem dX1_halveSample_24 : decode cX1_halveSample 24 = .ok (.aload_n 0, 1) := by decide +kernel
theorem dX1_halveSample_25 : decode cX1_halveSample 25 = .ok (.getfield 9, 3) := by decide +kernel
theorem dX1_halveSample_28 : decode cX1_halveSample 28 = .ok (.iload_n 3, 1) := by decide +kernel
theorem dX1_halveSample_29 : decode cX1_halveSample 29 = .ok (.iaload, 1) := by decide +kernel
theorem dX1_halveSample_30 : decode cX1_halveSample 30 = .ok (.iconst 2, 1) := by decide +kernel
theorem dX1_halveSample_31 : decode cX1_halveSample 31 = .ok (.irem, 1) := by decide +kernel
theorem dX1_halveSample_32 : decode cX1_halveSample 32 = .ok (.ifCond .eq 41, 3) := by decide +kernel
theorem dX1_halveSample_35 : decode cX1_halveSample 35 = .ok (.iload 4, 2) := by decide +kernel
theorem dX1_halveSample_37 : decode cX1_halveSample 37 = .ok (.iload_n 2, 1) := by decide +kernel
theorem dX1_halveSample_38 : decode cX1_halveSample 38 = .ok (.ifCond .eq 7, 3) := by decide +kernel
theorem dX1_halveSample_41 : decode cX1_halveSample 41 = .ok (.iconst 1, 1) := by decide +kernel
theorem dX1_halveSample_42 : decode cX1_halveSample 42 = .ok (.goto 4, 3) := by decide +kernel
theorem dX1_halveSample_45 : decode cX1_halveSample 45 = .ok (.iconst 0, 1) := by decide +kernel
theorem dX1_halveSample_46 : decode cX1_halveSample 46 = .ok (.iadd, 1) := by decide +kernel
theorem dX1_halveSample_47 : decode cX1_halveSample 47 = .ok (.istore 4, 2) := by decide +kernel
theorem dX1_halveSample_49 : decode cX1_halveSample 49 = .ok (.iload 5, 2) := by decide +kernel
theorem dX1_halveSample_51 : decode cX1_halveSample 51 = .ok (.iload_n 2, 1) := by decide +kernel
theorem dX1_halveSample_52 : decode cX1_halveSample 52 = .ok (.ifCond .eq 7, 3) := by decide +kernel
theorem dX1_halveSample_55 : decode cX1_halveSample 55 = .ok (.iconst 0, 1) := by decide +kernel
theorem dX1_halveSample_56 : decode cX1_halveSample 56 = .ok (.goto 4, 3) := by decide +kernel
theorem dX1_halveSample_59 : decode cX1_halveSample 59 = .ok (.iconst 1, 1) := by decide +kernel
theorem dX1_halveSample_60 : decode cX1_halveSample 60 = .ok (.iadd, 1) := by decide +kernel
theorem dX1_halveSample_61 : decode cX1_halveSample 61 = .ok (.istore 5, 2) := by decide +kernel
theorem dX1_halveSample_63 : decode cX1_halveSample 63 = .ok (.iload_n 2, 1) := by decide +kernel
theorem dX1_halveSample_64 : decode cX1_halveSample 64 = .ok (.ifCond .ne 7, 3) := by decide +kernel
theorem dX1_halveSample_67 : decode cX1_halveSample 67 = .ok (.iconst 1, 1) := by decide +kernel
theorem dX1_halveSample_68 : decode cX1_halveSample 68 = .ok (.goto 4, 3) := by decide +kernel
theorem dX1_halveSample_71 : decode cX1_halveSample 71 = .ok (.iconst 0, 1) := by decide +kernel
theorem dX1_halveSample_72 : decode cX1_halveSample 72 = .ok (.istore_n 2, 1) := by decide +kernel
theorem dX1_halveSample_73 : decode cX1_halveSample 73 = .ok (.aload_n 0, 1) := by decide +kernel
theorem dX1_halveSample_74 : decode cX1_halveSample 74 = .ok (.getfield 9, 3) := by decide +kernel
theorem dX1_halveSample_77 : decode cX1_halveSample 77 = .ok (.iload_n 3, 1) := by decide +kernel
theorem dX1_halveSample_78 : decode cX1_halveSample 78 = .ok (.iload_n 1, 1) := by decide +kernel
theorem dX1_halveSample_79 : decode cX1_halveSample 79 = .ok (.ifCond .eq 8, 3) := by decide +kernel
theorem dX1_halveSample_82 : decode cX1_halveSample 82 = .ok (.iload 4, 2) := by decide +kernel
theorem dX1_halveSample_84 : decode cX1_halveSample 84 = .ok (.goto 5, 3) := by decide +kernel
theorem dX1_halveSample_87 : decode cX1_halveSample 87 = .ok (.iload 5, 2) := by decide +kernel
theorem dX1_halveSample_89 : decode cX1_halveSample 89 = .ok (.iastore, 1) := by decide +kernel
theorem dX1_halveSample_90 : decode cX1_halveSample 90 = .ok (.aload_n 0, 1) := by decide +kernel
theorem dX1_halveSample_91 : decode cX1_halveSample 91 = .ok (.getfield 15, 3) := by decide +kernel
theorem dX1_halveSample_94 : decode cX1_halveSample 94 = .ok (.iload_n 3, 1) := by decide +kernel
theorem dX1_halveSample_95 : decode cX1_halveSample 95 = .ok (.dup2, 1) := by decide +kernel
theorem dX1_halveSample_96 : decode cX1_halveSample 96 = .ok (.iaload, 1) := by decide +kernel
theorem dX1_halveSample_97 : decode cX1_halveSample 97 = .ok (.iload_n 1, 1) := by decide +kernel
theorem dX1_halveSample_98 : decode cX1_halveSample 98 = .ok (.ifCond .eq 8, 3) := by decide +kernel
theorem dX1_halveSample_101 : decode cX1_halveSample 101 = .ok (.iload 5, 2) := by decide +kernel
theorem dX1_halveSample_103 : decode cX1_halveSample 103 = .ok (.goto 5, 3) := by decide +kernel
theorem dX1_halveSample_106 : decode cX1_halveSample 106 = .ok (.iload 4, 2) := by decide +kernel
theorem dX1_halveSample_108 : decode cX1_halveSample 108 = .ok (.iadd, 1) := by decide +kernel
theorem dX1_halveSample_109 : decode cX1_halveSample 109 = .ok (.iastore, 1) := by decide +kernel
theorem dX1_halveSample_110 : decode cX1_halveSample 110 = .ok (.iinc 3 1, 3) := by decide +kernel
theorem dX1_halveSample_113 : decode cX1_halveSample 113 = .ok (.goto (-109), 3) := by decide +kernel
theorem dX1_halveSample_116 : decode cX1_halveSample 116 = .ok (.return_, 1) := by decide +kernel
theorem dX1_findSieve_0 : decode cX1_findSieve 0 = .ok (.iconst 0, 1) := by decide +kernel
theorem dX1_findSieve_1 : decode cX1_findSieve 1 = .ok (.istore_n 2, 1) := by decide +kernel
theorem dX1_findSieve_2 : decode cX1_findSieve 2 = .ok (.iload_n 2, 1) := by decide +kernel
theorem dX1_findSieve_3 : decode cX1_findSieve 3 = .ok (.aload_n 0, 1) := by decide +kernel
theorem dX1_findSieve_4 : decode cX1_findSieve 4 = .ok (.getfield 52, 3) := by decide +kernel
theorem dX1_findSieve_7 : decode cX1_findSieve 7 = .ok (.if_icmp .ge 24, 3) := by decide +kernel
theorem dX1_findSieve_10 : decode cX1_findSieve 10 = .ok (.aload_n 0, 1) := by decide +kernel
theorem dX1_findSieve_11 : decode cX1_findSieve 11 = .ok (.getfield 20, 3) := by decide +kernel
theorem dX1_findSieve_14 : decode cX1_findSieve 14 = .ok (.iload_n 2, 1) := by decide +kernel
theorem dX1_findSieve_15 : decode cX1_findSieve 15 = .ok (.aaload, 1) := by decide +kernel
theorem dX1_findSieve_16 : decode cX1_findSieve 16 = .ok (.getfield 72, 3) := by decide +kernel
theorem dX1_findSieve_19 : decode cX1_findSieve 19 = .ok (.iload_n 1, 1) := by decide +kernel
theorem dX1_findSieve_20 : decode cX1_findSieve 20 = .ok (.if_icmp .ne 5, 3) := by decide +kernel
theorem dX1_findSieve_23 : decode cX1_findSieve 23 = .ok (.iload_n 2, 1) := by decide +kernel
theorem dX1_findSieve_24 : decode cX1_findSieve 24 = .ok (.ireturn, 1) := by decide +kernel
theorem dX1_findSieve_25 : decode cX1_findSieve 25 = .ok (.iinc 2 1, 3) := by decide +kernel
theorem dX1_findSieve_28 : decode cX1_findSieve 28 = .ok (.goto (-26), 3) := by decide +kernel
theorem dX1_findSieve_31 : decode cX1_findSieve 31 = .ok (.bipush (-9), 2) := by decide +kernel
theorem dX1_findSieve_33 : decode cX1_findSieve 33 = .ok (.ireturn, 1) := by decide +kernel
theorem dX1_insertSieve_0 : decode cX1_insertSieve 0 = .ok (.aload_n 0, 1) := by decide +kernel
theorem dX1_insertSieve_1 : decode cX1_insertSieve 1 = .ok (.getfield 52, 3) := by decide +kernel
theorem dX1_insertSieve_4 : decode cX1_insertSieve 4 = .ok (.istore_n 2, 1) := by decide +kernel
theorem dX1_insertSieve_5 : decode cX1_insertSieve 5 = .ok (.iload_n 2, 1) := by decide +kernel
theorem dX1_insertSieve_6 : decode cX1_insertSieve 6 = .ok (.ifCond .le 44, 3) := by decide +kernel
theorem dX1_insertSieve_9 : decode cX1_insertSieve 9 = .ok (.aload_n 0, 1) := by decide +kernel
theorem dX1_insertSieve_10 : decode cX1_insertSieve 10 = .ok (.getfield 20, 3) := by decide +kernel
theorem dX1_insertSieve_13 : decode cX1_insertSieve 13 = .ok (.iload_n 2, 1) := by decide +kernel
theorem dX1_insertSieve_14 : decode cX1_insertSieve 14 = .ok (.iconst 1, 1) := by decide +kernel
theorem dX1_insertSieve_15 : decode cX1_insertSieve 15 = .ok (.isub, 1) := by decide +kernel
theorem dX1_insertSieve_16 : decode cX1_insertSieve 16 = .ok (.aaload, 1) := by decide +kernel
theorem dX1_insertSieve_17 : decode cX1_insertSieve 17 = .ok (.getfield 72, 3) := by decide +kernel
theorem dX1_insertSieve_20 : decode cX1_insertSieve 20 = .ok (.iload_n 1, 1) := by decide +kernel
theorem dX1_insertSieve_21 : decode cX1_insertSieve 21 = .ok (.if_icmp .ge 29, 3) := by decide +kernel
theorem dX1_insertSieve_24 : decode cX1_insertSieve 24 = .ok (.aload_n 0, 1) := by decide +kernel
theorem dX1_insertSieve_25 : decode cX1_insertSieve 25 = .ok (.getfield 20, 3) := by decide +kernel
theorem dX1_insertSieve_28 : decode cX1_insertSieve 28 = .ok (.iload_n 2, 1) := by decide +kernel
theorem dX1_insertSieve_29 : decode cX1_insertSieve 29 = .ok (.aaload, 1) := by decide +kernel
theorem dX1_insertSieve_30 : decode cX1_insertSieve 30 = .ok (.aload_n 0, 1) := by decide +kernel
theorem dX1_insertSieve_31 : decode cX1_insertSieve 31 = .ok (.getfield 20, 3) := by decide +kernel
theorem dX1_insertSieve_34 : decode cX1_insertSieve 34 = .ok (.iload_n 2, 1) := by decide +kernel
theorem dX1_insertSieve_35 : decode cX1_insertSieve 35 = .ok (.iconst 1, 1) := by decide +kernel
theorem dX1_insertSieve_36 : decode cX1_insertSieve 36 = .ok (.isub, 1) := by decide +kernel
theorem dX1_insertSieve_37 : decode cX1_insertSieve 37 = .ok (.aaload, 1) := by decide +kernel
theorem dX1_insertSieve_38 : decode cX1_insertSieve 38 = .ok (.getfield 72, 3) := by decide +kernel
theorem dX1_insertSieve_41 : decode cX1_insertSieve 41 = .ok (.putfield 72, 3) := by decide +kernel
theorem dX1_insertSieve_44 : decode cX1_insertSieve 44 = .ok (.iinc 2 (-1), 3) := by decide +kernel
theorem dX1_insertSieve_47 : decode cX1_insertSieve 47 = .ok (.goto (-42), 3) := by decide +kernel
theorem dX1_insertSieve_50 : decode cX1_insertSieve 50 = .ok (.aload_n 0, 1) := by decide +kernel
theorem dX1_insertSieve_51 : decode cX1_insertSieve 51 = .ok (.getfield 20, 3) := by decide +kernel
theorem dX1_insertSieve_54 : decode cX1_insertSieve 54 = .ok (.iload_n 2, 1) := by decide +kernel
theorem dX1_insertSieve_55 : decode cX1_insertSieve 55 = .ok (.aaload, 1) := by decide +kernel
theorem dX1_insertSieve_56 : decode cX1_insertSieve 56 = .ok (.iload_n 1, 1) := by decide +kernel
theorem dX1_insertSieve_57 : decode cX1_insertSieve 57 = .ok (.putfield 72, 3) := by decide +kernel
theorem dX1_insertSieve_60 : decode cX1_insertSieve 60 = .ok (.aload_n 0, 1) := by decide +kernel
theorem dX1_insertSieve_61 : decode cX1_insertSieve 61 = .ok (.dup, 1) := by decide +kernel
theorem dX1_insertSieve_62 : decode cX1_insertSieve 62 = .ok (.getfield 52, 3) := by decide +kernel
theorem dX1_insertSieve_65 : decode cX1_insertSieve 65 = .ok (.iconst 1, 1) := by decide +kernel
theorem dX1_insertSieve_66 : decode cX1_insertSieve 66 = .ok (.iadd, 1) := by decide +kernel
theorem dX1_insertSieve_67 : decode cX1_insertSieve 67 = .ok (.putfield 52, 3) := by decide +kernel
theorem dX1_insertSieve_70 : decode cX1_insertSieve 70 = .ok (.iload_n 2, 1) := by decide +kernel
theorem dX1_insertSieve_71 : decode cX1_insertSieve 71 = .ok (.ireturn, 1) := by decide +kernel
theorem dX1_takeSieve_0 : decode cX1_takeSieve 0 = .ok (.iload_n 1, 1) := by decide +kernel
theorem dX1_takeSieve_1 : decode cX1_takeSieve 1 = .ok (.istore_n 2, 1) := by decide +kernel
theorem dX1_takeSieve_2 : decode cX1_takeSieve 2 = .ok (.iload_n 2, 1) := by decide +kernel
theorem dX1_takeSieve_3 : decode cX1_takeSieve 3 = .ok (.aload_n 0, 1) := by decide +kernel
theorem dX1_takeSieve_4 : decode cX1_takeSieve 4 = .ok (.getfield 52, 3) := by decide +kernel
theorem dX1_takeSieve_7 : decode cX1_takeSieve 7 = .ok (.if_icmp .ge 29, 3) := by decide +kernel
theorem dX1_takeSieve_10 : decode cX1_takeSieve 10 = .ok (.aload_n 0, 1) := by decide +kernel
theorem dX1_takeSieve_11 : decode cX1_takeSieve 11 = .ok (.getfield 20, 3) := by decide +kernel
theorem dX1_takeSieve_14 : decode cX1_takeSieve 14 = .ok (.iload_n 2, 1) := by decide +kernel
theorem dX1_takeSieve_15 : decode cX1_takeSieve 15 = .ok (.aaload, 1) := by decide +kernel
theorem dX1_takeSieve_16 : decode cX1_takeSieve 16 = .ok (.aload_n 0, 1) := by decide +kernel
theorem dX1_takeSieve_17 : decode cX1_takeSieve 17 = .ok (.getfield 20, 3) := by decide +kernel
theorem dX1_takeSieve_20 : decode cX1_takeSieve 20 = .ok (.iload_n 2, 1) := by decide +kernel
theorem dX1_takeSieve_21 : decode cX1_takeSieve 21 = .ok (.iconst 1, 1) := by decide +kernel
theorem dX1_takeSieve_22 : decode cX1_takeSieve 22 = .ok (.iadd, 1) := by decide +kernel
theorem dX1_takeSieve_23 : decode cX1_takeSieve 23 = .ok (.aaload, 1) := by decide +kernel
theorem dX1_takeSieve_24 : decode cX1_takeSieve 24 = .ok (.getfield 72, 3) := by decide +kernel
theorem dX1_takeSieve_27 : decode cX1_takeSieve 27 = .ok (.putfield 72, 3) := by decide +kernel
theorem dX1_takeSieve_30 : decode cX1_takeSieve 30 = .ok (.iinc 2 1, 3) := by decide +kernel
theorem dX1_takeSieve_33 : decode cX1_takeSieve 33 = .ok (.goto (-31), 3) := by decide +kernel
theorem dX1_takeSieve_36 : decode cX1_takeSieve 36 = .ok (.aload_n 0, 1) := by decide +kernel
theorem dX1_takeSieve_37 : decode cX1_takeSieve 37 = .ok (.dup, 1) := by decide +kernel
theorem dX1_takeSieve_38 : decode cX1_takeSieve 38 = .ok (.getfield 52, 3) := by decide +kernel
theorem dX1_takeSieve_41 : decode cX1_takeSieve 41 = .ok (.iconst 1, 1) := by decide +kernel
theorem dX1_takeSieve_42 : decode cX1_takeSieve 42 = .ok (.isub, 1) := by decide +kernel
theorem dX1_takeSieve_43 : decode cX1_takeSieve 43 = .ok (.putfield 52, 3) := by decide +kernel
theorem dX1_takeSieve_46 : decode cX1_takeSieve 46 = .ok (.return_, 1) := by decide +kernel
theorem dX1_endAnalysis_0 : decode cX1_endAnalysis 0 = .ok (.iconst 0, 1) := by decide +kernel
theorem dX1_endAnalysis_1 : decode cX1_endAnalysis 1 = .ok (.istore_n 1, 1) := by decide +kernel
theorem dX1_endAnalysis_2 : decode cX1_endAnalysis 2 = .ok (.iload_n 1, 1) := by decide +kernel
theorem dX1_endAnalysis_3 : decode cX1_endAnalysis 3 = .ok (.bipush 6, 2) := by decide +kernel
theorem dX1_endAnalysis_5 : decode cX1_endAnalysis 5 = .ok (.if_icmp .gt 18, 3) := by decide +kernel
theorem dX1_endAnalysis_8 : decode cX1_endAnalysis 8 = .ok (.aload_n 0, 1) := by decide +kernel
theorem dX1_endAnalysis_9 : decode cX1_endAnalysis 9 = .ok (.getfield 20, 3) := by decide +kernel
theorem dX1_endAnalysis_12 : decode cX1_endAnalysis 12 = .ok (.iload_n 1, 1) := by decide +kernel
theorem dX1_endAnalysis_13 : decode cX1_endAnalysis 13 = .ok (.aaload, 1) := by decide +kernel
theorem dX1_endAnalysis_14 : decode cX1_endAnalysis 14 = .ok (.invokevirtual 75, 3) := by decide +kernel
theorem dX1_endAnalysis_17 : decode cX1_endAnalysis 17 = .ok (.iinc 1 1, 3) := by decide +kernel
theorem dX1_endAnalysis_20 : decode cX1_endAnalysis 20 = .ok (.goto (-18), 3) := by decide +kernel
theorem dX1_endAnalysis_23 : decode cX1_endAnalysis 23 = .ok (.aload_n 0, 1) := by decide +kernel
theorem dX1_endAnalysis_24 : decode cX1_endAnalysis 24 = .ok (.iconst 0, 1) := by decide +kernel
theorem dX1_endAnalysis_25 : decode cX1_endAnalysis 25 = .ok (.putfield 55, 3) := by decide +kernel
theorem dX1_endAnalysis_28 : decode cX1_endAnalysis 28 = .ok (.aload_n 0, 1) := by decide +kernel
theorem dX1_endAnalysis_29 : decode cX1_endAnalysis 29 = .ok (.iconst 0, 1) := by decide +kernel
theorem dX1_endAnalysis_30 : decode cX1_endAnalysis 30 = .ok (.putfield 59, 3) := by decide +kernel
theorem dX1_endAnalysis_33 : decode cX1_endAnalysis 33 = .ok (.aload_n 0, 1) := by decide +kernel
theorem dX1_endAnalysis_34 : decode cX1_endAnalysis 34 = .ok (.iconst 0, 1) := by decide +kernel
theorem dX1_endAnalysis_35 : decode cX1_endAnalysis 35 = .ok (.putfield 62, 3) := by decide +kernel
theorem dX1_endAnalysis_38 : decode cX1_endAnalysis 38 = .ok (.aload_n 0, 1) := by decide +kernel
theorem dX1_endAnalysis_39 : decode cX1_endAnalysis 39 = .ok (.iconst 0, 1) := by decide +kernel
theorem dX1_endAnalysis_40 : decode cX1_endAnalysis 40 = .ok (.putfield 65, 3) := by decide +kernel
theorem dX1_endAnalysis_43 : decode cX1_endAnalysis 43 = .ok (.return_, 1) := by decide +kernel
theorem dX1_beginAnalysis_0 : decode cX1_beginAnalysis 0 = .ok (.aload_n 0, 1) := by decide +kernel
theorem dX1_beginAnalysis_1 : decode cX1_beginAnalysis 1 = .ok (.getfield 9, 3) := by decide +kernel
theorem dX1_beginAnalysis_4 : decode cX1_beginAnalysis 4 = .ok (.aload_n 0, 1) := by decide +kernel
theorem dX1_beginAnalysis_5 : decode cX1_beginAnalysis 5 = .ok (.getfield 20, 3) := by decide +kernel
theorem dX1_beginAnalysis_8 : decode cX1_beginAnalysis 8 = .ok (.iconst 0, 1) := by decide +kernel
theorem dX1_beginAnalysis_9 : decode cX1_beginAnalysis 9 = .ok (.aaload, 1) := by decide +kernel
theorem dX1_beginAnalysis_10 : decode cX1_beginAnalysis 10 = .ok (.getfield 78, 3) := by decide +kernel
theorem dX1_beginAnalysis_13 : decode cX1_beginAnalysis 13 = .ok (.invokestatic 44, 3) := by decide +kernel
theorem dX1_beginAnalysis_16 : decode cX1_beginAnalysis 16 = .ok (.aload_n 0, 1) := by decide +kernel
theorem dX1_beginAnalysis_17 : decode cX1_beginAnalysis 17 = .ok (.getfield 9, 3) := by decide +kernel
theorem dX1_beginAnalysis_20 : decode cX1_beginAnalysis 20 = .ok (.invokestatic 81, 3) := by decide +kernel
theorem dX1_beginAnalysis_23 : decode cX1_beginAnalysis 23 = .ok (.aload_n 0, 1) := by decide +kernel
theorem dX1_beginAnalysis_24 : decode cX1_beginAnalysis 24 = .ok (.iconst 1, 1) := by decide +kernel
theorem dX1_beginAnalysis_25 : decode cX1_beginAnalysis 25 = .ok (.putfield 55, 3) := by decide +kernel
theorem dX1_beginAnalysis_28 : decode cX1_beginAnalysis 28 = .ok (.aload_n 0, 1) := by decide +kernel
theorem dX1_beginAnalysis_29 : decode cX1_beginAnalysis 29 = .ok (.iload_n 1, 1) := by decide +kernel
theorem dX1_beginAnalysis_30 : decode cX1_beginAnalysis 30 = .ok (.putfield 59, 3) := by decide +kernel
theorem dX1_beginAnalysis_33 : decode cX1_beginAnalysis 33 = .ok (.return_, 1) := by decide +kernel
theorem dX1_shakeOneMinute_0 : decode cX1_shakeOneMinute 0 = .ok (.aload_n 0, 1) := by decide +kernel
theorem dX1_shakeOneMinute_1 : decode cX1_shakeOneMinute 1 = .ok (.iconst 0, 1) := by decide +kernel
theorem dX1_shakeOneMinute_2 : decode cX1_shakeOneMinute 2 = .ok (.putfield 65, 3) := by decide +kernel
theorem dX1_shakeOneMinute_5 : decode cX1_shakeOneMinute 5 = .ok (.aload_n 0, 1) := by decide +kernel
theorem dX1_shakeOneMinute_6 : decode cX1_shakeOneMinute 6 = .ok (.getfield 52, 3) := by decide +kernel
theorem dX1_shakeOneMinute_9 : decode cX1_shakeOneMinute 9 = .ok (.iconst 1, 1) := by decide +kernel
theorem dX1_shakeOneMinute_10 : decode cX1_shakeOneMinute 10 = .ok (.isub, 1) := by decide +kernel
theorem dX1_shakeOneMinute_11 : decode cX1_shakeOneMinute 11 = .ok (.istore_n 1, 1) := by decide +kernel
theorem dX1_shakeOneMinute_12 : decode cX1_shakeOneMinute 12 = .ok (.iload_n 1, 1) := by decide +kernel
theorem dX1_shakeOneMinute_13 : decode cX1_shakeOneMinute 13 = .ok (.ifCond .lt 52, 3) := by decide +kernel
theorem dX1_shakeOneMinute_16 : decode cX1_shakeOneMinute 16 = .ok (.aload_n 0, 1) := by decide +kernel
theorem dX1_shakeOneMinute_17 : decode cX1_shakeOneMinute 17 = .ok (.dup, 1) := by decide +kernel
theorem dX1_shakeOneMinute_18 : decode cX1_shakeOneMinute 18 = .ok (.getfield 65, 3) := by decide +kernel
theorem dX1_shakeOneMinute_21 : decode cX1_shakeOneMinute 21 = .ok (.aload_n 0, 1) := by decide +kernel
theorem dX1_shakeOneMinute_22 : decode cX1_shakeOneMinute 22 = .ok (.getfield 20, 3) := by decide +kernel
theorem dX1_shakeOneMinute_25 : decode cX1_shakeOneMinute 25 = .ok (.iload_n 1, 1) := by decide +kernel
theorem dX1_shakeOneMinute_26 : decode cX1_shakeOneMinute 26 = .ok (.aaload, 1) := by decide +kernel
theorem dX1_shakeOneMinute_27 : decode cX1_shakeOneMinute 27 = .ok (.aload_n 0, 1) := by decide +kernel
theorem dX1_shakeOneMinute_28 : decode cX1_shakeOneMinute 28 = .ok (.getfield 20, 3) := by decide +kernel
theorem dX1_shakeOneMinute_31 : decode cX1_shakeOneMinute 31 = .ok (.iload_n 1, 1) := by decide +kernel
theorem dX1_shakeOneMinute_32 : decode cX1_shakeOneMinute 32 = .ok (.iconst 1, 1) := by decide +kernel
theorem dX1_shakeOneMinute_33 : decode cX1_shakeOneMinute 33 = .ok (.iadd, 1) := by decide +kernel
theorem dX1_shakeOneMinute_34 : decode cX1_shakeOneMinute 34 = .ok (.aaload, 1) := by decide +kernel
theorem dX1_shakeOneMinute_35 : decode cX1_shakeOneMinute 35 = .ok (.aload_n 0, 1) := by decide +kernel
theorem dX1_shakeOneMinute_36 : decode cX1_shakeOneMinute 36 = .ok (.getfield 30, 3) := by decide +kernel
theorem dX1_shakeOneMinute_39 : decode cX1_shakeOneMinute 39 = .ok (.invokevirtual 85, 3) := by decide +kernel
theorem dX1_shakeOneMinute_42 : decode cX1_shakeOneMinute 42 = .ok (.iadd, 1) := by decide +kernel
theorem dX1_shakeOneMinute_43 : decode cX1_shakeOneMinute 43 = .ok (.putfield 65, 3) := by decide +kernel
theorem dX1_shakeOneMinute_46 : decode cX1_shakeOneMinute 46 = .ok (.aload_n 0, 1) := by decide +kernel
theorem dX1_shakeOneMinute_47 : decode cX1_shakeOneMinute 47 = .ok (.getfield 20, 3) := by decide +kernel
theorem dX1_shakeOneMinute_50 : decode cX1_shakeOneMinute 50 = .ok (.iload_n 1, 1) := by decide +kernel
theorem dX1_shakeOneMinute_51 : decode cX1_shakeOneMinute 51 = .ok (.aaload, 1) := by decide +kernel
theorem dX1_shakeOneMinute_52 : decode cX1_shakeOneMinute 52 = .ok (.aload_n 0, 1) := by decide +kernel
theorem dX1_shakeOneMinute_53 : decode cX1_shakeOneMinute 53 = .ok (.getfield 34, 3) := by decide +kernel
theorem dX1_shakeOneMinute_56 : decode cX1_shakeOneMinute 56 = .ok (.invokevirtual 89, 3) := by decide +kernel
theorem dX1_shakeOneMinute_59 : decode cX1_shakeOneMinute 59 = .ok (.iinc 1 (-1), 3) := by decide +kernel
theorem dX1_shakeOneMinute_62 : decode cX1_shakeOneMinute 62 = .ok (.goto (-50), 3) := by decide +kernel
theorem dX1_shakeOneMinute_65 : decode cX1_shakeOneMinute 65 = .ok (.aload_n 0, 1) := by decide +kernel
theorem dX1_shakeOneMinute_66 : decode cX1_shakeOneMinute 66 = .ok (.getfield 20, 3) := by decide +kernel
theorem dX1_shakeOneMinute_69 : decode cX1_shakeOneMinute 69 = .ok (.aload_n 0, 1) := by decide +kernel
theorem dX1_shakeOneMinute_70 : decode cX1_shakeOneMinute 70 = .ok (.getfield 52, 3) := by decide +kernel
theorem dX1_shakeOneMinute_73 : decode cX1_shakeOneMinute 73 = .ok (.aaload, 1) := by decide +kernel
theorem dX1_shakeOneMinute_74 : decode cX1_shakeOneMinute 74 = .ok (.getfield 78, 3) := by decide +kernel
theorem dX1_shakeOneMinute_77 : decode cX1_shakeOneMinute 77 = .ok (.astore_n 1, 1) := by decide +kernel
theorem dX1_shakeOneMinute_78 : decode cX1_shakeOneMinute 78 = .ok (.aload_n 1, 1) := by decide +kernel
theorem dX1_shakeOneMinute_79 : decode cX1_shakeOneMinute 79 = .ok (.iconst 0, 1) := by decide +kernel
theorem dX1_shakeOneMinute_80 : decode cX1_shakeOneMinute 80 = .ok (.dup2, 1) := by decide +kernel
theorem dX1_shakeOneMinute_81 : decode cX1_shakeOneMinute 81 = .ok (.iaload, 1) := by decide +kernel
theorem dX1_shakeOneMinute_82 : decode cX1_shakeOneMinute 82 = .ok (.aload_n 1, 1) := by decide +kernel
theorem dX1_shakeOneMinute_83 : decode cX1_shakeOneMinute 83 = .ok (.iconst 0, 1) := by decide +kernel
theorem dX1_shakeOneMinute_84 : decode cX1_shakeOneMinute 84 = .ok (.iaload, 1) := by decide +kernel
theorem dX1_shakeOneMinute_85 : decode cX1_shakeOneMinute 85 = .ok (.aload_n 0, 1) := by decide +kernel
theorem dX1_shakeOneMinute_86 : decode cX1_shakeOneMinute 86 = .ok (.getfield 37, 3) := by decide +kernel
theorem dX1_shakeOneMinute_89 : decode cX1_shakeOneMinute 89 = .ok (.imul, 1) := by decide +kernel
theorem dX1_shakeOneMinute_90 : decode cX1_shakeOneMinute 90 = .ok (.sipush 1000, 3) := by decide +kernel
theorem dX1_shakeOneMinute_93 : decode cX1_shakeOneMinute 93 = .ok (.idiv, 1) := by decide +kernel
theorem dX1_shakeOneMinute_94 : decode cX1_shakeOneMinute 94 = .ok (.isub, 1) := by decide +kernel
theorem dX1_shakeOneMinute_95 : decode cX1_shakeOneMinute 95 = .ok (.iastore, 1) := by decide +kernel
theorem dX1_shakeOneMinute_96 : decode cX1_shakeOneMinute 96 = .ok (.aload_n 0, 1) := by decide +kernel
theorem dX1_shakeOneMinute_97 : decode cX1_shakeOneMinute 97 = .ok (.dup, 1) := by decide +kernel
theorem dX1_shakeOneMinute_98 : decode cX1_shakeOneMinute 98 = .ok (.getfield 62, 3) := by decide +kernel
theorem dX1_shakeOneMinute_101 : decode cX1_shakeOneMinute 101 = .ok (.iconst 1, 1) := by decide +kernel
theorem dX1_shakeOneMinute_102 : decode cX1_shakeOneMinute 102 = .ok (.iadd, 1) := by decide +kernel
theorem dX1_shakeOneMinute_103 : decode cX1_shakeOneMinute 103 = .ok (.putfield 62, 3) := by decide +kernel
theorem dX1_shakeOneMinute_106 : decode cX1_shakeOneMinute 106 = .ok (.aload_n 0, 1) := by decide +kernel
theorem dX1_shakeOneMinute_107 : decode cX1_shakeOneMinute 107 = .ok (.getfield 65, 3) := by decide +kernel
theorem dX1_shakeOneMinute_110 : decode cX1_shakeOneMinute 110 = .ok (.ireturn, 1) := by decide +kernel
theorem dX1_lostMass_0 : decode cX1_lostMass 0 = .ok (.iconst 0, 1) := by decide +kernel
theorem dX1_lostMass_1 : decode cX1_lostMass 1 = .ok (.istore_n 1, 1) := by decide +kernel
theorem dX1_lostMass_2 : decode cX1_lostMass 2 = .ok (.iconst 0, 1) := by decide +kernel
theorem dX1_lostMass_3 : decode cX1_lostMass 3 = .ok (.istore_n 2, 1) := by decide +kernel
theorem dX1_lostMass_4 : decode cX1_lostMass 4 = .ok (.iload_n 2, 1) := by decide +kernel
theorem dX1_lostMass_5 : decode cX1_lostMass 5 = .ok (.aload_n 0, 1) := by decide +kernel
theorem dX1_lostMass_6 : decode cX1_lostMass 6 = .ok (.getfield 52, 3) := by decide +kernel
theorem dX1_lostMass_9 : decode cX1_lostMass 9 = .ok (.if_icmp .gt 36, 3) := by decide +kernel
theorem dX1_lostMass_12 : decode cX1_lostMass 12 = .ok (.aload_n 0, 1) := by decide +kernel
theorem dX1_lostMass_13 : decode cX1_lostMass 13 = .ok (.getfield 20, 3) := by decide +kernel
theorem dX1_lostMass_16 : decode cX1_lostMass 16 = .ok (.iload_n 2, 1) := by decide +kernel
theorem dX1_lostMass_17 : decode cX1_lostMass 17 = .ok (.aaload, 1) := by decide +kernel
theorem dX1_lostMass_18 : decode cX1_lostMass 18 = .ok (.astore_n 3, 1) := by decide +kernel
theorem dX1_lostMass_19 : decode cX1_lostMass 19 = .ok (.iload_n 1, 1) := by decide +kernel
theorem dX1_lostMass_20 : decode cX1_lostMass 20 = .ok (.aload_n 3, 1) := by decide +kernel
theorem dX1_lostMass_21 : decode cX1_lostMass 21 = .ok (.getfield 78, 3) := by decide +kernel
theorem dX1_lostMass_24 : decode cX1_lostMass 24 = .ok (.invokestatic 93, 3) := by decide +kernel
theorem dX1_lostMass_27 : decode cX1_lostMass 27 = .ok (.aload_n 3, 1) := by decide +kernel
theorem dX1_lostMass_28 : decode cX1_lostMass 28 = .ok (.getfield 97, 3) := by decide +kernel
theorem dX1_lostMass_31 : decode cX1_lostMass 31 = .ok (.iadd, 1) := by decide +kernel
theorem dX1_lostMass_32 : decode cX1_lostMass 32 = .ok (.aload_n 3, 1) := by decide +kernel
theorem dX1_lostMass_33 : decode cX1_lostMass 33 = .ok (.getfield 100, 3) := by decide +kernel
theorem dX1_lostMass_36 : decode cX1_lostMass 36 = .ok (.iadd, 1) := by decide +kernel
theorem dX1_lostMass_37 : decode cX1_lostMass 37 = .ok (.iadd, 1) := by decide +kernel
theorem dX1_lostMass_38 : decode cX1_lostMass 38 = .ok (.istore_n 1, 1) := by decide +kernel
theorem dX1_lostMass_39 : decode cX1_lostMass 39 = .ok (.iinc 2 1, 3) := by decide +kernel
theorem dX1_lostMass_42 : decode cX1_lostMass 42 = .ok (.goto (-38), 3) := by decide +kernel
theorem dX1_lostMass_45 : decode cX1_lostMass 45 = .ok (.aload_n 0, 1) := by decide +kernel
theorem dX1_lostMass_46 : decode cX1_lostMass 46 = .ok (.getfield 59, 3) := by decide +kernel
theorem dX1_lostMass_49 : decode cX1_lostMass 49 = .ok (.iload_n 1, 1) := by decide +kernel
theorem dX1_lostMass_50 : decode cX1_lostMass 50 = .ok (.isub, 1) := by decide +kernel
theorem dX1_lostMass_51 : decode cX1_lostMass 51 = .ok (.ireturn, 1) := by decide +kernel
theorem dX2_init_0 : decode cX2_init 0 = .ok (.aload_n 0, 1) := by decide +kernel
theorem dX2_init_1 : decode cX2_init 1 = .ok (.invokespecial 3, 3) := by decide +kernel
theorem dX2_init_4 : decode cX2_init 4 = .ok (.aload_n 0, 1) := by decide +kernel
theorem dX2_init_5 : decode cX2_init 5 = .ok (.bipush 10, 2) := by decide +kernel
theorem dX2_init_7 : decode cX2_init 7 = .ok (.newarray .int, 2) := by decide +kernel
theorem dX2_init_9 : decode cX2_init 9 = .ok (.putfield 9, 3) := by decide +kernel
theorem dX2_init_12 : decode cX2_init 12 = .ok (.return_, 1) := by decide +kernel
theorem dX2_copyFrom_0 : decode cX2_copyFrom 0 = .ok (.aload_n 1, 1) := by decide +kernel
theorem dX2_copyFrom_1 : decode cX2_copyFrom 1 = .ok (.getfield 9, 3) := by decide +kernel
theorem dX2_copyFrom_4 : decode cX2_copyFrom 4 = .ok (.aload_n 0, 1) := by decide +kernel
theorem dX2_copyFrom_5 : decode cX2_copyFrom 5 = .ok (.getfield 9, 3) := by decide +kernel
theorem dX2_copyFrom_8 : decode cX2_copyFrom 8 = .ok (.invokestatic 15, 3) := by decide +kernel
theorem dX2_copyFrom_11 : decode cX2_copyFrom 11 = .ok (.aload_n 0, 1) := by decide +kernel
theorem dX2_copyFrom_12 : decode cX2_copyFrom 12 = .ok (.aload_n 1, 1) := by decide +kernel
theorem dX2_copyFrom_13 : decode cX2_copyFrom 13 = .ok (.getfield 19, 3) := by decide +kernel
theorem dX2_copyFrom_16 : decode cX2_copyFrom 16 = .ok (.putfield 19, 3) := by decide +kernel
theorem dX2_copyFrom_19 : decode cX2_copyFrom 19 = .ok (.aload_n 0, 1) := by decide +kernel
theorem dX2_copyFrom_20 : decode cX2_copyFrom 20 = .ok (.aload_n 1, 1) := by decide +kernel
theorem dX2_copyFrom_21 : decode cX2_copyFrom 21 = .ok (.getfield 23, 3) := by decide +kernel
theorem dX2_copyFrom_24 : decode cX2_copyFrom 24 = .ok (.putfield 23, 3) := by decide +kernel
theorem dX2_copyFrom_27 : decode cX2_copyFrom 27 = .ok (.aload_n 0, 1) := by decide +kernel
theorem dX2_copyFrom_28 : decode cX2_copyFrom 28 = .ok (.aload_n 1, 1) := by decide +kernel
theorem dX2_copyFrom_29 : decode cX2_copyFrom 29 = .ok (.getfield 26, 3) := by decide +kernel
theorem dX2_copyFrom_32 : decode cX2_copyFrom 32 = .ok (.putfield 26, 3) := by decide +kernel
theorem dX2_copyFrom_35 : decode cX2_copyFrom 35 = .ok (.return_, 1) := by decide +kernel
theorem dX2_throwAway_0 : decode cX2_throwAway 0 = .ok (.aload_n 0, 1) := by decide +kernel
theorem dX2_throwAway_1 : decode cX2_throwAway 1 = .ok (.getfield 9, 3) := by decide +kernel
theorem dX2_throwAway_4 : decode cX2_throwAway 4 = .ok (.invokestatic 29, 3) := by decide +kernel
theorem dX2_throwAway_7 : decode cX2_throwAway 7 = .ok (.aload_n 0, 1) := by decide +kernel
theorem dX2_throwAway_8 : decode cX2_throwAway 8 = .ok (.iconst 0, 1) := by decide +kernel
theorem dX2_throwAway_9 : decode cX2_throwAway 9 = .ok (.putfield 23, 3) := by decide +kernel
theorem dX2_throwAway_12 : decode cX2_throwAway 12 = .ok (.aload_n 0, 1) := by decide +kernel
theorem dX2_throwAway_13 : decode cX2_throwAway 13 = .ok (.iconst 0, 1) := by decide +kernel
theorem dX2_throwAway_14 : decode cX2_throwAway 14 = .ok (.putfield 26, 3) := by decide +kernel
theorem dX2_throwAway_17 : decode cX2_throwAway 17 = .ok (.return_, 1) := by decide +kernel
theorem dX2_openness_0 : decode cX2_openness 0 = .ok (.bipush 100, 2) := by decide +kernel
theorem dX2_openness_2 : decode cX2_openness 2 = .ok (.sipush 1000, 3) := by decide +kernel
theorem dX2_openness_5 : decode cX2_openness 5 = .ok (.aload_n 0, 1) := by decide +kernel
theorem dX2_openness_6 : decode cX2_openness 6 = .ok (.getfield 23, 3) := by decide +kernel
theorem dX2_openness_9 : decode cX2_openness 9 = .ok (.iload_n 1, 1) := by decide +kernel
theorem dX2_openness_10 : decode cX2_openness 10 = .ok (.invokestatic 33, 3) := by decide +kernel
theorem dX2_openness_13 : decode cX2_openness 13 = .ok (.isub, 1) := by decide +kernel
theorem dX2_openness_14 : decode cX2_openness 14 = .ok (.invokestatic 37, 3) := by decide +kernel
theorem dX2_openness_17 : decode cX2_openness 17 = .ok (.ireturn, 1) := by decide +kernel
theorem dX2_dropOnto_0 : decode cX2_dropOnto 0 = .ok (.aload_n 0, 1) := by decide +kernel
theorem dX2_dropOnto_1 : decode cX2_dropOnto 1 = .ok (.iload_n 2, 1) := by decide +kernel
theorem dX2_dropOnto_2 : decode cX2_dropOnto 2 = .ok (.invokevirtual 42, 3) := by decide +kernel
theorem dX2_dropOnto_5 : decode cX2_dropOnto 5 = .ok (.istore_n 3, 1) := by decide +kernel
theorem dX2_dropOnto_6 : decode cX2_dropOnto 6 = .ok (.iconst 0, 1) := by decide +kernel
theorem dX2_dropOnto_7 : decode cX2_dropOnto 7 = .ok (.istore 4, 2) := by decide +kernel
theorem dX2_dropOnto_9 : decode cX2_dropOnto 9 = .ok (.iconst 0, 1) := by decide +kernel
theorem dX2_dropOnto_10 : decode cX2_dropOnto 10 = .ok (.istore 5, 2) := by decide +kernel
theorem dX2_dropOnto_12 : decode cX2_dropOnto 12 = .ok (.iload 5, 2) := by decide +kernel
theorem dX2_dropOnto_14 : decode cX2_dropOnto 14 = .ok (.aload_n 0, 1) := by decide +kernel
theorem dX2_dropOnto_15 : decode cX2_dropOnto 15 = .ok (.getfield 19, 3) := by decide +kernel
theorem dX2_dropOnto_18 : decode cX2_dropOnto 18 = .ok (.if_icmp .ge 63, 3) := by decide +kernel
theorem dX2_dropOnto_21 : decode cX2_dropOnto 21 = .ok (.aload_n 0, 1) := by decide +kernel
theorem dX2_dropOnto_22 : decode cX2_dropOnto 22 = .ok (.getfield 9, 3) := by decide +kernel
theorem dX2_dropOnto_25 : decode cX2_dropOnto 25 = .ok (.iload 5, 2) := by decide +kernel
theorem dX2_dropOnto_27 : decode cX2_dropOnto 27 = .ok (.iaload, 1) := by decide +kernel
theorem dX2_dropOnto_28 : decode cX2_dropOnto 28 = .ok (.iload_n 3, 1) := by decide +kernel
theorem dX2_dropOnto_29 : decode cX2_dropOnto 29 = .ok (.aload_n 0, 1) := by decide +kernel
theorem dX2_dropOnto_30 : decode cX2_dropOnto 30 = .ok (.getfield 19, 3) := by decide +kernel
theorem dX2_dropOnto_33 : decode cX2_dropOnto 33 = .ok (.iload 5, 2) := by decide +kernel
theorem dX2_dropOnto_35 : decode cX2_dropOnto 35 = .ok (.isub, 1) := by decide +kernel
theorem dX2_dropOnto_36 : decode cX2_dropOnto 36 = .ok (.invokestatic 46, 3) := by decide +kernel
theorem dX2_dropOnto_39 : decode cX2_dropOnto 39 = .ok (.invokestatic 49, 3) := by decide +kernel
theorem dX2_dropOnto_42 : decode cX2_dropOnto 42 = .ok (.istore 6, 2) := by decide +kernel
theorem dX2_dropOnto_44 : decode cX2_dropOnto 44 = .ok (.aload_n 0, 1) := by decide +kernel
theorem dX2_dropOnto_45 : decode cX2_dropOnto 45 = .ok (.getfield 9, 3) := by decide +kernel
theorem dX2_dropOnto_48 : decode cX2_dropOnto 48 = .ok (.iload 5, 2) := by decide +kernel
theorem dX2_dropOnto_50 : decode cX2_dropOnto 50 = .ok (.dup2, 1) := by decide +kernel
theorem dX2_dropOnto_51 : decode cX2_dropOnto 51 = .ok (.iaload, 1) := by decide +kernel
theorem dX2_dropOnto_52 : decode cX2_dropOnto 52 = .ok (.iload 6, 2) := by decide +kernel
theorem dX2_dropOnto_54 : decode cX2_dropOnto 54 = .ok (.isub, 1) := by decide +kernel
theorem dX2_dropOnto_55 : decode cX2_dropOnto 55 = .ok (.iastore, 1) := by decide +kernel
theorem dX2_dropOnto_56 : decode cX2_dropOnto 56 = .ok (.aload_n 1, 1) := by decide +kernel
theorem dX2_dropOnto_57 : decode cX2_dropOnto 57 = .ok (.getfield 9, 3) := by decide +kernel
theorem dX2_dropOnto_60 : decode cX2_dropOnto 60 = .ok (.iload 5, 2) := by decide +kernel
theorem dX2_dropOnto_62 : decode cX2_dropOnto 62 = .ok (.dup2, 1) := by decide +kernel
theorem dX2_dropOnto_63 : decode cX2_dropOnto 63 = .ok (.iaload, 1) := by decide +kernel
theorem dX2_dropOnto_64 : decode cX2_dropOnto 64 = .ok (.iload 6, 2) := by decide +kernel
theorem dX2_dropOnto_66 : decode cX2_dropOnto 66 = .ok (.iadd, 1) := by decide +kernel
theorem dX2_dropOnto_67 : decode cX2_dropOnto 67 = .ok (.iastore, 1) := by decide +kernel
theorem dX2_dropOnto_68 : decode cX2_dropOnto 68 = .ok (.iload 4, 2) := by decide +kernel
theorem dX2_dropOnto_70 : decode cX2_dropOnto 70 = .ok (.iload 6, 2) := by decide +kernel
theorem dX2_dropOnto_72 : decode cX2_dropOnto 72 = .ok (.iadd, 1) := by decide +kernel
theorem dX2_dropOnto_73 : decode cX2_dropOnto 73 = .ok (.istore 4, 2) := by decide +kernel
theorem dX2_dropOnto_75 : decode cX2_dropOnto 75 = .ok (.iinc 5 1, 3) := by decide +kernel
theorem dX2_dropOnto_78 : decode cX2_dropOnto 78 = .ok (.goto (-66), 3) := by decide +kernel
theorem dX2_dropOnto_81 : decode cX2_dropOnto 81 = .ok (.iload 4, 2) := by decide +kernel
theorem dX2_dropOnto_83 : decode cX2_dropOnto 83 = .ok (.ireturn, 1) := by decide +kernel
theorem dX2_blind_0 : decode cX2_blind 0 = .ok (.aload_n 0, 1) := by decide +kernel
theorem dX2_blind_1 : decode cX2_blind 1 = .ok (.getfield 9, 3) := by decide +kernel
theorem dX2_blind_4 : decode cX2_blind 4 = .ok (.aload_n 0, 1) := by decide +kernel
theorem dX2_blind_5 : decode cX2_blind 5 = .ok (.getfield 19, 3) := by decide +kernel
theorem dX2_blind_8 : decode cX2_blind 8 = .ok (.iaload, 1) := by decide +kernel
theorem dX2_blind_9 : decode cX2_blind 9 = .ok (.iload_n 1, 1) := by decide +kernel
theorem dX2_blind_10 : decode cX2_blind 10 = .ok (.imul, 1) := by decide +kernel
theorem dX2_blind_11 : decode cX2_blind 11 = .ok (.sipush 1000, 3) := by decide +kernel
theorem dX2_blind_14 : decode cX2_blind 14 = .ok (.idiv, 1) := by decide +kernel
theorem dX2_blind_15 : decode cX2_blind 15 = .ok (.istore_n 2, 1) := by decide +kernel
theorem dX2_blind_16 : decode cX2_blind 16 = .ok (.aload_n 0, 1) := by decide +kernel
theorem dX2_blind_17 : decode cX2_blind 17 = .ok (.getfield 9, 3) := by decide +kernel
theorem dX2_blind_20 : decode cX2_blind 20 = .ok (.aload_n 0, 1) := by decide +kernel
theorem dX2_blind_21 : decode cX2_blind 21 = .ok (.getfield 19, 3) := by decide +kernel
theorem dX2_blind_24 : decode cX2_blind 24 = .ok (.dup2, 1) := by decide +kernel
theorem dX2_blind_25 : decode cX2_blind 25 = .ok (.iaload, 1) := by decide +kernel
theorem dX2_blind_26 : decode cX2_blind 26 = .ok (.iload_n 2, 1) := by decide +kernel
theorem dX2_blind_27 : decode cX2_blind 27 = .ok (.isub, 1) := by decide +kernel
theorem dX2_blind_28 : decode cX2_blind 28 = .ok (.iastore, 1) := by decide +kernel
theorem dX2_blind_29 : decode cX2_blind 29 = .ok (.aload_n 0, 1) := by decide +kernel
theorem dX2_blind_30 : decode cX2_blind 30 = .ok (.dup, 1) := by decide +kernel
theorem dX2_blind_31 : decode cX2_blind 31 = .ok (.getfield 23, 3) := by decide +kernel
theorem dX2_blind_34 : decode cX2_blind 34 = .ok (.iload_n 2, 1) := by decide +kernel
theorem dX2_blind_35 : decode cX2_blind 35 = .ok (.iadd, 1) := by decide +kernel
theorem dX2_blind_36 : decode cX2_blind 36 = .ok (.putfield 23, 3) := by decide +kernel
theorem dX2_blind_39 : decode cX2_blind 39 = .ok (.return_, 1) := by decide +kernel
theorem dX2_fallingOf_0 : decode cX2_fallingOf 0 = .ok (.iload_n 0, 1) := by decide +kernel
theorem dX2_fallingOf_1 : decode cX2_fallingOf 1 = .ok (.ifCond .ne 5, 3) := by decide +kernel
theorem dX2_fallingOf_4 : decode cX2_fallingOf 4 = .ok (.iconst 0, 1) := by decide +kernel
theorem dX2_fallingOf_5 : decode cX2_fallingOf 5 = .ok (.ireturn, 1) := by decide +kernel
theorem dX2_fallingOf_6 : decode cX2_fallingOf 6 = .ok (.lconst 1, 1) := by decide +kernel
theorem dX2_fallingOf_7 : decode cX2_fallingOf 7 = .ok (.iload_n 0, 1) := by decide +kernel
theorem dX2_fallingOf_8 : decode cX2_fallingOf 8 = .ok (.i2l, 1) := by decide +kernel
theorem dX2_fallingOf_9 : decode cX2_fallingOf 9 = .ok (.iload_n 1, 1) := by decide +kernel
theorem dX2_fallingOf_10 : decode cX2_fallingOf 10 = .ok (.i2l, 1) := by decide +kernel
theorem dX2_fallingOf_11 : decode cX2_fallingOf 11 = .ok (.lmul, 1) := by decide +kernel
theorem dX2_fallingOf_12 : decode cX2_fallingOf 12 = .ok (.iload_n 2, 1) := by decide +kernel
theorem dX2_fallingOf_13 : decode cX2_fallingOf 13 = .ok (.i2l, 1) := by decide +kernel
theorem dX2_fallingOf_14 : decode cX2_fallingOf 14 = .ok (.lmul, 1) := by decide +kernel
theorem dX2_fallingOf_15 : decode cX2_fallingOf 15 = .ok (.ldc2_w 53, 3) := by decide +kernel
theorem dX2_fallingOf_18 : decode cX2_fallingOf 18 = .ok (.ldiv, 1) := by decide +kernel
theorem dX2_fallingOf_19 : decode cX2_fallingOf 19 = .ok (.invokestatic 55, 3) := by decide +kernel
theorem dX2_fallingOf_22 : decode cX2_fallingOf 22 = .ok (.l2i, 1) := by decide +kernel
theorem dX2_fallingOf_23 : decode cX2_fallingOf 23 = .ok (.ireturn, 1) := by decide +kernel
theorem dX2_easeOf_0 : decode cX2_easeOf 0 = .ok (.iload_n 0, 1) := by decide +kernel
theorem dX2_easeOf_1 : decode cX2_easeOf 1 = .ok (.lookupswitch 35 #[(1, 27), (2, 31)], 27) := by decide +kernel
theorem dX2_easeOf_28 : decode cX2_easeOf 28 = .ok (.sipush 300, 3) := by decide +kernel
theorem dX2_easeOf_31 : decode cX2_easeOf 31 = .ok (.ireturn, 1) := by decide +kernel
theorem dX2_easeOf_32 : decode cX2_easeOf 32 = .ok (.sipush 600, 3) := by decide +kernel
theorem dX2_easeOf_35 : decode cX2_easeOf 35 = .ok (.ireturn, 1) := by decide +kernel
theorem dX2_easeOf_36 : decode cX2_easeOf 36 = .ok (.sipush 900, 3) := by decide +kernel
theorem dX2_easeOf_39 : decode cX2_easeOf 39 = .ok (.ireturn, 1) := by decide +kernel
theorem dX3_init_0 : decode cX3_init 0 = .ok (.aload_n 0, 1) := by decide +kernel
theorem dX3_init_1 : decode cX3_init 1 = .ok (.invokespecial 1, 3) := by decide +kernel
theorem dX3_init_4 : decode cX3_init 4 = .ok (.aload_n 0, 1) := by decide +kernel
theorem dX3_init_5 : decode cX3_init 5 = .ok (.new 7, 3) := by decide +kernel
theorem dX3_init_8 : decode cX3_init 8 = .ok (.dup, 1) := by decide +kernel
theorem dX3_init_9 : decode cX3_init 9 = .ok (.invokespecial 9, 3) := by decide +kernel
theorem dX3_init_12 : decode cX3_init 12 = .ok (.putfield 10, 3) := by decide +kernel
theorem dX3_init_15 : decode cX3_init 15 = .ok (.aload_n 0, 1) := by decide +kernel
theorem dX3_init_16 : decode cX3_init 16 = .ok (.new 7, 3) := by decide +kernel
theorem dX3_init_19 : decode cX3_init 19 = .ok (.dup, 1) := by decide +kernel
theorem dX3_init_20 : decode cX3_init 20 = .ok (.invokespecial 9, 3) := by decide +kernel
theorem dX3_init_23 : decode cX3_init 23 = .ok (.putfield 16, 3) := by decide +kernel
theorem dX3_init_26 : decode cX3_init 26 = .ok (.aload_n 0, 1) := by decide +kernel
theorem dX3_init_27 : decode cX3_init 27 = .ok (.bipush 6, 2) := by decide +kernel
theorem dX3_init_29 : decode cX3_init 29 = .ok (.anewarray 7, 3) := by decide +kernel
theorem dX3_init_32 : decode cX3_init 32 = .ok (.putfield 19, 3) := by decide +kernel
theorem dX3_init_35 : decode cX3_init 35 = .ok (.aload_n 0, 1) := by decide +kernel
theorem dX3_init_36 : decode cX3_init 36 = .ok (.new 23, 3) := by decide +kernel
theorem dX3_init_39 : decode cX3_init 39 = .ok (.dup, 1) := by decide +kernel
theorem dX3_init_40 : decode cX3_init 40 = .ok (.invokespecial 25, 3) := by decide +kernel
theorem dX3_init_43 : decode cX3_init 43 = .ok (.putfield 26, 3) := by decide +kernel
theorem dX3_init_46 : decode cX3_init 46 = .ok (.iconst 0, 1) := by decide +kernel
theorem dX3_init_47 : decode cX3_init 47 = .ok (.istore_n 1, 1) := by decide +kernel
theorem dX3_init_48 : decode cX3_init 48 = .ok (.iload_n 1, 1) := by decide +kernel
theorem dX3_init_49 : decode cX3_init 49 = .ok (.bipush 6, 2) := by decide +kernel
theorem dX3_init_51 : decode cX3_init 51 = .ok (.if_icmp .ge 22, 3) := by decide +kernel
theorem dX3_init_54 : decode cX3_init 54 = .ok (.aload_n 0, 1) := by decide +kernel
theorem dX3_init_55 : decode cX3_init 55 = .ok (.getfield 19, 3) := by decide +kernel
theorem dX3_init_58 : decode cX3_init 58 = .ok (.iload_n 1, 1) := by decide +kernel
theorem dX3_init_59 : decode cX3_init 59 = .ok (.new 7, 3) := by decide +kernel
theorem dX3_init_62 : decode cX3_init 62 = .ok (.dup, 1) := by decide +kernel
theorem dX3_init_63 : decode cX3_init 63 = .ok (.invokespecial 9, 3) := by decide +kernel
theorem dX3_init_66 : decode cX3_init 66 = .ok (.aastore, 1) := by decide +kernel
theorem dX3_init_67 : decode cX3_init 67 = .ok (.iinc 1 1, 3) := by decide +kernel
theorem dX3_init_70 : decode cX3_init 70 = .ok (.goto (-22), 3) := by decide +kernel
theorem dX3_init_73 : decode cX3_init 73 = .ok (.return_, 1) := by decide +kernel
theorem dX3_setMass_0 : decode cX3_setMass 0 = .ok (.iload_n 1, 1) := by decide +kernel
theorem dX3_setMass_1 : decode cX3_setMass 1 = .ok (.invokestatic 30, 3) := by decide +kernel
theorem dX3_setMass_4 : decode cX3_setMass 4 = .ok (.ifCond .eq 14, 3) := by decide +kernel
theorem dX3_setMass_7 : decode cX3_setMass 7 = .ok (.iload_n 2, 1) := by decide +kernel
theorem dX3_setMass_8 : decode cX3_setMass 8 = .ok (.iconst 0, 1) := by decide +kernel
theorem dX3_setMass_9 : decode cX3_setMass 9 = .ok (.sipush 9999, 3) := by decide +kernel
theorem dX3_setMass_12 : decode cX3_setMass 12 = .ok (.invokestatic 34, 3) := by decide +kernel
theorem dX3_setMass_15 : decode cX3_setMass 15 = .ok (.ifCond .ne 5, 3) := by decide +kernel
theorem dX3_setMass_18 : decode cX3_setMass 18 = .ok (.iconst (-1), 1) := by decide +kernel
theorem dX3_setMass_19 : decode cX3_setMass 19 = .ok (.ireturn, 1) := by decide +kernel
theorem dX3_setMass_20 : decode cX3_setMass 20 = .ok (.aload_n 0, 1) := by decide +kernel
theorem dX3_setMass_21 : decode cX3_setMass 21 = .ok (.invokevirtual 38, 3) := by decide +kernel
theorem dX3_setMass_24 : decode cX3_setMass 24 = .ok (.aload_n 0, 1) := by decide +kernel
theorem dX3_setMass_25 : decode cX3_setMass 25 = .ok (.getfield 10, 3) := by decide +kernel
theorem dX3_setMass_28 : decode cX3_setMass 28 = .ok (.getfield 41, 3) := by decide +kernel
theorem dX3_setMass_31 : decode cX3_setMass 31 = .ok (.iload_n 1, 1) := by decide +kernel
theorem dX3_setMass_32 : decode cX3_setMass 32 = .ok (.iaload, 1) := by decide +kernel
theorem dX3_setMass_33 : decode cX3_setMass 33 = .ok (.istore_n 3, 1) := by decide +kernel
theorem dX3_setMass_34 : decode cX3_setMass 34 = .ok (.aload_n 0, 1) := by decide +kernel
theorem dX3_setMass_35 : decode cX3_setMass 35 = .ok (.getfield 10, 3) := by decide +kernel
theorem dX3_setMass_38 : decode cX3_setMass 38 = .ok (.getfield 41, 3) := by decide +kernel
theorem dX3_setMass_41 : decode cX3_setMass 41 = .ok (.iload_n 1, 1) := by decide +kernel
theorem dX3_setMass_42 : decode cX3_setMass 42 = .ok (.iload_n 2, 1) := by decide +kernel
theorem dX3_setMass_43 : decode cX3_setMass 43 = .ok (.iastore, 1) := by decide +kernel
theorem dX3_setMass_44 : decode cX3_setMass 44 = .ok (.iload_n 3, 1) := by decide +kernel
theorem dX3_setMass_45 : decode cX3_setMass 45 = .ok (.ireturn, 1) := by decide +kernel
theorem dX3_mass_0 : decode cX3_mass 0 = .ok (.aload_n 0, 1) := by decide +kernel
theorem dX3_mass_1 : decode cX3_mass 1 = .ok (.getfield 10, 3) := by decide +kernel
theorem dX3_mass_4 : decode cX3_mass 4 = .ok (.getfield 41, 3) := by decide +kernel
theorem dX3_mass_7 : decode cX3_mass 7 = .ok (.iload_n 1, 1) := by decide +kernel
theorem dX3_mass_8 : decode cX3_mass 8 = .ok (.invokestatic 45, 3) := by decide +kernel
theorem dX3_mass_11 : decode cX3_mass 11 = .ok (.ireturn, 1) := by decide +kernel
theorem dX3_reserve_0 : decode cX3_reserve 0 = .ok (.aload_n 0, 1) := by decide +kernel
theorem dX3_reserve_1 : decode cX3_reserve 1 = .ok (.getfield 10, 3) := by decide +kernel
theorem dX3_reserve_4 : decode cX3_reserve 4 = .ok (.getfield 49, 3) := by decide +kernel
theorem dX3_reserve_7 : decode cX3_reserve 7 = .ok (.iload_n 1, 1) := by decide +kernel
theorem dX3_reserve_8 : decode cX3_reserve 8 = .ok (.invokestatic 45, 3) := by decide +kernel
theorem dX3_reserve_11 : decode cX3_reserve 11 = .ok (.ireturn, 1) := by decide +kernel
theorem dX3_split_0 : decode cX3_split 0 = .ok (.iload_n 1, 1) := by decide +kernel
theorem dX3_split_1 : decode cX3_split 1 = .ok (.iconst 0, 1) := by decide +kernel
theorem dX3_split_2 : decode cX3_split 2 = .ok (.iconst 1, 1) := by decide +kernel
theorem dX3_split_3 : decode cX3_split 3 = .ok (.invokestatic 34, 3) := by decide +kernel
theorem dX3_split_6 : decode cX3_split 6 = .ok (.ifCond .ne 5, 3) := by decide +kernel
theorem dX3_split_9 : decode cX3_split 9 = .ok (.iconst (-1), 1) := by decide +kernel
theorem dX3_split_10 : decode cX3_split 10 = .ok (.ireturn, 1) := by decide +kernel
theorem dX3_split_11 : decode cX3_split 11 = .ok (.aload_n 0, 1) := by decide +kernel
theorem dX3_split_12 : decode cX3_split 12 = .ok (.getfield 10, 3) := by decide +kernel
theorem dX3_split_15 : decode cX3_split 15 = .ok (.getfield 41, 3) := by decide +kernel
theorem dX3_split_18 : decode cX3_split 18 = .ok (.invokestatic 52, 3) := by decide +kernel
theorem dX3_split_21 : decode cX3_split 21 = .ok (.ifCond .ne 6, 3) := by decide +kernel
theorem dX3_split_24 : decode cX3_split 24 = .ok (.bipush (-2), 2) := by decide +kernel
theorem dX3_split_26 : decode cX3_split 26 = .ok (.ireturn, 1) := by decide +kernel
theorem dX3_split_27 : decode cX3_split 27 = .ok (.aload_n 0, 1) := by decide +kernel
theorem dX3_split_28 : decode cX3_split 28 = .ok (.invokevirtual 38, 3) := by decide +kernel
theorem dX3_split_31 : decode cX3_split 31 = .ok (.aload_n 0, 1) := by decide +kernel
theorem dX3_split_32 : decode cX3_split 32 = .ok (.getfield 10, 3) := by decide +kernel
theorem dX3_split_35 : decode cX3_split 35 = .ok (.iload_n 1, 1) := by decide +kernel
theorem dX3_split_36 : decode cX3_split 36 = .ok (.ifCond .ne 7, 3) := by decide +kernel
theorem dX3_split_39 : decode cX3_split 39 = .ok (.iconst 1, 1) := by decide +kernel
theorem dX3_split_40 : decode cX3_split 40 = .ok (.goto 4, 3) := by decide +kernel
theorem dX3_split_43 : decode cX3_split 43 = .ok (.iconst 0, 1) := by decide +kernel
theorem dX3_split_44 : decode cX3_split 44 = .ok (.invokevirtual 56, 3) := by decide +kernel
theorem dX3_split_47 : decode cX3_split 47 = .ok (.aload_n 0, 1) := by decide +kernel
theorem dX3_split_48 : decode cX3_split 48 = .ok (.getfield 10, 3) := by decide +kernel
theorem dX3_split_51 : decode cX3_split 51 = .ok (.getfield 41, 3) := by decide +kernel
theorem dX3_split_54 : decode cX3_split 54 = .ok (.invokestatic 52, 3) := by decide +kernel
theorem dX3_split_57 : decode cX3_split 57 = .ok (.ireturn, 1) := by decide +kernel
theorem dX3_combine_0 : decode cX3_combine 0 = .ok (.iconst 0, 1) := by decide +kernel
theorem dX3_combine_1 : decode cX3_combine 1 = .ok (.istore_n 1, 1) := by decide +kernel
theorem dX3_combine_2 : decode cX3_combine 2 = .ok (.iload_n 1, 1) := by decide +kernel
theorem dX3_combine_3 : decode cX3_combine 3 = .ok (.bipush 10, 2) := by decide +kernel
theorem dX3_combine_5 : decode cX3_combine 5 = .ok (.if_icmp .ge 37, 3) := by decide +kernel
theorem dX3_combine_8 : decode cX3_combine 8 = .ok (.aload_n 0, 1) := by decide +kernel
theorem dX3_combine_9 : decode cX3_combine 9 = .ok (.getfield 10, 3) := by decide +kernel
theorem dX3_combine_12 : decode cX3_combine 12 = .ok (.getfield 41, 3) := by decide +kernel
theorem dX3_combine_15 : decode cX3_combine 15 = .ok (.iload_n 1, 1) := by decide +kernel
theorem dX3_combine_16 : decode cX3_combine 16 = .ok (.iaload, 1) := by decide +kernel
theorem dX3_combine_17 : decode cX3_combine 17 = .ok (.aload_n 0, 1) := by decide +kernel
theorem dX3_combine_18 : decode cX3_combine 18 = .ok (.getfield 10, 3) := by decide +kernel
theorem dX3_combine_21 : decode cX3_combine 21 = .ok (.getfield 49, 3) := by decide +kernel
theorem dX3_combine_24 : decode cX3_combine 24 = .ok (.iload_n 1, 1) := by decide +kernel
theorem dX3_combine_25 : decode cX3_combine 25 = .ok (.iaload, 1) := by decide +kernel
theorem dX3_combine_26 : decode cX3_combine 26 = .ok (.iadd, 1) := by decide +kernel
theorem dX3_combine_27 : decode cX3_combine 27 = .ok (.sipush 9999, 3) := by decide +kernel
theorem dX3_combine_30 : decode cX3_combine 30 = .ok (.if_icmp .le 6, 3) := by decide +kernel
theorem dX3_combine_33 : decode cX3_combine 33 = .ok (.bipush (-3), 2) := by decide +kernel
theorem dX3_combine_35 : decode cX3_combine 35 = .ok (.ireturn, 1) := by decide +kernel
theorem dX3_combine_36 : decode cX3_combine 36 = .ok (.iinc 1 1, 3) := by decide +kernel
theorem dX3_combine_39 : decode cX3_combine 39 = .ok (.goto (-37), 3) := by decide +kernel
theorem dX3_combine_42 : decode cX3_combine 42 = .ok (.aload_n 0, 1) := by decide +kernel
theorem dX3_combine_43 : decode cX3_combine 43 = .ok (.invokevirtual 38, 3) := by decide +kernel
theorem dX3_combine_46 : decode cX3_combine 46 = .ok (.iconst 0, 1) := by decide +kernel
theorem dX3_combine_47 : decode cX3_combine 47 = .ok (.istore_n 1, 1) := by decide +kernel
theorem dX3_combine_48 : decode cX3_combine 48 = .ok (.iload_n 1, 1) := by decide +kernel
theorem dX3_combine_49 : decode cX3_combine 49 = .ok (.bipush 10, 2) := by decide +kernel
theorem dX3_combine_51 : decode cX3_combine 51 = .ok (.if_icmp .ge 40, 3) := by decide +kernel
theorem dX3_combine_54 : decode cX3_combine 54 = .ok (.aload_n 0, 1) := by decide +kernel
theorem dX3_combine_55 : decode cX3_combine 55 = .ok (.getfield 10, 3) := by decide +kernel
theorem dX3_combine_58 : decode cX3_combine 58 = .ok (.getfield 41, 3) := by decide +kernel
theorem dX3_combine_61 : decode cX3_combine 61 = .ok (.iload_n 1, 1) := by decide +kernel
theorem dX3_combine_62 : decode cX3_combine 62 = .ok (.dup2, 1) := by decide +kernel
theorem dX3_combine_63 : decode cX3_combine 63 = .ok (.iaload, 1) := by decide +kernel
theorem dX3_combine_64 : decode cX3_combine 64 = .ok (.aload_n 0, 1) := by decide +kernel
theorem dX3_combine_65 : decode cX3_combine 65 = .ok (.getfield 10, 3) := by decide +kernel
theorem dX3_combine_68 : decode cX3_combine 68 = .ok (.getfield 49, 3) := by decide +kernel
theorem dX3_combine_71 : decode cX3_combine 71 = .ok (.iload_n 1, 1) := by decide +kernel
theorem dX3_combine_72 : decode cX3_combine 72 = .ok (.iaload, 1) := by decide +kernel
theorem dX3_combine_73 : decode cX3_combine 73 = .ok (.iadd, 1) := by decide +kernel
theorem dX3_combine_74 : decode cX3_combine 74 = .ok (.iastore, 1) := by decide +kernel
theorem dX3_combine_75 : decode cX3_combine 75 = .ok (.aload_n 0, 1) := by decide +kernel
theorem dX3_combine_76 : decode cX3_combine 76 = .ok (.getfield 10, 3) := by decide +kernel
theorem dX3_combine_79 : decode cX3_combine 79 = .ok (.getfield 49, 3) := by decide +kernel
theorem dX3_combine_82 : decode cX3_combine 82 = .ok (.iload_n 1, 1) := by decide +kernel
theorem dX3_combine_83 : decode cX3_combine 83 = .ok (.iconst 0, 1) := by decide +kernel
theorem dX3_combine_84 : decode cX3_combine 84 = .ok (.iastore, 1) := by decide +kernel
theorem dX3_combine_85 : decode cX3_combine 85 = .ok (.iinc 1 1, 3) := by decide +kernel
theorem dX3_combine_88 : decode cX3_combine 88 = .ok (.goto (-40), 3) := by decide +kernel
theorem dX3_combine_91 : decode cX3_combine 91 = .ok (.aload_n 0, 1) := by decide +kernel
theorem dX3_combine_92 : decode cX3_combine 92 = .ok (.getfield 10, 3) := by decide +kernel
theorem dX3_combine_95 : decode cX3_combine 95 = .ok (.getfield 41, 3) := by decide +kernel
theorem dX3_combine_98 : decode cX3_combine 98 = .ok (.invokestatic 52, 3) := by decide +kernel
theorem dX3_combine_101 : decode cX3_combine 101 = .ok (.ireturn, 1) := by decide +kernel
theorem dX3_addSieve_0 : decode cX3_addSieve 0 = .ok (.iload_n 1, 1) := by decide +kernel
theorem dX3_addSieve_1 : decode cX3_addSieve 1 = .ok (.iconst 1, 1) := by decide +kernel
theorem dX3_addSieve_2 : decode cX3_addSieve 2 = .ok (.bipush 9, 2) := by decide +kernel
theorem dX3_addSieve_4 : decode cX3_addSieve 4 = .ok (.invokestatic 34, 3) := by decide +kernel
theorem dX3_addSieve_7 : decode cX3_addSieve 7 = .ok (.ifCond .ne 5, 3) := by decide +kernel
theorem dX3_addSieve_10 : decode cX3_addSieve 10 = .ok (.iconst (-1), 1) := by decide +kernel
theorem dX3_addSieve_11 : decode cX3_addSieve 11 = .ok (.ireturn, 1) := by decide +kernel
theorem dX3_addSieve_12 : decode cX3_addSieve 12 = .ok (.aload_n 0, 1) := by decide +kernel
theorem dX3_addSieve_13 : decode cX3_addSieve 13 = .ok (.getfield 10, 3) := by decide +kernel
theorem dX3_addSieve_16 : decode cX3_addSieve 16 = .ok (.iload_n 1, 1) := by decide +kernel
theorem dX3_addSieve_17 : decode cX3_addSieve 17 = .ok (.invokevirtual 79, 3) := by decide +kernel
theorem dX3_addSieve_20 : decode cX3_addSieve 20 = .ok (.bipush (-9), 2) := by decide +kernel
theorem dX3_addSieve_22 : decode cX3_addSieve 22 = .ok (.if_icmp .eq 6, 3) := by decide +kernel
theorem dX3_addSieve_25 : decode cX3_addSieve 25 = .ok (.bipush (-2), 2) := by decide +kernel
theorem dX3_addSieve_27 : decode cX3_addSieve 27 = .ok (.ireturn, 1) := by decide +kernel
theorem dX3_addSieve_28 : decode cX3_addSieve 28 = .ok (.aload_n 0, 1) := by decide +kernel
theorem dX3_addSieve_29 : decode cX3_addSieve 29 = .ok (.getfield 10, 3) := by decide +kernel
theorem dX3_addSieve_32 : decode cX3_addSieve 32 = .ok (.getfield 83, 3) := by decide +kernel
theorem dX3_addSieve_35 : decode cX3_addSieve 35 = .ok (.bipush 6, 2) := by decide +kernel
theorem dX3_addSieve_37 : decode cX3_addSieve 37 = .ok (.if_icmp .lt 6, 3) := by decide +kernel
theorem dX3_addSieve_40 : decode cX3_addSieve 40 = .ok (.bipush (-3), 2) := by decide +kernel
theorem dX3_addSieve_42 : decode cX3_addSieve 42 = .ok (.ireturn, 1) := by decide +kernel
theorem dX3_addSieve_43 : decode cX3_addSieve 43 = .ok (.aload_n 0, 1) := by decide +kernel
theorem dX3_addSieve_44 : decode cX3_addSieve 44 = .ok (.invokevirtual 38, 3) := by decide +kernel
theorem dX3_addSieve_47 : decode cX3_addSieve 47 = .ok (.aload_n 0, 1) := by decide +kernel
theorem dX3_addSieve_48 : decode cX3_addSieve 48 = .ok (.getfield 10, 3) := by decide +kernel
theorem dX3_addSieve_51 : decode cX3_addSieve 51 = .ok (.invokevirtual 86, 3) := by decide +kernel
theorem dX3_addSieve_54 : decode cX3_addSieve 54 = .ok (.aload_n 0, 1) := by decide +kernel
theorem dX3_addSieve_55 : decode cX3_addSieve 55 = .ok (.getfield 10, 3) := by decide +kernel
theorem dX3_addSieve_58 : decode cX3_addSieve 58 = .ok (.iload_n 1, 1) := by decide +kernel
theorem dX3_addSieve_59 : decode cX3_addSieve 59 = .ok (.invokevirtual 89, 3) := by decide +kernel
theorem dX3_addSieve_62 : decode cX3_addSieve 62 = .ok (.ireturn, 1) := by decide +kernel
theorem dX3_removeSieve_0 : decode cX3_removeSieve 0 = .ok (.iload_n 1, 1) := by decide +kernel
theorem dX3_removeSieve_1 : decode cX3_removeSieve 1 = .ok (.iconst 1, 1) := by decide +kernel
theorem dX3_removeSieve_2 : decode cX3_removeSieve 2 = .ok (.bipush 9, 2) := by decide +kernel
theorem dX3_removeSieve_4 : decode cX3_removeSieve 4 = .ok (.invokestatic 34, 3) := by decide +kernel
theorem dX3_removeSieve_7 : decode cX3_removeSieve 7 = .ok (.ifCond .ne 5, 3) := by decide +kernel
theorem dX3_removeSieve_10 : decode cX3_removeSieve 10 = .ok (.iconst (-1), 1) := by decide +kernel
theorem dX3_removeSieve_11 : decode cX3_removeSieve 11 = .ok (.ireturn, 1) := by decide +kernel
theorem dX3_removeSieve_12 : decode cX3_removeSieve 12 = .ok (.aload_n 0, 1) := by decide +kernel
theorem dX3_removeSieve_13 : decode cX3_removeSieve 13 = .ok (.getfield 10, 3) := by decide +kernel
theorem dX3_removeSieve_16 : decode cX3_removeSieve 16 = .ok (.iload_n 1, 1) := by decide +kernel
theorem dX3_removeSieve_17 : decode cX3_removeSieve 17 = .ok (.invokevirtual 79, 3) := by decide +kernel
theorem dX3_removeSieve_20 : decode cX3_removeSieve 20 = .ok (.istore_n 2, 1) := by decide +kernel
theorem dX3_removeSieve_21 : decode cX3_removeSieve 21 = .ok (.iload_n 2, 1) := by decide +kernel
theorem dX3_removeSieve_22 : decode cX3_removeSieve 22 = .ok (.bipush (-9), 2) := by decide +kernel
theorem dX3_removeSieve_24 : decode cX3_removeSieve 24 = .ok (.if_icmp .ne 6, 3) := by decide +kernel
theorem dX3_removeSieve_27 : decode cX3_removeSieve 27 = .ok (.bipush (-2), 2) := by decide +kernel
theorem dX3_removeSieve_29 : decode cX3_removeSieve 29 = .ok (.ireturn, 1) := by decide +kernel
theorem dX3_removeSieve_30 : decode cX3_removeSieve 30 = .ok (.aload_n 0, 1) := by decide +kernel
theorem dX3_removeSieve_31 : decode cX3_removeSieve 31 = .ok (.invokevirtual 38, 3) := by decide +kernel
theorem dX3_removeSieve_34 : decode cX3_removeSieve 34 = .ok (.aload_n 0, 1) := by decide +kernel
theorem dX3_removeSieve_35 : decode cX3_removeSieve 35 = .ok (.getfield 10, 3) := by decide +kernel
theorem dX3_removeSieve_38 : decode cX3_removeSieve 38 = .ok (.invokevirtual 86, 3) := by decide +kernel
theorem dX3_removeSieve_41 : decode cX3_removeSieve 41 = .ok (.aload_n 0, 1) := by decide +kernel
theorem dX3_removeSieve_42 : decode cX3_removeSieve 42 = .ok (.getfield 10, 3) := by decide +kernel
theorem dX3_removeSieve_45 : decode cX3_removeSieve 45 = .ok (.iload_n 2, 1) := by decide +kernel
theorem dX3_removeSieve_46 : decode cX3_removeSieve 46 = .ok (.invokevirtual 92, 3) := by decide +kernel
theorem dX3_removeSieve_49 : decode cX3_removeSieve 49 = .ok (.aload_n 0, 1) := by decide +kernel
theorem dX3_removeSieve_50 : decode cX3_removeSieve 50 = .ok (.getfield 10, 3) := by decide +kernel
theorem dX3_removeSieve_53 : decode cX3_removeSieve 53 = .ok (.getfield 83, 3) := by decide +kernel
theorem dX3_removeSieve_56 : decode cX3_removeSieve 56 = .ok (.ireturn, 1) := by decide +kernel
theorem dX3_setRules_0 : decode cX3_setRules 0 = .ok (.iload_n 1, 1) := by decide +kernel
theorem dX3_setRules_1 : decode cX3_setRules 1 = .ok (.iconst 1, 1) := by decide +kernel
theorem dX3_setRules_2 : decode cX3_setRules 2 = .ok (.sipush 9999, 3) := by decide +kernel
theorem dX3_setRules_5 : decode cX3_setRules 5 = .ok (.invokestatic 34, 3) := by decide +kernel
theorem dX3_setRules_8 : decode cX3_setRules 8 = .ok (.ifCond .eq 35, 3) := by decide +kernel
theorem dX3_setRules_11 : decode cX3_setRules 11 = .ok (.iload_n 2, 1) := by decide +kernel
theorem dX3_setRules_12 : decode cX3_setRules 12 = .ok (.iconst 0, 1) := by decide +kernel
theorem dX3_setRules_13 : decode cX3_setRules 13 = .ok (.sipush 200, 3) := by decide +kernel
theorem dX3_setRules_16 : decode cX3_setRules 16 = .ok (.invokestatic 34, 3) := by decide +kernel
theorem dX3_setRules_19 : decode cX3_setRules 19 = .ok (.ifCond .eq 24, 3) := by decide +kernel
theorem dX3_setRules_22 : decode cX3_setRules 22 = .ok (.iload_n 3, 1) := by decide +kernel
theorem dX3_setRules_23 : decode cX3_setRules 23 = .ok (.iconst 0, 1) := by decide +kernel
theorem dX3_setRules_24 : decode cX3_setRules 24 = .ok (.bipush 100, 2) := by decide +kernel
theorem dX3_setRules_26 : decode cX3_setRules 26 = .ok (.invokestatic 34, 3) := by decide +kernel
theorem dX3_setRules_29 : decode cX3_setRules 29 = .ok (.ifCond .eq 14, 3) := by decide +kernel
theorem dX3_setRules_32 : decode cX3_setRules 32 = .ok (.iload 4, 2) := by decide +kernel
theorem dX3_setRules_34 : decode cX3_setRules 34 = .ok (.iconst 0, 1) := by decide +kernel
theorem dX3_setRules_35 : decode cX3_setRules 35 = .ok (.bipush 100, 2) := by decide +kernel
theorem dX3_setRules_37 : decode cX3_setRules 37 = .ok (.invokestatic 34, 3) := by decide +kernel
theorem dX3_setRules_40 : decode cX3_setRules 40 = .ok (.ifCond .ne 5, 3) := by decide +kernel
theorem dX3_setRules_43 : decode cX3_setRules 43 = .ok (.iconst (-1), 1) := by decide +kernel
theorem dX3_setRules_44 : decode cX3_setRules 44 = .ok (.ireturn, 1) := by decide +kernel
theorem dX3_setRules_45 : decode cX3_setRules 45 = .ok (.aload_n 0, 1) := by decide +kernel
theorem dX3_setRules_46 : decode cX3_setRules 46 = .ok (.invokevirtual 38, 3) := by decide +kernel
theorem dX3_setRules_49 : decode cX3_setRules 49 = .ok (.aload_n 0, 1) := by decide +kernel
theorem dX3_setRules_50 : decode cX3_setRules 50 = .ok (.getfield 10, 3) := by decide +kernel
theorem dX3_setRules_53 : decode cX3_setRules 53 = .ok (.getfield 96, 3) := by decide +kernel
theorem dX3_setRules_56 : decode cX3_setRules 56 = .ok (.iload_n 1, 1) := by decide +kernel
theorem dX3_setRules_57 : decode cX3_setRules 57 = .ok (.if_icmp .ne 41, 3) := by decide +kernel
theorem dX3_setRules_60 : decode cX3_setRules 60 = .ok (.aload_n 0, 1) := by decide +kernel
theorem dX3_setRules_61 : decode cX3_setRules 61 = .ok (.getfield 10, 3) := by decide +kernel
theorem dX3_setRules_64 : decode cX3_setRules 64 = .ok (.getfield 99, 3) := by decide +kernel
theorem dX3_setRules_67 : decode cX3_setRules 67 = .ok (.iload_n 2, 1) := by decide +kernel
theorem dX3_setRules_68 : decode cX3_setRules 68 = .ok (.if_icmp .ne 30, 3) := by decide +kernel
theorem dX3_setRules_71 : decode cX3_setRules 71 = .ok (.aload_n 0, 1) := by decide +kernel
theorem dX3_setRules_72 : decode cX3_setRules 72 = .ok (.getfield 10, 3) := by decide +kernel
theorem dX3_setRules_75 : decode cX3_setRules 75 = .ok (.getfield 102, 3) := by decide +kernel
theorem dX3_setRules_78 : decode cX3_setRules 78 = .ok (.iload_n 3, 1) := by decide +kernel
theorem dX3_setRules_79 : decode cX3_setRules 79 = .ok (.if_icmp .ne 19, 3) := by decide +kernel
theorem dX3_setRules_82 : decode cX3_setRules 82 = .ok (.aload_n 0, 1) := by decide +kernel
theorem dX3_setRules_83 : decode cX3_setRules 83 = .ok (.getfield 10, 3) := by decide +kernel
theorem dX3_setRules_86 : decode cX3_setRules 86 = .ok (.getfield 105, 3) := by decide +kernel
theorem dX3_setRules_89 : decode cX3_setRules 89 = .ok (.iload 4, 2) := by decide +kernel
theorem dX3_setRules_91 : decode cX3_setRules 91 = .ok (.if_icmp .ne 7, 3) := by decide +kernel
theorem dX3_setRules_94 : decode cX3_setRules 94 = .ok (.iconst 1, 1) := by decide +kernel
theorem dX3_setRules_95 : decode cX3_setRules 95 = .ok (.goto 4, 3) := by decide +kernel
theorem dX3_setRules_98 : decode cX3_setRules 98 = .ok (.iconst 0, 1) := by decide +kernel
theorem dX3_setRules_99 : decode cX3_setRules 99 = .ok (.istore 5, 2) := by decide +kernel
theorem dX3_setRules_101 : decode cX3_setRules 101 = .ok (.aload_n 0, 1) := by decide +kernel
theorem dX3_setRules_102 : decode cX3_setRules 102 = .ok (.getfield 10, 3) := by decide +kernel
theorem dX3_setRules_105 : decode cX3_setRules 105 = .ok (.iload_n 1, 1) := by decide +kernel
theorem dX3_setRules_106 : decode cX3_setRules 106 = .ok (.putfield 96, 3) := by decide +kernel
theorem dX3_setRules_109 : decode cX3_setRules 109 = .ok (.aload_n 0, 1) := by decide +kernel
theorem dX3_setRules_110 : decode cX3_setRules 110 = .ok (.getfield 10, 3) := by decide +kernel
theorem dX3_setRules_113 : decode cX3_setRules 113 = .ok (.iload_n 2, 1) := by decide +kernel
theorem dX3_setRules_114 : decode cX3_setRules 114 = .ok (.putfield 99, 3) := by decide +kernel
theorem dX3_setRules_117 : decode cX3_setRules 117 = .ok (.aload_n 0, 1) := by decide +kernel
theorem dX3_setRules_118 : decode cX3_setRules 118 = .ok (.getfield 10, 3) := by decide +kernel
theorem dX3_setRules_121 : decode cX3_setRules 121 = .ok (.iload_n 3, 1) := by decide +kernel
theorem dX3_setRules_122 : decode cX3_setRules 122 = .ok (.putfield 102, 3) := by decide +kernel
theorem dX3_setRules_125 : decode cX3_setRules 125 = .ok (.aload_n 0, 1) := by decide +kernel
theorem dX3_setRules_126 : decode cX3_setRules 126 = .ok (.getfield 10, 3) := by decide +kernel
theorem dX3_setRules_129 : decode cX3_setRules 129 = .ok (.iload 4, 2) := by decide +kernel
theorem dX3_setRules_131 : decode cX3_setRules 131 = .ok (.putfield 105, 3) := by decide +kernel
theorem dX3_setRules_134 : decode cX3_setRules 134 = .ok (.iload 5, 2) := by decide +kernel
theorem dX3_setRules_136 : decode cX3_setRules 136 = .ok (.ifCond .eq 7, 3) := by decide +kernel
theorem dX3_setRules_139 : decode cX3_setRules 139 = .ok (.iconst 0, 1) := by decide +kernel
theorem dX3_setRules_140 : decode cX3_setRules 140 = .ok (.goto 4, 3) := by decide +kernel
theorem dX3_setRules_143 : decode cX3_setRules 143 = .ok (.iconst 1, 1) := by decide +kernel
theorem dX3_setRules_144 : decode cX3_setRules 144 = .ok (.ireturn, 1) := by decide +kernel
theorem dX3_count_0 : decode cX3_count 0 = .ok (.iload_n 1, 1) := by decide +kernel
theorem dX3_count_1 : decode cX3_count 1 = .ok (.tableswitch 140 0 9 #[55, 63, 71, 79, 87, 95, 111, 119, 127, 135], 55) := by decide +kernel
theorem dX3_count_56 : decode cX3_count 56 = .ok (.aload_n 0, 1) := by decide +kernel
theorem dX3_count_57 : decode cX3_count 57 = .ok (.getfield 10, 3) := by decide +kernel
theorem dX3_count_60 : decode cX3_count 60 = .ok (.getfield 83, 3) := by decide +kernel
theorem dX3_count_63 : decode cX3_count 63 = .ok (.ireturn, 1) := by decide +kernel
theorem dX3_count_64 : decode cX3_count 64 = .ok (.aload_n 0, 1) := by decide +kernel
theorem dX3_count_65 : decode cX3_count 65 = .ok (.getfield 10, 3) := by decide +kernel
theorem dX3_count_68 : decode cX3_count 68 = .ok (.getfield 96, 3) := by decide +kernel
theorem dX3_count_71 : decode cX3_count 71 = .ok (.ireturn, 1) := by decide +kernel
theorem dX3_count_72 : decode cX3_count 72 = .ok (.aload_n 0, 1) := by decide +kernel
theorem dX3_count_73 : decode cX3_count 73 = .ok (.getfield 10, 3) := by decide +kernel
theorem dX3_count_76 : decode cX3_count 76 = .ok (.getfield 99, 3) := by decide +kernel
theorem dX3_count_79 : decode cX3_count 79 = .ok (.ireturn, 1) := by decide +kernel
theorem dX3_count_80 : decode cX3_count 80 = .ok (.aload_n 0, 1) := by decide +kernel
theorem dX3_count_81 : decode cX3_count 81 = .ok (.getfield 10, 3) := by decide +kernel
theorem dX3_count_84 : decode cX3_count 84 = .ok (.getfield 102, 3) := by decide +kernel
theorem dX3_count_87 : decode cX3_count 87 = .ok (.ireturn, 1) := by decide +kernel
theorem dX3_count_88 : decode cX3_count 88 = .ok (.aload_n 0, 1) := by decide +kernel
theorem dX3_count_89 : decode cX3_count 89 = .ok (.getfield 10, 3) := by decide +kernel
theorem dX3_count_92 : decode cX3_count 92 = .ok (.getfield 105, 3) := by decide +kernel
theorem dX3_count_95 : decode cX3_count 95 = .ok (.ireturn, 1) := by decide +kernel
theorem dX3_count_96 : decode cX3_count 96 = .ok (.aload_n 0, 1) := by decide +kernel
theorem dX3_count_97 : decode cX3_count 97 = .ok (.getfield 10, 3) := by decide +kernel
theorem dX3_count_100 : decode cX3_count 100 = .ok (.getfield 114, 3) := by decide +kernel
theorem dX3_count_103 : decode cX3_count 103 = .ok (.ifCond .eq 7, 3) := by decide +kernel
theorem dX3_count_106 : decode cX3_count 106 = .ok (.iconst 1, 1) := by decide +kernel
theorem dX3_count_107 : decode cX3_count 107 = .ok (.goto 4, 3) := by decide +kernel
theorem dX3_count_110 : decode cX3_count 110 = .ok (.iconst 0, 1) := by decide +kernel
theorem dX3_count_111 : decode cX3_count 111 = .ok (.ireturn, 1) := by decide +kernel
theorem dX3_count_112 : decode cX3_count 112 = .ok (.aload_n 0, 1) := by decide +kernel
theorem dX3_count_113 : decode cX3_count 113 = .ok (.getfield 10, 3) := by decide +kernel
theorem dX3_count_116 : decode cX3_count 116 = .ok (.getfield 118, 3) := by decide +kernel
theorem dX3_count_119 : decode cX3_count 119 = .ok (.ireturn, 1) := by decide +kernel
theorem dX3_count_120 : decode cX3_count 120 = .ok (.aload_n 0, 1) := by decide +kernel
theorem dX3_count_121 : decode cX3_count 121 = .ok (.getfield 10, 3) := by decide +kernel
theorem dX3_count_124 : decode cX3_count 124 = .ok (.getfield 121, 3) := by decide +kernel
theorem dX3_count_127 : decode cX3_count 127 = .ok (.ireturn, 1) := by decide +kernel
theorem dX3_count_128 : decode cX3_count 128 = .ok (.aload_n 0, 1) := by decide +kernel
theorem dX3_count_129 : decode cX3_count 129 = .ok (.getfield 26, 3) := by decide +kernel
theorem dX3_count_132 : decode cX3_count 132 = .ok (.getfield 60, 3) := by decide +kernel
theorem dX3_count_135 : decode cX3_count 135 = .ok (.ireturn, 1) := by decide +kernel
theorem dX3_count_136 : decode cX3_count 136 = .ok (.aload_n 0, 1) := by decide +kernel
theorem dX3_count_137 : decode cX3_count 137 = .ok (.getfield 124, 3) := by decide +kernel
theorem dX3_count_140 : decode cX3_count 140 = .ok (.ireturn, 1) := by decide +kernel
theorem dX3_count_141 : decode cX3_count 141 = .ok (.iconst (-1), 1) := by decide +kernel
theorem dX3_count_142 : decode cX3_count 142 = .ok (.ireturn, 1) := by decide +kernel
theorem dX3_tray_0 : decode cX3_tray 0 = .ok (.aload_n 0, 1) := by decide +kernel
theorem dX3_tray_1 : decode cX3_tray 1 = .ok (.getfield 10, 3) := by decide +kernel
theorem dX3_tray_4 : decode cX3_tray 4 = .ok (.iload_n 1, 1) := by decide +kernel
theorem dX3_tray_5 : decode cX3_tray 5 = .ok (.invokevirtual 127, 3) := by decide +kernel
theorem dX3_tray_8 : decode cX3_tray 8 = .ok (.ifCond .ne 5, 3) := by decide +kernel
theorem dX3_tray_11 : decode cX3_tray 11 = .ok (.iconst (-1), 1) := by decide +kernel
theorem dX3_tray_12 : decode cX3_tray 12 = .ok (.ireturn, 1) := by decide +kernel
theorem dX3_tray_13 : decode cX3_tray 13 = .ok (.aload_n 0, 1) := by decide +kernel
theorem dX3_tray_14 : decode cX3_tray 14 = .ok (.getfield 10, 3) := by decide +kernel
theorem dX3_tray_17 : decode cX3_tray 17 = .ok (.getfield 130, 3) := by decide +kernel
theorem dX3_tray_20 : decode cX3_tray 20 = .ok (.iload_n 1, 1) := by decide +kernel
theorem dX3_tray_21 : decode cX3_tray 21 = .ok (.aaload, 1) := by decide +kernel
theorem dX3_tray_22 : decode cX3_tray 22 = .ok (.astore_n 3, 1) := by decide +kernel
theorem dX3_tray_23 : decode cX3_tray 23 = .ok (.iload_n 2, 1) := by decide +kernel
theorem dX3_tray_24 : decode cX3_tray 24 = .ok (.tableswitch 71 0 4 #[36, 41, 49, 54, 59], 36) := by decide +kernel
theorem dX3_tray_60 : decode cX3_tray 60 = .ok (.aload_n 3, 1) := by decide +kernel
theorem dX3_tray_61 : decode cX3_tray 61 = .ok (.getfield 134, 3) := by decide +kernel
theorem dX3_tray_64 : decode cX3_tray 64 = .ok (.ireturn, 1) := by decide +kernel
theorem dX3_tray_65 : decode cX3_tray 65 = .ok (.aload_n 3, 1) := by decide +kernel
theorem dX3_tray_66 : decode cX3_tray 66 = .ok (.getfield 139, 3) := by decide +kernel
theorem dX3_tray_69 : decode cX3_tray 69 = .ok (.invokestatic 52, 3) := by decide +kernel
theorem dX3_tray_72 : decode cX3_tray 72 = .ok (.ireturn, 1) := by decide +kernel
theorem dX3_tray_73 : decode cX3_tray 73 = .ok (.aload_n 3, 1) := by decide +kernel
theorem dX3_tray_74 : decode cX3_tray 74 = .ok (.getfield 142, 3) := by decide +kernel
theorem dX3_tray_77 : decode cX3_tray 77 = .ok (.ireturn, 1) := by decide +kernel
theorem dX3_tray_78 : decode cX3_tray 78 = .ok (.aload_n 3, 1) := by decide +kernel
theorem dX3_tray_79 : decode cX3_tray 79 = .ok (.getfield 145, 3) := by decide +kernel
theorem dX3_tray_82 : decode cX3_tray 82 = .ok (.ireturn, 1) := by decide +kernel
theorem dX3_tray_83 : decode cX3_tray 83 = .ok (.aload_n 3, 1) := by decide +kernel
theorem dX3_tray_84 : decode cX3_tray 84 = .ok (.aload_n 0, 1) := by decide +kernel
theorem dX3_tray_85 : decode cX3_tray 85 = .ok (.getfield 10, 3) := by decide +kernel
theorem dX3_tray_88 : decode cX3_tray 88 = .ok (.getfield 96, 3) := by decide +kernel
theorem dX3_tray_91 : decode cX3_tray 91 = .ok (.invokevirtual 148, 3) := by decide +kernel
theorem dX3_tray_94 : decode cX3_tray 94 = .ok (.ireturn, 1) := by decide +kernel
theorem dX3_tray_95 : decode cX3_tray 95 = .ok (.iconst (-1), 1) := by decide +kernel
theorem dX3_tray_96 : decode cX3_tray 96 = .ok (.ireturn, 1) := by decide +kernel
theorem dX3_on_0 : decode cX3_on 0 = .ok (.aload_n 0, 1) := by decide +kernel
theorem dX3_on_1 : decode cX3_on 1 = .ok (.getfield 10, 3) := by decide +kernel
theorem dX3_on_4 : decode cX3_on 4 = .ok (.iload_n 1, 1) := by decide +kernel
theorem dX3_on_5 : decode cX3_on 5 = .ok (.invokevirtual 127, 3) := by decide +kernel
theorem dX3_on_8 : decode cX3_on 8 = .ok (.ifCond .eq 10, 3) := by decide +kernel
theorem dX3_on_11 : decode cX3_on 11 = .ok (.iload_n 2, 1) := by decide +kernel
theorem dX3_on_12 : decode cX3_on 12 = .ok (.invokestatic 30, 3) := by decide +kernel
theorem dX3_on_15 : decode cX3_on 15 = .ok (.ifCond .ne 5, 3) := by decide +kernel
theorem dX3_on_18 : decode cX3_on 18 = .ok (.iconst (-1), 1) := by decide +kernel
theorem dX3_on_19 : decode cX3_on 19 = .ok (.ireturn, 1) := by decide +kernel
theorem dX3_on_20 : decode cX3_on 20 = .ok (.aload_n 0, 1) := by decide +kernel
theorem dX3_on_21 : decode cX3_on 21 = .ok (.getfield 10, 3) := by decide +kernel
theorem dX3_on_24 : decode cX3_on 24 = .ok (.getfield 130, 3) := by decide +kernel
theorem dX3_on_27 : decode cX3_on 27 = .ok (.iload_n 1, 1) := by decide +kernel
theorem dX3_on_28 : decode cX3_on 28 = .ok (.aaload, 1) := by decide +kernel
theorem dX3_on_29 : decode cX3_on 29 = .ok (.getfield 139, 3) := by decide +kernel
theorem dX3_on_32 : decode cX3_on 32 = .ok (.iload_n 2, 1) := by decide +kernel
theorem dX3_on_33 : decode cX3_on 33 = .ok (.iaload, 1) := by decide +kernel
theorem dX3_on_34 : decode cX3_on 34 = .ok (.ireturn, 1) := by decide +kernel
theorem dX3_charge_0 : decode cX3_charge 0 = .ok (.aload_n 0, 1) := by decide +kernel
theorem dX3_charge_1 : decode cX3_charge 1 = .ok (.getfield 10, 3) := by decide +kernel
theorem dX3_charge_4 : decode cX3_charge 4 = .ok (.getfield 41, 3) := by decide +kernel
theorem dX3_charge_7 : decode cX3_charge 7 = .ok (.invokestatic 52, 3) := by decide +kernel
theorem dX3_charge_10 : decode cX3_charge 10 = .ok (.istore_n 1, 1) := by decide +kernel
theorem dX3_charge_11 : decode cX3_charge 11 = .ok (.aload_n 0, 1) := by decide +kernel
theorem dX3_charge_12 : decode cX3_charge 12 = .ok (.getfield 10, 3) := by decide +kernel
theorem dX3_charge_15 : decode cX3_charge 15 = .ok (.getfield 83, 3) := by decide +kernel
theorem dX3_charge_18 : decode cX3_charge 18 = .ok (.ifCond .eq 7, 3) := by decide +kernel
theorem dX3_charge_21 : decode cX3_charge 21 = .ok (.iload_n 1, 1) := by decide +kernel
theorem dX3_charge_22 : decode cX3_charge 22 = .ok (.ifCond .ne 6, 3) := by decide +kernel
theorem dX3_charge_25 : decode cX3_charge 25 = .ok (.bipush (-2), 2) := by decide +kernel
theorem dX3_charge_27 : decode cX3_charge 27 = .ok (.ireturn, 1) := by decide +kernel
theorem dX3_charge_28 : decode cX3_charge 28 = .ok (.aload_n 0, 1) := by decide +kernel
theorem dX3_charge_29 : decode cX3_charge 29 = .ok (.invokevirtual 38, 3) := by decide +kernel
theorem dX3_charge_32 : decode cX3_charge 32 = .ok (.aload_n 0, 1) := by decide +kernel
theorem dX3_charge_33 : decode cX3_charge 33 = .ok (.getfield 10, 3) := by decide +kernel
theorem dX3_charge_36 : decode cX3_charge 36 = .ok (.invokevirtual 86, 3) := by decide +kernel
theorem dX3_charge_39 : decode cX3_charge 39 = .ok (.aload_n 0, 1) := by decide +kernel
theorem dX3_charge_40 : decode cX3_charge 40 = .ok (.getfield 10, 3) := by decide +kernel
theorem dX3_charge_43 : decode cX3_charge 43 = .ok (.iload_n 1, 1) := by decide +kernel
theorem dX3_charge_44 : decode cX3_charge 44 = .ok (.invokevirtual 151, 3) := by decide +kernel
theorem dX3_charge_47 : decode cX3_charge 47 = .ok (.iload_n 1, 1) := by decide +kernel
theorem dX3_charge_48 : decode cX3_charge 48 = .ok (.ireturn, 1) := by decide +kernel
theorem dX3_shake_0 : decode cX3_shake 0 = .ok (.iload_n 1, 1) := by decide +kernel
theorem dX3_shake_1 : decode cX3_shake 1 = .ok (.iconst 1, 1) := by decide +kernel
theorem dX3_shake_2 : decode cX3_shake 2 = .ok (.sipush 200, 3) := by decide +kernel
theorem dX3_shake_5 : decode cX3_shake 5 = .ok (.invokestatic 34, 3) := by decide +kernel
theorem dX3_shake_8 : decode cX3_shake 8 = .ok (.ifCond .ne 5, 3) := by decide +kernel
theorem dX3_shake_11 : decode cX3_shake 11 = .ok (.iconst (-1), 1) := by decide +kernel
theorem dX3_shake_12 : decode cX3_shake 12 = .ok (.ireturn, 1) := by decide +kernel
theorem dX3_shake_13 : decode cX3_shake 13 = .ok (.aload_n 0, 1) := by decide +kernel
theorem dX3_shake_14 : decode cX3_shake 14 = .ok (.getfield 10, 3) := by decide +kernel
theorem dX3_shake_17 : decode cX3_shake 17 = .ok (.getfield 114, 3) := by decide +kernel
theorem dX3_shake_20 : decode cX3_shake 20 = .ok (.ifCond .ne 6, 3) := by decide +kernel
theorem dX3_shake_23 : decode cX3_shake 23 = .ok (.bipush (-2), 2) := by decide +kernel
theorem dX3_shake_25 : decode cX3_shake 25 = .ok (.ireturn, 1) := by decide +kernel
theorem dX3_shake_26 : decode cX3_shake 26 = .ok (.aload_n 0, 1) := by decide +kernel
theorem dX3_shake_27 : decode cX3_shake 27 = .ok (.invokevirtual 38, 3) := by decide +kernel
theorem dX3_shake_30 : decode cX3_shake 30 = .ok (.iconst 0, 1) := by decide +kernel
theorem dX3_shake_31 : decode cX3_shake 31 = .ok (.istore_n 2, 1) := by decide +kernel
theorem dX3_shake_32 : decode cX3_shake 32 = .ok (.iconst 0, 1) := by decide +kernel
theorem dX3_shake_33 : decode cX3_shake 33 = .ok (.istore_n 3, 1) := by decide +kernel
theorem dX3_shake_34 : decode cX3_shake 34 = .ok (.iload_n 3, 1) := by decide +kernel
theorem dX3_shake_35 : decode cX3_shake 35 = .ok (.iload_n 1, 1) := by decide +kernel
theorem dX3_shake_36 : decode cX3_shake 36 = .ok (.if_icmp .ge 19, 3) := by decide +kernel
theorem dX3_shake_39 : decode cX3_shake 39 = .ok (.iload_n 2, 1) := by decide +kernel
theorem dX3_shake_40 : decode cX3_shake 40 = .ok (.aload_n 0, 1) := by decide +kernel
theorem dX3_shake_41 : decode cX3_shake 41 = .ok (.getfield 10, 3) := by decide +kernel
theorem dX3_shake_44 : decode cX3_shake 44 = .ok (.invokevirtual 154, 3) := by decide +kernel
theorem dX3_shake_47 : decode cX3_shake 47 = .ok (.iadd, 1) := by decide +kernel
theorem dX3_shake_48 : decode cX3_shake 48 = .ok (.istore_n 2, 1) := by decide +kernel
theorem dX3_shake_49 : decode cX3_shake 49 = .ok (.iinc 3 1, 3) := by decide +kernel
theorem dX3_shake_52 : decode cX3_shake 52 = .ok (.goto (-18), 3) := by decide +kernel
theorem dX3_shake_55 : decode cX3_shake 55 = .ok (.iload_n 2, 1) := by decide +kernel
theorem dX3_shake_56 : decode cX3_shake 56 = .ok (.ireturn, 1) := by decide +kernel
theorem dX3_collect_0 : decode cX3_collect 0 = .ok (.aload_n 0, 1) := by decide +kernel
theorem dX3_collect_1 : decode cX3_collect 1 = .ok (.getfield 10, 3) := by decide +kernel
theorem dX3_collect_4 : decode cX3_collect 4 = .ok (.iload_n 1, 1) := by decide +kernel
theorem dX3_collect_5 : decode cX3_collect 5 = .ok (.invokevirtual 127, 3) := by decide +kernel
theorem dX3_collect_8 : decode cX3_collect 8 = .ok (.ifCond .ne 5, 3) := by decide +kernel
theorem dX3_collect_11 : decode cX3_collect 11 = .ok (.iconst (-1), 1) := by decide +kernel
theorem dX3_collect_12 : decode cX3_collect 12 = .ok (.ireturn, 1) := by decide +kernel
theorem dX3_collect_13 : decode cX3_collect 13 = .ok (.aload_n 0, 1) := by decide +kernel
theorem dX3_collect_14 : decode cX3_collect 14 = .ok (.getfield 10, 3) := by decide +kernel
theorem dX3_collect_17 : decode cX3_collect 17 = .ok (.getfield 114, 3) := by decide +kernel
theorem dX3_collect_20 : decode cX3_collect 20 = .ok (.ifCond .ne 6, 3) := by decide +kernel
theorem dX3_collect_23 : decode cX3_collect 23 = .ok (.bipush (-2), 2) := by decide +kernel
theorem dX3_collect_25 : decode cX3_collect 25 = .ok (.ireturn, 1) := by decide +kernel
theorem dX3_collect_26 : decode cX3_collect 26 = .ok (.aload_n 0, 1) := by decide +kernel
theorem dX3_collect_27 : decode cX3_collect 27 = .ok (.invokevirtual 38, 3) := by decide +kernel
theorem dX3_collect_30 : decode cX3_collect 30 = .ok (.aload_n 0, 1) := by decide +kernel
theorem dX3_collect_31 : decode cX3_collect 31 = .ok (.getfield 10, 3) := by decide +kernel
theorem dX3_collect_34 : decode cX3_collect 34 = .ok (.getfield 130, 3) := by decide +kernel
theorem dX3_collect_37 : decode cX3_collect 37 = .ok (.iload_n 1, 1) := by decide +kernel
theorem dX3_collect_38 : decode cX3_collect 38 = .ok (.aaload, 1) := by decide +kernel
theorem dX3_collect_39 : decode cX3_collect 39 = .ok (.astore_n 2, 1) := by decide +kernel
theorem dX3_collect_40 : decode cX3_collect 40 = .ok (.aload_n 2, 1) := by decide +kernel
theorem dX3_collect_41 : decode cX3_collect 41 = .ok (.getfield 139, 3) := by decide +kernel
theorem dX3_collect_44 : decode cX3_collect 44 = .ok (.invokestatic 52, 3) := by decide +kernel
theorem dX3_collect_47 : decode cX3_collect 47 = .ok (.istore_n 3, 1) := by decide +kernel
theorem dX3_collect_48 : decode cX3_collect 48 = .ok (.aload_n 2, 1) := by decide +kernel
theorem dX3_collect_49 : decode cX3_collect 49 = .ok (.dup, 1) := by decide +kernel
theorem dX3_collect_50 : decode cX3_collect 50 = .ok (.getfield 145, 3) := by decide +kernel
theorem dX3_collect_53 : decode cX3_collect 53 = .ok (.iload_n 3, 1) := by decide +kernel
theorem dX3_collect_54 : decode cX3_collect 54 = .ok (.iadd, 1) := by decide +kernel
theorem dX3_collect_55 : decode cX3_collect 55 = .ok (.putfield 145, 3) := by decide +kernel
theorem dX3_collect_58 : decode cX3_collect 58 = .ok (.aload_n 2, 1) := by decide +kernel
theorem dX3_collect_59 : decode cX3_collect 59 = .ok (.getfield 139, 3) := by decide +kernel
theorem dX3_collect_62 : decode cX3_collect 62 = .ok (.invokestatic 157, 3) := by decide +kernel
theorem dX3_collect_65 : decode cX3_collect 65 = .ok (.iload_n 3, 1) := by decide +kernel
theorem dX3_collect_66 : decode cX3_collect 66 = .ok (.ireturn, 1) := by decide +kernel
theorem dX3_brush_0 : decode cX3_brush 0 = .ok (.aload_n 0, 1) := by decide +kernel
theorem dX3_brush_1 : decode cX3_brush 1 = .ok (.getfield 10, 3) := by decide +kernel
theorem dX3_brush_4 : decode cX3_brush 4 = .ok (.iload_n 1, 1) := by decide +kernel
theorem dX3_brush_5 : decode cX3_brush 5 = .ok (.invokevirtual 161, 3) := by decide +kernel
theorem dX3_brush_8 : decode cX3_brush 8 = .ok (.ifCond .eq 12, 3) := by decide +kernel
theorem dX3_brush_11 : decode cX3_brush 11 = .ok (.iload_n 2, 1) := by decide +kernel
theorem dX3_brush_12 : decode cX3_brush 12 = .ok (.iconst 0, 1) := by decide +kernel
theorem dX3_brush_13 : decode cX3_brush 13 = .ok (.iconst 1, 1) := by decide +kernel
theorem dX3_brush_14 : decode cX3_brush 14 = .ok (.invokestatic 34, 3) := by decide +kernel
theorem dX3_brush_17 : decode cX3_brush 17 = .ok (.ifCond .ne 5, 3) := by decide +kernel
theorem dX3_brush_20 : decode cX3_brush 20 = .ok (.iconst (-1), 1) := by decide +kernel
theorem dX3_brush_21 : decode cX3_brush 21 = .ok (.ireturn, 1) := by decide +kernel
theorem dX3_brush_22 : decode cX3_brush 22 = .ok (.aload_n 0, 1) := by decide +kernel
theorem dX3_brush_23 : decode cX3_brush 23 = .ok (.getfield 10, 3) := by decide +kernel
theorem dX3_brush_26 : decode cX3_brush 26 = .ok (.getfield 114, 3) := by decide +kernel
theorem dX3_brush_29 : decode cX3_brush 29 = .ok (.ifCond .ne 6, 3) := by decide +kernel
theorem dX3_brush_32 : decode cX3_brush 32 = .ok (.bipush (-2), 2) := by decide +kernel
theorem dX3_brush_34 : decode cX3_brush 34 = .ok (.ireturn, 1) := by decide +kernel
theorem dX3_brush_35 : decode cX3_brush 35 = .ok (.aload_n 0, 1) := by decide +kernel
theorem dX3_brush_36 : decode cX3_brush 36 = .ok (.invokevirtual 38, 3) := by decide +kernel
theorem dX3_brush_39 : decode cX3_brush 39 = .ok (.aload_n 0, 1) := by decide +kernel
theorem dX3_brush_40 : decode cX3_brush 40 = .ok (.getfield 10, 3) := by decide +kernel
theorem dX3_brush_43 : decode cX3_brush 43 = .ok (.getfield 130, 3) := by decide +kernel
theorem dX3_brush_46 : decode cX3_brush 46 = .ok (.iload_n 1, 1) := by decide +kernel
theorem dX3_brush_47 : decode cX3_brush 47 = .ok (.aaload, 1) := by decide +kernel
theorem dX3_brush_48 : decode cX3_brush 48 = .ok (.astore_n 3, 1) := by decide +kernel
theorem dX3_brush_49 : decode cX3_brush 49 = .ok (.aload_n 3, 1) := by decide +kernel
theorem dX3_brush_50 : decode cX3_brush 50 = .ok (.getfield 142, 3) := by decide +kernel
theorem dX3_brush_53 : decode cX3_brush 53 = .ok (.istore 4, 2) := by decide +kernel
theorem dX3_brush_55 : decode cX3_brush 55 = .ok (.aload_n 3, 1) := by decide +kernel
theorem dX3_brush_56 : decode cX3_brush 56 = .ok (.iconst 0, 1) := by decide +kernel
theorem dX3_brush_57 : decode cX3_brush 57 = .ok (.putfield 142, 3) := by decide +kernel
theorem dX3_brush_60 : decode cX3_brush 60 = .ok (.iload_n 2, 1) := by decide +kernel
theorem dX3_brush_61 : decode cX3_brush 61 = .ok (.iconst 1, 1) := by decide +kernel
theorem dX3_brush_62 : decode cX3_brush 62 = .ok (.if_icmp .ne 14, 3) := by decide +kernel
theorem dX3_brush_65 : decode cX3_brush 65 = .ok (.aload_n 3, 1) := by decide +kernel
theorem dX3_brush_66 : decode cX3_brush 66 = .ok (.dup, 1) := by decide +kernel
theorem dX3_brush_67 : decode cX3_brush 67 = .ok (.getfield 145, 3) := by decide +kernel
theorem dX3_brush_70 : decode cX3_brush 70 = .ok (.iload 4, 2) := by decide +kernel
theorem dX3_brush_72 : decode cX3_brush 72 = .ok (.iadd, 1) := by decide +kernel
theorem dX3_brush_73 : decode cX3_brush 73 = .ok (.putfield 145, 3) := by decide +kernel
theorem dX3_brush_76 : decode cX3_brush 76 = .ok (.iload 4, 2) := by decide +kernel
theorem dX3_brush_78 : decode cX3_brush 78 = .ok (.ireturn, 1) := by decide +kernel
theorem dX3_loss_0 : decode cX3_loss 0 = .ok (.aload_n 0, 1) := by decide +kernel
theorem dX3_loss_1 : decode cX3_loss 1 = .ok (.getfield 10, 3) := by decide +kernel
theorem dX3_loss_4 : decode cX3_loss 4 = .ok (.getfield 114, 3) := by decide +kernel
theorem dX3_loss_7 : decode cX3_loss 7 = .ok (.ifCond .ne 6, 3) := by decide +kernel
theorem dX3_loss_10 : decode cX3_loss 10 = .ok (.bipush (-2), 2) := by decide +kernel
theorem dX3_loss_12 : decode cX3_loss 12 = .ok (.ireturn, 1) := by decide +kernel
theorem dX3_loss_13 : decode cX3_loss 13 = .ok (.aload_n 0, 1) := by decide +kernel
theorem dX3_loss_14 : decode cX3_loss 14 = .ok (.getfield 10, 3) := by decide +kernel
theorem dX3_loss_17 : decode cX3_loss 17 = .ok (.invokevirtual 164, 3) := by decide +kernel
theorem dX3_loss_20 : decode cX3_loss 20 = .ok (.ireturn, 1) := by decide +kernel
theorem dX3_minutesTo_0 : decode cX3_minutesTo 0 = .ok (.iload_n 1, 1) := by decide +kernel
theorem dX3_minutesTo_1 : decode cX3_minutesTo 1 = .ok (.iconst 1, 1) := by decide +kernel
theorem dX3_minutesTo_2 : decode cX3_minutesTo 2 = .ok (.sipush 9999, 3) := by decide +kernel
theorem dX3_minutesTo_5 : decode cX3_minutesTo 5 = .ok (.invokestatic 34, 3) := by decide +kernel
theorem dX3_minutesTo_8 : decode cX3_minutesTo 8 = .ok (.ifCond .ne 5, 3) := by decide +kernel
theorem dX3_minutesTo_11 : decode cX3_minutesTo 11 = .ok (.iconst (-1), 1) := by decide +kernel
theorem dX3_minutesTo_12 : decode cX3_minutesTo 12 = .ok (.ireturn, 1) := by decide +kernel
theorem dX3_minutesTo_13 : decode cX3_minutesTo 13 = .ok (.aload_n 0, 1) := by decide +kernel
theorem dX3_minutesTo_14 : decode cX3_minutesTo 14 = .ok (.getfield 10, 3) := by decide +kernel
theorem dX3_minutesTo_17 : decode cX3_minutesTo 17 = .ok (.getfield 114, 3) := by decide +kernel
theorem dX3_minutesTo_20 : decode cX3_minutesTo 20 = .ok (.ifCond .ne 6, 3) := by decide +kernel
theorem dX3_minutesTo_23 : decode cX3_minutesTo 23 = .ok (.bipush (-2), 2) := by decide +kernel
theorem dX3_minutesTo_25 : decode cX3_minutesTo 25 = .ok (.ireturn, 1) := by decide +kernel
theorem dX3_minutesTo_26 : decode cX3_minutesTo 26 = .ok (.aload_n 0, 1) := by decide +kernel
theorem dX3_minutesTo_27 : decode cX3_minutesTo 27 = .ok (.getfield 16, 3) := by decide +kernel
theorem dX3_minutesTo_30 : decode cX3_minutesTo 30 = .ok (.aload_n 0, 1) := by decide +kernel
theorem dX3_minutesTo_31 : decode cX3_minutesTo 31 = .ok (.getfield 10, 3) := by decide +kernel
theorem dX3_minutesTo_34 : decode cX3_minutesTo 34 = .ok (.invokevirtual 181, 3) := by decide +kernel
theorem dX3_minutesTo_37 : decode cX3_minutesTo 37 = .ok (.iconst 1, 1) := by decide +kernel
theorem dX3_minutesTo_38 : decode cX3_minutesTo 38 = .ok (.istore_n 2, 1) := by decide +kernel
theorem dX3_minutesTo_39 : decode cX3_minutesTo 39 = .ok (.iload_n 2, 1) := by decide +kernel
theorem dX3_minutesTo_40 : decode cX3_minutesTo 40 = .ok (.sipush 500, 3) := by decide +kernel
theorem dX3_minutesTo_43 : decode cX3_minutesTo 43 = .ok (.if_icmp .gt 22, 3) := by decide +kernel
theorem dX3_minutesTo_46 : decode cX3_minutesTo 46 = .ok (.aload_n 0, 1) := by decide +kernel
theorem dX3_minutesTo_47 : decode cX3_minutesTo 47 = .ok (.getfield 16, 3) := by decide +kernel
theorem dX3_minutesTo_50 : decode cX3_minutesTo 50 = .ok (.invokevirtual 154, 3) := by decide +kernel
theorem dX3_minutesTo_53 : decode cX3_minutesTo 53 = .ok (.iload_n 1, 1) := by decide +kernel
theorem dX3_minutesTo_54 : decode cX3_minutesTo 54 = .ok (.if_icmp .ge 5, 3) := by decide +kernel
theorem dX3_minutesTo_57 : decode cX3_minutesTo 57 = .ok (.iload_n 2, 1) := by decide +kernel
theorem dX3_minutesTo_58 : decode cX3_minutesTo 58 = .ok (.ireturn, 1) := by decide +kernel
theorem dX3_minutesTo_59 : decode cX3_minutesTo 59 = .ok (.iinc 2 1, 3) := by decide +kernel
theorem dX3_minutesTo_62 : decode cX3_minutesTo 62 = .ok (.goto (-23), 3) := by decide +kernel
theorem dX3_minutesTo_65 : decode cX3_minutesTo 65 = .ok (.bipush (-9), 2) := by decide +kernel
theorem dX3_minutesTo_67 : decode cX3_minutesTo 67 = .ok (.ireturn, 1) := by decide +kernel
theorem dX3_undo_0 : decode cX3_undo 0 = .ok (.aload_n 0, 1) := by decide +kernel
theorem dX3_undo_1 : decode cX3_undo 1 = .ok (.getfield 124, 3) := by decide +kernel
theorem dX3_undo_4 : decode cX3_undo 4 = .ok (.ifCond .ne 6, 3) := by decide +kernel
theorem dX3_undo_7 : decode cX3_undo 7 = .ok (.bipush (-2), 2) := by decide +kernel
theorem dX3_undo_9 : decode cX3_undo 9 = .ok (.ireturn, 1) := by decide +kernel
theorem dX3_undo_10 : decode cX3_undo 10 = .ok (.aload_n 0, 1) := by decide +kernel
theorem dX3_undo_11 : decode cX3_undo 11 = .ok (.aload_n 0, 1) := by decide +kernel
theorem dX3_undo_12 : decode cX3_undo 12 = .ok (.getfield 185, 3) := by decide +kernel
theorem dX3_undo_15 : decode cX3_undo 15 = .ok (.ifCond .ne 7, 3) := by decide +kernel
theorem dX3_undo_18 : decode cX3_undo 18 = .ok (.iconst 5, 1) := by decide +kernel
theorem dX3_undo_19 : decode cX3_undo 19 = .ok (.goto 9, 3) := by decide +kernel
theorem dX3_undo_22 : decode cX3_undo 22 = .ok (.aload_n 0, 1) := by decide +kernel
theorem dX3_undo_23 : decode cX3_undo 23 = .ok (.getfield 185, 3) := by decide +kernel
theorem dX3_undo_26 : decode cX3_undo 26 = .ok (.iconst 1, 1) := by decide +kernel
theorem dX3_undo_27 : decode cX3_undo 27 = .ok (.isub, 1) := by decide +kernel
theorem dX3_undo_28 : decode cX3_undo 28 = .ok (.putfield 185, 3) := by decide +kernel
theorem dX3_undo_31 : decode cX3_undo 31 = .ok (.aload_n 0, 1) := by decide +kernel
theorem dX3_undo_32 : decode cX3_undo 32 = .ok (.getfield 10, 3) := by decide +kernel
theorem dX3_undo_35 : decode cX3_undo 35 = .ok (.aload_n 0, 1) := by decide +kernel
theorem dX3_undo_36 : decode cX3_undo 36 = .ok (.getfield 19, 3) := by decide +kernel
theorem dX3_undo_39 : decode cX3_undo 39 = .ok (.aload_n 0, 1) := by decide +kernel
theorem dX3_undo_40 : decode cX3_undo 40 = .ok (.getfield 185, 3) := by decide +kernel
theorem dX3_undo_43 : decode cX3_undo 43 = .ok (.aaload, 1) := by decide +kernel
theorem dX3_undo_44 : decode cX3_undo 44 = .ok (.invokevirtual 181, 3) := by decide +kernel
theorem dX3_undo_47 : decode cX3_undo 47 = .ok (.aload_n 0, 1) := by decide +kernel
theorem dX3_undo_48 : decode cX3_undo 48 = .ok (.dup, 1) := by decide +kernel
theorem dX3_undo_49 : decode cX3_undo 49 = .ok (.getfield 124, 3) := by decide +kernel
theorem dX3_undo_52 : decode cX3_undo 52 = .ok (.iconst 1, 1) := by decide +kernel
theorem dX3_undo_53 : decode cX3_undo 53 = .ok (.isub, 1) := by decide +kernel
theorem dX3_undo_54 : decode cX3_undo 54 = .ok (.putfield 124, 3) := by decide +kernel
theorem dX3_undo_57 : decode cX3_undo 57 = .ok (.aload_n 0, 1) := by decide +kernel
theorem dX3_undo_58 : decode cX3_undo 58 = .ok (.getfield 124, 3) := by decide +kernel
theorem dX3_undo_61 : decode cX3_undo 61 = .ok (.ireturn, 1) := by decide +kernel
theorem dX3_saveState_0 : decode cX3_saveState 0 = .ok (.aload_n 0, 1) := by decide +kernel
theorem dX3_saveState_1 : decode cX3_saveState 1 = .ok (.getfield 19, 3) := by decide +kernel
theorem dX3_saveState_4 : decode cX3_saveState 4 = .ok (.aload_n 0, 1) := by decide +kernel
theorem dX3_saveState_5 : decode cX3_saveState 5 = .ok (.getfield 185, 3) := by decide +kernel
theorem dX3_saveState_8 : decode cX3_saveState 8 = .ok (.aaload, 1) := by decide +kernel
theorem dX3_saveState_9 : decode cX3_saveState 9 = .ok (.aload_n 0, 1) := by decide +kernel
theorem dX3_saveState_10 : decode cX3_saveState 10 = .ok (.getfield 10, 3) := by decide +kernel
theorem dX3_saveState_13 : decode cX3_saveState 13 = .ok (.invokevirtual 181, 3) := by decide +kernel
theorem dX3_saveState_16 : decode cX3_saveState 16 = .ok (.aload_n 0, 1) := by decide +kernel
theorem dX3_saveState_17 : decode cX3_saveState 17 = .ok (.aload_n 0, 1) := by decide +kernel
theorem dX3_saveState_18 : decode cX3_saveState 18 = .ok (.getfield 185, 3) := by decide +kernel
theorem dX3_saveState_21 : decode cX3_saveState 21 = .ok (.iconst 5, 1) := by decide +kernel
theorem dX3_saveState_22 : decode cX3_saveState 22 = .ok (.if_icmp .ne 7, 3) := by decide +kernel
theorem dX3_saveState_25 : decode cX3_saveState 25 = .ok (.iconst 0, 1) := by decide +kernel
theorem dX3_saveState_26 : decode cX3_saveState 26 = .ok (.goto 9, 3) := by decide +kernel
theorem dX3_saveState_29 : decode cX3_saveState 29 = .ok (.aload_n 0, 1) := by decide +kernel
theorem dX3_saveState_30 : decode cX3_saveState 30 = .ok (.getfield 185, 3) := by decide +kernel
theorem dX3_saveState_33 : decode cX3_saveState 33 = .ok (.iconst 1, 1) := by decide +kernel
theorem dX3_saveState_34 : decode cX3_saveState 34 = .ok (.iadd, 1) := by decide +kernel
theorem dX3_saveState_35 : decode cX3_saveState 35 = .ok (.putfield 185, 3) := by decide +kernel
theorem dX3_saveState_38 : decode cX3_saveState 38 = .ok (.aload_n 0, 1) := by decide +kernel
theorem dX3_saveState_39 : decode cX3_saveState 39 = .ok (.getfield 124, 3) := by decide +kernel
theorem dX3_saveState_42 : decode cX3_saveState 42 = .ok (.bipush 6, 2) := by decide +kernel
theorem dX3_saveState_44 : decode cX3_saveState 44 = .ok (.if_icmp .ge 13, 3) := by decide +kernel
theorem dX3_saveState_47 : decode cX3_saveState 47 = .ok (.aload_n 0, 1) := by decide +kernel
theorem dX3_saveState_48 : decode cX3_saveState 48 = .ok (.dup, 1) := by decide +kernel
theorem dX3_saveState_49 : decode cX3_saveState 49 = .ok (.getfield 124, 3) := by decide +kernel
theorem dX3_saveState_52 : decode cX3_saveState 52 = .ok (.iconst 1, 1) := by decide +kernel
theorem dX3_saveState_53 : decode cX3_saveState 53 = .ok (.iadd, 1) := by decide +kernel
theorem dX3_saveState_54 : decode cX3_saveState 54 = .ok (.putfield 124, 3) := by decide +kernel
theorem dX3_saveState_57 : decode cX3_saveState 57 = .ok (.return_, 1) := by decide +kernel
theorem dX3_isIn_0 : decode cX3_isIn 0 = .ok (.iload_n 0, 1) := by decide +kernel
theorem dX3_isIn_1 : decode cX3_isIn 1 = .ok (.iload_n 1, 1) := by decide +kernel
theorem dX3_isIn_2 : decode cX3_isIn 2 = .ok (.if_icmp .lt 12, 3) := by decide +kernel
theorem dX3_isIn_5 : decode cX3_isIn 5 = .ok (.iload_n 0, 1) := by decide +kernel
theorem dX3_isIn_6 : decode cX3_isIn 6 = .ok (.iload_n 2, 1) := by decide +kernel
theorem dX3_isIn_7 : decode cX3_isIn 7 = .ok (.if_icmp .gt 7, 3) := by decide +kernel
theorem dX3_isIn_10 : decode cX3_isIn 10 = .ok (.iconst 1, 1) := by decide +kernel
theorem dX3_isIn_11 : decode cX3_isIn 11 = .ok (.goto 4, 3) := by decide +kernel
theorem dX3_isIn_14 : decode cX3_isIn 14 = .ok (.iconst 0, 1) := by decide +kernel
theorem dX3_isIn_15 : decode cX3_isIn 15 = .ok (.ireturn, 1) := by decide +kernel
theorem dX3_isClass_0 : decode cX3_isClass 0 = .ok (.iload_n 0, 1) := by decide +kernel
theorem dX3_isClass_1 : decode cX3_isClass 1 = .ok (.iconst 0, 1) := by decide +kernel
theorem dX3_isClass_2 : decode cX3_isClass 2 = .ok (.bipush 9, 2) := by decide +kernel
theorem dX3_isClass_4 : decode cX3_isClass 4 = .ok (.invokestatic 34, 3) := by decide +kernel
theorem dX3_isClass_7 : decode cX3_isClass 7 = .ok (.ireturn, 1) := by decide +kernel
theorem dX3_massIn_0 : decode cX3_massIn 0 = .ok (.iload_n 1, 1) := by decide +kernel
theorem dX3_massIn_1 : decode cX3_massIn 1 = .ok (.iconst (-1), 1) := by decide +kernel
theorem dX3_massIn_2 : decode cX3_massIn 2 = .ok (.if_icmp .ne 8, 3) := by decide +kernel
theorem dX3_massIn_5 : decode cX3_massIn 5 = .ok (.aload_n 0, 1) := by decide +kernel
theorem dX3_massIn_6 : decode cX3_massIn 6 = .ok (.invokestatic 52, 3) := by decide +kernel
theorem dX3_massIn_9 : decode cX3_massIn 9 = .ok (.ireturn, 1) := by decide +kernel
theorem dX3_massIn_10 : decode cX3_massIn 10 = .ok (.iload_n 1, 1) := by decide +kernel
theorem dX3_massIn_11 : decode cX3_massIn 11 = .ok (.invokestatic 30, 3) := by decide +kernel
theorem dX3_massIn_14 : decode cX3_massIn 14 = .ok (.ifCond .eq 9, 3) := by decide +kernel
theorem dX3_massIn_17 : decode cX3_massIn 17 = .ok (.aload_n 0, 1) := by decide +kernel
theorem dX3_massIn_18 : decode cX3_massIn 18 = .ok (.iload_n 1, 1) := by decide +kernel
theorem dX3_massIn_19 : decode cX3_massIn 19 = .ok (.iaload, 1) := by decide +kernel
theorem dX3_massIn_20 : decode cX3_massIn 20 = .ok (.goto 4, 3) := by decide +kernel
theorem dX3_massIn_23 : decode cX3_massIn 23 = .ok (.iconst (-1), 1) := by decide +kernel
theorem dX3_massIn_24 : decode cX3_massIn 24 = .ok (.ireturn, 1) := by decide +kernel
theorem dX3_sumOf_0 : decode cX3_sumOf 0 = .ok (.iconst 0, 1) := by decide +kernel
theorem dX3_sumOf_1 : decode cX3_sumOf 1 = .ok (.istore_n 1, 1) := by decide +kernel
theorem dX3_sumOf_2 : decode cX3_sumOf 2 = .ok (.aload_n 0, 1) := by decide +kernel
theorem dX3_sumOf_3 : decode cX3_sumOf 3 = .ok (.astore_n 2, 1) := by decide +kernel
theorem dX3_sumOf_4 : decode cX3_sumOf 4 = .ok (.aload_n 2, 1) := by decide +kernel
theorem dX3_sumOf_5 : decode cX3_sumOf 5 = .ok (.arraylength, 1) := by decide +kernel
theorem dX3_sumOf_6 : decode cX3_sumOf 6 = .ok (.istore_n 3, 1) := by decide +kernel
theorem dX3_sumOf_7 : decode cX3_sumOf 7 = .ok (.iconst 0, 1) := by decide +kernel
theorem dX3_sumOf_8 : decode cX3_sumOf 8 = .ok (.istore 4, 2) := by decide +kernel
theorem dX3_sumOf_10 : decode cX3_sumOf 10 = .ok (.iload 4, 2) := by decide +kernel
theorem dX3_sumOf_12 : decode cX3_sumOf 12 = .ok (.iload_n 3, 1) := by decide +kernel
theorem dX3_sumOf_13 : decode cX3_sumOf 13 = .ok (.if_icmp .ge 20, 3) := by decide +kernel
theorem dX3_sumOf_16 : decode cX3_sumOf 16 = .ok (.aload_n 2, 1) := by decide +kernel
theorem dX3_sumOf_17 : decode cX3_sumOf 17 = .ok (.iload 4, 2) := by decide +kernel
theorem dX3_sumOf_19 : decode cX3_sumOf 19 = .ok (.iaload, 1) := by decide +kernel
theorem dX3_sumOf_20 : decode cX3_sumOf 20 = .ok (.istore 5, 2) := by decide +kernel
theorem dX3_sumOf_22 : decode cX3_sumOf 22 = .ok (.iload_n 1, 1) := by decide +kernel
theorem dX3_sumOf_23 : decode cX3_sumOf 23 = .ok (.iload 5, 2) := by decide +kernel
theorem dX3_sumOf_25 : decode cX3_sumOf 25 = .ok (.iadd, 1) := by decide +kernel
theorem dX3_sumOf_26 : decode cX3_sumOf 26 = .ok (.istore_n 1, 1) := by decide +kernel
theorem dX3_sumOf_27 : decode cX3_sumOf 27 = .ok (.iinc 4 1, 3) := by decide +kernel
theorem dX3_sumOf_30 : decode cX3_sumOf 30 = .ok (.goto (-20), 3) := by decide +kernel
theorem dX3_sumOf_33 : decode cX3_sumOf 33 = .ok (.iload_n 1, 1) := by decide +kernel
theorem dX3_sumOf_34 : decode cX3_sumOf 34 = .ok (.ireturn, 1) := by decide +kernel
theorem dX3_clearRow_0 : decode cX3_clearRow 0 = .ok (.iconst 0, 1) := by decide +kernel
theorem dX3_clearRow_1 : decode cX3_clearRow 1 = .ok (.istore_n 1, 1) := by decide +kernel
theorem dX3_clearRow_2 : decode cX3_clearRow 2 = .ok (.iload_n 1, 1) := by decide +kernel
theorem dX3_clearRow_3 : decode cX3_clearRow 3 = .ok (.aload_n 0, 1) := by decide +kernel
theorem dX3_clearRow_4 : decode cX3_clearRow 4 = .ok (.arraylength, 1) := by decide +kernel
theorem dX3_clearRow_5 : decode cX3_clearRow 5 = .ok (.if_icmp .ge 13, 3) := by decide +kernel
theorem dX3_clearRow_8 : decode cX3_clearRow 8 = .ok (.aload_n 0, 1) := by decide +kernel
theorem dX3_clearRow_9 : decode cX3_clearRow 9 = .ok (.iload_n 1, 1) := by decide +kernel
theorem dX3_clearRow_10 : decode cX3_clearRow 10 = .ok (.iconst 0, 1) := by decide +kernel
theorem dX3_clearRow_11 : decode cX3_clearRow 11 = .ok (.iastore, 1) := by decide +kernel
theorem dX3_clearRow_12 : decode cX3_clearRow 12 = .ok (.iinc 1 1, 3) := by decide +kernel
theorem dX3_clearRow_15 : decode cX3_clearRow 15 = .ok (.goto (-13), 3) := by decide +kernel
theorem dX3_clearRow_18 : decode cX3_clearRow 18 = .ok (.return_, 1) := by decide +kernel
theorem dX3_copyRow_0 : decode cX3_copyRow 0 = .ok (.aload_n 0, 1) := by decide +kernel
theorem dX3_copyRow_1 : decode cX3_copyRow 1 = .ok (.iconst 0, 1) := by decide +kernel
theorem dX3_copyRow_2 : decode cX3_copyRow 2 = .ok (.aload_n 1, 1) := by decide +kernel
theorem dX3_copyRow_3 : decode cX3_copyRow 3 = .ok (.iconst 0, 1) := by decide +kernel
theorem dX3_copyRow_4 : decode cX3_copyRow 4 = .ok (.aload_n 0, 1) := by decide +kernel
theorem dX3_copyRow_5 : decode cX3_copyRow 5 = .ok (.arraylength, 1) := by decide +kernel
theorem dX3_copyRow_6 : decode cX3_copyRow 6 = .ok (.aload_n 1, 1) := by decide +kernel
theorem dX3_copyRow_7 : decode cX3_copyRow 7 = .ok (.arraylength, 1) := by decide +kernel
theorem dX3_copyRow_8 : decode cX3_copyRow 8 = .ok (.invokestatic 188, 3) := by decide +kernel
theorem dX3_copyRow_11 : decode cX3_copyRow 11 = .ok (.invokestatic 193, 3) := by decide +kernel
theorem dX3_copyRow_14 : decode cX3_copyRow 14 = .ok (.return_, 1) := by decide +kernel
theorem dX3_perThousand_0 : decode cX3_perThousand 0 = .ok (.iload_n 1, 1) := by decide +kernel
theorem dX3_perThousand_1 : decode cX3_perThousand 1 = .ok (.ifCond .le 13, 3) := by decide +kernel
theorem dX3_perThousand_4 : decode cX3_perThousand 4 = .ok (.iload_n 0, 1) := by decide +kernel
theorem dX3_perThousand_5 : decode cX3_perThousand 5 = .ok (.sipush 1000, 3) := by decide +kernel
theorem dX3_perThousand_8 : decode cX3_perThousand 8 = .ok (.imul, 1) := by decide +kernel
theorem dX3_perThousand_9 : decode cX3_perThousand 9 = .ok (.iload_n 1, 1) := by decide +kernel
theorem dX3_perThousand_10 : decode cX3_perThousand 10 = .ok (.idiv, 1) := by decide +kernel
theorem dX3_perThousand_11 : decode cX3_perThousand 11 = .ok (.goto 4, 3) := by decide +kernel
theorem dX3_perThousand_14 : decode cX3_perThousand 14 = .ok (.iconst 0, 1) := by decide +kernel
theorem dX3_perThousand_15 : decode cX3_perThousand 15 = .ok (.ireturn, 1) := by decide +kernel
theorem dL_cell_0 : decode cL_cell 0 = .ok (.iload_n 1, 1) := by decide +kernel
theorem dL_cell_1 : decode cL_cell 1 = .ok (.aload_n 0, 1) := by decide +kernel
theorem dL_cell_2 : decode cL_cell 2 = .ok (.arraylength, 1) := by decide +kernel
theorem dL_cell_3 : decode cL_cell 3 = .ok (.if_icmp .ge 9, 3) := by decide +kernel
theorem dL_cell_6 : decode cL_cell 6 = .ok (.aload_n 0, 1) := by decide +kernel
theorem dL_cell_7 : decode cL_cell 7 = .ok (.iload_n 1, 1) := by decide +kernel
theorem dL_cell_8 : decode cL_cell 8 = .ok (.iaload, 1) := by decide +kernel
theorem dL_cell_9 : decode cL_cell 9 = .ok (.goto 15, 3) := by decide +kernel
theorem dL_cell_12 : decode cL_cell 12 = .ok (.sipush 7919, 3) := by decide +kernel
theorem dL_cell_15 : decode cL_cell 15 = .ok (.iload_n 1, 1) := by decide +kernel
theorem dL_cell_16 : decode cL_cell 16 = .ok (.iconst 3, 1) := by decide +kernel
theorem dL_cell_17 : decode cL_cell 17 = .ok (.iadd, 1) := by decide +kernel
theorem dL_cell_18 : decode cL_cell 18 = .ok (.imul, 1) := by decide +kernel
theorem dL_cell_19 : decode cL_cell 19 = .ok (.iload_n 1, 1) := by decide +kernel
theorem dL_cell_20 : decode cL_cell 20 = .ok (.bipush 11, 2) := by decide +kernel
theorem dL_cell_22 : decode cL_cell 22 = .ok (.iadd, 1) := by decide +kernel
theorem dL_cell_23 : decode cL_cell 23 = .ok (.imul, 1) := by decide +kernel
theorem dL_cell_24 : decode cL_cell 24 = .ok (.ireturn, 1) := by decide +kernel
theorem dL_low_0 : decode cL_low 0 = .ok (.iload_n 0, 1) := by decide +kernel
theorem dL_low_1 : decode cL_low 1 = .ok (.ldc 7, 2) := by decide +kernel
theorem dL_low_3 : decode cL_low 3 = .ok (.iand, 1) := by decide +kernel
theorem dL_low_4 : decode cL_low 4 = .ok (.iload_n 1, 1) := by decide +kernel
theorem dL_low_5 : decode cL_low 5 = .ok (.irem, 1) := by decide +kernel
theorem dL_low_6 : decode cL_low 6 = .ok (.ireturn, 1) := by decide +kernel
theorem dL_tale_0 : decode cL_tale 0 = .ok (.ldc2_w 8, 3) := by decide +kernel
theorem dL_tale_3 : decode cL_tale 3 = .ok (.lstore_n 1, 1) := by decide +kernel
theorem dL_tale_4 : decode cL_tale 4 = .ok (.iconst 0, 1) := by decide +kernel
theorem dL_tale_5 : decode cL_tale 5 = .ok (.istore_n 3, 1) := by decide +kernel
theorem dL_tale_6 : decode cL_tale 6 = .ok (.iload_n 3, 1) := by decide +kernel
theorem dL_tale_7 : decode cL_tale 7 = .ok (.bipush 8, 2) := by decide +kernel
theorem dL_tale_9 : decode cL_tale 9 = .ok (.if_icmp .ge 22, 3) := by decide +kernel
theorem dL_tale_12 : decode cL_tale 12 = .ok (.lload_n 1, 1) := by decide +kernel
theorem dL_tale_13 : decode cL_tale 13 = .ok (.ldc2_w 10, 3) := by decide +kernel
theorem dL_tale_16 : decode cL_tale 16 = .ok (.lmul, 1) := by decide +kernel
theorem dL_tale_17 : decode cL_tale 17 = .ok (.aload_n 0, 1) := by decide +kernel
theorem dL_tale_18 : decode cL_tale 18 = .ok (.iload_n 3, 1) := by decide +kernel
theorem dL_tale_19 : decode cL_tale 19 = .ok (.invokevirtual 12, 3) := by decide +kernel
theorem dL_tale_22 : decode cL_tale 22 = .ok (.i2l, 1) := by decide +kernel
theorem dL_tale_23 : decode cL_tale 23 = .ok (.ladd, 1) := by decide +kernel
theorem dL_tale_24 : decode cL_tale 24 = .ok (.lstore_n 1, 1) := by decide +kernel
theorem dL_tale_25 : decode cL_tale 25 = .ok (.iinc 3 1, 3) := by decide +kernel
theorem dL_tale_28 : decode cL_tale 28 = .ok (.goto (-22), 3) := by decide +kernel
theorem dL_tale_31 : decode cL_tale 31 = .ok (.iconst 0, 1) := by decide +kernel
theorem dL_tale_32 : decode cL_tale 32 = .ok (.istore_n 3, 1) := by decide +kernel
theorem dL_tale_33 : decode cL_tale 33 = .ok (.iload_n 3, 1) := by decide +kernel
theorem dL_tale_34 : decode cL_tale 34 = .ok (.bipush 10, 2) := by decide +kernel
theorem dL_tale_36 : decode cL_tale 36 = .ok (.if_icmp .ge 33, 3) := by decide +kernel
theorem dL_tale_39 : decode cL_tale 39 = .ok (.lload_n 1, 1) := by decide +kernel
theorem dL_tale_40 : decode cL_tale 40 = .ok (.ldc2_w 18, 3) := by decide +kernel
theorem dL_tale_43 : decode cL_tale 43 = .ok (.lmul, 1) := by decide +kernel
theorem dL_tale_44 : decode cL_tale 44 = .ok (.aload_n 0, 1) := by decide +kernel
theorem dL_tale_45 : decode cL_tale 45 = .ok (.iload_n 3, 1) := by decide +kernel
theorem dL_tale_46 : decode cL_tale 46 = .ok (.invokevirtual 20, 3) := by decide +kernel
theorem dL_tale_49 : decode cL_tale 49 = .ok (.i2l, 1) := by decide +kernel
theorem dL_tale_50 : decode cL_tale 50 = .ok (.ladd, 1) := by decide +kernel
theorem dL_tale_51 : decode cL_tale 51 = .ok (.ldc2_w 8, 3) := by decide +kernel
theorem dL_tale_54 : decode cL_tale 54 = .ok (.aload_n 0, 1) := by decide +kernel
theorem dL_tale_55 : decode cL_tale 55 = .ok (.iload_n 3, 1) := by decide +kernel
theorem dL_tale_56 : decode cL_tale 56 = .ok (.invokevirtual 23, 3) := by decide +kernel
theorem dL_tale_59 : decode cL_tale 59 = .ok (.i2l, 1) := by decide +kernel
theorem dL_tale_60 : decode cL_tale 60 = .ok (.lmul, 1) := by decide +kernel
theorem dL_tale_61 : decode cL_tale 61 = .ok (.ladd, 1) := by decide +kernel
theorem dL_tale_62 : decode cL_tale 62 = .ok (.lstore_n 1, 1) := by decide +kernel
theorem dL_tale_63 : decode cL_tale 63 = .ok (.iinc 3 1, 3) := by decide +kernel
theorem dL_tale_66 : decode cL_tale 66 = .ok (.goto (-33), 3) := by decide +kernel
theorem dL_tale_69 : decode cL_tale 69 = .ok (.iconst 0, 1) := by decide +kernel
theorem dL_tale_70 : decode cL_tale 70 = .ok (.istore_n 3, 1) := by decide +kernel
theorem dL_tale_71 : decode cL_tale 71 = .ok (.iload_n 3, 1) := by decide +kernel
theorem dL_tale_72 : decode cL_tale 72 = .ok (.aload_n 0, 1) := by decide +kernel
theorem dL_tale_73 : decode cL_tale 73 = .ok (.iconst 0, 1) := by decide +kernel
theorem dL_tale_74 : decode cL_tale 74 = .ok (.invokevirtual 12, 3) := by decide +kernel
theorem dL_tale_77 : decode cL_tale 77 = .ok (.if_icmp .gt 70, 3) := by decide +kernel
theorem dL_tale_80 : decode cL_tale 80 = .ok (.iconst 0, 1) := by decide +kernel
theorem dL_tale_81 : decode cL_tale 81 = .ok (.istore 4, 2) := by decide +kernel
theorem dL_tale_83 : decode cL_tale 83 = .ok (.iload 4, 2) := by decide +kernel
theorem dL_tale_85 : decode cL_tale 85 = .ok (.iconst 5, 1) := by decide +kernel
theorem dL_tale_86 : decode cL_tale 86 = .ok (.if_icmp .ge 24, 3) := by decide +kernel
theorem dL_tale_89 : decode cL_tale 89 = .ok (.lload_n 1, 1) := by decide +kernel
theorem dL_tale_90 : decode cL_tale 90 = .ok (.ldc2_w 26, 3) := by decide +kernel
theorem dL_tale_93 : decode cL_tale 93 = .ok (.lmul, 1) := by decide +kernel
theorem dL_tale_94 : decode cL_tale 94 = .ok (.aload_n 0, 1) := by decide +kernel
theorem dL_tale_95 : decode cL_tale 95 = .ok (.iload_n 3, 1) := by decide +kernel
theorem dL_tale_96 : decode cL_tale 96 = .ok (.iload 4, 2) := by decide +kernel
theorem dL_tale_98 : decode cL_tale 98 = .ok (.invokevirtual 28, 3) := by decide +kernel
theorem dL_tale_101 : decode cL_tale 101 = .ok (.i2l, 1) := by decide +kernel
theorem dL_tale_102 : decode cL_tale 102 = .ok (.ladd, 1) := by decide +kernel
theorem dL_tale_103 : decode cL_tale 103 = .ok (.lstore_n 1, 1) := by decide +kernel
theorem dL_tale_104 : decode cL_tale 104 = .ok (.iinc 4 1, 3) := by decide +kernel
theorem dL_tale_107 : decode cL_tale 107 = .ok (.goto (-24), 3) := by decide +kernel
theorem dL_tale_110 : decode cL_tale 110 = .ok (.iconst 0, 1) := by decide +kernel
theorem dL_tale_111 : decode cL_tale 111 = .ok (.istore 4, 2) := by decide +kernel
theorem dL_tale_113 : decode cL_tale 113 = .ok (.iload 4, 2) := by decide +kernel
theorem dL_tale_115 : decode cL_tale 115 = .ok (.bipush 10, 2) := by decide +kernel
theorem dL_tale_117 : decode cL_tale 117 = .ok (.if_icmp .ge 24, 3) := by decide +kernel
theorem dL_tale_120 : decode cL_tale 120 = .ok (.lload_n 1, 1) := by decide +kernel
theorem dL_tale_121 : decode cL_tale 121 = .ok (.ldc2_w 32, 3) := by decide +kernel
theorem dL_tale_124 : decode cL_tale 124 = .ok (.lmul, 1) := by decide +kernel
theorem dL_tale_125 : decode cL_tale 125 = .ok (.aload_n 0, 1) := by decide +kernel
theorem dL_tale_126 : decode cL_tale 126 = .ok (.iload_n 3, 1) := by decide +kernel
theorem dL_tale_127 : decode cL_tale 127 = .ok (.iload 4, 2) := by decide +kernel
theorem dL_tale_129 : decode cL_tale 129 = .ok (.invokevirtual 34, 3) := by decide +kernel
theorem dL_tale_132 : decode cL_tale 132 = .ok (.i2l, 1) := by decide +kernel
theorem dL_tale_133 : decode cL_tale 133 = .ok (.ladd, 1) := by decide +kernel
theorem dL_tale_134 : decode cL_tale 134 = .ok (.lstore_n 1, 1) := by decide +kernel
theorem dL_tale_135 : decode cL_tale 135 = .ok (.iinc 4 1, 3) := by decide +kernel
theorem dL_tale_138 : decode cL_tale 138 = .ok (.goto (-25), 3) := by decide +kernel
theorem dL_tale_141 : decode cL_tale 141 = .ok (.iinc 3 1, 3) := by decide +kernel
theorem dL_tale_144 : decode cL_tale 144 = .ok (.goto (-73), 3) := by decide +kernel
theorem dL_tale_147 : decode cL_tale 147 = .ok (.lload_n 1, 1) := by decide +kernel
theorem dL_tale_148 : decode cL_tale 148 = .ok (.ldc2_w 37, 3) := by decide +kernel
theorem dL_tale_151 : decode cL_tale 151 = .ok (.lmul, 1) := by decide +kernel
theorem dL_tale_152 : decode cL_tale 152 = .ok (.aload_n 0, 1) := by decide +kernel
theorem dL_tale_153 : decode cL_tale 153 = .ok (.invokevirtual 39, 3) := by decide +kernel
theorem dL_tale_156 : decode cL_tale 156 = .ok (.i2l, 1) := by decide +kernel
theorem dL_tale_157 : decode cL_tale 157 = .ok (.ladd, 1) := by decide +kernel
theorem dL_tale_158 : decode cL_tale 158 = .ok (.lreturn, 1) := by decide +kernel
theorem dL_does_0 : decode cL_does 0 = .ok (.iload_n 1, 1) := by decide +kernel
theorem dL_does_1 : decode cL_does 1 = .ok (.bipush 15, 2) := by decide +kernel
theorem dL_does_3 : decode cL_does 3 = .ok (.iand, 1) := by decide +kernel
theorem dL_does_4 : decode cL_does 4 = .ok (.tableswitch 231 0 11 #[64, 64, 64, 87, 100, 141, 153, 158, 192, 192, 197, 210], 64) := by decide +kernel
theorem dL_does_68 : decode cL_does 68 = .ok (.aload_n 0, 1) := by decide +kernel
theorem dL_does_69 : decode cL_does 69 = .ok (.iload_n 1, 1) := by decide +kernel
theorem dL_does_70 : decode cL_does 70 = .ok (.iconst 4, 1) := by decide +kernel
theorem dL_does_71 : decode cL_does 71 = .ok (.ishr, 1) := by decide +kernel
theorem dL_does_72 : decode cL_does 72 = .ok (.bipush 10, 2) := by decide +kernel
theorem dL_does_74 : decode cL_does 74 = .ok (.invokestatic 43, 3) := by decide +kernel
theorem dL_does_77 : decode cL_does 77 = .ok (.iload_n 1, 1) := by decide +kernel
theorem dL_does_78 : decode cL_does 78 = .ok (.bipush 8, 2) := by decide +kernel
theorem dL_does_80 : decode cL_does 80 = .ok (.ishr, 1) := by decide +kernel
theorem dL_does_81 : decode cL_does 81 = .ok (.sipush 10001, 3) := by decide +kernel
theorem dL_does_84 : decode cL_does 84 = .ok (.invokestatic 43, 3) := by decide +kernel
theorem dL_does_87 : decode cL_does 87 = .ok (.invokevirtual 48, 3) := by decide +kernel
theorem dL_does_90 : decode cL_does 90 = .ok (.ireturn, 1) := by decide +kernel
theorem dL_does_91 : decode cL_does 91 = .ok (.aload_n 0, 1) := by decide +kernel
theorem dL_does_92 : decode cL_does 92 = .ok (.iload_n 1, 1) := by decide +kernel
theorem dL_does_93 : decode cL_does 93 = .ok (.iconst 4, 1) := by decide +kernel
theorem dL_does_94 : decode cL_does 94 = .ok (.ishr, 1) := by decide +kernel
theorem dL_does_95 : decode cL_does 95 = .ok (.bipush 11, 2) := by decide +kernel
theorem dL_does_97 : decode cL_does 97 = .ok (.invokestatic 43, 3) := by decide +kernel
theorem dL_does_100 : decode cL_does 100 = .ok (.invokevirtual 51, 3) := by decide +kernel
theorem dL_does_103 : decode cL_does 103 = .ok (.ireturn, 1) := by decide +kernel
theorem dL_does_104 : decode cL_does 104 = .ok (.iload_n 1, 1) := by decide +kernel
theorem dL_does_105 : decode cL_does 105 = .ok (.bipush 20, 2) := by decide +kernel
theorem dL_does_107 : decode cL_does 107 = .ok (.ishr, 1) := by decide +kernel
theorem dL_does_108 : decode cL_does 108 = .ok (.iconst 3, 1) := by decide +kernel
theorem dL_does_109 : decode cL_does 109 = .ok (.iand, 1) := by decide +kernel
theorem dL_does_110 : decode cL_does 110 = .ok (.ifCond .ne 20, 3) := by decide +kernel
theorem dL_does_113 : decode cL_does 113 = .ok (.aload_n 0, 1) := by decide +kernel
theorem dL_does_114 : decode cL_does 114 = .ok (.iconst 1, 1) := by decide +kernel
theorem dL_does_115 : decode cL_does 115 = .ok (.iload_n 1, 1) := by decide +kernel
theorem dL_does_116 : decode cL_does 116 = .ok (.iconst 4, 1) := by decide +kernel
theorem dL_does_117 : decode cL_does 117 = .ok (.ishr, 1) := by decide +kernel
theorem dL_does_118 : decode cL_does 118 = .ok (.bipush 9, 2) := by decide +kernel
theorem dL_does_120 : decode cL_does 120 = .ok (.invokestatic 43, 3) := by decide +kernel
theorem dL_does_123 : decode cL_does 123 = .ok (.iadd, 1) := by decide +kernel
theorem dL_does_124 : decode cL_does 124 = .ok (.invokevirtual 54, 3) := by decide +kernel
theorem dL_does_127 : decode cL_does 127 = .ok (.goto 17, 3) := by decide +kernel
theorem dL_does_130 : decode cL_does 130 = .ok (.aload_n 0, 1) := by decide +kernel
theorem dL_does_131 : decode cL_does 131 = .ok (.iconst 1, 1) := by decide +kernel
theorem dL_does_132 : decode cL_does 132 = .ok (.iload_n 1, 1) := by decide +kernel
theorem dL_does_133 : decode cL_does 133 = .ok (.iconst 4, 1) := by decide +kernel
theorem dL_does_134 : decode cL_does 134 = .ok (.ishr, 1) := by decide +kernel
theorem dL_does_135 : decode cL_does 135 = .ok (.bipush 9, 2) := by decide +kernel
theorem dL_does_137 : decode cL_does 137 = .ok (.invokestatic 43, 3) := by decide +kernel
theorem dL_does_140 : decode cL_does 140 = .ok (.iadd, 1) := by decide +kernel
theorem dL_does_141 : decode cL_does 141 = .ok (.invokevirtual 51, 3) := by decide +kernel
theorem dL_does_144 : decode cL_does 144 = .ok (.ireturn, 1) := by decide +kernel
theorem dL_does_145 : decode cL_does 145 = .ok (.aload_n 0, 1) := by decide +kernel
theorem dL_does_146 : decode cL_does 146 = .ok (.iload_n 1, 1) := by decide +kernel
theorem dL_does_147 : decode cL_does 147 = .ok (.iconst 4, 1) := by decide +kernel
theorem dL_does_148 : decode cL_does 148 = .ok (.ishr, 1) := by decide +kernel
