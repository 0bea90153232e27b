theorem dX3_collect_5 : decode cX3_collect 5 = .ok (.invokevirtual 127, 3) := by decide +kernel
theorem dX3_collect_8 : decode cX3_collect 8 = .ok (.ifCond .ne 5, 3) := by decide +kernel
theorem dX3_collect_11 : decode cX3_collect 11 = .ok (.iconst (-1), 1) := by decide +kernel
theorem dX3_collect_12 : decode cX3_collect 12 = .ok (.ireturn, 1) := by decide +kernel
theorem dX3_collect_13 : decode cX3_collect 13 = .ok (.aload_n 0, 1) := by decide +kernel
theorem dX3_collect_14 : decode cX3_collect 14 = .ok (.getfield 10, 3) := by decide +kernel
theorem dX3_collect_17 : decode cX3_collect 17 = .ok (.getfield 114, 3) := by decide +kernel
theorem dX3_collect_20 : decode cX3_collect 20 = .ok (.ifCond .ne 6, 3) := by decide +kernel
theorem dX3_collect_23 : decode cX3_collect 23 = .ok (.bipush (-2), 2) := by decide +kernel
theorem dX3_collect_25 : decode cX3_collect 25 = .ok (.ireturn, 1) := by decide +kernel
theorem dX3_collect_26 : decode cX3_collect 26 = .ok (.aload_n 0, 1) := by decide +kernel
theorem dX3_collect_27 : decode cX3_collect 27 = .ok (.invokevirtual 38, 3) := by decide +kernel
theorem dX3_collect_30 : decode cX3_collect 30 = .ok (.aload_n 0, 1) := by decide +kernel
theorem dX3_collect_31 : decode cX3_collect 31 = .ok (.getfield 10, 3) := by decide +kernel
theorem dX3_collect_34 : decode cX3_collect 34 = .ok (.getfield 130, 3) := by decide +kernel
theorem dX3_collect_37 : decode cX3_collect 37 = .ok (.iload_n 1, 1) := by decide +kernel
theorem dX3_collect_38 : decode cX3_collect 38 = .ok (.aaload, 1) := by decide +kernel
theorem dX3_collect_39 : decode cX3_collect 39 = .ok (.astore_n 2, 1) := by decide +kernel
theorem dX3_collect_40 : decode cX3_collect 40 = .ok (.aload_n 2, 1) := by decide +kernel
theorem dX3_collect_41 : decode cX3_collect 41 = .ok (.getfield 139, 3) := by decide +kernel
theorem dX3_collect_44 : decode cX3_collect 44 = .ok (.invokestatic 52, 3) := by decide +kernel
theorem dX3_collect_47 : decode cX3_collect 47 = .ok (.istore_n 3, 1) := by decide +kernel
theorem dX3_collect_48 : decode cX3_collect 48 = .ok (.aload_n 2, 1) := by decide +kernel
theorem dX3_collect_49 : decode cX3_collect 49 = .ok (.dup, 1) := by decide +kernel
theorem dX3_collect_50 : decode cX3_collect 50 = .ok (.getfield 145, 3) := by decide +kernel
theorem dX3_collect_53 : decode cX3_collect 53 = .ok (.iload_n 3, 1) := by decide +kernel
theorem dX3_collect_54 : decode cX3_collect 54 = .ok (.iadd, 1) := by decide +kernel
theorem dX3_collect_55 : decode cX3_collect 55 = .ok (.putfield 145, 3) := by decide +kernel
theorem dX3_collect_58 : decode cX3_collect 58 = .ok (.aload_n 2, 1) := by decide +kernel
theorem dX3_collect_59 : decode cX3_collect 59 = .ok (.getfield 139, 3) := by decide +kernel
theorem dX3_collect_62 : decode cX3_collect 62 = .ok (.invokestatic 157, 3) := by decide +kernel
theorem dX3_collect_65 : decode cX3_collect 65 = .ok (.iload_n 3, 1) := by decide +kernel
theorem dX3_collect_66 : decode cX3_collect 66 = .ok (.ireturn, 1) := by decide +kernel
theorem dX3_brush_0 : decode cX3_brush 0 = .ok (.aload_n 0, 1) := by decide +kernel
theorem dX3_brush_1 : decode cX3_brush 1 = .ok (.getfield 10, 3) := by decide +kernel
theorem dX3_brush_4 : decode cX3_brush 4 = .ok (.iload_n 1, 1) := by decide +kernel
theorem dX3_brush_5 : decode cX3_brush 5 = .ok (.invokevirtual 161, 3) := by decide +kernel
theorem dX3_brush_8 : decode cX3_brush 8 = .ok (.ifCond .eq 12, 3) := by decide +kernel
theorem dX3_brush_11 : decode cX3_brush 11 = .ok (.iload_n 2, 1) := by decide +kernel
theorem dX3_brush_12 : decode cX3_brush 12 = .ok (.iconst 0, 1) := by decide +kernel
theorem dX3_brush_13 : decode cX3_brush 13 = .ok (.iconst 1, 1) := by decide +kernel
theorem dX3_brush_14 : decode cX3_brush 14 = .ok (.invokestatic 34, 3) := by decide +kernel
theorem dX3_brush_17 : decode cX3_brush 17 = .ok (.ifCond .ne 5, 3) := by decide +kernel
theorem dX3_brush_20 : decode cX3_brush 20 = .ok (.iconst (-1), 1) := by decide +kernel
theorem dX3_brush_21 : decode cX3_brush 21 = .ok (.ireturn, 1) := by decide +kernel
theorem dX3_brush_22 : decode cX3_brush 22 = .ok (.aload_n 0, 1) := by decide +kernel
theorem dX3_brush_23 : decode cX3_brush 23 = .ok (.getfield 10, 3) := by decide +kernel
theorem dX3_brush_26 : decode cX3_brush 26 = .ok (.getfield 114, 3) := by decide +kernel
theorem dX3_brush_29 : decode cX3_brush 29 = .ok (.ifCond .ne 6, 3) := by decide +kernel
theorem dX3_brush_32 : decode cX3_brush 32 = .ok (.bipush (-2), 2) := by decide +kernel
theorem dX3_brush_34 : decode cX3_brush 34 = .ok (.ireturn, 1) := by decide +kernel
theorem dX3_brush_35 : decode cX3_brush 35 = .ok (.aload_n 0, 1) := by decide +kernel
theorem dX3_brush_36 : decode cX3_brush 36 = .ok (.invokevirtual 38, 3) := by decide +kernel
theorem dX3_brush_39 : decode cX3_brush 39 = .ok (.aload_n 0, 1) := by decide +kernel
theorem dX3_brush_40 : decode cX3_brush 40 = .ok (.getfield 10, 3) := by decide +kernel
theorem dX3_brush_43 : decode cX3_brush 43 = .ok (.getfield 130, 3) := by decide +kernel
theorem dX3_brush_46 : decode cX3_brush 46 = .ok (.iload_n 1, 1) := by decide +kernel
theorem dX3_brush_47 : decode cX3_brush 47 = .ok (.aaload, 1) := by decide +kernel
theorem dX3_brush_48 : decode cX3_brush 48 = .ok (.astore_n 3, 1) := by decide +kernel
theorem dX3_brush_49 : decode cX3_brush 49 = .ok (.aload_n 3, 1) := by decide +kernel
theorem dX3_brush_50 : decode cX3_brush 50 = .ok (.getfield 142, 3) := by decide +kernel
theorem dX3_brush_53 : decode cX3_brush 53 = .ok (.istore 4, 2) := by decide +kernel
theorem dX3_brush_55 : decode cX3_brush 55 = .ok (.aload_n 3, 1) := by decide +kernel
theorem dX3_brush_56 : decode cX3_brush 56 = .ok (.iconst 0, 1) := by decide +kernel
theorem dX3_brush_57 : decode cX3_brush 57 = .ok (.putfield 142, 3) := by decide +kernel
theorem dX3_brush_60 : decode cX3_brush 60 = .ok (.iload_n 2, 1) := by decide +kernel
theorem dX3_brush_61 : decode cX3_brush 61 = .ok (.iconst 1, 1) := by decide +kernel
theorem dX3_brush_62 : decode cX3_brush 62 = .ok (.if_icmp .ne 14, 3) := by decide +kernel
theorem dX3_brush_65 : decode cX3_brush 65 = .ok (.aload_n 3, 1) := by decide +kernel
theorem dX3_brush_66 : decode cX3_brush 66 = .ok (.dup, 1) := by decide +kernel
theorem dX3_brush_67 : decode cX3_brush 67 = .ok (.getfield 145, 3) := by decide +kernel
theorem dX3_brush_70 : decode cX3_brush 70 = .ok (.iload 4, 2) := by decide +kernel
theorem dX3_brush_72 : decode cX3_brush 72 = .ok (.iadd, 1) := by decide +kernel
theorem dX3_brush_73 : decode cX3_brush 73 = .ok (.putfield 145, 3) := by decide +kernel
theorem dX3_brush_76 : decode cX3_brush 76 = .ok (.iload 4, 2) := by decide +kernel
theorem dX3_brush_78 : decode cX3_brush 78 = .ok (.ireturn, 1) := by decide +kernel
theorem dX3_loss_0 : decode cX3_loss 0 = .ok (.aload_n 0, 1) := by decide +kernel
theorem dX3_loss_1 : decode cX3_loss 1 = .ok (.getfield 10, 3) := by decide +kernel
theorem dX3_loss_4 : decode cX3_loss 4 = .ok (.getfield 114, 3) := by decide +kernel
theorem dX3_loss_7 : decode cX3_loss 7 = .ok (.ifCond .ne 6, 3) := by decide +kernel
theorem dX3_loss_10 : decode cX3_loss 10 = .ok (.bipush (-2), 2) := by decide +kernel
theorem dX3_loss_12 : decode cX3_loss 12 = .ok (.ireturn, 1) := by decide +kernel
theorem dX3_loss_13 : decode cX3_loss 13 = .ok (.aload_n 0, 1) := by decide +kernel
theorem dX3_loss_14 : decode cX3_loss 14 = .ok (.getfield 10, 3) := by decide +kernel
theorem dX3_loss_17 : decode cX3_loss 17 = .ok (.invokevirtual 164, 3) := by decide +kernel
theorem dX3_loss_20 : decode cX3_loss 20 = .ok (.ireturn, 1) := by decide +kernel
theorem dX3_isGood_0 : decode cX3_isGood 0 = .ok (.aload_n 0, 1) := by decide +kernel
theorem dX3_isGood_1 : decode cX3_isGood 1 = .ok (.getfield 10, 3) := by decide +kernel
theorem dX3_isGood_4 : decode cX3_isGood 4 = .ok (.getfield 114, 3) := by decide +kernel
theorem dX3_isGood_7 : decode cX3_isGood 7 = .ok (.ifCond .ne 6, 3) := by decide +kernel
theorem dX3_isGood_10 : decode cX3_isGood 10 = .ok (.bipush (-2), 2) := by decide +kernel
theorem dX3_isGood_12 : decode cX3_isGood 12 = .ok (.ireturn, 1) := by decide +kernel
theorem dX3_isGood_13 : decode cX3_isGood 13 = .ok (.aload_n 0, 1) := by decide +kernel
theorem dX3_isGood_14 : decode cX3_isGood 14 = .ok (.getfield 10, 3) := by decide +kernel
theorem dX3_isGood_17 : decode cX3_isGood 17 = .ok (.invokevirtual 164, 3) := by decide +kernel
theorem dX3_isGood_20 : decode cX3_isGood 20 = .ok (.sipush 1000, 3) := by decide +kernel
theorem dX3_isGood_23 : decode cX3_isGood 23 = .ok (.imul, 1) := by decide +kernel
theorem dX3_isGood_24 : decode cX3_isGood 24 = .ok (.aload_n 0, 1) := by decide +kernel
theorem dX3_isGood_25 : decode cX3_isGood 25 = .ok (.getfield 10, 3) := by decide +kernel
theorem dX3_isGood_28 : decode cX3_isGood 28 = .ok (.getfield 105, 3) := by decide +kernel
theorem dX3_isGood_31 : decode cX3_isGood 31 = .ok (.aload_n 0, 1) := by decide +kernel
theorem dX3_isGood_32 : decode cX3_isGood 32 = .ok (.getfield 10, 3) := by decide +kernel
theorem dX3_isGood_35 : decode cX3_isGood 35 = .ok (.getfield 167, 3) := by decide +kernel
theorem dX3_isGood_38 : decode cX3_isGood 38 = .ok (.imul, 1) := by decide +kernel
theorem dX3_isGood_39 : decode cX3_isGood 39 = .ok (.if_icmp .gt 7, 3) := by decide +kernel
theorem dX3_isGood_42 : decode cX3_isGood 42 = .ok (.iconst 1, 1) := by decide +kernel
theorem dX3_isGood_43 : decode cX3_isGood 43 = .ok (.goto 4, 3) := by decide +kernel
theorem dX3_isGood_46 : decode cX3_isGood 46 = .ok (.iconst 0, 1) := by decide +kernel
theorem dX3_isGood_47 : decode cX3_isGood 47 = .ok (.ireturn, 1) := by decide +kernel
theorem dX3_passing_0 : decode cX3_passing 0 = .ok (.aload_n 0, 1) := by decide +kernel
theorem dX3_passing_1 : decode cX3_passing 1 = .ok (.getfield 10, 3) := by decide +kernel
theorem dX3_passing_4 : decode cX3_passing 4 = .ok (.iload_n 1, 1) := by decide +kernel
theorem dX3_passing_5 : decode cX3_passing 5 = .ok (.invokevirtual 161, 3) := by decide +kernel
theorem dX3_passing_8 : decode cX3_passing 8 = .ok (.ifCond .ne 5, 3) := by decide +kernel
theorem dX3_passing_11 : decode cX3_passing 11 = .ok (.iconst (-1), 1) := by decide +kernel
theorem dX3_passing_12 : decode cX3_passing 12 = .ok (.ireturn, 1) := by decide +kernel
theorem dX3_passing_13 : decode cX3_passing 13 = .ok (.aload_n 0, 1) := by decide +kernel
theorem dX3_passing_14 : decode cX3_passing 14 = .ok (.getfield 10, 3) := by decide +kernel
theorem dX3_passing_17 : decode cX3_passing 17 = .ok (.invokevirtual 170, 3) := by decide +kernel
theorem dX3_passing_20 : decode cX3_passing 20 = .ok (.ifCond .ne 6, 3) := by decide +kernel
theorem dX3_passing_23 : decode cX3_passing 23 = .ok (.bipush (-2), 2) := by decide +kernel
theorem dX3_passing_25 : decode cX3_passing 25 = .ok (.ireturn, 1) := by decide +kernel
theorem dX3_passing_26 : decode cX3_passing 26 = .ok (.aload_n 0, 1) := by decide +kernel
theorem dX3_passing_27 : decode cX3_passing 27 = .ok (.getfield 10, 3) := by decide +kernel
theorem dX3_passing_30 : decode cX3_passing 30 = .ok (.iload_n 1, 1) := by decide +kernel
theorem dX3_passing_31 : decode cX3_passing 31 = .ok (.invokevirtual 174, 3) := by decide +kernel
theorem dX3_passing_34 : decode cX3_passing 34 = .ok (.ireturn, 1) := by decide +kernel
theorem dX3_misses_0 : decode cX3_misses 0 = .ok (.aload_n 0, 1) := by decide +kernel
theorem dX3_misses_1 : decode cX3_misses 1 = .ok (.getfield 10, 3) := by decide +kernel
theorem dX3_misses_4 : decode cX3_misses 4 = .ok (.invokevirtual 170, 3) := by decide +kernel
theorem dX3_misses_7 : decode cX3_misses 7 = .ok (.ifCond .ne 6, 3) := by decide +kernel
theorem dX3_misses_10 : decode cX3_misses 10 = .ok (.bipush (-2), 2) := by decide +kernel
theorem dX3_misses_12 : decode cX3_misses 12 = .ok (.ireturn, 1) := by decide +kernel
theorem dX3_misses_13 : decode cX3_misses 13 = .ok (.iconst 0, 1) := by decide +kernel
theorem dX3_misses_14 : decode cX3_misses 14 = .ok (.istore_n 1, 1) := by decide +kernel
theorem dX3_misses_15 : decode cX3_misses 15 = .ok (.iconst 0, 1) := by decide +kernel
theorem dX3_misses_16 : decode cX3_misses 16 = .ok (.istore_n 2, 1) := by decide +kernel
theorem dX3_misses_17 : decode cX3_misses 17 = .ok (.iload_n 2, 1) := by decide +kernel
theorem dX3_misses_18 : decode cX3_misses 18 = .ok (.aload_n 0, 1) := by decide +kernel
theorem dX3_misses_19 : decode cX3_misses 19 = .ok (.getfield 10, 3) := by decide +kernel
theorem dX3_misses_22 : decode cX3_misses 22 = .ok (.getfield 83, 3) := by decide +kernel
theorem dX3_misses_25 : decode cX3_misses 25 = .ok (.if_icmp .ge 57, 3) := by decide +kernel
theorem dX3_misses_28 : decode cX3_misses 28 = .ok (.aload_n 0, 1) := by decide +kernel
theorem dX3_misses_29 : decode cX3_misses 29 = .ok (.getfield 10, 3) := by decide +kernel
theorem dX3_misses_32 : decode cX3_misses 32 = .ok (.getfield 130, 3) := by decide +kernel
theorem dX3_misses_35 : decode cX3_misses 35 = .ok (.iload_n 2, 1) := by decide +kernel
theorem dX3_misses_36 : decode cX3_misses 36 = .ok (.aaload, 1) := by decide +kernel
theorem dX3_misses_37 : decode cX3_misses 37 = .ok (.getfield 134, 3) := by decide +kernel
theorem dX3_misses_40 : decode cX3_misses 40 = .ok (.istore_n 3, 1) := by decide +kernel
theorem dX3_misses_41 : decode cX3_misses 41 = .ok (.aload_n 0, 1) := by decide +kernel
theorem dX3_misses_42 : decode cX3_misses 42 = .ok (.getfield 10, 3) := by decide +kernel
theorem dX3_misses_45 : decode cX3_misses 45 = .ok (.iload_n 2, 1) := by decide +kernel
theorem dX3_misses_46 : decode cX3_misses 46 = .ok (.invokevirtual 174, 3) := by decide +kernel
theorem dX3_misses_49 : decode cX3_misses 49 = .ok (.aload_n 0, 1) := by decide +kernel
theorem dX3_misses_50 : decode cX3_misses 50 = .ok (.getfield 10, 3) := by decide +kernel
theorem dX3_misses_53 : decode cX3_misses 53 = .ok (.getfield 108, 3) := by decide +kernel
theorem dX3_misses_56 : decode cX3_misses 56 = .ok (.iload_n 3, 1) := by decide +kernel
theorem dX3_misses_57 : decode cX3_misses 57 = .ok (.iaload, 1) := by decide +kernel
theorem dX3_misses_58 : decode cX3_misses 58 = .ok (.aload_n 0, 1) := by decide +kernel
theorem dX3_misses_59 : decode cX3_misses 59 = .ok (.getfield 10, 3) := by decide +kernel
theorem dX3_misses_62 : decode cX3_misses 62 = .ok (.getfield 111, 3) := by decide +kernel
theorem dX3_misses_65 : decode cX3_misses 65 = .ok (.iload_n 3, 1) := by decide +kernel
theorem dX3_misses_66 : decode cX3_misses 66 = .ok (.iaload, 1) := by decide +kernel
theorem dX3_misses_67 : decode cX3_misses 67 = .ok (.invokestatic 34, 3) := by decide +kernel
theorem dX3_misses_70 : decode cX3_misses 70 = .ok (.ifCond .ne 6, 3) := by decide +kernel
theorem dX3_misses_73 : decode cX3_misses 73 = .ok (.iinc 1 1, 3) := by decide +kernel
theorem dX3_misses_76 : decode cX3_misses 76 = .ok (.iinc 2 1, 3) := by decide +kernel
theorem dX3_misses_79 : decode cX3_misses 79 = .ok (.goto (-62), 3) := by decide +kernel
theorem dX3_misses_82 : decode cX3_misses 82 = .ok (.iload_n 1, 1) := by decide +kernel
theorem dX3_misses_83 : decode cX3_misses 83 = .ok (.ireturn, 1) := by decide +kernel
theorem dX3_modulus_0 : decode cX3_modulus 0 = .ok (.aload_n 0, 1) := by decide +kernel
theorem dX3_modulus_1 : decode cX3_modulus 1 = .ok (.getfield 10, 3) := by decide +kernel
theorem dX3_modulus_4 : decode cX3_modulus 4 = .ok (.invokevirtual 170, 3) := by decide +kernel
theorem dX3_modulus_7 : decode cX3_modulus 7 = .ok (.ifCond .ne 6, 3) := by decide +kernel
theorem dX3_modulus_10 : decode cX3_modulus 10 = .ok (.bipush (-2), 2) := by decide +kernel
theorem dX3_modulus_12 : decode cX3_modulus 12 = .ok (.ireturn, 1) := by decide +kernel
theorem dX3_modulus_13 : decode cX3_modulus 13 = .ok (.iconst 0, 1) := by decide +kernel
theorem dX3_modulus_14 : decode cX3_modulus 14 = .ok (.istore_n 1, 1) := by decide +kernel
theorem dX3_modulus_15 : decode cX3_modulus 15 = .ok (.iconst 0, 1) := by decide +kernel
theorem dX3_modulus_16 : decode cX3_modulus 16 = .ok (.istore_n 2, 1) := by decide +kernel
theorem dX3_modulus_17 : decode cX3_modulus 17 = .ok (.iload_n 2, 1) := by decide +kernel
theorem dX3_modulus_18 : decode cX3_modulus 18 = .ok (.aload_n 0, 1) := by decide +kernel
theorem dX3_modulus_19 : decode cX3_modulus 19 = .ok (.getfield 10, 3) := by decide +kernel
theorem dX3_modulus_22 : decode cX3_modulus 22 = .ok (.getfield 83, 3) := by decide +kernel
theorem dX3_modulus_25 : decode cX3_modulus 25 = .ok (.if_icmp .ge 24, 3) := by decide +kernel
theorem dX3_modulus_28 : decode cX3_modulus 28 = .ok (.iload_n 1, 1) := by decide +kernel
theorem dX3_modulus_29 : decode cX3_modulus 29 = .ok (.sipush 1000, 3) := by decide +kernel
theorem dX3_modulus_32 : decode cX3_modulus 32 = .ok (.aload_n 0, 1) := by decide +kernel
theorem dX3_modulus_33 : decode cX3_modulus 33 = .ok (.getfield 10, 3) := by decide +kernel
theorem dX3_modulus_36 : decode cX3_modulus 36 = .ok (.iload_n 2, 1) := by decide +kernel
theorem dX3_modulus_37 : decode cX3_modulus 37 = .ok (.invokevirtual 174, 3) := by decide +kernel
theorem dX3_modulus_40 : decode cX3_modulus 40 = .ok (.isub, 1) := by decide +kernel
theorem dX3_modulus_41 : decode cX3_modulus 41 = .ok (.iadd, 1) := by decide +kernel
theorem dX3_modulus_42 : decode cX3_modulus 42 = .ok (.istore_n 1, 1) := by decide +kernel
theorem dX3_modulus_43 : decode cX3_modulus 43 = .ok (.iinc 2 1, 3) := by decide +kernel
theorem dX3_modulus_46 : decode cX3_modulus 46 = .ok (.goto (-29), 3) := by decide +kernel
theorem dX3_modulus_49 : decode cX3_modulus 49 = .ok (.iload_n 1, 1) := by decide +kernel
theorem dX3_modulus_50 : decode cX3_modulus 50 = .ok (.bipush 10, 2) := by decide +kernel
theorem dX3_modulus_52 : decode cX3_modulus 52 = .ok (.idiv, 1) := by decide +kernel
theorem dX3_modulus_53 : decode cX3_modulus 53 = .ok (.ireturn, 1) := by decide +kernel
theorem dX3_truePassing_0 : decode cX3_truePassing 0 = .ok (.iload_n 1, 1) := by decide +kernel
theorem dX3_truePassing_1 : decode cX3_truePassing 1 = .ok (.iconst 1, 1) := by decide +kernel
theorem dX3_truePassing_2 : decode cX3_truePassing 2 = .ok (.bipush 9, 2) := by decide +kernel
theorem dX3_truePassing_4 : decode cX3_truePassing 4 = .ok (.invokestatic 34, 3) := by decide +kernel
theorem dX3_truePassing_7 : decode cX3_truePassing 7 = .ok (.ifCond .ne 5, 3) := by decide +kernel
theorem dX3_truePassing_10 : decode cX3_truePassing 10 = .ok (.iconst (-1), 1) := by decide +kernel
theorem dX3_truePassing_11 : decode cX3_truePassing 11 = .ok (.ireturn, 1) := by decide +kernel
theorem dX3_truePassing_12 : decode cX3_truePassing 12 = .ok (.aload_n 0, 1) := by decide +kernel
theorem dX3_truePassing_13 : decode cX3_truePassing 13 = .ok (.getfield 10, 3) := by decide +kernel
theorem dX3_truePassing_16 : decode cX3_truePassing 16 = .ok (.getfield 41, 3) := by decide +kernel
theorem dX3_truePassing_19 : decode cX3_truePassing 19 = .ok (.invokestatic 52, 3) := by decide +kernel
theorem dX3_truePassing_22 : decode cX3_truePassing 22 = .ok (.istore_n 2, 1) := by decide +kernel
theorem dX3_truePassing_23 : decode cX3_truePassing 23 = .ok (.iload_n 2, 1) := by decide +kernel
theorem dX3_truePassing_24 : decode cX3_truePassing 24 = .ok (.ifCond .ne 6, 3) := by decide +kernel
theorem dX3_truePassing_27 : decode cX3_truePassing 27 = .ok (.bipush (-2), 2) := by decide +kernel
theorem dX3_truePassing_29 : decode cX3_truePassing 29 = .ok (.ireturn, 1) := by decide +kernel
theorem dX3_truePassing_30 : decode cX3_truePassing 30 = .ok (.iconst 0, 1) := by decide +kernel
theorem dX3_truePassing_31 : decode cX3_truePassing 31 = .ok (.istore_n 3, 1) := by decide +kernel
theorem dX3_truePassing_32 : decode cX3_truePassing 32 = .ok (.iconst 0, 1) := by decide +kernel
theorem dX3_truePassing_33 : decode cX3_truePassing 33 = .ok (.istore 4, 2) := by decide +kernel
theorem dX3_truePassing_35 : decode cX3_truePassing 35 = .ok (.iload 4, 2) := by decide +kernel
theorem dX3_truePassing_37 : decode cX3_truePassing 37 = .ok (.iload_n 1, 1) := by decide +kernel
theorem dX3_truePassing_38 : decode cX3_truePassing 38 = .ok (.if_icmp .ge 22, 3) := by decide +kernel
theorem dX3_truePassing_41 : decode cX3_truePassing 41 = .ok (.iload_n 3, 1) := by decide +kernel
theorem dX3_truePassing_42 : decode cX3_truePassing 42 = .ok (.aload_n 0, 1) := by decide +kernel
theorem dX3_truePassing_43 : decode cX3_truePassing 43 = .ok (.getfield 10, 3) := by decide +kernel
theorem dX3_truePassing_46 : decode cX3_truePassing 46 = .ok (.getfield 41, 3) := by decide +kernel
theorem dX3_truePassing_49 : decode cX3_truePassing 49 = .ok (.iload 4, 2) := by decide +kernel
theorem dX3_truePassing_51 : decode cX3_truePassing 51 = .ok (.iaload, 1) := by decide +kernel
theorem dX3_truePassing_52 : decode cX3_truePassing 52 = .ok (.iadd, 1) := by decide +kernel
theorem dX3_truePassing_53 : decode cX3_truePassing 53 = .ok (.istore_n 3, 1) := by decide +kernel
theorem dX3_truePassing_54 : decode cX3_truePassing 54 = .ok (.iinc 4 1, 3) := by decide +kernel
theorem dX3_truePassing_57 : decode cX3_truePassing 57 = .ok (.goto (-22), 3) := by decide +kernel
theorem dX3_truePassing_60 : decode cX3_truePassing 60 = .ok (.iload_n 3, 1) := by decide +kernel
theorem dX3_truePassing_61 : decode cX3_truePassing 61 = .ok (.iload_n 2, 1) := by decide +kernel
theorem dX3_truePassing_62 : decode cX3_truePassing 62 = .ok (.invokestatic 177, 3) := by decide +kernel
theorem dX3_truePassing_65 : decode cX3_truePassing 65 = .ok (.ireturn, 1) := by decide +kernel
theorem dX3_minutesTo_0 : decode cX3_minutesTo 0 = .ok (.iload_n 1, 1) := by decide +kernel
theorem dX3_minutesTo_1 : decode cX3_minutesTo 1 = .ok (.iconst 1, 1) := by decide +kernel
theorem dX3_minutesTo_2 : decode cX3_minutesTo 2 = .ok (.sipush 9999, 3) := by decide +kernel
theorem dX3_minutesTo_5 : decode cX3_minutesTo 5 = .ok (.invokestatic 34, 3) := by decide +kernel
theorem dX3_minutesTo_8 : decode cX3_minutesTo 8 = .ok (.ifCond .ne 5, 3) := by decide +kernel
theorem dX3_minutesTo_11 : decode cX3_minutesTo 11 = .ok (.iconst (-1), 1) := by decide +kernel
theorem dX3_minutesTo_12 : decode cX3_minutesTo 12 = .ok (.ireturn, 1) := by decide +kernel
theorem dX3_minutesTo_13 : decode cX3_minutesTo 13 = .ok (.aload_n 0, 1) := by decide +kernel
theorem dX3_minutesTo_14 : decode cX3_minutesTo 14 = .ok (.getfield 10, 3) := by decide +kernel
theorem dX3_minutesTo_17 : decode cX3_minutesTo 17 = .ok (.getfield 114, 3) := by decide +kernel
theorem dX3_minutesTo_20 : decode cX3_minutesTo 20 = .ok (.ifCond .ne 6, 3) := by decide +kernel
theorem dX3_minutesTo_23 : decode cX3_minutesTo 23 = .ok (.bipush (-2), 2) := by decide +kernel
theorem dX3_minutesTo_25 : decode cX3_minutesTo 25 = .ok (.ireturn, 1) := by decide +kernel
theorem dX3_minutesTo_26 : decode cX3_minutesTo 26 = .ok (.aload_n 0, 1) := by decide +kernel
theorem dX3_minutesTo_27 : decode cX3_minutesTo 27 = .ok (.getfield 16, 3) := by decide +kernel
theorem dX3_minutesTo_30 : decode cX3_minutesTo 30 = .ok (.aload_n 0, 1) := by decide +kernel
theorem dX3_minutesTo_31 : decode cX3_minutesTo 31 = .ok (.getfield 10, 3) := by decide +kernel
theorem dX3_minutesTo_34 : decode cX3_minutesTo 34 = .ok (.invokevirtual 181, 3) := by decide +kernel
theorem dX3_minutesTo_37 : decode cX3_minutesTo 37 = .ok (.iconst 1, 1) := by decide +kernel
theorem dX3_minutesTo_38 : decode cX3_minutesTo 38 = .ok (.istore_n 2, 1) := by decide +kernel
theorem dX3_minutesTo_39 : decode cX3_minutesTo 39 = .ok (.iload_n 2, 1) := by decide +kernel
theorem dX3_minutesTo_40 : decode cX3_minutesTo 40 = .ok (.sipush 500, 3) := by decide +kernel
theorem dX3_minutesTo_43 : decode cX3_minutesTo 43 = .ok (.if_icmp .gt 22, 3) := by decide +kernel
theorem dX3_minutesTo_46 : decode cX3_minutesTo 46 = .ok (.aload_n 0, 1) := by decide +kernel
theorem dX3_minutesTo_47 : decode cX3_minutesTo 47 = .ok (.getfield 16, 3) := by decide +kernel
theorem dX3_minutesTo_50 : decode cX3_minutesTo 50 = .ok (.invokevirtual 154, 3) := by decide +kernel
theorem dX3_minutesTo_53 : decode cX3_minutesTo 53 = .ok (.iload_n 1, 1) := by decide +kernel
theorem dX3_minutesTo_54 : decode cX3_minutesTo 54 = .ok (.if_icmp .ge 5, 3) := by decide +kernel
theorem dX3_minutesTo_57 : decode cX3_minutesTo 57 = .ok (.iload_n 2, 1) := by decide +kernel
theorem dX3_minutesTo_58 : decode cX3_minutesTo 58 = .ok (.ireturn, 1) := by decide +kernel
theorem dX3_minutesTo_59 : decode cX3_minutesTo 59 = .ok (.iinc 2 1, 3) := by decide +kernel
theorem dX3_minutesTo_62 : decode cX3_minutesTo 62 = .ok (.goto (-23), 3) := by decide +kernel
theorem dX3_minutesTo_65 : decode cX3_minutesTo 65 = .ok (.bipush (-9), 2) := by decide +kernel
theorem dX3_minutesTo_67 : decode cX3_minutesTo 67 = .ok (.ireturn, 1) := by decide +kernel
theorem dX3_dustIn_0 : decode cX3_dustIn 0 = .ok (.iload_n 1, 1) := by decide +kernel
theorem dX3_dustIn_1 : decode cX3_dustIn 1 = .ok (.iconst 1, 1) := by decide +kernel
theorem dX3_dustIn_2 : decode cX3_dustIn 2 = .ok (.sipush 500, 3) := by decide +kernel
theorem dX3_dustIn_5 : decode cX3_dustIn 5 = .ok (.invokestatic 34, 3) := by decide +kernel
theorem dX3_dustIn_8 : decode cX3_dustIn 8 = .ok (.ifCond .ne 5, 3) := by decide +kernel
theorem dX3_dustIn_11 : decode cX3_dustIn 11 = .ok (.iconst (-1), 1) := by decide +kernel
theorem dX3_dustIn_12 : decode cX3_dustIn 12 = .ok (.ireturn, 1) := by decide +kernel
theorem dX3_dustIn_13 : decode cX3_dustIn 13 = .ok (.aload_n 0, 1) := by decide +kernel
theorem dX3_dustIn_14 : decode cX3_dustIn 14 = .ok (.getfield 10, 3) := by decide +kernel
theorem dX3_dustIn_17 : decode cX3_dustIn 17 = .ok (.getfield 114, 3) := by decide +kernel
theorem dX3_dustIn_20 : decode cX3_dustIn 20 = .ok (.ifCond .ne 6, 3) := by decide +kernel
theorem dX3_dustIn_23 : decode cX3_dustIn 23 = .ok (.bipush (-2), 2) := by decide +kernel
theorem dX3_dustIn_25 : decode cX3_dustIn 25 = .ok (.ireturn, 1) := by decide +kernel
theorem dX3_dustIn_26 : decode cX3_dustIn 26 = .ok (.aload_n 0, 1) := by decide +kernel
theorem dX3_dustIn_27 : decode cX3_dustIn 27 = .ok (.getfield 16, 3) := by decide +kernel
theorem dX3_dustIn_30 : decode cX3_dustIn 30 = .ok (.aload_n 0, 1) := by decide +kernel
theorem dX3_dustIn_31 : decode cX3_dustIn 31 = .ok (.getfield 10, 3) := by decide +kernel
theorem dX3_dustIn_34 : decode cX3_dustIn 34 = .ok (.invokevirtual 181, 3) := by decide +kernel
theorem dX3_dustIn_37 : decode cX3_dustIn 37 = .ok (.iconst 0, 1) := by decide +kernel
theorem dX3_dustIn_38 : decode cX3_dustIn 38 = .ok (.istore_n 2, 1) := by decide +kernel
theorem dX3_dustIn_39 : decode cX3_dustIn 39 = .ok (.iload_n 2, 1) := by decide +kernel
theorem dX3_dustIn_40 : decode cX3_dustIn 40 = .ok (.iload_n 1, 1) := by decide +kernel
theorem dX3_dustIn_41 : decode cX3_dustIn 41 = .ok (.if_icmp .ge 17, 3) := by decide +kernel
theorem dX3_dustIn_44 : decode cX3_dustIn 44 = .ok (.aload_n 0, 1) := by decide +kernel
theorem dX3_dustIn_45 : decode cX3_dustIn 45 = .ok (.getfield 16, 3) := by decide +kernel
theorem dX3_dustIn_48 : decode cX3_dustIn 48 = .ok (.invokevirtual 154, 3) := by decide +kernel
theorem dX3_dustIn_51 : decode cX3_dustIn 51 = .ok (.pop, 1) := by decide +kernel
theorem dX3_dustIn_52 : decode cX3_dustIn 52 = .ok (.iinc 2 1, 3) := by decide +kernel
theorem dX3_dustIn_55 : decode cX3_dustIn 55 = .ok (.goto (-16), 3) := by decide +kernel
theorem dX3_dustIn_58 : decode cX3_dustIn 58 = .ok (.aload_n 0, 1) := by decide +kernel
theorem dX3_dustIn_59 : decode cX3_dustIn 59 = .ok (.getfield 16, 3) := by decide +kernel
theorem dX3_dustIn_62 : decode cX3_dustIn 62 = .ok (.invokevirtual 164, 3) := by decide +kernel
theorem dX3_dustIn_65 : decode cX3_dustIn 65 = .ok (.aload_n 0, 1) := by decide +kernel
theorem dX3_dustIn_66 : decode cX3_dustIn 66 = .ok (.getfield 10, 3) := by decide +kernel
theorem dX3_dustIn_69 : decode cX3_dustIn 69 = .ok (.invokevirtual 164, 3) := by decide +kernel
theorem dX3_dustIn_72 : decode cX3_dustIn 72 = .ok (.isub, 1) := by decide +kernel
theorem dX3_dustIn_73 : decode cX3_dustIn 73 = .ok (.ireturn, 1) := by decide +kernel
theorem dX3_undo_0 : decode cX3_undo 0 = .ok (.aload_n 0, 1) := by decide +kernel
theorem dX3_undo_1 : decode cX3_undo 1 = .ok (.getfield 124, 3) := by decide +kernel
theorem dX3_undo_4 : decode cX3_undo 4 = .ok (.ifCond .ne 6, 3) := by decide +kernel
theorem dX3_undo_7 : decode cX3_undo 7 = .ok (.bipush (-2), 2) := by decide +kernel
theorem dX3_undo_9 : decode cX3_undo 9 = .ok (.ireturn, 1) := by decide +kernel
theorem dX3_undo_10 : decode cX3_undo 10 = .ok (.aload_n 0, 1) := by decide +kernel
theorem dX3_undo_11 : decode cX3_undo 11 = .ok (.aload_n 0, 1) := by decide +kernel
theorem dX3_undo_12 : decode cX3_undo 12 = .ok (.getfield 185, 3) := by decide +kernel
theorem dX3_undo_15 : decode cX3_undo 15 = .ok (.ifCond .ne 7, 3) := by decide +kernel
theorem dX3_undo_18 : decode cX3_undo 18 = .ok (.iconst 5, 1) := by decide +kernel
theorem dX3_undo_19 : decode cX3_undo 19 = .ok (.goto 9, 3) := by decide +kernel
theorem dX3_undo_22 : decode cX3_undo 22 = .ok (.aload_n 0, 1) := by decide +kernel
theorem dX3_undo_23 : decode cX3_undo 23 = .ok (.getfield 185, 3) := by decide +kernel
theorem dX3_undo_26 : decode cX3_undo 26 = .ok (.iconst 1, 1) := by decide +kernel
theorem dX3_undo_27 : decode cX3_undo 27 = .ok (.isub, 1) := by decide +kernel
theorem dX3_undo_28 : decode cX3_undo 28 = .ok (.putfield 185, 3) := by decide +kernel
theorem dX3_undo_31 : decode cX3_undo 31 = .ok (.aload_n 0, 1) := by decide +kernel
theorem dX3_undo_32 : decode cX3_undo 32 = .ok (.getfield 10, 3) := by decide +kernel
theorem dX3_undo_35 : decode cX3_undo 35 = .ok (.aload_n 0, 1) := by decide +kernel
theorem dX3_undo_36 : decode cX3_undo 36 = .ok (.getfield 19, 3) := by decide +kernel
theorem dX3_undo_39 : decode cX3_undo 39 = .ok (.aload_n 0, 1) := by decide +kernel
theorem dX3_undo_40 : decode cX3_undo 40 = .ok (.getfield 185, 3) := by decide +kernel
theorem dX3_undo_43 : decode cX3_undo 43 = .ok (.aaload, 1) := by decide +kernel
theorem dX3_undo_44 : decode cX3_undo 44 = .ok (.invokevirtual 181, 3) := by decide +kernel
theorem dX3_undo_47 : decode cX3_undo 47 = .ok (.aload_n 0, 1) := by decide +kernel
theorem dX3_undo_48 : decode cX3_undo 48 = .ok (.dup, 1) := by decide +kernel
theorem dX3_undo_49 : decode cX3_undo 49 = .ok (.getfield 124, 3) := by decide +kernel
theorem dX3_undo_52 : decode cX3_undo 52 = .ok (.iconst 1, 1) := by decide +kernel
theorem dX3_undo_53 : decode cX3_undo 53 = .ok (.isub, 1) := by decide +kernel
theorem dX3_undo_54 : decode cX3_undo 54 = .ok (.putfield 124, 3) := by decide +kernel
theorem dX3_undo_57 : decode cX3_undo 57 = .ok (.aload_n 0, 1) := by decide +kernel
theorem dX3_undo_58 : decode cX3_undo 58 = .ok (.getfield 124, 3) := by decide +kernel
theorem dX3_undo_61 : decode cX3_undo 61 = .ok (.ireturn, 1) := by decide +kernel
theorem dX3_saveState_0 : decode cX3_saveState 0 = .ok (.aload_n 0, 1) := by decide +kernel
theorem dX3_saveState_1 : decode cX3_saveState 1 = .ok (.getfield 19, 3) := by decide +kernel
theorem dX3_saveState_4 : decode cX3_saveState 4 = .ok (.aload_n 0, 1) := by decide +kernel
theorem dX3_saveState_5 : decode cX3_saveState 5 = .ok (.getfield 185, 3) := by decide +kernel
theorem dX3_saveState_8 : decode cX3_saveState 8 = .ok (.aaload, 1) := by decide +kernel
theorem dX3_saveState_9 : decode cX3_saveState 9 = .ok (.aload_n 0, 1) := by decide +kernel
theorem dX3_saveState_10 : decode cX3_saveState 10 = .ok (.getfield 10, 3) := by decide +kernel
theorem dX3_saveState_13 : decode cX3_saveState 13 = .ok (.invokevirtual 181, 3) := by decide +kernel
theorem dX3_saveState_16 : decode cX3_saveState 16 = .ok (.aload_n 0, 1) := by decide +kernel
theorem dX3_saveState_17 : decode cX3_saveState 17 = .ok (.aload_n 0, 1) := by decide +kernel
theorem dX3_saveState_18 : decode cX3_saveState 18 = .ok (.getfield 185, 3) := by decide +kernel
theorem dX3_saveState_21 : decode cX3_saveState 21 = .ok (.iconst 5, 1) := by decide +kernel
theorem dX3_saveState_22 : decode cX3_saveState 22 = .ok (.if_icmp .ne 7, 3) := by decide +kernel
theorem dX3_saveState_25 : decode cX3_saveState 25 = .ok (.iconst 0, 1) := by decide +kernel
theorem dX3_saveState_26 : decode cX3_saveState 26 = .ok (.goto 9, 3) := by decide +kernel
theorem dX3_saveState_29 : decode cX3_saveState 29 = .ok (.aload_n 0, 1) := by decide +kernel
theorem dX3_saveState_30 : decode cX3_saveState 30 = .ok (.getfield 185, 3) := by decide +kernel
theorem dX3_saveState_33 : decode cX3_saveState 33 = .ok (.iconst 1, 1) := by decide +kernel
theorem dX3_saveState_34 : decode cX3_saveState 34 = .ok (.iadd, 1) := by decide +kernel
theorem dX3_saveState_35 : decode cX3_saveState 35 = .ok (.putfield 185, 3) := by decide +kernel
theorem dX3_saveState_38 : decode cX3_saveState 38 = .ok (.aload_n 0, 1) := by decide +kernel
theorem dX3_saveState_39 : decode cX3_saveState 39 = .ok (.getfield 124, 3) := by decide +kernel
theorem dX3_saveState_42 : decode cX3_saveState 42 = .ok (.bipush 6, 2) := by decide +kernel
theorem dX3_saveState_44 : decode cX3_saveState 44 = .ok (.if_icmp .ge 13, 3) := by decide +kernel
theorem dX3_saveState_47 : decode cX3_saveState 47 = .ok (.aload_n 0, 1) := by decide +kernel
theorem dX3_saveState_48 : decode cX3_saveState 48 = .ok (.dup, 1) := by decide +kernel
theorem dX3_saveState_49 : decode cX3_saveState 49 = .ok (.getfield 124, 3) := by decide +kernel
theorem dX3_saveState_52 : decode cX3_saveState 52 = .ok (.iconst 1, 1) := by decide +kernel
theorem dX3_saveState_53 : decode cX3_saveState 53 = .ok (.iadd, 1) := by decide +kernel
theorem dX3_saveState_54 : decode cX3_saveState 54 = .ok (.putfield 124, 3) := by decide +kernel
theorem dX3_saveState_57 : decode cX3_saveState 57 = .ok (.return_, 1) := by decide +kernel
theorem dX3_isIn_0 : decode cX3_isIn 0 = .ok (.iload_n 0, 1) := by decide +kernel
theorem dX3_isIn_1 : decode cX3_isIn 1 = .ok (.iload_n 1, 1) := by decide +kernel
theorem dX3_isIn_2 : decode cX3_isIn 2 = .ok (.if_icmp .lt 12, 3) := by decide +kernel
theorem dX3_isIn_5 : decode cX3_isIn 5 = .ok (.iload_n 0, 1) := by decide +kernel
theorem dX3_isIn_6 : decode cX3_isIn 6 = .ok (.iload_n 2, 1) := by decide +kernel
theorem dX3_isIn_7 : decode cX3_isIn 7 = .ok (.if_icmp .gt 7, 3) := by decide +kernel
theorem dX3_isIn_10 : decode cX3_isIn 10 = .ok (.iconst 1, 1) := by decide +kernel
theorem dX3_isIn_11 : decode cX3_isIn 11 = .ok (.goto 4, 3) := by decide +kernel
theorem dX3_isIn_14 : decode cX3_isIn 14 = .ok (.iconst 0, 1) := by decide +kernel
theorem dX3_isIn_15 : decode cX3_isIn 15 = .ok (.ireturn, 1) := by decide +kernel
theorem dX3_isClass_0 : decode cX3_isClass 0 = .ok (.iload_n 0, 1) := by decide +kernel
theorem dX3_isClass_1 : decode cX3_isClass 1 = .ok (.iconst 0, 1) := by decide +kernel
theorem dX3_isClass_2 : decode cX3_isClass 2 = .ok (.bipush 9, 2) := by decide +kernel
theorem dX3_isClass_4 : decode cX3_isClass 4 = .ok (.invokestatic 34, 3) := by decide +kernel
theorem dX3_isClass_7 : decode cX3_isClass 7 = .ok (.ireturn, 1) := by decide +kernel
theorem dX3_massIn_0 : decode cX3_massIn 0 = .ok (.iload_n 1, 1) := by decide +kernel
theorem dX3_massIn_1 : decode cX3_massIn 1 = .ok (.iconst (-1), 1) := by decide +kernel
theorem dX3_massIn_2 : decode cX3_massIn 2 = .ok (.if_icmp .ne 8, 3) := by decide +kernel
theorem dX3_massIn_5 : decode cX3_massIn 5 = .ok (.aload_n 0, 1) := by decide +kernel
theorem dX3_massIn_6 : decode cX3_massIn 6 = .ok (.invokestatic 52, 3) := by decide +kernel
theorem dX3_massIn_9 : decode cX3_massIn 9 = .ok (.ireturn, 1) := by decide +kernel
theorem dX3_massIn_10 : decode cX3_massIn 10 = .ok (.iload_n 1, 1) := by decide +kernel
theorem dX3_massIn_11 : decode cX3_massIn 11 = .ok (.invokestatic 30, 3) := by decide +kernel
theorem dX3_massIn_14 : decode cX3_massIn 14 = .ok (.ifCond .eq 9, 3) := by decide +kernel
theorem dX3_massIn_17 : decode cX3_massIn 17 = .ok (.aload_n 0, 1) := by decide +kernel
theorem dX3_massIn_18 : decode cX3_massIn 18 = .ok (.iload_n 1, 1) := by decide +kernel
theorem dX3_massIn_19 : decode cX3_massIn 19 = .ok (.iaload, 1) := by decide +kernel
theorem dX3_massIn_20 : decode cX3_massIn 20 = .ok (.goto 4, 3) := by decide +kernel
theorem dX3_massIn_23 : decode cX3_massIn 23 = .ok (.iconst (-1), 1) := by decide +kernel
theorem dX3_massIn_24 : decode cX3_massIn 24 = .ok (.ireturn, 1) := by decide +kernel
theorem dX3_sumOf_0 : decode cX3_sumOf 0 = .ok (.iconst 0, 1) := by decide +kernel
theorem dX3_sumOf_1 : decode cX3_sumOf 1 = .ok (.istore_n 1, 1) := by decide +kernel
theorem dX3_sumOf_2 : decode cX3_sumOf 2 = .ok (.aload_n 0, 1) := by decide +kernel
theorem dX3_sumOf_3 : decode cX3_sumOf 3 = .ok (.astore_n 2, 1) := by decide +kernel
theorem dX3_sumOf_4 : decode cX3_sumOf 4 = .ok (.aload_n 2, 1) := by decide +kernel
theorem dX3_sumOf_5 : decode cX3_sumOf 5 = .ok (.arraylength, 1) := by decide +kernel
theorem dX3_sumOf_6 : decode cX3_sumOf 6 = .ok (.istore_n 3, 1) := by decide +kernel
theorem dX3_sumOf_7 : decode cX3_sumOf 7 = .ok (.iconst 0, 1) := by decide +kernel
theorem dX3_sumOf_8 : decode cX3_sumOf 8 = .ok (.istore 4, 2) := by decide +kernel
theorem dX3_sumOf_10 : decode cX3_sumOf 10 = .ok (.iload 4, 2) := by decide +kernel
theorem dX3_sumOf_12 : decode cX3_sumOf 12 = .ok (.iload_n 3, 1) := by decide +kernel
theorem dX3_sumOf_13 : decode cX3_sumOf 13 = .ok (.if_icmp .ge 20, 3) := by decide +kernel
theorem dX3_sumOf_16 : decode cX3_sumOf 16 = .ok (.aload_n 2, 1) := by decide +kernel
theorem dX3_sumOf_17 : decode cX3_sumOf 17 = .ok (.iload 4, 2) := by decide +kernel
theorem dX3_sumOf_19 : decode cX3_sumOf 19 = .ok (.iaload, 1) := by decide +kernel
theorem dX3_sumOf_20 : decode cX3_sumOf 20 = .ok (.istore 5, 2) := by decide +kernel
theorem dX3_sumOf_22 : decode cX3_sumOf 22 = .ok (.iload_n 1, 1) := by decide +kernel
theorem dX3_sumOf_23 : decode cX3_sumOf 23 = .ok (.iload 5, 2) := by decide +kernel
theorem dX3_sumOf_25 : decode cX3_sumOf 25 = .ok (.iadd, 1) := by decide +kernel
theorem dX3_sumOf_26 : decode cX3_sumOf 26 = .ok (.istore_n 1, 1) := by decide +kernel
theorem dX3_sumOf_27 : decode cX3_sumOf 27 = .ok (.iinc 4 1, 3) := by decide +kernel
theorem dX3_sumOf_30 : decode cX3_sumOf 30 = .ok (.goto (-20), 3) := by decide +kernel
theorem dX3_sumOf_33 : decode cX3_sumOf 33 = .ok (.iload_n 1, 1) := by decide +kernel
theorem dX3_sumOf_34 : decode cX3_sumOf 34 = .ok (.ireturn, 1) := by decide +kernel
theorem dX3_clearRow_0 : decode cX3_clearRow 0 = .ok (.iconst 0, 1) := by decide +kernel
theorem dX3_clearRow_1 : decode cX3_clearRow 1 = .ok (.istore_n 1, 1) := by decide +kernel
theorem dX3_clearRow_2 : decode cX3_clearRow 2 = .ok (.iload_n 1, 1) := by decide +kernel
theorem dX3_clearRow_3 : decode cX3_clearRow 3 = .ok (.aload_n 0, 1) := by decide +kernel
theorem dX3_clearRow_4 : decode cX3_clearRow 4 = .ok (.arraylength, 1) := by decide +kernel
theorem dX3_clearRow_5 : decode cX3_clearRow 5 = .ok (.if_icmp .ge 13, 3) := by decide +kernel
theorem dX3_clearRow_8 : decode cX3_clearRow 8 = .ok (.aload_n 0, 1) := by decide +kernel
theorem dX3_clearRow_9 : decode cX3_clearRow 9 = .ok (.iload_n 1, 1) := by decide +kernel
theorem dX3_clearRow_10 : decode cX3_clearRow 10 = .ok (.iconst 0, 1) := by decide +kernel
theorem dX3_clearRow_11 : decode cX3_clearRow 11 = .ok (.iastore, 1) := by decide +kernel
theorem dX3_clearRow_12 : decode cX3_clearRow 12 = .ok (.iinc 1 1, 3) := by decide +kernel
theorem dX3_clearRow_15 : decode cX3_clearRow 15 = .ok (.goto (-13), 3) := by decide +kernel
theorem dX3_clearRow_18 : decode cX3_clearRow 18 = .ok (.return_, 1) := by decide +kernel
theorem dX3_copyRow_0 : decode cX3_copyRow 0 = .ok (.aload_n 0, 1) := by decide +kernel
theorem dX3_copyRow_1 : decode cX3_copyRow 1 = .ok (.iconst 0, 1) := by decide +kernel
theorem dX3_copyRow_2 : decode cX3_copyRow 2 = .ok (.aload_n 1, 1) := by decide +kernel
theorem dX3_copyRow_3 : decode cX3_copyRow 3 = .ok (.iconst 0, 1) := by decide +kernel
theorem dX3_copyRow_4 : decode cX3_copyRow 4 = .ok (.aload_n 0, 1) := by decide +kernel
theorem dX3_copyRow_5 : decode cX3_copyRow 5 = .ok (.arraylength, 1) := by decide +kernel
theorem dX3_copyRow_6 : decode cX3_copyRow 6 = .ok (.aload_n 1, 1) := by decide +kernel
theorem dX3_copyRow_7 : decode cX3_copyRow 7 = .ok (.arraylength, 1) := by decide +kernel
theorem dX3_copyRow_8 : decode cX3_copyRow 8 = .ok (.invokestatic 188, 3) := by decide +kernel
theorem dX3_copyRow_11 : decode cX3_copyRow 11 = .ok (.invokestatic 193, 3) := by decide +kernel
theorem dX3_copyRow_14 : decode cX3_copyRow 14 = .ok (.return_, 1) := by decide +kernel
theorem dX3_perThousand_0 : decode cX3_perThousand 0 = .ok (.iload_n 1, 1) := by decide +kernel
theorem dX3_perThousand_1 : decode cX3_perThousand 1 = .ok (.ifCond .le 13, 3) := by decide +kernel
theorem dX3_perThousand_4 : decode cX3_perThousand 4 = .ok (.iload_n 0, 1) := by decide +kernel
theorem dX3_perThousand_5 : decode cX3_perThousand 5 = .ok (.sipush 1000, 3) := by decide +kernel
theorem dX3_perThousand_8 : decode cX3_perThousand 8 = .ok (.imul, 1) := by decide +kernel
theorem dX3_perThousand_9 : decode cX3_perThousand 9 = .ok (.iload_n 1, 1) := by decide +kernel
theorem dX3_perThousand_10 : decode cX3_perThousand 10 = .ok (.idiv, 1) := by decide +kernel
theorem dX3_perThousand_11 : decode cX3_perThousand 11 = .ok (.goto 4, 3) := by decide +kernel
theorem dX3_perThousand_14 : decode cX3_perThousand 14 = .ok (.iconst 0, 1) := by decide +kernel
theorem dX3_perThousand_15 : decode cX3_perThousand 15 = .ok (.ireturn, 1) := by decide +kernel
theorem dX4_init_0 : decode cX4_init 0 = .ok (.aload_n 0, 1) := by decide +kernel
theorem dX4_init_1 : decode cX4_init 1 = .ok (.invokespecial 1, 3) := by decide +kernel
theorem dX4_init_4 : decode cX4_init 4 = .ok (.aload_n 0, 1) := by decide +kernel
theorem dX4_init_5 : decode cX4_init 5 = .ok (.sipush 137, 3) := by decide +kernel
theorem dX4_init_8 : decode cX4_init 8 = .ok (.newarray .int, 2) := by decide +kernel
theorem dX4_init_10 : decode cX4_init 10 = .ok (.putfield 7, 3) := by decide +kernel
theorem dX4_init_13 : decode cX4_init 13 = .ok (.aload_n 0, 1) := by decide +kernel
theorem dX4_init_14 : decode cX4_init 14 = .ok (.sipush 822, 3) := by decide +kernel
theorem dX4_init_17 : decode cX4_init 17 = .ok (.newarray .int, 2) := by decide +kernel
theorem dX4_init_19 : decode cX4_init 19 = .ok (.putfield 13, 3) := by decide +kernel
theorem dX4_init_22 : decode cX4_init 22 = .ok (.aload_n 0, 1) := by decide +kernel
theorem dX4_init_23 : decode cX4_init 23 = .ok (.bipush 80, 2) := by decide +kernel
theorem dX4_init_25 : decode cX4_init 25 = .ok (.newarray .byte, 2) := by decide +kernel
theorem dX4_init_27 : decode cX4_init 27 = .ok (.putfield 16, 3) := by decide +kernel
theorem dX4_init_30 : decode cX4_init 30 = .ok (.aload_n 0, 1) := by decide +kernel
theorem dX4_init_31 : decode cX4_init 31 = .ok (.sipush 137, 3) := by decide +kernel
theorem dX4_init_34 : decode cX4_init 34 = .ok (.newarray .int, 2) := by decide +kernel
theorem dX4_init_36 : decode cX4_init 36 = .ok (.putfield 20, 3) := by decide +kernel
theorem dX4_init_39 : decode cX4_init 39 = .ok (.aload_n 0, 1) := by decide +kernel
theorem dX4_init_40 : decode cX4_init 40 = .ok (.bipush 10, 2) := by decide +kernel
theorem dX4_init_42 : decode cX4_init 42 = .ok (.newarray .int, 2) := by decide +kernel
theorem dX4_init_44 : decode cX4_init 44 = .ok (.putfield 23, 3) := by decide +kernel
theorem dX4_init_47 : decode cX4_init 47 = .ok (.aload_n 0, 1) := by decide +kernel
theorem dX4_init_48 : decode cX4_init 48 = .ok (.getfield 7, 3) := by decide +kernel
theorem dX4_init_51 : decode cX4_init 51 = .ok (.bipush 20, 2) := by decide +kernel
theorem dX4_init_53 : decode cX4_init 53 = .ok (.sipush 500, 3) := by decide +kernel
theorem dX4_init_56 : decode cX4_init 56 = .ok (.iastore, 1) := by decide +kernel
theorem dX4_init_57 : decode cX4_init 57 = .ok (.aload_n 0, 1) := by decide +kernel
theorem dX4_init_58 : decode cX4_init 58 = .ok (.getfield 7, 3) := by decide +kernel
theorem dX4_init_61 : decode cX4_init 61 = .ok (.bipush 21, 2) := by decide +kernel
theorem dX4_init_63 : decode cX4_init 63 = .ok (.bipush 20, 2) := by decide +kernel
theorem dX4_init_65 : decode cX4_init 65 = .ok (.iastore, 1) := by decide +kernel
theorem dX4_init_66 : decode cX4_init 66 = .ok (.aload_n 0, 1) := by decide +kernel
theorem dX4_init_67 : decode cX4_init 67 = .ok (.getfield 7, 3) := by decide +kernel
theorem dX4_init_70 : decode cX4_init 70 = .ok (.bipush 22, 2) := by decide +kernel
theorem dX4_init_72 : decode cX4_init 72 = .ok (.iconst 2, 1) := by decide +kernel
theorem dX4_init_73 : decode cX4_init 73 = .ok (.iastore, 1) := by decide +kernel
theorem dX4_init_74 : decode cX4_init 74 = .ok (.aload_n 0, 1) := by decide +kernel
theorem dX4_init_75 : decode cX4_init 75 = .ok (.getfield 7, 3) := by decide +kernel
theorem dX4_init_78 : decode cX4_init 78 = .ok (.bipush 23, 2) := by decide +kernel
theorem dX4_init_80 : decode cX4_init 80 = .ok (.iconst 5, 1) := by decide +kernel
theorem dX4_init_81 : decode cX4_init 81 = .ok (.iastore, 1) := by decide +kernel
theorem dX4_init_82 : decode cX4_init 82 = .ok (.iconst 0, 1) := by decide +kernel
theorem dX4_init_83 : decode cX4_init 83 = .ok (.istore_n 1, 1) := by decide +kernel
theorem dX4_init_84 : decode cX4_init 84 = .ok (.iload_n 1, 1) := by decide +kernel
theorem dX4_init_85 : decode cX4_init 85 = .ok (.bipush 9, 2) := by decide +kernel
theorem dX4_init_87 : decode cX4_init 87 = .ok (.if_icmp .ge 25, 3) := by decide +kernel
theorem dX4_init_90 : decode cX4_init 90 = .ok (.aload_n 0, 1) := by decide +kernel
theorem dX4_init_91 : decode cX4_init 91 = .ok (.getfield 7, 3) := by decide +kernel
theorem dX4_init_94 : decode cX4_init 94 = .ok (.bipush 31, 2) := by decide +kernel
theorem dX4_init_96 : decode cX4_init 96 = .ok (.iconst 2, 1) := by decide +kernel
theorem dX4_init_97 : decode cX4_init 97 = .ok (.iload_n 1, 1) := by decide +kernel
theorem dX4_init_98 : decode cX4_init 98 = .ok (.imul, 1) := by decide +kernel
theorem dX4_init_99 : decode cX4_init 99 = .ok (.iadd, 1) := by decide +kernel
theorem dX4_init_100 : decode cX4_init 100 = .ok (.iconst 1, 1) := by decide +kernel
theorem dX4_init_101 : decode cX4_init 101 = .ok (.iadd, 1) := by decide +kernel
theorem dX4_init_102 : decode cX4_init 102 = .ok (.sipush 1000, 3) := by decide +kernel
theorem dX4_init_105 : decode cX4_init 105 = .ok (.iastore, 1) := by decide +kernel
theorem dX4_init_106 : decode cX4_init 106 = .ok (.iinc 1 1, 3) := by decide +kernel
theorem dX4_init_109 : decode cX4_init 109 = .ok (.goto (-25), 3) := by decide +kernel
theorem dX4_init_112 : decode cX4_init 112 = .ok (.return_, 1) := by decide +kernel
theorem dX4_in_0 : decode cX4_in 0 = .ok (.iload_n 0, 1) := by decide +kernel
theorem dX4_in_1 : decode cX4_in 1 = .ok (.iload_n 1, 1) := by decide +kernel
theorem dX4_in_2 : decode cX4_in 2 = .ok (.if_icmp .lt 12, 3) := by decide +kernel
theorem dX4_in_5 : decode cX4_in 5 = .ok (.iload_n 0, 1) := by decide +kernel
theorem dX4_in_6 : decode cX4_in 6 = .ok (.iload_n 2, 1) := by decide +kernel
theorem dX4_in_7 : decode cX4_in 7 = .ok (.if_icmp .gt 7, 3) := by decide +kernel
theorem dX4_in_10 : decode cX4_in 10 = .ok (.iconst 1, 1) := by decide +kernel
theorem dX4_in_11 : decode cX4_in 11 = .ok (.goto 4, 3) := by decide +kernel
theorem dX4_in_14 : decode cX4_in 14 = .ok (.iconst 0, 1) := by decide +kernel
theorem dX4_in_15 : decode cX4_in 15 = .ok (.ireturn, 1) := by decide +kernel
theorem dX4_notes_0 : decode cX4_notes 0 = .ok (.aload_n 0, 1) := by decide +kernel
theorem dX4_notes_1 : decode cX4_notes 1 = .ok (.getfield 26, 3) := by decide +kernel
theorem dX4_notes_4 : decode cX4_notes 4 = .ok (.bipush 6, 2) := by decide +kernel
theorem dX4_notes_6 : decode cX4_notes 6 = .ok (.if_icmp .ne 44, 3) := by decide +kernel
theorem dX4_notes_9 : decode cX4_notes 9 = .ok (.iconst 0, 1) := by decide +kernel
theorem dX4_notes_10 : decode cX4_notes 10 = .ok (.istore_n 1, 1) := by decide +kernel
theorem dX4_notes_11 : decode cX4_notes 11 = .ok (.iload_n 1, 1) := by decide +kernel
theorem dX4_notes_12 : decode cX4_notes 12 = .ok (.sipush 685, 3) := by decide +kernel
theorem dX4_notes_15 : decode cX4_notes 15 = .ok (.if_icmp .ge 25, 3) := by decide +kernel
theorem dX4_notes_18 : decode cX4_notes 18 = .ok (.aload_n 0, 1) := by decide +kernel
theorem dX4_notes_19 : decode cX4_notes 19 = .ok (.getfield 13, 3) := by decide +kernel
theorem dX4_notes_22 : decode cX4_notes 22 = .ok (.iload_n 1, 1) := by decide +kernel
theorem dX4_notes_23 : decode cX4_notes 23 = .ok (.aload_n 0, 1) := by decide +kernel
theorem dX4_notes_24 : decode cX4_notes 24 = .ok (.getfield 13, 3) := by decide +kernel
theorem dX4_notes_27 : decode cX4_notes 27 = .ok (.iload_n 1, 1) := by decide +kernel
theorem dX4_notes_28 : decode cX4_notes 28 = .ok (.sipush 137, 3) := by decide +kernel
theorem dX4_notes_31 : decode cX4_notes 31 = .ok (.iadd, 1) := by decide +kernel
theorem dX4_notes_32 : decode cX4_notes 32 = .ok (.iaload, 1) := by decide +kernel
theorem dX4_notes_33 : decode cX4_notes 33 = .ok (.iastore, 1) := by decide +kernel
theorem dX4_notes_34 : decode cX4_notes 34 = .ok (.iinc 1 1, 3) := by decide +kernel
theorem dX4_notes_37 : decode cX4_notes 37 = .ok (.goto (-26), 3) := by decide +kernel
theorem dX4_notes_40 : decode cX4_notes 40 = .ok (.aload_n 0, 1) := by decide +kernel
theorem dX4_notes_41 : decode cX4_notes 41 = .ok (.dup, 1) := by decide +kernel
theorem dX4_notes_42 : decode cX4_notes 42 = .ok (.getfield 26, 3) := by decide +kernel
theorem dX4_notes_45 : decode cX4_notes 45 = .ok (.iconst 1, 1) := by decide +kernel
theorem dX4_notes_46 : decode cX4_notes 46 = .ok (.isub, 1) := by decide +kernel
theorem dX4_notes_47 : decode cX4_notes 47 = .ok (.putfield 26, 3) := by decide +kernel
theorem dX4_notes_50 : decode cX4_notes 50 = .ok (.iconst 0, 1) := by decide +kernel
theorem dX4_notes_51 : decode cX4_notes 51 = .ok (.istore_n 1, 1) := by decide +kernel
theorem dX4_notes_52 : decode cX4_notes 52 = .ok (.iload_n 1, 1) := by decide +kernel
theorem dX4_notes_53 : decode cX4_notes 53 = .ok (.sipush 137, 3) := by decide +kernel
theorem dX4_notes_56 : decode cX4_notes 56 = .ok (.if_icmp .ge 30, 3) := by decide +kernel
theorem dX4_notes_59 : decode cX4_notes 59 = .ok (.aload_n 0, 1) := by decide +kernel
theorem dX4_notes_60 : decode cX4_notes 60 = .ok (.getfield 13, 3) := by decide +kernel
theorem dX4_notes_63 : decode cX4_notes 63 = .ok (.sipush 137, 3) := by decide +kernel
theorem dX4_notes_66 : decode cX4_notes 66 = .ok (.aload_n 0, 1) := by decide +kernel
theorem dX4_notes_67 : decode cX4_notes 67 = .ok (.getfield 26, 3) := by decide +kernel
theorem dX4_notes_70 : decode cX4_notes 70 = .ok (.imul, 1) := by decide +kernel
theorem dX4_notes_71 : decode cX4_notes 71 = .ok (.iload_n 1, 1) := by decide +kernel
theorem dX4_notes_72 : decode cX4_notes 72 = .ok (.iadd, 1) := by decide +kernel
theorem dX4_notes_73 : decode cX4_notes 73 = .ok (.aload_n 0, 1) := by decide +kernel
theorem dX4_notes_74 : decode cX4_notes 74 = .ok (.getfield 7, 3) := by decide +kernel
theorem dX4_notes_77 : decode cX4_notes 77 = .ok (.iload_n 1, 1) := by decide +kernel
theorem dX4_notes_78 : decode cX4_notes 78 = .ok (.iaload, 1) := by decide +kernel
theorem dX4_notes_79 : decode cX4_notes 79 = .ok (.iastore, 1) := by decide +kernel
theorem dX4_notes_80 : decode cX4_notes 80 = .ok (.iinc 1 1, 3) := by decide +kernel
theorem dX4_notes_83 : decode cX4_notes 83 = .ok (.goto (-31), 3) := by decide +kernel
theorem dX4_notes_86 : decode cX4_notes 86 = .ok (.aload_n 0, 1) := by decide +kernel
theorem dX4_notes_87 : decode cX4_notes 87 = .ok (.dup, 1) := by decide +kernel
theorem dX4_notes_88 : decode cX4_notes 88 = .ok (.getfield 26, 3) := by decide +kernel
theorem dX4_notes_91 : decode cX4_notes 91 = .ok (.iconst 1, 1) := by decide +kernel
theorem dX4_notes_92 : decode cX4_notes 92 = .ok (.iadd, 1) := by decide +kernel
theorem dX4_notes_93 : decode cX4_notes 93 = .ok (.putfield 26, 3) := by decide +kernel
theorem dX4_notes_96 : decode cX4_notes 96 = .ok (.return_, 1) := by decide +kernel
theorem dX4_undo_0 : decode cX4_undo 0 = .ok (.aload_n 0, 1) := by decide +kernel
theorem dX4_undo_1 : decode cX4_undo 1 = .ok (.getfield 26, 3) := by decide +kernel
theorem dX4_undo_4 : decode cX4_undo 4 = .ok (.ifCond .ne 6, 3) := by decide +kernel
theorem dX4_undo_7 : decode cX4_undo 7 = .ok (.bipush (-2), 2) := by decide +kernel
theorem dX4_undo_9 : decode cX4_undo 9 = .ok (.ireturn, 1) := by decide +kernel
theorem dX4_undo_10 : decode cX4_undo 10 = .ok (.aload_n 0, 1) := by decide +kernel
theorem dX4_undo_11 : decode cX4_undo 11 = .ok (.dup, 1) := by decide +kernel
theorem dX4_undo_12 : decode cX4_undo 12 = .ok (.getfield 26, 3) := by decide +kernel
theorem dX4_undo_15 : decode cX4_undo 15 = .ok (.iconst 1, 1) := by decide +kernel
theorem dX4_undo_16 : decode cX4_undo 16 = .ok (.isub, 1) := by decide +kernel
theorem dX4_undo_17 : decode cX4_undo 17 = .ok (.putfield 26, 3) := by decide +kernel
theorem dX4_undo_20 : decode cX4_undo 20 = .ok (.iconst 0, 1) := by decide +kernel
theorem dX4_undo_21 : decode cX4_undo 21 = .ok (.istore_n 1, 1) := by decide +kernel
theorem dX4_undo_22 : decode cX4_undo 22 = .ok (.iload_n 1, 1) := by decide +kernel
theorem dX4_undo_23 : decode cX4_undo 23 = .ok (.sipush 137, 3) := by decide +kernel
theorem dX4_undo_26 : decode cX4_undo 26 = .ok (.if_icmp .ge 30, 3) := by decide +kernel
theorem dX4_undo_29 : decode cX4_undo 29 = .ok (.aload_n 0, 1) := by decide +kernel
theorem dX4_undo_30 : decode cX4_undo 30 = .ok (.getfield 7, 3) := by decide +kernel
theorem dX4_undo_33 : decode cX4_undo 33 = .ok (.iload_n 1, 1) := by decide +kernel
theorem dX4_undo_34 : decode cX4_undo 34 = .ok (.aload_n 0, 1) := by decide +kernel
theorem dX4_undo_35 : decode cX4_undo 35 = .ok (.getfield 13, 3) := by decide +kernel
theorem dX4_undo_38 : decode cX4_undo 38 = .ok (.sipush 137, 3) := by decide +kernel
theorem dX4_undo_41 : decode cX4_undo 41 = .ok (.aload_n 0, 1) := by decide +kernel
theorem dX4_undo_42 : decode cX4_undo 42 = .ok (.getfield 26, 3) := by decide +kernel
theorem dX4_undo_45 : decode cX4_undo 45 = .ok (.imul, 1) := by decide +kernel
theorem dX4_undo_46 : decode cX4_undo 46 = .ok (.iload_n 1, 1) := by decide +kernel
theorem dX4_undo_47 : decode cX4_undo 47 = .ok (.iadd, 1) := by decide +kernel
theorem dX4_undo_48 : decode cX4_undo 48 = .ok (.iaload, 1) := by decide +kernel
theorem dX4_undo_49 : decode cX4_undo 49 = .ok (.iastore, 1) := by decide +kernel
theorem dX4_undo_50 : decode cX4_undo 50 = .ok (.iinc 1 1, 3) := by decide +kernel
theorem dX4_undo_53 : decode cX4_undo 53 = .ok (.goto (-31), 3) := by decide +kernel
theorem dX4_undo_56 : decode cX4_undo 56 = .ok (.aload_n 0, 1) := by decide +kernel
theorem dX4_undo_57 : decode cX4_undo 57 = .ok (.getfield 26, 3) := by decide +kernel
theorem dX4_undo_60 : decode cX4_undo 60 = .ok (.ireturn, 1) := by decide +kernel
theorem dX4_sum_0 : decode cX4_sum 0 = .ok (.iconst 0, 1) := by decide +kernel
theorem dX4_sum_1 : decode cX4_sum 1 = .ok (.istore_n 2, 1) := by decide +kernel
theorem dX4_sum_2 : decode cX4_sum 2 = .ok (.iconst 0, 1) := by decide +kernel
theorem dX4_sum_3 : decode cX4_sum 3 = .ok (.istore_n 3, 1) := by decide +kernel
theorem dX4_sum_4 : decode cX4_sum 4 = .ok (.iload_n 3, 1) := by decide +kernel
theorem dX4_sum_5 : decode cX4_sum 5 = .ok (.bipush 10, 2) := by decide +kernel
theorem dX4_sum_7 : decode cX4_sum 7 = .ok (.if_icmp .ge 20, 3) := by decide +kernel
theorem dX4_sum_10 : decode cX4_sum 10 = .ok (.iload_n 2, 1) := by decide +kernel
theorem dX4_sum_11 : decode cX4_sum 11 = .ok (.aload_n 0, 1) := by decide +kernel
theorem dX4_sum_12 : decode cX4_sum 12 = .ok (.getfield 7, 3) := by decide +kernel
theorem dX4_sum_15 : decode cX4_sum 15 = .ok (.iload_n 1, 1) := by decide +kernel
theorem dX4_sum_16 : decode cX4_sum 16 = .ok (.iload_n 3, 1) := by decide +kernel
theorem dX4_sum_17 : decode cX4_sum 17 = .ok (.iadd, 1) := by decide +kernel
theorem dX4_sum_18 : decode cX4_sum 18 = .ok (.iaload, 1) := by decide +kernel
theorem dX4_sum_19 : decode cX4_sum 19 = .ok (.iadd, 1) := by decide +kernel
theorem dX4_sum_20 : decode cX4_sum 20 = .ok (.istore_n 2, 1) := by decide +kernel
theorem dX4_sum_21 : decode cX4_sum 21 = .ok (.iinc 3 1, 3) := by decide +kernel
theorem dX4_sum_24 : decode cX4_sum 24 = .ok (.goto (-20), 3) := by decide +kernel
theorem dX4_sum_27 : decode cX4_sum 27 = .ok (.iload_n 2, 1) := by decide +kernel
theorem dX4_sum_28 : decode cX4_sum 28 = .ok (.ireturn, 1) := by decide +kernel
theorem dX4_setMass_0 : decode cX4_setMass 0 = .ok (.iload_n 1, 1) := by decide +kernel
theorem dX4_setMass_1 : decode cX4_setMass 1 = .ok (.iconst 0, 1) := by decide +kernel
theorem dX4_setMass_2 : decode cX4_setMass 2 = .ok (.bipush 9, 2) := by decide +kernel
theorem dX4_setMass_4 : decode cX4_setMass 4 = .ok (.invokestatic 30, 3) := by decide +kernel
theorem dX4_setMass_7 : decode cX4_setMass 7 = .ok (.ifCond .eq 14, 3) := by decide +kernel
theorem dX4_setMass_10 : decode cX4_setMass 10 = .ok (.iload_n 2, 1) := by decide +kernel
theorem dX4_setMass_11 : decode cX4_setMass 11 = .ok (.iconst 0, 1) := by decide +kernel
theorem dX4_setMass_12 : decode cX4_setMass 12 = .ok (.sipush 9999, 3) := by decide +kernel
theorem dX4_setMass_15 : decode cX4_setMass 15 = .ok (.invokestatic 30, 3) := by decide +kernel
theorem dX4_setMass_18 : decode cX4_setMass 18 = .ok (.ifCond .ne 5, 3) := by decide +kernel
theorem dX4_setMass_21 : decode cX4_setMass 21 = .ok (.iconst (-1), 1) := by decide +kernel
theorem dX4_setMass_22 : decode cX4_setMass 22 = .ok (.ireturn, 1) := by decide +kernel
theorem dX4_setMass_23 : decode cX4_setMass 23 = .ok (.aload_n 0, 1) := by decide +kernel
theorem dX4_setMass_24 : decode cX4_setMass 24 = .ok (.invokevirtual 34, 3) := by decide +kernel
theorem dX4_setMass_27 : decode cX4_setMass 27 = .ok (.aload_n 0, 1) := by decide +kernel
theorem dX4_setMass_28 : decode cX4_setMass 28 = .ok (.getfield 7, 3) := by decide +kernel
theorem dX4_setMass_31 : decode cX4_setMass 31 = .ok (.iconst 0, 1) := by decide +kernel
theorem dX4_setMass_32 : decode cX4_setMass 32 = .ok (.iload_n 1, 1) := by decide +kernel
theorem dX4_setMass_33 : decode cX4_setMass 33 = .ok (.iadd, 1) := by decide +kernel
theorem dX4_setMass_34 : decode cX4_setMass 34 = .ok (.iaload, 1) := by decide +kernel
theorem dX4_setMass_35 : decode cX4_setMass 35 = .ok (.istore_n 3, 1) := by decide +kernel
theorem dX4_setMass_36 : decode cX4_setMass 36 = .ok (.aload_n 0, 1) := by decide +kernel
theorem dX4_setMass_37 : decode cX4_setMass 37 = .ok (.getfield 7, 3) := by decide +kernel
theorem dX4_setMass_40 : decode cX4_setMass 40 = .ok (.iconst 0, 1) := by decide +kernel
theorem dX4_setMass_41 : decode cX4_setMass 41 = .ok (.iload_n 1, 1) := by decide +kernel
theorem dX4_setMass_42 : decode cX4_setMass 42 = .ok (.iadd, 1) := by decide +kernel
theorem dX4_setMass_43 : decode cX4_setMass 43 = .ok (.iload_n 2, 1) := by decide +kernel
theorem dX4_setMass_44 : decode cX4_setMass 44 = .ok (.iastore, 1) := by decide +kernel
theorem dX4_setMass_45 : decode cX4_setMass 45 = .ok (.iload_n 3, 1) := by decide +kernel
theorem dX4_setMass_46 : decode cX4_setMass 46 = .ok (.ireturn, 1) := by decide +kernel
theorem dX4_massAt_0 : decode cX4_massAt 0 = .ok (.iload_n 2, 1) := by decide +kernel
theorem dX4_massAt_1 : decode cX4_massAt 1 = .ok (.iconst (-1), 1) := by decide +kernel
theorem dX4_massAt_2 : decode cX4_massAt 2 = .ok (.bipush 9, 2) := by decide +kernel
theorem dX4_massAt_4 : decode cX4_massAt 4 = .ok (.invokestatic 30, 3) := by decide +kernel
theorem dX4_massAt_7 : decode cX4_massAt 7 = .ok (.ifCond .ne 7, 3) := by decide +kernel
theorem dX4_massAt_10 : decode cX4_massAt 10 = .ok (.iconst (-1), 1) := by decide +kernel
theorem dX4_massAt_11 : decode cX4_massAt 11 = .ok (.goto 23, 3) := by decide +kernel
theorem dX4_massAt_14 : decode cX4_massAt 14 = .ok (.iload_n 2, 1) := by decide +kernel
theorem dX4_massAt_15 : decode cX4_massAt 15 = .ok (.ifCond .ge 11, 3) := by decide +kernel
theorem dX4_massAt_18 : decode cX4_massAt 18 = .ok (.aload_n 0, 1) := by decide +kernel
theorem dX4_massAt_19 : decode cX4_massAt 19 = .ok (.iload_n 1, 1) := by decide +kernel
theorem dX4_massAt_20 : decode cX4_massAt 20 = .ok (.invokevirtual 37, 3) := by decide +kernel
theorem dX4_massAt_23 : decode cX4_massAt 23 = .ok (.goto 11, 3) := by decide +kernel
theorem dX4_massAt_26 : decode cX4_massAt 26 = .ok (.aload_n 0, 1) := by decide +kernel
theorem dX4_massAt_27 : decode cX4_massAt 27 = .ok (.getfield 7, 3) := by decide +kernel
theorem dX4_massAt_30 : decode cX4_massAt 30 = .ok (.iload_n 1, 1) := by decide +kernel
theorem dX4_massAt_31 : decode cX4_massAt 31 = .ok (.iload_n 2, 1) := by decide +kernel
theorem dX4_massAt_32 : decode cX4_massAt 32 = .ok (.iadd, 1) := by decide +kernel
theorem dX4_massAt_33 : decode cX4_massAt 33 = .ok (.iaload, 1) := by decide +kernel
theorem dX4_massAt_34 : decode cX4_massAt 34 = .ok (.ireturn, 1) := by decide +kernel
theorem dX4_mass_0 : decode cX4_mass 0 = .ok (.aload_n 0, 1) := by decide +kernel
theorem dX4_mass_1 : decode cX4_mass 1 = .ok (.iconst 0, 1) := by decide +kernel
theorem dX4_mass_2 : decode cX4_mass 2 = .ok (.iload_n 1, 1) := by decide +kernel
theorem dX4_mass_3 : decode cX4_mass 3 = .ok (.invokevirtual 41, 3) := by decide +kernel
theorem dX4_mass_6 : decode cX4_mass 6 = .ok (.ireturn, 1) := by decide +kernel
theorem dX4_reserve_0 : decode cX4_reserve 0 = .ok (.aload_n 0, 1) := by decide +kernel
theorem dX4_reserve_1 : decode cX4_reserve 1 = .ok (.bipush 10, 2) := by decide +kernel
theorem dX4_reserve_3 : decode cX4_reserve 3 = .ok (.iload_n 1, 1) := by decide +kernel
theorem dX4_reserve_4 : decode cX4_reserve 4 = .ok (.invokevirtual 41, 3) := by decide +kernel
theorem dX4_reserve_7 : decode cX4_reserve 7 = .ok (.ireturn, 1) := by decide +kernel
theorem dX4_divides_0 : decode cX4_divides 0 = .ok (.iconst 0, 1) := by decide +kernel
theorem dX4_divides_1 : decode cX4_divides 1 = .ok (.istore_n 2, 1) := by decide +kernel
theorem dX4_divides_2 : decode cX4_divides 2 = .ok (.iconst 0, 1) := by decide +kernel
theorem dX4_divides_3 : decode cX4_divides 3 = .ok (.istore_n 3, 1) := by decide +kernel
theorem dX4_divides_4 : decode cX4_divides 4 = .ok (.iload_n 3, 1) := by decide +kernel
theorem dX4_divides_5 : decode cX4_divides 5 = .ok (.bipush 10, 2) := by decide +kernel
theorem dX4_divides_7 : decode cX4_divides 7 = .ok (.if_icmp .ge 100, 3) := by decide +kernel
theorem dX4_divides_10 : decode cX4_divides 10 = .ok (.aload_n 0, 1) := by decide +kernel
theorem dX4_divides_11 : decode cX4_divides 11 = .ok (.getfield 7, 3) := by decide +kernel
theorem dX4_divides_14 : decode cX4_divides 14 = .ok (.iconst 0, 1) := by decide +kernel
theorem dX4_divides_15 : decode cX4_divides 15 = .ok (.iload_n 3, 1) := by decide +kernel
theorem dX4_divides_16 : decode cX4_divides 16 = .ok (.iadd, 1) := by decide +kernel
theorem dX4_divides_17 : decode cX4_divides 17 = .ok (.iaload, 1) := by decide +kernel
theorem dX4_divides_18 : decode cX4_divides 18 = .ok (.istore 4, 2) := by decide +kernel
theorem dX4_divides_20 : decode cX4_divides 20 = .ok (.iload 4, 2) := by decide +kernel
theorem dX4_divides_22 : decode cX4_divides 22 = .ok (.iconst 2, 1) := by decide +kernel
theorem dX4_divides_23 : decode cX4_divides 23 = .ok (.idiv, 1) := by decide +kernel
theorem dX4_divides_24 : decode cX4_divides 24 = .ok (.iload 4, 2) := by decide +kernel
theorem dX4_divides_26 : decode cX4_divides 26 = .ok (.iconst 2, 1) := by decide +kernel
theorem dX4_divides_27 : decode cX4_divides 27 = .ok (.irem, 1) := by decide +kernel
theorem dX4_divides_28 : decode cX4_divides 28 = .ok (.iconst 1, 1) := by decide +kernel
theorem dX4_divides_29 : decode cX4_divides 29 = .ok (.if_icmp .ne 13, 3) := by decide +kernel
theorem dX4_divides_32 : decode cX4_divides 32 = .ok (.iload_n 2, 1) := by decide +kernel
theorem dX4_divides_33 : decode cX4_divides 33 = .ok (.iconst 2, 1) := by decide +kernel
theorem dX4_divides_34 : decode cX4_divides 34 = .ok (.irem, 1) := by decide +kernel
theorem dX4_divides_35 : decode cX4_divides 35 = .ok (.ifCond .ne 7, 3) := by decide +kernel
theorem dX4_divides_38 : decode cX4_divides 38 = .ok (.iconst 1, 1) := by decide +kernel
theorem dX4_divides_39 : decode cX4_divides 39 = .ok (.goto 4, 3) := by decide +kernel
theorem dX4_divides_42 : decode cX4_divides 42 = .ok (.iconst 0, 1) := by decide +kernel
theorem dX4_divides_43 : decode cX4_divides 43 = .ok (.iadd, 1) := by decide +kernel
theorem dX4_divides_44 : decode cX4_divides 44 = .ok (.istore 5, 2) := by decide +kernel
theorem dX4_divides_46 : decode cX4_divides 46 = .ok (.iload_n 2, 1) := by decide +kernel
theorem dX4_divides_47 : decode cX4_divides 47 = .ok (.iload 4, 2) := by decide +kernel
theorem dX4_divides_49 : decode cX4_divides 49 = .ok (.iconst 2, 1) := by decide +kernel
theorem dX4_divides_50 : decode cX4_divides 50 = .ok (.irem, 1) := by decide +kernel
theorem dX4_divides_51 : decode cX4_divides 51 = .ok (.iadd, 1) := by decide +kernel
theorem dX4_divides_52 : decode cX4_divides 52 = .ok (.istore_n 2, 1) := by decide +kernel
theorem dX4_divides_53 : decode cX4_divides 53 = .ok (.aload_n 0, 1) := by decide +kernel
theorem dX4_divides_54 : decode cX4_divides 54 = .ok (.getfield 7, 3) := by decide +kernel
theorem dX4_divides_57 : decode cX4_divides 57 = .ok (.iconst 0, 1) := by decide +kernel
theorem dX4_divides_58 : decode cX4_divides 58 = .ok (.iload_n 3, 1) := by decide +kernel
theorem dX4_divides_59 : decode cX4_divides 59 = .ok (.iadd, 1) := by decide +kernel
theorem dX4_divides_60 : decode cX4_divides 60 = .ok (.iload_n 1, 1) := by decide +kernel
theorem dX4_divides_61 : decode cX4_divides 61 = .ok (.ifCond .ne 8, 3) := by decide +kernel
theorem dX4_divides_64 : decode cX4_divides 64 = .ok (.iload 5, 2) := by decide +kernel
theorem dX4_divides_66 : decode cX4_divides 66 = .ok (.goto 8, 3) := by decide +kernel
theorem dX4_divides_69 : decode cX4_divides 69 = .ok (.iload 4, 2) := by decide +kernel
theorem dX4_divides_71 : decode cX4_divides 71 = .ok (.iload 5, 2) := by decide +kernel
theorem dX4_divides_73 : decode cX4_divides 73 = .ok (.isub, 1) := by decide +kernel
theorem dX4_divides_74 : decode cX4_divides 74 = .ok (.iastore, 1) := by decide +kernel
theorem dX4_divides_75 : decode cX4_divides 75 = .ok (.aload_n 0, 1) := by decide +kernel
theorem dX4_divides_76 : decode cX4_divides 76 = .ok (.getfield 7, 3) := by decide +kernel
theorem dX4_divides_79 : decode cX4_divides 79 = .ok (.bipush 10, 2) := by decide +kernel
theorem dX4_divides_81 : decode cX4_divides 81 = .ok (.iload_n 3, 1) := by decide +kernel
theorem dX4_divides_82 : decode cX4_divides 82 = .ok (.iadd, 1) := by decide +kernel
theorem dX4_divides_83 : decode cX4_divides 83 = .ok (.dup2, 1) := by decide +kernel
theorem dX4_divides_84 : decode cX4_divides 84 = .ok (.iaload, 1) := by decide +kernel
theorem dX4_divides_85 : decode cX4_divides 85 = .ok (.iload_n 1, 1) := by decide +kernel
theorem dX4_divides_86 : decode cX4_divides 86 = .ok (.ifCond .ne 11, 3) := by decide +kernel
theorem dX4_divides_89 : decode cX4_divides 89 = .ok (.iload 4, 2) := by decide +kernel
theorem dX4_divides_91 : decode cX4_divides 91 = .ok (.iload 5, 2) := by decide +kernel
theorem dX4_divides_93 : decode cX4_divides 93 = .ok (.isub, 1) := by decide +kernel
theorem dX4_divides_94 : decode cX4_divides 94 = .ok (.goto 5, 3) := by decide +kernel
theorem dX4_divides_97 : decode cX4_divides 97 = .ok (.iload 5, 2) := by decide +kernel
theorem dX4_divides_99 : decode cX4_divides 99 = .ok (.iadd, 1) := by decide +kernel
theorem dX4_divides_100 : decode cX4_divides 100 = .ok (.iastore, 1) := by decide +kernel
theorem dX4_divides_101 : decode cX4_divides 101 = .ok (.iinc 3 1, 3) := by decide +kernel
theorem dX4_divides_104 : decode cX4_divides 104 = .ok (.goto (-100), 3) := by decide +kernel
theorem dX4_divides_107 : decode cX4_divides 107 = .ok (.return_, 1) := by decide +kernel
theorem dX4_split_0 : decode cX4_split 0 = .ok (.iload_n 1, 1) := by decide +kernel
theorem dX4_split_1 : decode cX4_split 1 = .ok (.iconst 0, 1) := by decide +kernel
theorem dX4_split_2 : decode cX4_split 2 = .ok (.iconst 1, 1) := by decide +kernel
theorem dX4_split_3 : decode cX4_split 3 = .ok (.invokestatic 30, 3) := by decide +kernel
theorem dX4_split_6 : decode cX4_split 6 = .ok (.ifCond .ne 5, 3) := by decide +kernel
theorem dX4_split_9 : decode cX4_split 9 = .ok (.iconst (-1), 1) := by decide +kernel
theorem dX4_split_10 : decode cX4_split 10 = .ok (.ireturn, 1) := by decide +kernel
theorem dX4_split_11 : decode cX4_split 11 = .ok (.aload_n 0, 1) := by decide +kernel
theorem dX4_split_12 : decode cX4_split 12 = .ok (.iconst 0, 1) := by decide +kernel
theorem dX4_split_13 : decode cX4_split 13 = .ok (.invokevirtual 37, 3) := by decide +kernel
theorem dX4_split_16 : decode cX4_split 16 = .ok (.ifCond .ne 6, 3) := by decide +kernel
theorem dX4_split_19 : decode cX4_split 19 = .ok (.bipush (-2), 2) := by decide +kernel
theorem dX4_split_21 : decode cX4_split 21 = .ok (.ireturn, 1) := by decide +kernel
theorem dX4_split_22 : decode cX4_split 22 = .ok (.aload_n 0, 1) := by decide +kernel
theorem dX4_split_23 : decode cX4_split 23 = .ok (.invokevirtual 34, 3) := by decide +kernel
theorem dX4_split_26 : decode cX4_split 26 = .ok (.aload_n 0, 1) := by decide +kernel
theorem dX4_split_27 : decode cX4_split 27 = .ok (.iload_n 1, 1) := by decide +kernel
theorem dX4_split_28 : decode cX4_split 28 = .ok (.invokevirtual 45, 3) := by decide +kernel
theorem dX4_split_31 : decode cX4_split 31 = .ok (.aload_n 0, 1) := by decide +kernel
theorem dX4_split_32 : decode cX4_split 32 = .ok (.iconst 0, 1) := by decide +kernel
theorem dX4_split_33 : decode cX4_split 33 = .ok (.invokevirtual 37, 3) := by decide +kernel
theorem dX4_split_36 : decode cX4_split 36 = .ok (.ireturn, 1) := by decide +kernel
theorem dX4_splitTo_0 : decode cX4_splitTo 0 = .ok (.iload_n 1, 1) := by decide +kernel
theorem dX4_splitTo_1 : decode cX4_splitTo 1 = .ok (.iconst 1, 1) := by decide +kernel
theorem dX4_splitTo_2 : decode cX4_splitTo 2 = .ok (.sipush 9999, 3) := by decide +kernel
theorem dX4_splitTo_5 : decode cX4_splitTo 5 = .ok (.invokestatic 30, 3) := by decide +kernel
theorem dX4_splitTo_8 : decode cX4_splitTo 8 = .ok (.ifCond .ne 5, 3) := by decide +kernel
theorem dX4_splitTo_11 : decode cX4_splitTo 11 = .ok (.iconst (-1), 1) := by decide +kernel
theorem dX4_splitTo_12 : decode cX4_splitTo 12 = .ok (.ireturn, 1) := by decide +kernel
theorem dX4_splitTo_13 : decode cX4_splitTo 13 = .ok (.aload_n 0, 1) := by decide +kernel
theorem dX4_splitTo_14 : decode cX4_splitTo 14 = .ok (.invokevirtual 34, 3) := by decide +kernel
theorem dX4_splitTo_17 : decode cX4_splitTo 17 = .ok (.iconst 0, 1) := by decide +kernel
theorem dX4_splitTo_18 : decode cX4_splitTo 18 = .ok (.istore_n 2, 1) := by decide +kernel
theorem dX4_splitTo_19 : decode cX4_splitTo 19 = .ok (.aload_n 0, 1) := by decide +kernel
theorem dX4_splitTo_20 : decode cX4_splitTo 20 = .ok (.iconst 0, 1) := by decide +kernel
theorem dX4_splitTo_21 : decode cX4_splitTo 21 = .ok (.invokevirtual 37, 3) := by decide +kernel
theorem dX4_splitTo_24 : decode cX4_splitTo 24 = .ok (.iload_n 1, 1) := by decide +kernel
theorem dX4_splitTo_25 : decode cX4_splitTo 25 = .ok (.if_icmp .le 14, 3) := by decide +kernel
theorem dX4_splitTo_28 : decode cX4_splitTo 28 = .ok (.aload_n 0, 1) := by decide +kernel
theorem dX4_splitTo_29 : decode cX4_splitTo 29 = .ok (.iconst 0, 1) := by decide +kernel
theorem dX4_splitTo_30 : decode cX4_splitTo 30 = .ok (.invokevirtual 45, 3) := by decide +kernel
theorem dX4_splitTo_33 : decode cX4_splitTo 33 = .ok (.iinc 2 1, 3) := by decide +kernel
theorem dX4_splitTo_36 : decode cX4_splitTo 36 = .ok (.goto (-17), 3) := by decide +kernel
theorem dX4_splitTo_39 : decode cX4_splitTo 39 = .ok (.iload_n 2, 1) := by decide +kernel
theorem dX4_splitTo_40 : decode cX4_splitTo 40 = .ok (.ireturn, 1) := by decide +kernel
theorem dX4_combine_0 : decode cX4_combine 0 = .ok (.iconst 0, 1) := by decide +kernel
theorem dX4_combine_1 : decode cX4_combine 1 = .ok (.istore_n 1, 1) := by decide +kernel
theorem dX4_combine_2 : decode cX4_combine 2 = .ok (.iload_n 1, 1) := by decide +kernel
theorem dX4_combine_3 : decode cX4_combine 3 = .ok (.bipush 10, 2) := by decide +kernel
theorem dX4_combine_5 : decode cX4_combine 5 = .ok (.if_icmp .ge 36, 3) := by decide +kernel
theorem dX4_combine_8 : decode cX4_combine 8 = .ok (.aload_n 0, 1) := by decide +kernel
theorem dX4_combine_9 : decode cX4_combine 9 = .ok (.getfield 7, 3) := by decide +kernel
theorem dX4_combine_12 : decode cX4_combine 12 = .ok (.iconst 0, 1) := by decide +kernel
theorem dX4_combine_13 : decode cX4_combine 13 = .ok (.iload_n 1, 1) := by decide +kernel
theorem dX4_combine_14 : decode cX4_combine 14 = .ok (.iadd, 1) := by decide +kernel
theorem dX4_combine_15 : decode cX4_combine 15 = .ok (.iaload, 1) := by decide +kernel
theorem dX4_combine_16 : decode cX4_combine 16 = .ok (.aload_n 0, 1) := by decide +kernel
theorem dX4_combine_17 : decode cX4_combine 17 = .ok (.getfield 7, 3) := by decide +kernel
theorem dX4_combine_20 : decode cX4_combine 20 = .ok (.bipush 10, 2) := by decide +kernel
theorem dX4_combine_22 : decode cX4_combine 22 = .ok (.iload_n 1, 1) := by decide +kernel
theorem dX4_combine_23 : decode cX4_combine 23 = .ok (.iadd, 1) := by decide +kernel
theorem dX4_combine_24 : decode cX4_combine 24 = .ok (.iaload, 1) := by decide +kernel
theorem dX4_combine_25 : decode cX4_combine 25 = .ok (.iadd, 1) := by decide +kernel
theorem dX4_combine_26 : decode cX4_combine 26 = .ok (.sipush 9999, 3) := by decide +kernel
theorem dX4_combine_29 : decode cX4_combine 29 = .ok (.if_icmp .le 6, 3) := by decide +kernel
theorem dX4_combine_32 : decode cX4_combine 32 = .ok (.bipush (-3), 2) := by decide +kernel
theorem dX4_combine_34 : decode cX4_combine 34 = .ok (.ireturn, 1) := by decide +kernel
theorem dX4_combine_35 : decode cX4_combine 35 = .ok (.iinc 1 1, 3) := by decide +kernel
theorem dX4_combine_38 : decode cX4_combine 38 = .ok (.goto (-36), 3) := by decide +kernel
theorem dX4_combine_41 : decode cX4_combine 41 = .ok (.aload_n 0, 1) := by decide +kernel
theorem dX4_combine_42 : decode cX4_combine 42 = .ok (.invokevirtual 34, 3) := by decide +kernel
theorem dX4_combine_45 : decode cX4_combine 45 = .ok (.iconst 0, 1) := by decide +kernel
theorem dX4_combine_46 : decode cX4_combine 46 = .ok (.istore_n 1, 1) := by decide +kernel
theorem dX4_combine_47 : decode cX4_combine 47 = .ok (.iload_n 1, 1) := by decide +kernel
theorem dX4_combine_48 : decode cX4_combine 48 = .ok (.bipush 10, 2) := by decide +kernel
theorem dX4_combine_50 : decode cX4_combine 50 = .ok (.if_icmp .ge 39, 3) := by decide +kernel
theorem dX4_combine_53 : decode cX4_combine 53 = .ok (.aload_n 0, 1) := by decide +kernel
theorem dX4_combine_54 : decode cX4_combine 54 = .ok (.getfield 7, 3) := by decide +kernel
theorem dX4_combine_57 : decode cX4_combine 57 = .ok (.iconst 0, 1) := by decide +kernel
theorem dX4_combine_58 : decode cX4_combine 58 = .ok (.iload_n 1, 1) := by decide +kernel
theorem dX4_combine_59 : decode cX4_combine 59 = .ok (.iadd, 1) := by decide +kernel
theorem dX4_combine_60 : decode cX4_combine 60 = .ok (.dup2, 1) := by decide +kernel
theorem dX4_combine_61 : decode cX4_combine 61 = .ok (.iaload, 1) := by decide +kernel
theorem dX4_combine_62 : decode cX4_combine 62 = .ok (.aload_n 0, 1) := by decide +kernel
theorem dX4_combine_63 : decode cX4_combine 63 = .ok (.getfield 7, 3) := by decide +kernel
theorem dX4_combine_66 : decode cX4_combine 66 = .ok (.bipush 10, 2) := by decide +kernel
theorem dX4_combine_68 : decode cX4_combine 68 = .ok (.iload_n 1, 1) := by decide +kernel
theorem dX4_combine_69 : decode cX4_combine 69 = .ok (.iadd, 1) := by decide +kernel
theorem dX4_combine_70 : decode cX4_combine 70 = .ok (.iaload, 1) := by decide +kernel
theorem dX4_combine_71 : decode cX4_combine 71 = .ok (.iadd, 1) := by decide +kernel
theorem dX4_combine_72 : decode cX4_combine 72 = .ok (.iastore, 1) := by decide +kernel
theorem dX4_combine_73 : decode cX4_combine 73 = .ok (.aload_n 0, 1) := by decide +kernel
theorem dX4_combine_74 : decode cX4_combine 74 = .ok (.getfield 7, 3) := by decide +kernel
theorem dX4_combine_77 : decode cX4_combine 77 = .ok (.bipush 10, 2) := by decide +kernel
theorem dX4_combine_79 : decode cX4_combine 79 = .ok (.iload_n 1, 1) := by decide +kernel
theorem dX4_combine_80 : decode cX4_combine 80 = .ok (.iadd, 1) := by decide +kernel
theorem dX4_combine_81 : decode cX4_combine 81 = .ok (.iconst 0, 1) := by decide +kernel
theorem dX4_combine_82 : decode cX4_combine 82 = .ok (.iastore, 1) := by decide +kernel
theorem dX4_combine_83 : decode cX4_combine 83 = .ok (.iinc 1 1, 3) := by decide +kernel
theorem dX4_combine_86 : decode cX4_combine 86 = .ok (.goto (-39), 3) := by decide +kernel
theorem dX4_combine_89 : decode cX4_combine 89 = .ok (.aload_n 0, 1) := by decide +kernel
theorem dX4_combine_90 : decode cX4_combine 90 = .ok (.iconst 0, 1) := by decide +kernel
theorem dX4_combine_91 : decode cX4_combine 91 = .ok (.invokevirtual 37, 3) := by decide +kernel
theorem dX4_combine_94 : decode cX4_combine 94 = .ok (.ireturn, 1) := by decide +kernel
theorem dX4_appendCharacter_0 : decode cX4_appendCharacter 0 = .ok (.iload_n 1, 1) := by decide +kernel
theorem dX4_appendCharacter_1 : decode cX4_appendCharacter 1 = .ok (.iconst 0, 1) := by decide +kernel
theorem dX4_appendCharacter_2 : decode cX4_appendCharacter 2 = .ok (.sipush 255, 3) := by decide +kernel
theorem dX4_appendCharacter_5 : decode cX4_appendCharacter 5 = .ok (.invokestatic 30, 3) := by decide +kernel
theorem dX4_appendCharacter_8 : decode cX4_appendCharacter 8 = .ok (.ifCond .ne 5, 3) := by decide +kernel
theorem dX4_appendCharacter_11 : decode cX4_appendCharacter 11 = .ok (.iconst (-1), 1) := by decide +kernel
theorem dX4_appendCharacter_12 : decode cX4_appendCharacter 12 = .ok (.ireturn, 1) := by decide +kernel
theorem dX4_appendCharacter_13 : decode cX4_appendCharacter 13 = .ok (.aload_n 0, 1) := by decide +kernel
theorem dX4_appendCharacter_14 : decode cX4_appendCharacter 14 = .ok (.getfield 49, 3) := by decide +kernel
theorem dX4_appendCharacter_17 : decode cX4_appendCharacter 17 = .ok (.bipush 80, 2) := by decide +kernel
theorem dX4_appendCharacter_19 : decode cX4_appendCharacter 19 = .ok (.if_icmp .ne 6, 3) := by decide +kernel
theorem dX4_appendCharacter_22 : decode cX4_appendCharacter 22 = .ok (.bipush (-3), 2) := by decide +kernel
theorem dX4_appendCharacter_24 : decode cX4_appendCharacter 24 = .ok (.ireturn, 1) := by decide +kernel
theorem dX4_appendCharacter_25 : decode cX4_appendCharacter 25 = .ok (.aload_n 0, 1) := by decide +kernel
theorem dX4_appendCharacter_26 : decode cX4_appendCharacter 26 = .ok (.getfield 16, 3) := by decide +kernel
theorem dX4_appendCharacter_29 : decode cX4_appendCharacter 29 = .ok (.aload_n 0, 1) := by decide +kernel
theorem dX4_appendCharacter_30 : decode cX4_appendCharacter 30 = .ok (.getfield 49, 3) := by decide +kernel
theorem dX4_appendCharacter_33 : decode cX4_appendCharacter 33 = .ok (.iload_n 1, 1) := by decide +kernel
theorem dX4_appendCharacter_34 : decode cX4_appendCharacter 34 = .ok (.i2b, 1) := by decide +kernel
theorem dX4_appendCharacter_35 : decode cX4_appendCharacter 35 = .ok (.bastore, 1) := by decide +kernel
theorem dX4_appendCharacter_36 : decode cX4_appendCharacter 36 = .ok (.aload_n 0, 1) := by decide +kernel
theorem dX4_appendCharacter_37 : decode cX4_appendCharacter 37 = .ok (.dup, 1) := by decide +kernel
theorem dX4_appendCharacter_38 : decode cX4_appendCharacter 38 = .ok (.getfield 49, 3) := by decide +kernel
theorem dX4_appendCharacter_41 : decode cX4_appendCharacter 41 = .ok (.iconst 1, 1) := by decide +kernel
theorem dX4_appendCharacter_42 : decode cX4_appendCharacter 42 = .ok (.iadd, 1) := by decide +kernel
theorem dX4_appendCharacter_43 : decode cX4_appendCharacter 43 = .ok (.putfield 49, 3) := by decide +kernel
theorem dX4_appendCharacter_46 : decode cX4_appendCharacter 46 = .ok (.aload_n 0, 1) := by decide +kernel
theorem dX4_appendCharacter_47 : decode cX4_appendCharacter 47 = .ok (.getfield 49, 3) := by decide +kernel
theorem dX4_appendCharacter_50 : decode cX4_appendCharacter 50 = .ok (.ireturn, 1) := by decide +kernel
theorem dX4_clearText_0 : decode cX4_clearText 0 = .ok (.aload_n 0, 1) := by decide +kernel
theorem dX4_clearText_1 : decode cX4_clearText 1 = .ok (.getfield 49, 3) := by decide +kernel
theorem dX4_clearText_4 : decode cX4_clearText 4 = .ok (.istore_n 1, 1) := by decide +kernel
theorem dX4_clearText_5 : decode cX4_clearText 5 = .ok (.aload_n 0, 1) := by decide +kernel
theorem dX4_clearText_6 : decode cX4_clearText 6 = .ok (.iconst 0, 1) := by decide +kernel
theorem dX4_clearText_7 : decode cX4_clearText 7 = .ok (.putfield 49, 3) := by decide +kernel
theorem dX4_clearText_10 : decode cX4_clearText 10 = .ok (.iload_n 1, 1) := by decide +kernel
theorem dX4_clearText_11 : decode cX4_clearText 11 = .ok (.ireturn, 1) := by decide +kernel
theorem dX4_here_0 : decode cX4_here 0 = .ok (.aload_n 0, 1) := by decide +kernel
theorem dX4_here_1 : decode cX4_here 1 = .ok (.getfield 52, 3) := by decide +kernel
theorem dX4_here_4 : decode cX4_here 4 = .ok (.aload_n 0, 1) := by decide +kernel
theorem dX4_here_5 : decode cX4_here 5 = .ok (.getfield 49, 3) := by decide +kernel
theorem dX4_here_8 : decode cX4_here 8 = .ok (.if_icmp .ge 30, 3) := by decide +kernel
theorem dX4_here_11 : decode cX4_here 11 = .ok (.aload_n 0, 1) := by decide +kernel
theorem dX4_here_12 : decode cX4_here 12 = .ok (.getfield 16, 3) := by decide +kernel
theorem dX4_here_15 : decode cX4_here 15 = .ok (.aload_n 0, 1) := by decide +kernel
theorem dX4_here_16 : decode cX4_here 16 = .ok (.getfield 52, 3) := by decide +kernel
theorem dX4_here_19 : decode cX4_here 19 = .ok (.baload, 1) := by decide +kernel
theorem dX4_here_20 : decode cX4_here 20 = .ok (.bipush 32, 2) := by decide +kernel
theorem dX4_here_22 : decode cX4_here 22 = .ok (.if_icmp .ne 16, 3) := by decide +kernel
theorem dX4_here_25 : decode cX4_here 25 = .ok (.aload_n 0, 1) := by decide +kernel
theorem dX4_here_26 : decode cX4_here 26 = .ok (.dup, 1) := by decide +kernel
theorem dX4_here_27 : decode cX4_here 27 = .ok (.getfield 52, 3) := by decide +kernel
theorem dX4_here_30 : decode cX4_here 30 = .ok (.iconst 1, 1) := by decide +kernel
theorem dX4_here_31 : decode cX4_here 31 = .ok (.iadd, 1) := by decide +kernel
theorem dX4_here_32 : decode cX4_here 32 = .ok (.putfield 52, 3) := by decide +kernel
theorem dX4_here_35 : decode cX4_here 35 = .ok (.goto (-35), 3) := by decide +kernel
theorem dX4_here_38 : decode cX4_here 38 = .ok (.aload_n 0, 1) := by decide +kernel
theorem dX4_here_39 : decode cX4_here 39 = .ok (.getfield 52, 3) := by decide +kernel
theorem dX4_here_42 : decode cX4_here 42 = .ok (.aload_n 0, 1) := by decide +kernel
theorem dX4_here_43 : decode cX4_here 43 = .ok (.getfield 49, 3) := by decide +kernel
theorem dX4_here_46 : decode cX4_here 46 = .ok (.if_icmp .ge 19, 3) := by decide +kernel
theorem dX4_here_49 : decode cX4_here 49 = .ok (.aload_n 0, 1) := by decide +kernel
theorem dX4_here_50 : decode cX4_here 50 = .ok (.getfield 16, 3) := by decide +kernel
theorem dX4_here_53 : decode cX4_here 53 = .ok (.aload_n 0, 1) := by decide +kernel
theorem dX4_here_54 : decode cX4_here 54 = .ok (.getfield 52, 3) := by decide +kernel
theorem dX4_here_57 : decode cX4_here 57 = .ok (.baload, 1) := by decide +kernel
theorem dX4_here_58 : decode cX4_here 58 = .ok (.sipush 255, 3) := by decide +kernel
theorem dX4_here_61 : decode cX4_here 61 = .ok (.iand, 1) := by decide +kernel
theorem dX4_here_62 : decode cX4_here 62 = .ok (.goto 4, 3) := by decide +kernel
theorem dX4_here_65 : decode cX4_here 65 = .ok (.iconst (-1), 1) := by decide +kernel
theorem dX4_here_66 : decode cX4_here 66 = .ok (.ireturn, 1) := by decide +kernel
theorem dX4_readsPair_0 : decode cX4_readsPair 0 = .ok (.aload_n 0, 1) := by decide +kernel
theorem dX4_readsPair_1 : decode cX4_readsPair 1 = .ok (.invokevirtual 55, 3) := by decide +kernel
theorem dX4_readsPair_4 : decode cX4_readsPair 4 = .ok (.bipush 48, 2) := by decide +kernel
theorem dX4_readsPair_6 : decode cX4_readsPair 6 = .ok (.isub, 1) := by decide +kernel
theorem dX4_readsPair_7 : decode cX4_readsPair 7 = .ok (.istore_n 1, 1) := by decide +kernel
theorem dX4_readsPair_8 : decode cX4_readsPair 8 = .ok (.iload_n 1, 1) := by decide +kernel
theorem dX4_readsPair_9 : decode cX4_readsPair 9 = .ok (.iconst 0, 1) := by decide +kernel
theorem dX4_readsPair_10 : decode cX4_readsPair 10 = .ok (.bipush 9, 2) := by decide +kernel
theorem dX4_readsPair_12 : decode cX4_readsPair 12 = .ok (.invokestatic 30, 3) := by decide +kernel
theorem dX4_readsPair_15 : decode cX4_readsPair 15 = .ok (.ifCond .eq 12, 3) := by decide +kernel
theorem dX4_readsPair_18 : decode cX4_readsPair 18 = .ok (.aload_n 0, 1) := by decide +kernel
theorem dX4_readsPair_19 : decode cX4_readsPair 19 = .ok (.getfield 23, 3) := by decide +kernel
theorem dX4_readsPair_22 : decode cX4_readsPair 22 = .ok (.iload_n 1, 1) := by decide +kernel
theorem dX4_readsPair_23 : decode cX4_readsPair 23 = .ok (.iaload, 1) := by decide +kernel
theorem dX4_readsPair_24 : decode cX4_readsPair 24 = .ok (.ifCond .lt 5, 3) := by decide +kernel
theorem dX4_readsPair_27 : decode cX4_readsPair 27 = .ok (.iconst 0, 1) := by decide +kernel
theorem dX4_readsPair_28 : decode cX4_readsPair 28 = .ok (.ireturn, 1) := by decide +kernel
theorem dX4_readsPair_29 : decode cX4_readsPair 29 = .ok (.aload_n 0, 1) := by decide +kernel
theorem dX4_readsPair_30 : decode cX4_readsPair 30 = .ok (.dup, 1) := by decide +kernel
theorem dX4_readsPair_31 : decode cX4_readsPair 31 = .ok (.getfield 52, 3) := by decide +kernel
theorem dX4_readsPair_34 : decode cX4_readsPair 34 = .ok (.iconst 1, 1) := by decide +kernel
theorem dX4_readsPair_35 : decode cX4_readsPair 35 = .ok (.iadd, 1) := by decide +kernel
theorem dX4_readsPair_36 : decode cX4_readsPair 36 = .ok (.putfield 52, 3) := by decide +kernel
theorem dX4_readsPair_39 : decode cX4_readsPair 39 = .ok (.aload_n 0, 1) := by decide +kernel
theorem dX4_readsPair_40 : decode cX4_readsPair 40 = .ok (.invokevirtual 55, 3) := by decide +kernel
theorem dX4_readsPair_43 : decode cX4_readsPair 43 = .ok (.bipush 58, 2) := by decide +kernel
theorem dX4_readsPair_45 : decode cX4_readsPair 45 = .ok (.if_icmp .eq 5, 3) := by decide +kernel
theorem dX4_readsPair_48 : decode cX4_readsPair 48 = .ok (.iconst 0, 1) := by decide +kernel
theorem dX4_readsPair_49 : decode cX4_readsPair 49 = .ok (.ireturn, 1) := by decide +kernel
theorem dX4_readsPair_50 : decode cX4_readsPair 50 = .ok (.aload_n 0, 1) := by decide +kernel
theorem dX4_readsPair_51 : decode cX4_readsPair 51 = .ok (.dup, 1) := by decide +kernel
theorem dX4_readsPair_52 : decode cX4_readsPair 52 = .ok (.getfield 52, 3) := by decide +kernel
theorem dX4_readsPair_55 : decode cX4_readsPair 55 = .ok (.iconst 1, 1) := by decide +kernel
theorem dX4_readsPair_56 : decode cX4_readsPair 56 = .ok (.iadd, 1) := by decide +kernel
theorem dX4_readsPair_57 : decode cX4_readsPair 57 = .ok (.putfield 52, 3) := by decide +kernel
theorem dX4_readsPair_60 : decode cX4_readsPair 60 = .ok (.aload_n 0, 1) := by decide +kernel
theorem dX4_readsPair_61 : decode cX4_readsPair 61 = .ok (.invokevirtual 55, 3) := by decide +kernel
theorem dX4_readsPair_64 : decode cX4_readsPair 64 = .ok (.istore_n 2, 1) := by decide +kernel
theorem dX4_readsPair_65 : decode cX4_readsPair 65 = .ok (.aload_n 0, 1) := by decide +kernel
theorem dX4_readsPair_66 : decode cX4_readsPair 66 = .ok (.getfield 52, 3) := by decide +kernel
theorem dX4_readsPair_69 : decode cX4_readsPair 69 = .ok (.istore_n 3, 1) := by decide +kernel
theorem dX4_readsPair_70 : decode cX4_readsPair 70 = .ok (.iconst 0, 1) := by decide +kernel
theorem dX4_readsPair_71 : decode cX4_readsPair 71 = .ok (.istore 4, 2) := by decide +kernel
theorem dX4_readsPair_73 : decode cX4_readsPair 73 = .ok (.aload_n 0, 1) := by decide +kernel
theorem dX4_readsPair_74 : decode cX4_readsPair 74 = .ok (.getfield 52, 3) := by decide +kernel
theorem dX4_readsPair_77 : decode cX4_readsPair 77 = .ok (.aload_n 0, 1) := by decide +kernel
theorem dX4_readsPair_78 : decode cX4_readsPair 78 = .ok (.getfield 49, 3) := by decide +kernel
theorem dX4_readsPair_81 : decode cX4_readsPair 81 = .ok (.if_icmp .ge 67, 3) := by decide +kernel
theorem dX4_readsPair_84 : decode cX4_readsPair 84 = .ok (.aload_n 0, 1) := by decide +kernel
theorem dX4_readsPair_85 : decode cX4_readsPair 85 = .ok (.getfield 16, 3) := by decide +kernel
theorem dX4_readsPair_88 : decode cX4_readsPair 88 = .ok (.aload_n 0, 1) := by decide +kernel
theorem dX4_readsPair_89 : decode cX4_readsPair 89 = .ok (.getfield 52, 3) := by decide +kernel
theorem dX4_readsPair_92 : decode cX4_readsPair 92 = .ok (.baload, 1) := by decide +kernel
theorem dX4_readsPair_93 : decode cX4_readsPair 93 = .ok (.bipush 48, 2) := by decide +kernel
theorem dX4_readsPair_95 : decode cX4_readsPair 95 = .ok (.bipush 57, 2) := by decide +kernel
theorem dX4_readsPair_97 : decode cX4_readsPair 97 = .ok (.invokestatic 30, 3) := by decide +kernel
theorem dX4_readsPair_100 : decode cX4_readsPair 100 = .ok (.ifCond .eq 48, 3) := by decide +kernel
theorem dX4_readsPair_103 : decode cX4_readsPair 103 = .ok (.iload 4, 2) := by decide +kernel
theorem dX4_readsPair_105 : decode cX4_readsPair 105 = .ok (.ldc 59, 2) := by decide +kernel
theorem dX4_readsPair_107 : decode cX4_readsPair 107 = .ok (.if_icmp .ge 24, 3) := by decide +kernel
theorem dX4_readsPair_110 : decode cX4_readsPair 110 = .ok (.bipush 10, 2) := by decide +kernel
theorem dX4_readsPair_112 : decode cX4_readsPair 112 = .ok (.iload 4, 2) := by decide +kernel
theorem dX4_readsPair_114 : decode cX4_readsPair 114 = .ok (.imul, 1) := by decide +kernel
theorem dX4_readsPair_115 : decode cX4_readsPair 115 = .ok (.aload_n 0, 1) := by decide +kernel
theorem dX4_readsPair_116 : decode cX4_readsPair 116 = .ok (.getfield 16, 3) := by decide +kernel
theorem dX4_readsPair_119 : decode cX4_readsPair 119 = .ok (.aload_n 0, 1) := by decide +kernel
theorem dX4_readsPair_120 : decode cX4_readsPair 120 = .ok (.getfield 52, 3) := by decide +kernel
theorem dX4_readsPair_123 : decode cX4_readsPair 123 = .ok (.baload, 1) := by decide +kernel
theorem dX4_readsPair_124 : decode cX4_readsPair 124 = .ok (.iadd, 1) := by decide +kernel
theorem dX4_readsPair_125 : decode cX4_readsPair 125 = .ok (.bipush 48, 2) := by decide +kernel
theorem dX4_readsPair_127 : decode cX4_readsPair 127 = .ok (.isub, 1) := by decide +kernel
theorem dX4_readsPair_128 : decode cX4_readsPair 128 = .ok (.goto 5, 3) := by decide +kernel
theorem dX4_readsPair_131 : decode cX4_readsPair 131 = .ok (.iload 4, 2) := by decide +kernel
theorem dX4_readsPair_133 : decode cX4_readsPair 133 = .ok (.istore 4, 2) := by decide +kernel
theorem dX4_readsPair_135 : decode cX4_readsPair 135 = .ok (.aload_n 0, 1) := by decide +kernel
theorem dX4_readsPair_136 : decode cX4_readsPair 136 = .ok (.dup, 1) := by decide +kernel
theorem dX4_readsPair_137 : decode cX4_readsPair 137 = .ok (.getfield 52, 3) := by decide +kernel
theorem dX4_readsPair_140 : decode cX4_readsPair 140 = .ok (.iconst 1, 1) := by decide +kernel
theorem dX4_readsPair_141 : decode cX4_readsPair 141 = .ok (.iadd, 1) := by decide +kernel
theorem dX4_readsPair_142 : decode cX4_readsPair 142 = .ok (.putfield 52, 3) := by decide +kernel
theorem dX4_readsPair_145 : decode cX4_readsPair 145 = .ok (.goto (-72), 3) := by decide +kernel
theorem dX4_readsPair_148 : decode cX4_readsPair 148 = .ok (.aload_n 0, 1) := by decide +kernel
theorem dX4_readsPair_149 : decode cX4_readsPair 149 = .ok (.getfield 52, 3) := by decide +kernel
theorem dX4_readsPair_152 : decode cX4_readsPair 152 = .ok (.iload_n 3, 1) := by decide +kernel
theorem dX4_readsPair_153 : decode cX4_readsPair 153 = .ok (.isub, 1) := by decide +kernel
theorem dX4_readsPair_154 : decode cX4_readsPair 154 = .ok (.iconst 1, 1) := by decide +kernel
theorem dX4_readsPair_155 : decode cX4_readsPair 155 = .ok (.iconst 4, 1) := by decide +kernel
theorem dX4_readsPair_156 : decode cX4_readsPair 156 = .ok (.invokestatic 30, 3) := by decide +kernel
theorem dX4_readsPair_159 : decode cX4_readsPair 159 = .ok (.ifCond .eq 23, 3) := by decide +kernel
theorem dX4_readsPair_162 : decode cX4_readsPair 162 = .ok (.iload_n 2, 1) := by decide +kernel
theorem dX4_readsPair_163 : decode cX4_readsPair 163 = .ok (.bipush 48, 2) := by decide +kernel
theorem dX4_readsPair_165 : decode cX4_readsPair 165 = .ok (.if_icmp .ne 13, 3) := by decide +kernel
theorem dX4_readsPair_168 : decode cX4_readsPair 168 = .ok (.aload_n 0, 1) := by decide +kernel
theorem dX4_readsPair_169 : decode cX4_readsPair 169 = .ok (.getfield 52, 3) := by decide +kernel
theorem dX4_readsPair_172 : decode cX4_readsPair 172 = .ok (.iload_n 3, 1) := by decide +kernel
theorem dX4_readsPair_173 : decode cX4_readsPair 173 = .ok (.iconst 1, 1) := by decide +kernel
theorem dX4_readsPair_174 : decode cX4_readsPair 174 = .ok (.iadd, 1) := by decide +kernel
theorem dX4_readsPair_175 : decode cX4_readsPair 175 = .ok (.if_icmp .ne 7, 3) := by decide +kernel
theorem dX4_readsPair_178 : decode cX4_readsPair 178 = .ok (.iconst 1, 1) := by decide +kernel
theorem dX4_readsPair_179 : decode cX4_readsPair 179 = .ok (.goto 4, 3) := by decide +kernel
theorem dX4_readsPair_182 : decode cX4_readsPair 182 = .ok (.iconst 0, 1) := by decide +kernel
theorem dX4_readsPair_183 : decode cX4_readsPair 183 = .ok (.istore 5, 2) := by decide +kernel
theorem dX4_readsPair_185 : decode cX4_readsPair 185 = .ok (.aload_n 0, 1) := by decide +kernel
theorem dX4_readsPair_186 : decode cX4_readsPair 186 = .ok (.getfield 23, 3) := by decide +kernel
theorem dX4_readsPair_189 : decode cX4_readsPair 189 = .ok (.iload_n 1, 1) := by decide +kernel
theorem dX4_readsPair_190 : decode cX4_readsPair 190 = .ok (.iload 5, 2) := by decide +kernel
theorem dX4_readsPair_192 : decode cX4_readsPair 192 = .ok (.ifCond .eq 8, 3) := by decide +kernel
theorem dX4_readsPair_195 : decode cX4_readsPair 195 = .ok (.iload 4, 2) := by decide +kernel
theorem dX4_readsPair_197 : decode cX4_readsPair 197 = .ok (.goto 4, 3) := by decide +kernel
theorem dX4_readsPair_200 : decode cX4_readsPair 200 = .ok (.iconst (-1), 1) := by decide +kernel
theorem dX4_readsPair_201 : decode cX4_readsPair 201 = .ok (.iastore, 1) := by decide +kernel
theorem dX4_readsPair_202 : decode cX4_readsPair 202 = .ok (.aload_n 0, 1) := by decide +kernel
theorem dX4_readsPair_203 : decode cX4_readsPair 203 = .ok (.iload 5, 2) := by decide +kernel
theorem dX4_readsPair_205 : decode cX4_readsPair 205 = .ok (.ifCond .eq 10, 3) := by decide +kernel
theorem dX4_readsPair_208 : decode cX4_readsPair 208 = .ok (.aload_n 0, 1) := by decide +kernel
theorem dX4_readsPair_209 : decode cX4_readsPair 209 = .ok (.getfield 52, 3) := by decide +kernel
theorem dX4_readsPair_212 : decode cX4_readsPair 212 = .ok (.goto 4, 3) := by decide +kernel
theorem dX4_readsPair_215 : decode cX4_readsPair 215 = .ok (.iload_n 3, 1) := by decide +kernel
theorem dX4_readsPair_216 : decode cX4_readsPair 216 = .ok (.putfield 52, 3) := by decide +kernel
theorem dX4_readsPair_219 : decode cX4_readsPair 219 = .ok (.iload 5, 2) := by decide +kernel
theorem dX4_readsPair_221 : decode cX4_readsPair 221 = .ok (.ireturn, 1) := by decide +kernel
theorem dX4_reads_0 : decode cX4_reads 0 = .ok (.aload_n 0, 1) := by decide +kernel
theorem dX4_reads_1 : decode cX4_reads 1 = .ok (.iconst 0, 1) := by decide +kernel
theorem dX4_reads_2 : decode cX4_reads 2 = .ok (.putfield 52, 3) := by decide +kernel
theorem dX4_reads_5 : decode cX4_reads 5 = .ok (.iconst 0, 1) := by decide +kernel
theorem dX4_reads_6 : decode cX4_reads 6 = .ok (.istore_n 1, 1) := by decide +kernel
theorem dX4_reads_7 : decode cX4_reads 7 = .ok (.iload_n 1, 1) := by decide +kernel
theorem dX4_reads_8 : decode cX4_reads 8 = .ok (.bipush 10, 2) := by decide +kernel
theorem dX4_reads_10 : decode cX4_reads 10 = .ok (.if_icmp .ge 16, 3) := by decide +kernel
theorem dX4_reads_13 : decode cX4_reads 13 = .ok (.aload_n 0, 1) := by decide +kernel
theorem dX4_reads_14 : decode cX4_reads 14 = .ok (.getfield 23, 3) := by decide +kernel
theorem dX4_reads_17 : decode cX4_reads 17 = .ok (.iload_n 1, 1) := by decide +kernel
theorem dX4_reads_18 : decode cX4_reads 18 = .ok (.iconst (-1), 1) := by decide +kernel
theorem dX4_reads_19 : decode cX4_reads 19 = .ok (.iastore, 1) := by decide +kernel
theorem dX4_reads_20 : decode cX4_reads 20 = .ok (.iinc 1 1, 3) := by decide +kernel
theorem dX4_reads_23 : decode cX4_reads 23 = .ok (.goto (-16), 3) := by decide +kernel
theorem dX4_reads_26 : decode cX4_reads 26 = .ok (.aload_n 0, 1) := by decide +kernel
theorem dX4_reads_27 : decode cX4_reads 27 = .ok (.invokevirtual 55, 3) := by decide +kernel
theorem dX4_reads_30 : decode cX4_reads 30 = .ok (.ifCond .lt 7, 3) := by decide +kernel
theorem dX4_reads_33 : decode cX4_reads 33 = .ok (.iconst 1, 1) := by decide +kernel
theorem dX4_reads_34 : decode cX4_reads 34 = .ok (.goto 4, 3) := by decide +kernel
theorem dX4_reads_37 : decode cX4_reads 37 = .ok (.iconst 0, 1) := by decide +kernel
theorem dX4_reads_38 : decode cX4_reads 38 = .ok (.istore_n 1, 1) := by decide +kernel
theorem dX4_reads_39 : decode cX4_reads 39 = .ok (.iload_n 1, 1) := by decide +kernel
theorem dX4_reads_40 : decode cX4_reads 40 = .ok (.ifCond .eq 61, 3) := by decide +kernel
theorem dX4_reads_43 : decode cX4_reads 43 = .ok (.aload_n 0, 1) := by decide +kernel
theorem dX4_reads_44 : decode cX4_reads 44 = .ok (.invokevirtual 60, 3) := by decide +kernel
theorem dX4_reads_47 : decode cX4_reads 47 = .ok (.ifCond .ne 5, 3) := by decide +kernel
theorem dX4_reads_50 : decode cX4_reads 50 = .ok (.iconst 0, 1) := by decide +kernel
theorem dX4_reads_51 : decode cX4_reads 51 = .ok (.ireturn, 1) := by decide +kernel
theorem dX4_reads_52 : decode cX4_reads 52 = .ok (.aload_n 0, 1) := by decide +kernel
theorem dX4_reads_53 : decode cX4_reads 53 = .ok (.invokevirtual 55, 3) := by decide +kernel
theorem dX4_reads_56 : decode cX4_reads 56 = .ok (.ifCond .lt 7, 3) := by decide +kernel
theorem dX4_reads_59 : decode cX4_reads 59 = .ok (.iconst 1, 1) := by decide +kernel
theorem dX4_reads_60 : decode cX4_reads 60 = .ok (.goto 4, 3) := by decide +kernel
theorem dX4_reads_63 : decode cX4_reads 63 = .ok (.iconst 0, 1) := by decide +kernel
theorem dX4_reads_64 : decode cX4_reads 64 = .ok (.istore_n 1, 1) := by decide +kernel
theorem dX4_reads_65 : decode cX4_reads 65 = .ok (.iload_n 1, 1) := by decide +kernel
theorem dX4_reads_66 : decode cX4_reads 66 = .ok (.ifCond .eq 14, 3) := by decide +kernel
theorem dX4_reads_69 : decode cX4_reads 69 = .ok (.aload_n 0, 1) := by decide +kernel
theorem dX4_reads_70 : decode cX4_reads 70 = .ok (.invokevirtual 55, 3) := by decide +kernel
theorem dX4_reads_73 : decode cX4_reads 73 = .ok (.bipush 44, 2) := by decide +kernel
theorem dX4_reads_75 : decode cX4_reads 75 = .ok (.if_icmp .eq 5, 3) := by decide +kernel
theorem dX4_reads_78 : decode cX4_reads 78 = .ok (.iconst 0, 1) := by decide +kernel
theorem dX4_reads_79 : decode cX4_reads 79 = .ok (.ireturn, 1) := by decide +kernel
theorem dX4_reads_80 : decode cX4_reads 80 = .ok (.aload_n 0, 1) := by decide +kernel
theorem dX4_reads_81 : decode cX4_reads 81 = .ok (.dup, 1) := by decide +kernel
theorem dX4_reads_82 : decode cX4_reads 82 = .ok (.getfield 52, 3) := by decide +kernel
theorem dX4_reads_85 : decode cX4_reads 85 = .ok (.iload_n 1, 1) := by decide +kernel
theorem dX4_reads_86 : decode cX4_reads 86 = .ok (.ifCond .eq 7, 3) := by decide +kernel
theorem dX4_reads_89 : decode cX4_reads 89 = .ok (.iconst 1, 1) := by decide +kernel
theorem dX4_reads_90 : decode cX4_reads 90 = .ok (.goto 4, 3) := by decide +kernel
theorem dX4_reads_93 : decode cX4_reads 93 = .ok (.iconst 0, 1) := by decide +kernel
theorem dX4_reads_94 : decode cX4_reads 94 = .ok (.iadd, 1) := by decide +kernel
theorem dX4_reads_95 : decode cX4_reads 95 = .ok (.putfield 52, 3) := by decide +kernel
theorem dX4_reads_98 : decode cX4_reads 98 = .ok (.goto (-59), 3) := by decide +kernel
theorem dX4_reads_101 : decode cX4_reads 101 = .ok (.iconst 1, 1) := by decide +kernel
theorem dX4_reads_102 : decode cX4_reads 102 = .ok (.ireturn, 1) := by decide +kernel
theorem dX4_load_0 : decode cX4_load 0 = .ok (.aload_n 0, 1) := by decide +kernel
theorem dX4_load_1 : decode cX4_load 1 = .ok (.invokevirtual 64, 3) := by decide +kernel
theorem dX4_load_4 : decode cX4_load 4 = .ok (.ifCond .ne 11, 3) := by decide +kernel
theorem dX4_load_7 : decode cX4_load 7 = .ok (.bipush (-10), 2) := by decide +kernel
theorem dX4_load_9 : decode cX4_load 9 = .ok (.aload_n 0, 1) := by decide +kernel
theorem dX4_load_10 : decode cX4_load 10 = .ok (.getfield 52, 3) := by decide +kernel
theorem dX4_load_13 : decode cX4_load 13 = .ok (.isub, 1) := by decide +kernel
theorem dX4_load_14 : decode cX4_load 14 = .ok (.ireturn, 1) := by decide +kernel
theorem dX4_load_15 : decode cX4_load 15 = .ok (.aload_n 0, 1) := by decide +kernel
theorem dX4_load_16 : decode cX4_load 16 = .ok (.invokevirtual 34, 3) := by decide +kernel
theorem dX4_load_19 : decode cX4_load 19 = .ok (.iconst 0, 1) := by decide +kernel
theorem dX4_load_20 : decode cX4_load 20 = .ok (.istore_n 1, 1) := by decide +kernel
theorem dX4_load_21 : decode cX4_load 21 = .ok (.iload_n 1, 1) := by decide +kernel
theorem dX4_load_22 : decode cX4_load 22 = .ok (.bipush 10, 2) := by decide +kernel
theorem dX4_load_24 : decode cX4_load 24 = .ok (.if_icmp .ge 36, 3) := by decide +kernel
theorem dX4_load_27 : decode cX4_load 27 = .ok (.aload_n 0, 1) := by decide +kernel
theorem dX4_load_28 : decode cX4_load 28 = .ok (.getfield 7, 3) := by decide +kernel
theorem dX4_load_31 : decode cX4_load 31 = .ok (.iconst 0, 1) := by decide +kernel
theorem dX4_load_32 : decode cX4_load 32 = .ok (.iload_n 1, 1) := by decide +kernel
theorem dX4_load_33 : decode cX4_load 33 = .ok (.iadd, 1) := by decide +kernel
theorem dX4_load_34 : decode cX4_load 34 = .ok (.aload_n 0, 1) := by decide +kernel
theorem dX4_load_35 : decode cX4_load 35 = .ok (.getfield 23, 3) := by decide +kernel
theorem dX4_load_38 : decode cX4_load 38 = .ok (.iload_n 1, 1) := by decide +kernel
theorem dX4_load_39 : decode cX4_load 39 = .ok (.iaload, 1) := by decide +kernel
theorem dX4_load_40 : decode cX4_load 40 = .ok (.ifCond .ge 7, 3) := by decide +kernel
theorem dX4_load_43 : decode cX4_load 43 = .ok (.iconst 0, 1) := by decide +kernel
theorem dX4_load_44 : decode cX4_load 44 = .ok (.goto 9, 3) := by decide +kernel
theorem dX4_load_47 : decode cX4_load 47 = .ok (.aload_n 0, 1) := by decide +kernel
theorem dX4_load_48 : decode cX4_load 48 = .ok (.getfield 23, 3) := by decide +kernel
theorem dX4_load_51 : decode cX4_load 51 = .ok (.iload_n 1, 1) := by decide +kernel
theorem dX4_load_52 : decode cX4_load 52 = .ok (.iaload, 1) := by decide +kernel
theorem dX4_load_53 : decode cX4_load 53 = .ok (.iastore, 1) := by decide +kernel
theorem dX4_load_54 : decode cX4_load 54 = .ok (.iinc 1 1, 3) := by decide +kernel
theorem dX4_load_57 : decode cX4_load 57 = .ok (.goto (-36), 3) := by decide +kernel
theorem dX4_load_60 : decode cX4_load 60 = .ok (.aload_n 0, 1) := by decide +kernel
theorem dX4_load_61 : decode cX4_load 61 = .ok (.iconst 0, 1) := by decide +kernel
theorem dX4_load_62 : decode cX4_load 62 = .ok (.putfield 49, 3) := by decide +kernel
theorem dX4_load_65 : decode cX4_load 65 = .ok (.aload_n 0, 1) := by decide +kernel
theorem dX4_load_66 : decode cX4_load 66 = .ok (.iconst 0, 1) := by decide +kernel
theorem dX4_load_67 : decode cX4_load 67 = .ok (.invokevirtual 37, 3) := by decide +kernel
theorem dX4_load_70 : decode cX4_load 70 = .ok (.ireturn, 1) := by decide +kernel
theorem dX4_at_0 : decode cX4_at 0 = .ok (.bipush 53, 2) := by decide +kernel
theorem dX4_at_2 : decode cX4_at 2 = .ok (.bipush 12, 2) := by decide +kernel
theorem dX4_at_4 : decode cX4_at 4 = .ok (.iload_n 1, 1) := by decide +kernel
theorem dX4_at_5 : decode cX4_at 5 = .ok (.imul, 1) := by decide +kernel
theorem dX4_at_6 : decode cX4_at 6 = .ok (.iadd, 1) := by decide +kernel
theorem dX4_at_7 : decode cX4_at 7 = .ok (.ireturn, 1) := by decide +kernel
theorem dX4_trayWith_0 : decode cX4_trayWith 0 = .ok (.iconst 0, 1) := by decide +kernel
theorem dX4_trayWith_1 : decode cX4_trayWith 1 = .ok (.istore_n 2, 1) := by decide +kernel
theorem dX4_trayWith_2 : decode cX4_trayWith 2 = .ok (.iload_n 2, 1) := by decide +kernel
theorem dX4_trayWith_3 : decode cX4_trayWith 3 = .ok (.aload_n 0, 1) := by decide +kernel
theorem dX4_trayWith_4 : decode cX4_trayWith 4 = .ok (.getfield 7, 3) := by decide +kernel
theorem dX4_trayWith_7 : decode cX4_trayWith 7 = .ok (.bipush 24, 2) := by decide +kernel
theorem dX4_trayWith_9 : decode cX4_trayWith 9 = .ok (.iaload, 1) := by decide +kernel
theorem dX4_trayWith_10 : decode cX4_trayWith 10 = .ok (.if_icmp .ge 24, 3) := by decide +kernel
theorem dX4_trayWith_13 : decode cX4_trayWith 13 = .ok (.aload_n 0, 1) := by decide +kernel
theorem dX4_trayWith_14 : decode cX4_trayWith 14 = .ok (.getfield 7, 3) := by decide +kernel
theorem dX4_trayWith_17 : decode cX4_trayWith 17 = .ok (.bipush 25, 2) := by decide +kernel
theorem dX4_trayWith_19 : decode cX4_trayWith 19 = .ok (.iload_n 2, 1) := by decide +kernel
theorem dX4_trayWith_20 : decode cX4_trayWith 20 = .ok (.iadd, 1) := by decide +kernel
theorem dX4_trayWith_21 : decode cX4_trayWith 21 = .ok (.iaload, 1) := by decide +kernel
theorem dX4_trayWith_22 : decode cX4_trayWith 22 = .ok (.iload_n 1, 1) := by decide +kernel
theorem dX4_trayWith_23 : decode cX4_trayWith 23 = .ok (.if_icmp .ne 5, 3) := by decide +kernel
theorem dX4_trayWith_26 : decode cX4_trayWith 26 = .ok (.iload_n 2, 1) := by decide +kernel
theorem dX4_trayWith_27 : decode cX4_trayWith 27 = .ok (.ireturn, 1) := by decide +kernel
theorem dX4_trayWith_28 : decode cX4_trayWith 28 = .ok (.iinc 2 1, 3) := by decide +kernel
theorem dX4_trayWith_31 : decode cX4_trayWith 31 = .ok (.goto (-29), 3) := by decide +kernel
theorem dX4_trayWith_34 : decode cX4_trayWith 34 = .ok (.bipush (-9), 2) := by decide +kernel
theorem dX4_trayWith_36 : decode cX4_trayWith 36 = .ok (.ireturn, 1) := by decide +kernel
theorem dX4_ends_0 : decode cX4_ends 0 = .ok (.bipush 49, 2) := by decide +kernel
theorem dX4_ends_2 : decode cX4_ends 2 = .ok (.istore_n 1, 1) := by decide +kernel
theorem dX4_ends_3 : decode cX4_ends 3 = .ok (.iload_n 1, 1) := by decide +kernel
theorem dX4_ends_4 : decode cX4_ends 4 = .ok (.sipush 137, 3) := by decide +kernel
theorem dX4_ends_7 : decode cX4_ends 7 = .ok (.if_icmp .ge 16, 3) := by decide +kernel
theorem dX4_ends_10 : decode cX4_ends 10 = .ok (.aload_n 0, 1) := by decide +kernel
theorem dX4_ends_11 : decode cX4_ends 11 = .ok (.getfield 7, 3) := by decide +kernel
theorem dX4_ends_14 : decode cX4_ends 14 = .ok (.iload_n 1, 1) := by decide +kernel
theorem dX4_ends_15 : decode cX4_ends 15 = .ok (.iconst 0, 1) := by decide +kernel
theorem dX4_ends_16 : decode cX4_ends 16 = .ok (.iastore, 1) := by decide +kernel
theorem dX4_ends_17 : decode cX4_ends 17 = .ok (.iinc 1 1, 3) := by decide +kernel
theorem dX4_ends_20 : decode cX4_ends 20 = .ok (.goto (-17), 3) := by decide +kernel
theorem dX4_ends_23 : decode cX4_ends 23 = .ok (.return_, 1) := by decide +kernel
theorem dX4_addSieve_0 : decode cX4_addSieve 0 = .ok (.iload_n 1, 1) := by decide +kernel
theorem dX4_addSieve_1 : decode cX4_addSieve 1 = .ok (.iconst 1, 1) := by decide +kernel
theorem dX4_addSieve_2 : decode cX4_addSieve 2 = .ok (.bipush 9, 2) := by decide +kernel
theorem dX4_addSieve_4 : decode cX4_addSieve 4 = .ok (.invokestatic 30, 3) := by decide +kernel
theorem dX4_addSieve_7 : decode cX4_addSieve 7 = .ok (.ifCond .ne 5, 3) := by decide +kernel
theorem dX4_addSieve_10 : decode cX4_addSieve 10 = .ok (.iconst (-1), 1) := by decide +kernel
theorem dX4_addSieve_11 : decode cX4_addSieve 11 = .ok (.ireturn, 1) := by decide +kernel
theorem dX4_addSieve_12 : decode cX4_addSieve 12 = .ok (.aload_n 0, 1) := by decide +kernel
theorem dX4_addSieve_13 : decode cX4_addSieve 13 = .ok (.iload_n 1, 1) := by decide +kernel
theorem dX4_addSieve_14 : decode cX4_addSieve 14 = .ok (.invokevirtual 67, 3) := by decide +kernel
theorem dX4_addSieve_17 : decode cX4_addSieve 17 = .ok (.bipush (-9), 2) := by decide +kernel
theorem dX4_addSieve_19 : decode cX4_addSieve 19 = .ok (.if_icmp .eq 6, 3) := by decide +kernel
theorem dX4_addSieve_22 : decode cX4_addSieve 22 = .ok (.bipush (-2), 2) := by decide +kernel
theorem dX4_addSieve_24 : decode cX4_addSieve 24 = .ok (.ireturn, 1) := by decide +kernel
theorem dX4_addSieve_25 : decode cX4_addSieve 25 = .ok (.aload_n 0, 1) := by decide +kernel
theorem dX4_addSieve_26 : decode cX4_addSieve 26 = .ok (.getfield 7, 3) := by decide +kernel
theorem dX4_addSieve_29 : decode cX4_addSieve 29 = .ok (.bipush 24, 2) := by decide +kernel
theorem dX4_addSieve_31 : decode cX4_addSieve 31 = .ok (.iaload, 1) := by decide +kernel
theorem dX4_addSieve_32 : decode cX4_addSieve 32 = .ok (.bipush 6, 2) := by decide +kernel
theorem dX4_addSieve_34 : decode cX4_addSieve 34 = .ok (.if_icmp .ne 6, 3) := by decide +kernel
theorem dX4_addSieve_37 : decode cX4_addSieve 37 = .ok (.bipush (-3), 2) := by decide +kernel
theorem dX4_addSieve_39 : decode cX4_addSieve 39 = .ok (.ireturn, 1) := by decide +kernel
theorem dX4_addSieve_40 : decode cX4_addSieve 40 = .ok (.aload_n 0, 1) := by decide +kernel
theorem dX4_addSieve_41 : decode cX4_addSieve 41 = .ok (.invokevirtual 34, 3) := by decide +kernel
theorem dX4_addSieve_44 : decode cX4_addSieve 44 = .ok (.aload_n 0, 1) := by decide +kernel
theorem dX4_addSieve_45 : decode cX4_addSieve 45 = .ok (.invokevirtual 70, 3) := by decide +kernel
theorem dX4_addSieve_48 : decode cX4_addSieve 48 = .ok (.aload_n 0, 1) := by decide +kernel
theorem dX4_addSieve_49 : decode cX4_addSieve 49 = .ok (.getfield 7, 3) := by decide +kernel
theorem dX4_addSieve_52 : decode cX4_addSieve 52 = .ok (.bipush 24, 2) := by decide +kernel
theorem dX4_addSieve_54 : decode cX4_addSieve 54 = .ok (.iaload, 1) := by decide +kernel
theorem dX4_addSieve_55 : decode cX4_addSieve 55 = .ok (.istore_n 2, 1) := by decide +kernel
theorem dX4_addSieve_56 : decode cX4_addSieve 56 = .ok (.iload_n 2, 1) := by decide +kernel
theorem dX4_addSieve_57 : decode cX4_addSieve 57 = .ok (.ifCond .le 44, 3) := by decide +kernel
theorem dX4_addSieve_60 : decode cX4_addSieve 60 = .ok (.aload_n 0, 1) := by decide +kernel
theorem dX4_addSieve_61 : decode cX4_addSieve 61 = .ok (.getfield 7, 3) := by decide +kernel
theorem dX4_addSieve_64 : decode cX4_addSieve 64 = .ok (.bipush 25, 2) := by decide +kernel
theorem dX4_addSieve_66 : decode cX4_addSieve 66 = .ok (.iload_n 2, 1) := by decide +kernel
theorem dX4_addSieve_67 : decode cX4_addSieve 67 = .ok (.iadd, 1) := by decide +kernel
theorem dX4_addSieve_68 : decode cX4_addSieve 68 = .ok (.iconst 1, 1) := by decide +kernel
theorem dX4_addSieve_69 : decode cX4_addSieve 69 = .ok (.isub, 1) := by decide +kernel
theorem dX4_addSieve_70 : decode cX4_addSieve 70 = .ok (.iaload, 1) := by decide +kernel
theorem dX4_addSieve_71 : decode cX4_addSieve 71 = .ok (.iload_n 1, 1) := by decide +kernel
theorem dX4_addSieve_72 : decode cX4_addSieve 72 = .ok (.if_icmp .ge 29, 3) := by decide +kernel
theorem dX4_addSieve_75 : decode cX4_addSieve 75 = .ok (.aload_n 0, 1) := by decide +kernel
theorem dX4_addSieve_76 : decode cX4_addSieve 76 = .ok (.getfield 7, 3) := by decide +kernel
theorem dX4_addSieve_79 : decode cX4_addSieve 79 = .ok (.bipush 25, 2) := by decide +kernel
theorem dX4_addSieve_81 : decode cX4_addSieve 81 = .ok (.iload_n 2, 1) := by decide +kernel
theorem dX4_addSieve_82 : decode cX4_addSieve 82 = .ok (.iadd, 1) := by decide +kernel
theorem dX4_addSieve_83 : decode cX4_addSieve 83 = .ok (.aload_n 0, 1) := by decide +kernel
theorem dX4_addSieve_84 : decode cX4_addSieve 84 = .ok (.getfield 7, 3) := by decide +kernel
theorem dX4_addSieve_87 : decode cX4_addSieve 87 = .ok (.bipush 25, 2) := by decide +kernel
theorem dX4_addSieve_89 : decode cX4_addSieve 89 = .ok (.iload_n 2, 1) := by decide +kernel
theorem dX4_addSieve_90 : decode cX4_addSieve 90 = .ok (.iadd, 1) := by decide +kernel
theorem dX4_addSieve_91 : decode cX4_addSieve 91 = .ok (.iconst 1, 1) := by decide +kernel
theorem dX4_addSieve_92 : decode cX4_addSieve 92 = .ok (.isub, 1) := by decide +kernel
theorem dX4_addSieve_93 : decode cX4_addSieve 93 = .ok (.iaload, 1) := by decide +kernel
theorem dX4_addSieve_94 : decode cX4_addSieve 94 = .ok (.iastore, 1) := by decide +kernel
theorem dX4_addSieve_95 : decode cX4_addSieve 95 = .ok (.iinc 2 (-1), 3) := by decide +kernel
theorem dX4_addSieve_98 : decode cX4_addSieve 98 = .ok (.goto (-42), 3) := by decide +kernel
theorem dX4_addSieve_101 : decode cX4_addSieve 101 = .ok (.aload_n 0, 1) := by decide +kernel
theorem dX4_addSieve_102 : decode cX4_addSieve 102 = .ok (.getfield 7, 3) := by decide +kernel
theorem dX4_addSieve_105 : decode cX4_addSieve 105 = .ok (.bipush 25, 2) := by decide +kernel
theorem dX4_addSieve_107 : decode cX4_addSieve 107 = .ok (.iload_n 2, 1) := by decide +kernel
theorem dX4_addSieve_108 : decode cX4_addSieve 108 = .ok (.iadd, 1) := by decide +kernel
theorem dX4_addSieve_109 : decode cX4_addSieve 109 = .ok (.iload_n 1, 1) := by decide +kernel
theorem dX4_addSieve_110 : decode cX4_addSieve 110 = .ok (.iastore, 1) := by decide +kernel
theorem dX4_addSieve_111 : decode cX4_addSieve 111 = .ok (.aload_n 0, 1) := by decide +kernel
theorem dX4_addSieve_112 : decode cX4_addSieve 112 = .ok (.getfield 7, 3) := by decide +kernel
theorem dX4_addSieve_115 : decode cX4_addSieve 115 = .ok (.bipush 24, 2) := by decide +kernel
theorem dX4_addSieve_117 : decode cX4_addSieve 117 = .ok (.dup2, 1) := by decide +kernel
theorem dX4_addSieve_118 : decode cX4_addSieve 118 = .ok (.iaload, 1) := by decide +kernel
theorem dX4_addSieve_119 : decode cX4_addSieve 119 = .ok (.iconst 1, 1) := by decide +kernel
theorem dX4_addSieve_120 : decode cX4_addSieve 120 = .ok (.iadd, 1) := by decide +kernel
theorem dX4_addSieve_121 : decode cX4_addSieve 121 = .ok (.iastore, 1) := by decide +kernel
theorem dX4_addSieve_122 : decode cX4_addSieve 122 = .ok (.iload_n 2, 1) := by decide +kernel
theorem dX4_addSieve_123 : decode cX4_addSieve 123 = .ok (.ireturn, 1) := by decide +kernel
theorem dX4_removeSieve_0 : decode cX4_removeSieve 0 = .ok (.iload_n 1, 1) := by decide +kernel
theorem dX4_removeSieve_1 : decode cX4_removeSieve 1 = .ok (.iconst 1, 1) := by decide +kernel
theorem dX4_removeSieve_2 : decode cX4_removeSieve 2 = .ok (.bipush 9, 2) := by decide +kernel
theorem dX4_removeSieve_4 : decode cX4_removeSieve 4 = .ok (.invokestatic 30, 3) := by decide +kernel
theorem dX4_removeSieve_7 : decode cX4_removeSieve 7 = .ok (.ifCond .ne 5, 3) := by decide +kernel
theorem dX4_removeSieve_10 : decode cX4_removeSieve 10 = .ok (.iconst (-1), 1) := by decide +kernel
theorem dX4_removeSieve_11 : decode cX4_removeSieve 11 = .ok (.ireturn, 1) := by decide +kernel
theorem dX4_removeSieve_12 : decode cX4_removeSieve 12 = .ok (.aload_n 0, 1) := by decide +kernel
theorem dX4_removeSieve_13 : decode cX4_removeSieve 13 = .ok (.iload_n 1, 1) := by decide +kernel
theorem dX4_removeSieve_14 : decode cX4_removeSieve 14 = .ok (.invokevirtual 67, 3) := by decide +kernel
theorem dX4_removeSieve_17 : decode cX4_removeSieve 17 = .ok (.istore_n 2, 1) := by decide +kernel
theorem dX4_removeSieve_18 : decode cX4_removeSieve 18 = .ok (.iload_n 2, 1) := by decide +kernel
theorem dX4_removeSieve_19 : decode cX4_removeSieve 19 = .ok (.bipush (-9), 2) := by decide +kernel
theorem dX4_removeSieve_21 : decode cX4_removeSieve 21 = .ok (.if_icmp .ne 6, 3) := by decide +kernel
theorem dX4_removeSieve_24 : decode cX4_removeSieve 24 = .ok (.bipush (-2), 2) := by decide +kernel
theorem dX4_removeSieve_26 : decode cX4_removeSieve 26 = .ok (.ireturn, 1) := by decide +kernel
theorem dX4_removeSieve_27 : decode cX4_removeSieve 27 = .ok (.aload_n 0, 1) := by decide +kernel
theorem dX4_removeSieve_28 : decode cX4_removeSieve 28 = .ok (.invokevirtual 34, 3) := by decide +kernel
theorem dX4_removeSieve_31 : decode cX4_removeSieve 31 = .ok (.aload_n 0, 1) := by decide +kernel
theorem dX4_removeSieve_32 : decode cX4_removeSieve 32 = .ok (.invokevirtual 70, 3) := by decide +kernel
theorem dX4_removeSieve_35 : decode cX4_removeSieve 35 = .ok (.aload_n 0, 1) := by decide +kernel
theorem dX4_removeSieve_36 : decode cX4_removeSieve 36 = .ok (.getfield 7, 3) := by decide +kernel
theorem dX4_removeSieve_39 : decode cX4_removeSieve 39 = .ok (.bipush 24, 2) := by decide +kernel
theorem dX4_removeSieve_41 : decode cX4_removeSieve 41 = .ok (.dup2, 1) := by decide +kernel
theorem dX4_removeSieve_42 : decode cX4_removeSieve 42 = .ok (.iaload, 1) := by decide +kernel
theorem dX4_removeSieve_43 : decode cX4_removeSieve 43 = .ok (.iconst 1, 1) := by decide +kernel
theorem dX4_removeSieve_44 : decode cX4_removeSieve 44 = .ok (.isub, 1) := by decide +kernel
theorem dX4_removeSieve_45 : decode cX4_removeSieve 45 = .ok (.iastore, 1) := by decide +kernel
theorem dX4_removeSieve_46 : decode cX4_removeSieve 46 = .ok (.iload_n 2, 1) := by decide +kernel
theorem dX4_removeSieve_47 : decode cX4_removeSieve 47 = .ok (.istore_n 3, 1) := by decide +kernel
theorem dX4_removeSieve_48 : decode cX4_removeSieve 48 = .ok (.iload_n 3, 1) := by decide +kernel
theorem dX4_removeSieve_49 : decode cX4_removeSieve 49 = .ok (.aload_n 0, 1) := by decide +kernel
theorem dX4_removeSieve_50 : decode cX4_removeSieve 50 = .ok (.getfield 7, 3) := by decide +kernel
theorem dX4_removeSieve_53 : decode cX4_removeSieve 53 = .ok (.bipush 24, 2) := by decide +kernel
theorem dX4_removeSieve_55 : decode cX4_removeSieve 55 = .ok (.iaload, 1) := by decide +kernel
theorem dX4_removeSieve_56 : decode cX4_removeSieve 56 = .ok (.if_icmp .ge 29, 3) := by decide +kernel
theorem dX4_removeSieve_59 : decode cX4_removeSieve 59 = .ok (.aload_n 0, 1) := by decide +kernel
theorem dX4_removeSieve_60 : decode cX4_removeSieve 60 = .ok (.getfield 7, 3) := by decide +kernel
theorem dX4_removeSieve_63 : decode cX4_removeSieve 63 = .ok (.bipush 25, 2) := by decide +kernel
theorem dX4_removeSieve_65 : decode cX4_removeSieve 65 = .ok (.iload_n 3, 1) := by decide +kernel
theorem dX4_removeSieve_66 : decode cX4_removeSieve 66 = .ok (.iadd, 1) := by decide +kernel
theorem dX4_removeSieve_67 : decode cX4_removeSieve 67 = .ok (.aload_n 0, 1) := by decide +kernel
theorem dX4_removeSieve_68 : decode cX4_removeSieve 68 = .ok (.getfield 7, 3) := by decide +kernel
theorem dX4_removeSieve_71 : decode cX4_removeSieve 71 = .ok (.bipush 25, 2) := by decide +kernel
theorem dX4_removeSieve_73 : decode cX4_removeSieve 73 = .ok (.iload_n 3, 1) := by decide +kernel
theorem dX4_removeSieve_74 : decode cX4_removeSieve 74 = .ok (.iadd, 1) := by decide +kernel
theorem dX4_removeSieve_75 : decode cX4_removeSieve 75 = .ok (.iconst 1, 1) := by decide +kernel
theorem dX4_removeSieve_76 : decode cX4_removeSieve 76 = .ok (.iadd, 1) := by decide +kernel
theorem dX4_removeSieve_77 : decode cX4_removeSieve 77 = .ok (.iaload, 1) := by decide +kernel
theorem dX4_removeSieve_78 : decode cX4_removeSieve 78 = .ok (.iastore, 1) := by decide +kernel
theorem dX4_removeSieve_79 : decode cX4_removeSieve 79 = .ok (.iinc 3 1, 3) := by decide +kernel
theorem dX4_removeSieve_82 : decode cX4_removeSieve 82 = .ok (.goto (-34), 3) := by decide +kernel
theorem dX4_removeSieve_85 : decode cX4_removeSieve 85 = .ok (.aload_n 0, 1) := by decide +kernel
theorem dX4_removeSieve_86 : decode cX4_removeSieve 86 = .ok (.getfield 7, 3) := by decide +kernel
theorem dX4_removeSieve_89 : decode cX4_removeSieve 89 = .ok (.bipush 24, 2) := by decide +kernel
theorem dX4_removeSieve_91 : decode cX4_removeSieve 91 = .ok (.iaload, 1) := by decide +kernel
theorem dX4_removeSieve_92 : decode cX4_removeSieve 92 = .ok (.ireturn, 1) := by decide +kernel
theorem dX4_changes_0 : decode cX4_changes 0 = .ok (.aload_n 0, 1) := by decide +kernel
theorem dX4_changes_1 : decode cX4_changes 1 = .ok (.getfield 7, 3) := by decide +kernel
theorem dX4_changes_4 : decode cX4_changes 4 = .ok (.iload_n 1, 1) := by decide +kernel
theorem dX4_changes_5 : decode cX4_changes 5 = .ok (.iaload, 1) := by decide +kernel
theorem dX4_changes_6 : decode cX4_changes 6 = .ok (.iload_n 2, 1) := by decide +kernel
theorem dX4_changes_7 : decode cX4_changes 7 = .ok (.if_icmp .ne 7, 3) := by decide +kernel
theorem dX4_changes_10 : decode cX4_changes 10 = .ok (.iconst 0, 1) := by decide +kernel
theorem dX4_changes_11 : decode cX4_changes 11 = .ok (.goto 4, 3) := by decide +kernel
theorem dX4_changes_14 : decode cX4_changes 14 = .ok (.iconst 1, 1) := by decide +kernel
theorem dX4_changes_15 : decode cX4_changes 15 = .ok (.istore_n 3, 1) := by decide +kernel
theorem dX4_changes_16 : decode cX4_changes 16 = .ok (.aload_n 0, 1) := by decide +kernel
theorem dX4_changes_17 : decode cX4_changes 17 = .ok (.getfield 7, 3) := by decide +kernel
theorem dX4_changes_20 : decode cX4_changes 20 = .ok (.iload_n 1, 1) := by decide +kernel
theorem dX4_changes_21 : decode cX4_changes 21 = .ok (.iload_n 2, 1) := by decide +kernel
theorem dX4_changes_22 : decode cX4_changes 22 = .ok (.iastore, 1) := by decide +kernel
theorem dX4_changes_23 : decode cX4_changes 23 = .ok (.iload_n 3, 1) := by decide +kernel
theorem dX4_changes_24 : decode cX4_changes 24 = .ok (.ireturn, 1) := by decide +kernel
theorem dX4_setRules_0 : decode cX4_setRules 0 = .ok (.iload_n 1, 1) := by decide +kernel
theorem dX4_setRules_1 : decode cX4_setRules 1 = .ok (.iconst 1, 1) := by decide +kernel
theorem dX4_setRules_2 : decode cX4_setRules 2 = .ok (.sipush 9999, 3) := by decide +kernel
theorem dX4_setRules_5 : decode cX4_setRules 5 = .ok (.invokestatic 30, 3) := by decide +kernel
theorem dX4_setRules_8 : decode cX4_setRules 8 = .ok (.ifCond .eq 35, 3) := by decide +kernel
theorem dX4_setRules_11 : decode cX4_setRules 11 = .ok (.iload_n 2, 1) := by decide +kernel
theorem dX4_setRules_12 : decode cX4_setRules 12 = .ok (.iconst 0, 1) := by decide +kernel
theorem dX4_setRules_13 : decode cX4_setRules 13 = .ok (.sipush 200, 3) := by decide +kernel
theorem dX4_setRules_16 : decode cX4_setRules 16 = .ok (.invokestatic 30, 3) := by decide +kernel
theorem dX4_setRules_19 : decode cX4_setRules 19 = .ok (.ifCond .eq 24, 3) := by decide +kernel
theorem dX4_setRules_22 : decode cX4_setRules 22 = .ok (.iload_n 3, 1) := by decide +kernel
theorem dX4_setRules_23 : decode cX4_setRules 23 = .ok (.iconst 0, 1) := by decide +kernel
theorem dX4_setRules_24 : decode cX4_setRules 24 = .ok (.bipush 100, 2) := by decide +kernel
theorem dX4_setRules_26 : decode cX4_setRules 26 = .ok (.invokestatic 30, 3) := by decide +kernel
theorem dX4_setRules_29 : decode cX4_setRules 29 = .ok (.ifCond .eq 14, 3) := by decide +kernel
theorem dX4_setRules_32 : decode cX4_setRules 32 = .ok (.iload 4, 2) := by decide +kernel
theorem dX4_setRules_34 : decode cX4_setRules 34 = .ok (.iconst 0, 1) := by decide +kernel
theorem dX4_setRules_35 : decode cX4_setRules 35 = .ok (.bipush 100, 2) := by decide +kernel
theorem dX4_setRules_37 : decode cX4_setRules 37 = .ok (.invokestatic 30, 3) := by decide +kernel
theorem dX4_setRules_40 : decode cX4_setRules 40 = .ok (.ifCond .ne 5, 3) := by decide +kernel
theorem dX4_setRules_43 : decode cX4_setRules 43 = .ok (.iconst (-1), 1) := by decide +kernel
theorem dX4_setRules_44 : decode cX4_setRules 44 = .ok (.ireturn, 1) := by decide +kernel
theorem dX4_setRules_45 : decode cX4_setRules 45 = .ok (.aload_n 0, 1) := by decide +kernel
theorem dX4_setRules_46 : decode cX4_setRules 46 = .ok (.invokevirtual 34, 3) := by decide +kernel
theorem dX4_setRules_49 : decode cX4_setRules 49 = .ok (.aload_n 0, 1) := by decide +kernel
theorem dX4_setRules_50 : decode cX4_setRules 50 = .ok (.bipush 20, 2) := by decide +kernel
theorem dX4_setRules_52 : decode cX4_setRules 52 = .ok (.iload_n 1, 1) := by decide +kernel
theorem dX4_setRules_53 : decode cX4_setRules 53 = .ok (.invokevirtual 73, 3) := by decide +kernel
theorem dX4_setRules_56 : decode cX4_setRules 56 = .ok (.aload_n 0, 1) := by decide +kernel
theorem dX4_setRules_57 : decode cX4_setRules 57 = .ok (.bipush 21, 2) := by decide +kernel
theorem dX4_setRules_59 : decode cX4_setRules 59 = .ok (.iload_n 2, 1) := by decide +kernel
theorem dX4_setRules_60 : decode cX4_setRules 60 = .ok (.invokevirtual 73, 3) := by decide +kernel
theorem dX4_setRules_63 : decode cX4_setRules 63 = .ok (.iadd, 1) := by decide +kernel
theorem dX4_setRules_64 : decode cX4_setRules 64 = .ok (.aload_n 0, 1) := by decide +kernel
theorem dX4_setRules_65 : decode cX4_setRules 65 = .ok (.bipush 22, 2) := by decide +kernel
theorem dX4_setRules_67 : decode cX4_setRules 67 = .ok (.iload_n 3, 1) := by decide +kernel
theorem dX4_setRules_68 : decode cX4_setRules 68 = .ok (.invokevirtual 73, 3) := by decide +kernel
theorem dX4_setRules_71 : decode cX4_setRules 71 = .ok (.iadd, 1) := by decide +kernel
theorem dX4_setRules_72 : decode cX4_setRules 72 = .ok (.aload_n 0, 1) := by decide +kernel
theorem dX4_setRules_73 : decode cX4_setRules 73 = .ok (.bipush 23, 2) := by decide +kernel
theorem dX4_setRules_75 : decode cX4_setRules 75 = .ok (.iload 4, 2) := by decide +kernel
theorem dX4_setRules_77 : decode cX4_setRules 77 = .ok (.invokevirtual 73, 3) := by decide +kernel
theorem dX4_setRules_80 : decode cX4_setRules 80 = .ok (.iadd, 1) := by decide +kernel
theorem dX4_setRules_81 : decode cX4_setRules 81 = .ok (.istore 5, 2) := by decide +kernel
theorem dX4_setRules_83 : decode cX4_setRules 83 = .ok (.iload 5, 2) := by decide +kernel
theorem dX4_setRules_85 : decode cX4_setRules 85 = .ok (.ifCond .le 7, 3) := by decide +kernel
theorem dX4_setRules_88 : decode cX4_setRules 88 = .ok (.iconst 1, 1) := by decide +kernel
theorem dX4_setRules_89 : decode cX4_setRules 89 = .ok (.goto 4, 3) := by decide +kernel
theorem dX4_setRules_92 : decode cX4_setRules 92 = .ok (.iconst 0, 1) := by decide +kernel
theorem dX4_setRules_93 : decode cX4_setRules 93 = .ok (.ireturn, 1) := by decide +kernel
theorem dX4_setBand_0 : decode cX4_setBand 0 = .ok (.iload_n 1, 1) := by decide +kernel
theorem dX4_setBand_1 : decode cX4_setBand 1 = .ok (.iconst 1, 1) := by decide +kernel
theorem dX4_setBand_2 : decode cX4_setBand 2 = .ok (.bipush 9, 2) := by decide +kernel
theorem dX4_setBand_4 : decode cX4_setBand 4 = .ok (.invokestatic 30, 3) := by decide +kernel
theorem dX4_setBand_7 : decode cX4_setBand 7 = .ok (.ifCond .eq 25, 3) := by decide +kernel
theorem dX4_setBand_10 : decode cX4_setBand 10 = .ok (.iload_n 2, 1) := by decide +kernel
theorem dX4_setBand_11 : decode cX4_setBand 11 = .ok (.iconst 0, 1) := by decide +kernel
theorem dX4_setBand_12 : decode cX4_setBand 12 = .ok (.sipush 1000, 3) := by decide +kernel
theorem dX4_setBand_15 : decode cX4_setBand 15 = .ok (.invokestatic 30, 3) := by decide +kernel
theorem dX4_setBand_18 : decode cX4_setBand 18 = .ok (.ifCond .eq 14, 3) := by decide +kernel
theorem dX4_setBand_21 : decode cX4_setBand 21 = .ok (.iload_n 3, 1) := by decide +kernel
theorem dX4_setBand_22 : decode cX4_setBand 22 = .ok (.iload_n 2, 1) := by decide +kernel
theorem dX4_setBand_23 : decode cX4_setBand 23 = .ok (.sipush 1000, 3) := by decide +kernel
theorem dX4_setBand_26 : decode cX4_setBand 26 = .ok (.invokestatic 30, 3) := by decide +kernel
theorem dX4_setBand_29 : decode cX4_setBand 29 = .ok (.ifCond .ne 5, 3) := by decide +kernel
theorem dX4_setBand_32 : decode cX4_setBand 32 = .ok (.iconst (-1), 1) := by decide +kernel
theorem dX4_setBand_33 : decode cX4_setBand 33 = .ok (.ireturn, 1) := by decide +kernel
theorem dX4_setBand_34 : decode cX4_setBand 34 = .ok (.aload_n 0, 1) := by decide +kernel
theorem dX4_setBand_35 : decode cX4_setBand 35 = .ok (.invokevirtual 34, 3) := by decide +kernel
theorem dX4_setBand_38 : decode cX4_setBand 38 = .ok (.aload_n 0, 1) := by decide +kernel
theorem dX4_setBand_39 : decode cX4_setBand 39 = .ok (.bipush 31, 2) := by decide +kernel
theorem dX4_setBand_41 : decode cX4_setBand 41 = .ok (.iconst 2, 1) := by decide +kernel
theorem dX4_setBand_42 : decode cX4_setBand 42 = .ok (.iload_n 1, 1) := by decide +kernel
theorem dX4_setBand_43 : decode cX4_setBand 43 = .ok (.imul, 1) := by decide +kernel
theorem dX4_setBand_44 : decode cX4_setBand 44 = .ok (.iadd, 1) := by decide +kernel
theorem dX4_setBand_45 : decode cX4_setBand 45 = .ok (.iconst 2, 1) := by decide +kernel
theorem dX4_setBand_46 : decode cX4_setBand 46 = .ok (.isub, 1) := by decide +kernel
theorem dX4_setBand_47 : decode cX4_setBand 47 = .ok (.iload_n 2, 1) := by decide +kernel
theorem dX4_setBand_48 : decode cX4_setBand 48 = .ok (.invokevirtual 73, 3) := by decide +kernel
theorem dX4_setBand_51 : decode cX4_setBand 51 = .ok (.aload_n 0, 1) := by decide +kernel
theorem dX4_setBand_52 : decode cX4_setBand 52 = .ok (.bipush 31, 2) := by decide +kernel
theorem dX4_setBand_54 : decode cX4_setBand 54 = .ok (.iconst 2, 1) := by decide +kernel
theorem dX4_setBand_55 : decode cX4_setBand 55 = .ok (.iload_n 1, 1) := by decide +kernel
theorem dX4_setBand_56 : decode cX4_setBand 56 = .ok (.imul, 1) := by decide +kernel
theorem dX4_setBand_57 : decode cX4_setBand 57 = .ok (.iadd, 1) := by decide +kernel
theorem dX4_setBand_58 : decode cX4_setBand 58 = .ok (.iconst 1, 1) := by decide +kernel
theorem dX4_setBand_59 : decode cX4_setBand 59 = .ok (.isub, 1) := by decide +kernel
theorem dX4_setBand_60 : decode cX4_setBand 60 = .ok (.iload_n 3, 1) := by decide +kernel
theorem dX4_setBand_61 : decode cX4_setBand 61 = .ok (.invokevirtual 73, 3) := by decide +kernel
theorem dX4_setBand_64 : decode cX4_setBand 64 = .ok (.iadd, 1) := by decide +kernel
theorem dX4_setBand_65 : decode cX4_setBand 65 = .ok (.istore 4, 2) := by decide +kernel
theorem dX4_setBand_67 : decode cX4_setBand 67 = .ok (.iload 4, 2) := by decide +kernel
theorem dX4_setBand_69 : decode cX4_setBand 69 = .ok (.ifCond .le 7, 3) := by decide +kernel
theorem dX4_setBand_72 : decode cX4_setBand 72 = .ok (.iconst 1, 1) := by decide +kernel
theorem dX4_setBand_73 : decode cX4_setBand 73 = .ok (.goto 4, 3) := by decide +kernel
theorem dX4_setBand_76 : decode cX4_setBand 76 = .ok (.iconst 0, 1) := by decide +kernel
theorem dX4_setBand_77 : decode cX4_setBand 77 = .ok (.ireturn, 1) := by decide +kernel
theorem dX4_count_0 : decode cX4_count 0 = .ok (.iload_n 1, 1) := by decide +kernel
theorem dX4_count_1 : decode cX4_count 1 = .ok (.tableswitch 109 0 9 #[55, 63, 63, 63, 63, 75, 83, 91, 99, 104], 55) := by decide +kernel
theorem dX4_count_56 : decode cX4_count 56 = .ok (.aload_n 0, 1) := by decide +kernel
theorem dX4_count_57 : decode cX4_count 57 = .ok (.getfield 7, 3) := by decide +kernel
theorem dX4_count_60 : decode cX4_count 60 = .ok (.bipush 24, 2) := by decide +kernel
theorem dX4_count_62 : decode cX4_count 62 = .ok (.iaload, 1) := by decide +kernel
theorem dX4_count_63 : decode cX4_count 63 = .ok (.ireturn, 1) := by decide +kernel
theorem dX4_count_64 : decode cX4_count 64 = .ok (.aload_n 0, 1) := by decide +kernel
theorem dX4_count_65 : decode cX4_count 65 = .ok (.getfield 7, 3) := by decide +kernel
theorem dX4_count_68 : decode cX4_count 68 = .ok (.bipush 20, 2) := by decide +kernel
theorem dX4_count_70 : decode cX4_count 70 = .ok (.iload_n 1, 1) := by decide +kernel
theorem dX4_count_71 : decode cX4_count 71 = .ok (.iadd, 1) := by decide +kernel
theorem dX4_count_72 : decode cX4_count 72 = .ok (.iconst 1, 1) := by decide +kernel
theorem dX4_count_73 : decode cX4_count 73 = .ok (.isub, 1) := by decide +kernel
theorem dX4_count_74 : decode cX4_count 74 = .ok (.iaload, 1) := by decide +kernel
theorem dX4_count_75 : decode cX4_count 75 = .ok (.ireturn, 1) := by decide +kernel
theorem dX4_count_76 : decode cX4_count 76 = .ok (.aload_n 0, 1) := by decide +kernel
theorem dX4_count_77 : decode cX4_count 77 = .ok (.getfield 7, 3) := by decide +kernel
theorem dX4_count_80 : decode cX4_count 80 = .ok (.bipush 49, 2) := by decide +kernel
theorem dX4_count_82 : decode cX4_count 82 = .ok (.iaload, 1) := by decide +kernel
theorem dX4_count_83 : decode cX4_count 83 = .ok (.ireturn, 1) := by decide +kernel
theorem dX4_count_84 : decode cX4_count 84 = .ok (.aload_n 0, 1) := by decide +kernel
theorem dX4_count_85 : decode cX4_count 85 = .ok (.getfield 7, 3) := by decide +kernel
theorem dX4_count_88 : decode cX4_count 88 = .ok (.bipush 51, 2) := by decide +kernel
theorem dX4_count_90 : decode cX4_count 90 = .ok (.iaload, 1) := by decide +kernel
theorem dX4_count_91 : decode cX4_count 91 = .ok (.ireturn, 1) := by decide +kernel
theorem dX4_count_92 : decode cX4_count 92 = .ok (.aload_n 0, 1) := by decide +kernel
theorem dX4_count_93 : decode cX4_count 93 = .ok (.getfield 7, 3) := by decide +kernel
theorem dX4_count_96 : decode cX4_count 96 = .ok (.bipush 52, 2) := by decide +kernel
theorem dX4_count_98 : decode cX4_count 98 = .ok (.iaload, 1) := by decide +kernel
theorem dX4_count_99 : decode cX4_count 99 = .ok (.ireturn, 1) := by decide +kernel
theorem dX4_count_100 : decode cX4_count 100 = .ok (.aload_n 0, 1) := by decide +kernel
theorem dX4_count_101 : decode cX4_count 101 = .ok (.getfield 49, 3) := by decide +kernel
theorem dX4_count_104 : decode cX4_count 104 = .ok (.ireturn, 1) := by decide +kernel
theorem dX4_count_105 : decode cX4_count 105 = .ok (.aload_n 0, 1) := by decide +kernel
theorem dX4_count_106 : decode cX4_count 106 = .ok (.getfield 26, 3) := by decide +kernel
theorem dX4_count_109 : decode cX4_count 109 = .ok (.ireturn, 1) := by decide +kernel
theorem dX4_count_110 : decode cX4_count 110 = .ok (.iconst (-1), 1) := by decide +kernel
theorem dX4_count_111 : decode cX4_count 111 = .ok (.ireturn, 1) := by decide +kernel
theorem dX4_isTray_0 : decode cX4_isTray 0 = .ok (.iload_n 1, 1) := by decide +kernel
theorem dX4_isTray_1 : decode cX4_isTray 1 = .ok (.iconst 0, 1) := by decide +kernel
theorem dX4_isTray_2 : decode cX4_isTray 2 = .ok (.aload_n 0, 1) := by decide +kernel
theorem dX4_isTray_3 : decode cX4_isTray 3 = .ok (.getfield 7, 3) := by decide +kernel
theorem dX4_isTray_6 : decode cX4_isTray 6 = .ok (.bipush 24, 2) := by decide +kernel
theorem dX4_isTray_8 : decode cX4_isTray 8 = .ok (.iaload, 1) := by decide +kernel
theorem dX4_isTray_9 : decode cX4_isTray 9 = .ok (.invokestatic 30, 3) := by decide +kernel
theorem dX4_isTray_12 : decode cX4_isTray 12 = .ok (.ireturn, 1) := by decide +kernel
theorem dX4_isSieve_0 : decode cX4_isSieve 0 = .ok (.iload_n 1, 1) := by decide +kernel
theorem dX4_isSieve_1 : decode cX4_isSieve 1 = .ok (.iconst 0, 1) := by decide +kernel
theorem dX4_isSieve_2 : decode cX4_isSieve 2 = .ok (.aload_n 0, 1) := by decide +kernel
