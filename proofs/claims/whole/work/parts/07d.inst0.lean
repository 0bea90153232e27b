theorem s0_0 {l : Launch} {G : KG} : kOpOK l G 0 0 (.inl (g_ald 0 1)) := snd_aload_n dX0_readPairs_0 rfl
theorem s0_1 {l : Launch} {G : KG} : kOpOK l G 0 1 (.inr (.inl (1, 1, 4))) := ⟨snd_callV (c := 0) dX0_readPairs_1 rfl mok_1 rfl rfl rfl rfl (by decide) rfl wM_0_23 wN_X0_forget wL_X0_forget wI_0 (by decide), rfl, mok_1⟩
theorem s0_4 {l : Launch} {G : KG} : kOpOK l G 0 4 (.inl (g_ald 0 5)) := snd_aload_n dX0_readPairs_4 rfl
theorem s0_5 {l : Launch} {G : KG} : kOpOK l G 0 5 (.inr (.inl (4, 1, 8))) := ⟨snd_callV (c := 0) dX0_readPairs_5 rfl mok_4 rfl rfl rfl rfl (by decide) rfl wM_0_26 wN_X0_skipSpaces wL_X0_skipSpaces wI_0 (by decide), rfl, mok_4⟩
theorem s0_8 {l : Launch} {G : KG} : kOpOK l G 0 8 (.inl (g_ald 0 9)) := snd_aload_n dX0_readPairs_8 rfl
theorem s0_9 {l : Launch} {G : KG} : kOpOK l G 0 9 (.inl (g_gfi 0 4 12)) := snd_gfi (c := 0) (j := 4) (N := 5) dX0_readPairs_9 rfl hin0 (by decide) rfl (by decide) rfl wF_0_29
theorem s0_12 {l : Launch} {G : KG} : kOpOK l G 0 12 (.inl (g_ald 0 13)) := snd_aload_n dX0_readPairs_12 rfl
theorem s0_13 {l : Launch} {G : KG} : kOpOK l G 0 13 (.inl (g_gfi 0 3 16)) := snd_gfi (c := 0) (j := 3) (N := 5) dX0_readPairs_13 rfl hin0 (by decide) rfl (by decide) rfl wF_0_33
theorem s0_16 {l : Launch} {G : KG} : kOpOK l G 0 16 (.inl (g_br2 (fun x y => decide (x < y)) 21 19)) := snd_icmp_lt dX0_readPairs_16 (by decide)
theorem s0_19 {l : Launch} {G : KG} : kOpOK l G 0 19 (.inl (g_push (-1) 20)) := snd_iconst dX0_readPairs_19 rfl
theorem s0_20 {l : Launch} {G : KG} : kOpOK l G 0 20 (.inr (.inr 1)) := ⟨rfl, Or.inr (Or.inl ⟨rfl, dX0_readPairs_20, rfl⟩)⟩
theorem s0_21 {l : Launch} {G : KG} : kOpOK l G 0 21 (.inl (g_push 0 22)) := snd_iconst dX0_readPairs_21 rfl
theorem s0_22 {l : Launch} {G : KG} : kOpOK l G 0 22 (.inl (g_ist 1 23)) := snd_istore_n dX0_readPairs_22 rfl
theorem s0_23 {l : Launch} {G : KG} : kOpOK l G 0 23 (.inl (g_ild 1 24)) := snd_iload_n dX0_readPairs_23 rfl
theorem s0_24 {l : Launch} {G : KG} : kOpOK l G 0 24 (.inl (g_push 10 26)) := snd_bipush dX0_readPairs_24 rfl
theorem s0_26 {l : Launch} {G : KG} : kOpOK l G 0 26 (.inl (g_br2 (fun x y => decide (y < x)) 88 29)) := snd_icmp_gt dX0_readPairs_26 (by decide)
theorem s0_29 {l : Launch} {G : KG} : kOpOK l G 0 29 (.inl (g_ald 0 30)) := snd_aload_n dX0_readPairs_29 rfl
theorem s0_30 {l : Launch} {G : KG} : kOpOK l G 0 30 (.inr (.inl (2, 1, 33))) := ⟨snd_callV (c := 0) dX0_readPairs_30 rfl mok_2 rfl rfl rfl rfl (by decide) rfl wM_0_36 wN_X0_readPair wL_X0_readPair wI_0 (by decide), rfl, mok_2⟩
theorem s0_33 {l : Launch} {G : KG} : kOpOK l G 0 33 (.inl (g_ist 2 34)) := snd_istore_n dX0_readPairs_33 rfl
theorem s0_34 {l : Launch} {G : KG} : kOpOK l G 0 34 (.inl (g_ild 2 35)) := snd_iload_n dX0_readPairs_34 rfl
theorem s0_35 {l : Launch} {G : KG} : kOpOK l G 0 35 (.inl (g_push (-1) 36)) := snd_iconst dX0_readPairs_35 rfl
theorem s0_36 {l : Launch} {G : KG} : kOpOK l G 0 36 (.inl (g_br2 (fun x y => decide (x = y)) 41 39)) := snd_icmp_eq dX0_readPairs_36 (by decide)
theorem s0_39 {l : Launch} {G : KG} : kOpOK l G 0 39 (.inl (g_ild 2 40)) := snd_iload_n dX0_readPairs_39 rfl
theorem s0_40 {l : Launch} {G : KG} : kOpOK l G 0 40 (.inr (.inr 1)) := ⟨rfl, Or.inr (Or.inl ⟨rfl, dX0_readPairs_40, rfl⟩)⟩
theorem s0_41 {l : Launch} {G : KG} : kOpOK l G 0 41 (.inl (g_ald 0 42)) := snd_aload_n dX0_readPairs_41 rfl
theorem s0_42 {l : Launch} {G : KG} : kOpOK l G 0 42 (.inr (.inl (4, 1, 45))) := ⟨snd_callV (c := 0) dX0_readPairs_42 rfl mok_4 rfl rfl rfl rfl (by decide) rfl wM_0_26 wN_X0_skipSpaces wL_X0_skipSpaces wI_0 (by decide), rfl, mok_4⟩
theorem s0_45 {l : Launch} {G : KG} : kOpOK l G 0 45 (.inl (g_ald 0 46)) := snd_aload_n dX0_readPairs_45 rfl
theorem s0_46 {l : Launch} {G : KG} : kOpOK l G 0 46 (.inl (g_gfi 0 4 49)) := snd_gfi (c := 0) (j := 4) (N := 5) dX0_readPairs_46 rfl hin0 (by decide) rfl (by decide) rfl wF_0_29
theorem s0_49 {l : Launch} {G : KG} : kOpOK l G 0 49 (.inl (g_ald 0 50)) := snd_aload_n dX0_readPairs_49 rfl
theorem s0_50 {l : Launch} {G : KG} : kOpOK l G 0 50 (.inl (g_gfi 0 3 53)) := snd_gfi (c := 0) (j := 3) (N := 5) dX0_readPairs_50 rfl hin0 (by decide) rfl (by decide) rfl wF_0_33
theorem s0_53 {l : Launch} {G : KG} : kOpOK l G 0 53 (.inl (g_br2 (fun x y => decide (x < y)) 58 56)) := snd_icmp_lt dX0_readPairs_53 (by decide)
theorem s0_56 {l : Launch} {G : KG} : kOpOK l G 0 56 (.inl (g_push (-1) 57)) := snd_iconst dX0_readPairs_56 rfl
theorem s0_57 {l : Launch} {G : KG} : kOpOK l G 0 57 (.inr (.inr 1)) := ⟨rfl, Or.inr (Or.inl ⟨rfl, dX0_readPairs_57, rfl⟩)⟩
theorem s0_58 {l : Launch} {G : KG} : kOpOK l G 0 58 (.inl (g_ald 0 59)) := snd_aload_n dX0_readPairs_58 rfl
theorem s0_59 {l : Launch} {G : KG} : kOpOK l G 0 59 (.inl (g_push 44 61)) := snd_bipush dX0_readPairs_59 rfl
theorem s0_61 {l : Launch} {G : KG} : kOpOK l G 0 61 (.inr (.inl (5, 2, 64))) := ⟨snd_callV (c := 0) dX0_readPairs_61 rfl mok_5 rfl rfl rfl rfl (by decide) rfl wM_0_40 wN_X0_isSign wL_X0_isSign wI_0 (by decide), rfl, mok_5⟩
theorem s0_64 {l : Launch} {G : KG} : kOpOK l G 0 64 (.inl (g_br1 (fun x => decide (¬ x = 0)) 72 67)) := snd_if_ne dX0_readPairs_64 (by decide)
theorem s0_67 {l : Launch} {G : KG} : kOpOK l G 0 67 (.inl (g_ald 0 68)) := snd_aload_n dX0_readPairs_67 rfl
theorem s0_68 {l : Launch} {G : KG} : kOpOK l G 0 68 (.inl (g_gfi 0 4 71)) := snd_gfi (c := 0) (j := 4) (N := 5) dX0_readPairs_68 rfl hin0 (by decide) rfl (by decide) rfl wF_0_29
theorem s0_71 {l : Launch} {G : KG} : kOpOK l G 0 71 (.inr (.inr 1)) := ⟨rfl, Or.inr (Or.inl ⟨rfl, dX0_readPairs_71, rfl⟩)⟩
theorem s0_72 {l : Launch} {G : KG} : kOpOK l G 0 72 (.inl (g_ald 0 73)) := snd_aload_n dX0_readPairs_72 rfl
theorem s0_73 {l : Launch} {G : KG} : kOpOK l G 0 73 (.inl (g_dup 74)) := snd_dup dX0_readPairs_73
theorem s0_74 {l : Launch} {G : KG} : kOpOK l G 0 74 (.inl (g_gfi 0 4 77)) := snd_gfi (c := 0) (j := 4) (N := 5) dX0_readPairs_74 rfl hin0 (by decide) rfl (by decide) rfl wF_0_29
theorem s0_77 {l : Launch} {G : KG} : kOpOK l G 0 77 (.inl (g_push 1 78)) := snd_iconst dX0_readPairs_77 rfl
theorem s0_78 {l : Launch} {G : KG} : kOpOK l G 0 78 (.inl (g_iop (fun x y => x + y) 79)) := snd_iadd dX0_readPairs_78
theorem s0_79 {l : Launch} {G : KG} : kOpOK l G 0 79 (.inl (g_pfi 0 4 82)) := snd_pfi (c := 0) (j := 4) (N := 5) dX0_readPairs_79 rfl hin0 (by decide) rfl (by decide) rfl wF_0_29 tyX0 tyX0_ok nmX0 rfl (by decide +kernel)
theorem s0_82 {l : Launch} {G : KG} : kOpOK l G 0 82 (.inl (g_iinc 1 1 85)) := snd_iinc dX0_readPairs_82 rfl
theorem s0_85 {l : Launch} {G : KG} : kOpOK l G 0 85 (.inl (g_goto 23)) := snd_goto dX0_readPairs_85 (by decide)
theorem s0_88 {l : Launch} {G : KG} : kOpOK l G 0 88 (.inl (g_ald 0 89)) := snd_aload_n dX0_readPairs_88 rfl
theorem s0_89 {l : Launch} {G : KG} : kOpOK l G 0 89 (.inl (g_gfi 0 4 92)) := snd_gfi (c := 0) (j := 4) (N := 5) dX0_readPairs_89 rfl hin0 (by decide) rfl (by decide) rfl wF_0_29
theorem s0_92 {l : Launch} {G : KG} : kOpOK l G 0 92 (.inr (.inr 1)) := ⟨rfl, Or.inr (Or.inl ⟨rfl, dX0_readPairs_92, rfl⟩)⟩
theorem s1_0 {l : Launch} {G : KG} : kOpOK l G 1 0 (.inl (g_push 0 1)) := snd_iconst dX0_forget_0 rfl
theorem s1_1 {l : Launch} {G : KG} : kOpOK l G 1 1 (.inl (g_ist 1 2)) := snd_istore_n dX0_forget_1 rfl
theorem s1_2 {l : Launch} {G : KG} : kOpOK l G 1 2 (.inl (g_ild 1 3)) := snd_iload_n dX0_forget_2 rfl
theorem s1_3 {l : Launch} {G : KG} : kOpOK l G 1 3 (.inl (g_push 10 5)) := snd_bipush dX0_forget_3 rfl
theorem s1_5 {l : Launch} {G : KG} : kOpOK l G 1 5 (.inl (g_br2 (fun x y => decide (y ≤ x)) 28 8)) := snd_icmp_ge dX0_forget_5 (by decide)
theorem s1_8 {l : Launch} {G : KG} : kOpOK l G 1 8 (.inl (g_ald 0 9)) := snd_aload_n dX0_forget_8 rfl
theorem s1_9 {l : Launch} {G : KG} : kOpOK l G 1 9 (.inl (g_gfr 0 1 12)) := snd_gfr (c := 0) (j := 1) (N := 5) dX0_forget_9 rfl hin0 (by decide) rfl (by decide) rfl wF_0_15
theorem s1_12 {l : Launch} {G : KG} : kOpOK l G 1 12 (.inl (g_ild 1 13)) := snd_iload_n dX0_forget_12 rfl
theorem s1_13 {l : Launch} {G : KG} : kOpOK l G 1 13 (.inl (g_push 0 14)) := snd_iconst dX0_forget_13 rfl
theorem s1_14 {l : Launch} {G : KG} : kOpOK l G 1 14 (.inl (g_past 5 15)) := snd_past5 dX0_forget_14
theorem s1_15 {l : Launch} {G : KG} : kOpOK l G 1 15 (.inl (g_ald 0 16)) := snd_aload_n dX0_forget_15 rfl
theorem s1_16 {l : Launch} {G : KG} : kOpOK l G 1 16 (.inl (g_gfr 0 2 19)) := snd_gfr (c := 0) (j := 2) (N := 5) dX0_forget_16 rfl hin0 (by decide) rfl (by decide) rfl wF_0_19
theorem s1_19 {l : Launch} {G : KG} : kOpOK l G 1 19 (.inl (g_ild 1 20)) := snd_iload_n dX0_forget_19 rfl
theorem s1_20 {l : Launch} {G : KG} : kOpOK l G 1 20 (.inl (g_push 0 21)) := snd_iconst dX0_forget_20 rfl
theorem s1_21 {l : Launch} {G : KG} : kOpOK l G 1 21 (.inl (g_past 7 22)) := snd_past7 dX0_forget_21
theorem s1_22 {l : Launch} {G : KG} : kOpOK l G 1 22 (.inl (g_iinc 1 1 25)) := snd_iinc dX0_forget_22 rfl
theorem s1_25 {l : Launch} {G : KG} : kOpOK l G 1 25 (.inl (g_goto 2)) := snd_goto dX0_forget_25 (by decide)
theorem s1_28 {l : Launch} {G : KG} : kOpOK l G 1 28 (.inl (g_ald 0 29)) := snd_aload_n dX0_forget_28 rfl
theorem s1_29 {l : Launch} {G : KG} : kOpOK l G 1 29 (.inl (g_push 0 30)) := snd_iconst dX0_forget_29 rfl
theorem s1_30 {l : Launch} {G : KG} : kOpOK l G 1 30 (.inl (g_pfi 0 4 33)) := snd_pfi (c := 0) (j := 4) (N := 5) dX0_forget_30 rfl hin0 (by decide) rfl (by decide) rfl wF_0_29 tyX0 tyX0_ok nmX0 rfl (by decide +kernel)
theorem s1_33 {l : Launch} {G : KG} : kOpOK l G 1 33 (.inr (.inr 0)) := ⟨rfl, Or.inl ⟨rfl, dX0_forget_33, rfl⟩⟩
theorem s2_0 {l : Launch} {G : KG} : kOpOK l G 2 0 (.inl (g_ald 0 1)) := snd_aload_n dX0_readPair_0 rfl
theorem s2_1 {l : Launch} {G : KG} : kOpOK l G 2 1 (.inr (.inl (4, 1, 4))) := ⟨snd_callV (c := 0) dX0_readPair_1 rfl mok_4 rfl rfl rfl rfl (by decide) rfl wM_0_26 wN_X0_skipSpaces wL_X0_skipSpaces wI_0 (by decide), rfl, mok_4⟩
theorem s2_4 {l : Launch} {G : KG} : kOpOK l G 2 4 (.inl (g_ald 0 5)) := snd_aload_n dX0_readPair_4 rfl
theorem s2_5 {l : Launch} {G : KG} : kOpOK l G 2 5 (.inr (.inl (6, 1, 8))) := ⟨snd_callV (c := 0) dX0_readPair_5 rfl mok_6 rfl rfl rfl rfl (by decide) rfl wM_0_44 wN_X0_isDigit wL_X0_isDigit wI_0 (by decide), rfl, mok_6⟩
theorem s2_8 {l : Launch} {G : KG} : kOpOK l G 2 8 (.inl (g_br1 (fun x => decide (¬ x = 0)) 16 11)) := snd_if_ne dX0_readPair_8 (by decide)
theorem s2_11 {l : Launch} {G : KG} : kOpOK l G 2 11 (.inl (g_ald 0 12)) := snd_aload_n dX0_readPair_11 rfl
theorem s2_12 {l : Launch} {G : KG} : kOpOK l G 2 12 (.inl (g_gfi 0 4 15)) := snd_gfi (c := 0) (j := 4) (N := 5) dX0_readPair_12 rfl hin0 (by decide) rfl (by decide) rfl wF_0_29
theorem s2_15 {l : Launch} {G : KG} : kOpOK l G 2 15 (.inr (.inr 1)) := ⟨rfl, Or.inr (Or.inl ⟨rfl, dX0_readPair_15, rfl⟩)⟩
theorem s2_16 {l : Launch} {G : KG} : kOpOK l G 2 16 (.inl (g_ald 0 17)) := snd_aload_n dX0_readPair_16 rfl
theorem s2_17 {l : Launch} {G : KG} : kOpOK l G 2 17 (.inr (.inl (7, 1, 20))) := ⟨snd_callV (c := 0) dX0_readPair_17 rfl mok_7 rfl rfl rfl rfl (by decide) rfl wM_0_48 wN_X0_digit wL_X0_digit wI_0 (by decide), rfl, mok_7⟩
theorem s2_20 {l : Launch} {G : KG} : kOpOK l G 2 20 (.inl (g_ist 1 21)) := snd_istore_n dX0_readPair_20 rfl
theorem s2_21 {l : Launch} {G : KG} : kOpOK l G 2 21 (.inl (g_ald 0 22)) := snd_aload_n dX0_readPair_21 rfl
theorem s2_22 {l : Launch} {G : KG} : kOpOK l G 2 22 (.inl (g_gfr 0 2 25)) := snd_gfr (c := 0) (j := 2) (N := 5) dX0_readPair_22 rfl hin0 (by decide) rfl (by decide) rfl wF_0_19
theorem s2_25 {l : Launch} {G : KG} : kOpOK l G 2 25 (.inl (g_ild 1 26)) := snd_iload_n dX0_readPair_25 rfl
theorem s2_26 {l : Launch} {G : KG} : kOpOK l G 2 26 (.inl (g_pald 7 27)) := snd_pald7 dX0_readPair_26
theorem s2_27 {l : Launch} {G : KG} : kOpOK l G 2 27 (.inl (g_br1 (fun x => decide (x = 0)) 35 30)) := snd_if_eq dX0_readPair_27 (by decide)
theorem s2_30 {l : Launch} {G : KG} : kOpOK l G 2 30 (.inl (g_ald 0 31)) := snd_aload_n dX0_readPair_30 rfl
theorem s2_31 {l : Launch} {G : KG} : kOpOK l G 2 31 (.inl (g_gfi 0 4 34)) := snd_gfi (c := 0) (j := 4) (N := 5) dX0_readPair_31 rfl hin0 (by decide) rfl (by decide) rfl wF_0_29
theorem s2_34 {l : Launch} {G : KG} : kOpOK l G 2 34 (.inr (.inr 1)) := ⟨rfl, Or.inr (Or.inl ⟨rfl, dX0_readPair_34, rfl⟩)⟩
theorem s2_35 {l : Launch} {G : KG} : kOpOK l G 2 35 (.inl (g_ald 0 36)) := snd_aload_n dX0_readPair_35 rfl
theorem s2_36 {l : Launch} {G : KG} : kOpOK l G 2 36 (.inl (g_gfr 0 2 39)) := snd_gfr (c := 0) (j := 2) (N := 5) dX0_readPair_36 rfl hin0 (by decide) rfl (by decide) rfl wF_0_19
theorem s2_39 {l : Launch} {G : KG} : kOpOK l G 2 39 (.inl (g_ild 1 40)) := snd_iload_n dX0_readPair_39 rfl
theorem s2_40 {l : Launch} {G : KG} : kOpOK l G 2 40 (.inl (g_push 1 41)) := snd_iconst dX0_readPair_40 rfl
theorem s2_41 {l : Launch} {G : KG} : kOpOK l G 2 41 (.inl (g_past 7 42)) := snd_past7 dX0_readPair_41
theorem s2_42 {l : Launch} {G : KG} : kOpOK l G 2 42 (.inl (g_ald 0 43)) := snd_aload_n dX0_readPair_42 rfl
theorem s2_43 {l : Launch} {G : KG} : kOpOK l G 2 43 (.inl (g_dup 44)) := snd_dup dX0_readPair_43
theorem s2_44 {l : Launch} {G : KG} : kOpOK l G 2 44 (.inl (g_gfi 0 4 47)) := snd_gfi (c := 0) (j := 4) (N := 5) dX0_readPair_44 rfl hin0 (by decide) rfl (by decide) rfl wF_0_29
theorem s2_47 {l : Launch} {G : KG} : kOpOK l G 2 47 (.inl (g_push 1 48)) := snd_iconst dX0_readPair_47 rfl
theorem s2_48 {l : Launch} {G : KG} : kOpOK l G 2 48 (.inl (g_iop (fun x y => x + y) 49)) := snd_iadd dX0_readPair_48
theorem s2_49 {l : Launch} {G : KG} : kOpOK l G 2 49 (.inl (g_pfi 0 4 52)) := snd_pfi (c := 0) (j := 4) (N := 5) dX0_readPair_49 rfl hin0 (by decide) rfl (by decide) rfl wF_0_29 tyX0 tyX0_ok nmX0 rfl (by decide +kernel)
theorem s2_52 {l : Launch} {G : KG} : kOpOK l G 2 52 (.inl (g_ald 0 53)) := snd_aload_n dX0_readPair_52 rfl
theorem s2_53 {l : Launch} {G : KG} : kOpOK l G 2 53 (.inr (.inl (4, 1, 56))) := ⟨snd_callV (c := 0) dX0_readPair_53 rfl mok_4 rfl rfl rfl rfl (by decide) rfl wM_0_26 wN_X0_skipSpaces wL_X0_skipSpaces wI_0 (by decide), rfl, mok_4⟩
theorem s2_56 {l : Launch} {G : KG} : kOpOK l G 2 56 (.inl (g_ald 0 57)) := snd_aload_n dX0_readPair_56 rfl
theorem s2_57 {l : Launch} {G : KG} : kOpOK l G 2 57 (.inl (g_push 58 59)) := snd_bipush dX0_readPair_57 rfl
theorem s2_59 {l : Launch} {G : KG} : kOpOK l G 2 59 (.inr (.inl (5, 2, 62))) := ⟨snd_callV (c := 0) dX0_readPair_59 rfl mok_5 rfl rfl rfl rfl (by decide) rfl wM_0_40 wN_X0_isSign wL_X0_isSign wI_0 (by decide), rfl, mok_5⟩
theorem s2_62 {l : Launch} {G : KG} : kOpOK l G 2 62 (.inl (g_br1 (fun x => decide (¬ x = 0)) 70 65)) := snd_if_ne dX0_readPair_62 (by decide)
theorem s2_65 {l : Launch} {G : KG} : kOpOK l G 2 65 (.inl (g_ald 0 66)) := snd_aload_n dX0_readPair_65 rfl
theorem s2_66 {l : Launch} {G : KG} : kOpOK l G 2 66 (.inl (g_gfi 0 4 69)) := snd_gfi (c := 0) (j := 4) (N := 5) dX0_readPair_66 rfl hin0 (by decide) rfl (by decide) rfl wF_0_29
theorem s2_69 {l : Launch} {G : KG} : kOpOK l G 2 69 (.inr (.inr 1)) := ⟨rfl, Or.inr (Or.inl ⟨rfl, dX0_readPair_69, rfl⟩)⟩
theorem s2_70 {l : Launch} {G : KG} : kOpOK l G 2 70 (.inl (g_ald 0 71)) := snd_aload_n dX0_readPair_70 rfl
theorem s2_71 {l : Launch} {G : KG} : kOpOK l G 2 71 (.inl (g_dup 72)) := snd_dup dX0_readPair_71
theorem s2_72 {l : Launch} {G : KG} : kOpOK l G 2 72 (.inl (g_gfi 0 4 75)) := snd_gfi (c := 0) (j := 4) (N := 5) dX0_readPair_72 rfl hin0 (by decide) rfl (by decide) rfl wF_0_29
theorem s2_75 {l : Launch} {G : KG} : kOpOK l G 2 75 (.inl (g_push 1 76)) := snd_iconst dX0_readPair_75 rfl
theorem s2_76 {l : Launch} {G : KG} : kOpOK l G 2 76 (.inl (g_iop (fun x y => x + y) 77)) := snd_iadd dX0_readPair_76
theorem s2_77 {l : Launch} {G : KG} : kOpOK l G 2 77 (.inl (g_pfi 0 4 80)) := snd_pfi (c := 0) (j := 4) (N := 5) dX0_readPair_77 rfl hin0 (by decide) rfl (by decide) rfl wF_0_29 tyX0 tyX0_ok nmX0 rfl (by decide +kernel)
theorem s2_80 {l : Launch} {G : KG} : kOpOK l G 2 80 (.inl (g_ald 0 81)) := snd_aload_n dX0_readPair_80 rfl
theorem s2_81 {l : Launch} {G : KG} : kOpOK l G 2 81 (.inr (.inl (4, 1, 84))) := ⟨snd_callV (c := 0) dX0_readPair_81 rfl mok_4 rfl rfl rfl rfl (by decide) rfl wM_0_26 wN_X0_skipSpaces wL_X0_skipSpaces wI_0 (by decide), rfl, mok_4⟩
theorem s2_84 {l : Launch} {G : KG} : kOpOK l G 2 84 (.inl (g_ald 0 85)) := snd_aload_n dX0_readPair_84 rfl
theorem s2_85 {l : Launch} {G : KG} : kOpOK l G 2 85 (.inl (g_ild 1 86)) := snd_iload_n dX0_readPair_85 rfl
theorem s2_86 {l : Launch} {G : KG} : kOpOK l G 2 86 (.inr (.inl (3, 2, 89))) := ⟨snd_callV (c := 0) dX0_readPair_86 rfl mok_3 rfl rfl rfl rfl (by decide) rfl wM_0_51 wN_X0_readMass wL_X0_readMass wI_0 (by decide), rfl, mok_3⟩
theorem s2_89 {l : Launch} {G : KG} : kOpOK l G 2 89 (.inr (.inr 1)) := ⟨rfl, Or.inr (Or.inl ⟨rfl, dX0_readPair_89, rfl⟩)⟩
theorem s3_0 {l : Launch} {G : KG} : kOpOK l G 3 0 (.inl (g_ald 0 1)) := snd_aload_n dX0_readMass_0 rfl
theorem s3_1 {l : Launch} {G : KG} : kOpOK l G 3 1 (.inl (g_gfi 0 4 4)) := snd_gfi (c := 0) (j := 4) (N := 5) dX0_readMass_1 rfl hin0 (by decide) rfl (by decide) rfl wF_0_29
theorem s3_4 {l : Launch} {G : KG} : kOpOK l G 3 4 (.inl (g_ist 2 5)) := snd_istore_n dX0_readMass_4 rfl
theorem s3_5 {l : Launch} {G : KG} : kOpOK l G 3 5 (.inl (g_push 0 6)) := snd_iconst dX0_readMass_5 rfl
theorem s3_6 {l : Launch} {G : KG} : kOpOK l G 3 6 (.inl (g_ist 3 7)) := snd_istore_n dX0_readMass_6 rfl
theorem s3_7 {l : Launch} {G : KG} : kOpOK l G 3 7 (.inl (g_ald 0 8)) := snd_aload_n dX0_readMass_7 rfl
theorem s3_8 {l : Launch} {G : KG} : kOpOK l G 3 8 (.inl (g_gfi 0 4 11)) := snd_gfi (c := 0) (j := 4) (N := 5) dX0_readMass_8 rfl hin0 (by decide) rfl (by decide) rfl wF_0_29
theorem s3_11 {l : Launch} {G : KG} : kOpOK l G 3 11 (.inl (g_ald 0 12)) := snd_aload_n dX0_readMass_11 rfl
theorem s3_12 {l : Launch} {G : KG} : kOpOK l G 3 12 (.inl (g_gfi 0 3 15)) := snd_gfi (c := 0) (j := 3) (N := 5) dX0_readMass_12 rfl hin0 (by decide) rfl (by decide) rfl wF_0_33
theorem s3_15 {l : Launch} {G : KG} : kOpOK l G 3 15 (.inl (g_br2 (fun x y => decide (y ≤ x)) 48 18)) := snd_icmp_ge dX0_readMass_15 (by decide)
theorem s3_18 {l : Launch} {G : KG} : kOpOK l G 3 18 (.inl (g_ald 0 19)) := snd_aload_n dX0_readMass_18 rfl
theorem s3_19 {l : Launch} {G : KG} : kOpOK l G 3 19 (.inr (.inl (6, 1, 22))) := ⟨snd_callV (c := 0) dX0_readMass_19 rfl mok_6 rfl rfl rfl rfl (by decide) rfl wM_0_44 wN_X0_isDigit wL_X0_isDigit wI_0 (by decide), rfl, mok_6⟩
theorem s3_22 {l : Launch} {G : KG} : kOpOK l G 3 22 (.inl (g_br1 (fun x => decide (x = 0)) 48 25)) := snd_if_eq dX0_readMass_22 (by decide)
theorem s3_25 {l : Launch} {G : KG} : kOpOK l G 3 25 (.inl (g_ild 3 26)) := snd_iload_n dX0_readMass_25 rfl
theorem s3_26 {l : Launch} {G : KG} : kOpOK l G 3 26 (.inl (g_push 10 28)) := snd_bipush dX0_readMass_26 rfl
theorem s3_28 {l : Launch} {G : KG} : kOpOK l G 3 28 (.inl (g_iop (fun x y => x * y) 29)) := snd_imul dX0_readMass_28
theorem s3_29 {l : Launch} {G : KG} : kOpOK l G 3 29 (.inl (g_ald 0 30)) := snd_aload_n dX0_readMass_29 rfl
theorem s3_30 {l : Launch} {G : KG} : kOpOK l G 3 30 (.inr (.inl (7, 1, 33))) := ⟨snd_callV (c := 0) dX0_readMass_30 rfl mok_7 rfl rfl rfl rfl (by decide) rfl wM_0_48 wN_X0_digit wL_X0_digit wI_0 (by decide), rfl, mok_7⟩
theorem s3_33 {l : Launch} {G : KG} : kOpOK l G 3 33 (.inl (g_iop (fun x y => x + y) 34)) := snd_iadd dX0_readMass_33
theorem s3_34 {l : Launch} {G : KG} : kOpOK l G 3 34 (.inl (g_ist 3 35)) := snd_istore_n dX0_readMass_34 rfl
theorem s3_35 {l : Launch} {G : KG} : kOpOK l G 3 35 (.inl (g_ald 0 36)) := snd_aload_n dX0_readMass_35 rfl
theorem s3_36 {l : Launch} {G : KG} : kOpOK l G 3 36 (.inl (g_dup 37)) := snd_dup dX0_readMass_36
theorem s3_37 {l : Launch} {G : KG} : kOpOK l G 3 37 (.inl (g_gfi 0 4 40)) := snd_gfi (c := 0) (j := 4) (N := 5) dX0_readMass_37 rfl hin0 (by decide) rfl (by decide) rfl wF_0_29
theorem s3_40 {l : Launch} {G : KG} : kOpOK l G 3 40 (.inl (g_push 1 41)) := snd_iconst dX0_readMass_40 rfl
theorem s3_41 {l : Launch} {G : KG} : kOpOK l G 3 41 (.inl (g_iop (fun x y => x + y) 42)) := snd_iadd dX0_readMass_41
theorem s3_42 {l : Launch} {G : KG} : kOpOK l G 3 42 (.inl (g_pfi 0 4 45)) := snd_pfi (c := 0) (j := 4) (N := 5) dX0_readMass_42 rfl hin0 (by decide) rfl (by decide) rfl wF_0_29 tyX0 tyX0_ok nmX0 rfl (by decide +kernel)
theorem s3_45 {l : Launch} {G : KG} : kOpOK l G 3 45 (.inl (g_goto 7)) := snd_goto dX0_readMass_45 (by decide)
theorem s3_48 {l : Launch} {G : KG} : kOpOK l G 3 48 (.inl (g_ald 0 49)) := snd_aload_n dX0_readMass_48 rfl
theorem s3_49 {l : Launch} {G : KG} : kOpOK l G 3 49 (.inl (g_gfi 0 4 52)) := snd_gfi (c := 0) (j := 4) (N := 5) dX0_readMass_49 rfl hin0 (by decide) rfl (by decide) rfl wF_0_29
theorem s3_52 {l : Launch} {G : KG} : kOpOK l G 3 52 (.inl (g_ild 2 53)) := snd_iload_n dX0_readMass_52 rfl
theorem s3_53 {l : Launch} {G : KG} : kOpOK l G 3 53 (.inl (g_iop (fun x y => x - y) 54)) := snd_isub dX0_readMass_53
theorem s3_54 {l : Launch} {G : KG} : kOpOK l G 3 54 (.inl (g_ist 4 56)) := snd_istore dX0_readMass_54
theorem s3_56 {l : Launch} {G : KG} : kOpOK l G 3 56 (.inl (g_ild 4 58)) := snd_iload dX0_readMass_56
theorem s3_58 {l : Launch} {G : KG} : kOpOK l G 3 58 (.inl (g_br1 (fun x => decide (¬ x = 0)) 66 61)) := snd_if_ne dX0_readMass_58 (by decide)
theorem s3_61 {l : Launch} {G : KG} : kOpOK l G 3 61 (.inl (g_ald 0 62)) := snd_aload_n dX0_readMass_61 rfl
theorem s3_62 {l : Launch} {G : KG} : kOpOK l G 3 62 (.inl (g_gfi 0 4 65)) := snd_gfi (c := 0) (j := 4) (N := 5) dX0_readMass_62 rfl hin0 (by decide) rfl (by decide) rfl wF_0_29
theorem s3_65 {l : Launch} {G : KG} : kOpOK l G 3 65 (.inr (.inr 1)) := ⟨rfl, Or.inr (Or.inl ⟨rfl, dX0_readMass_65, rfl⟩)⟩
theorem s3_66 {l : Launch} {G : KG} : kOpOK l G 3 66 (.inl (g_ild 4 68)) := snd_iload dX0_readMass_66
theorem s3_68 {l : Launch} {G : KG} : kOpOK l G 3 68 (.inl (g_push 1 69)) := snd_iconst dX0_readMass_68 rfl
theorem s3_69 {l : Launch} {G : KG} : kOpOK l G 3 69 (.inl (g_br2 (fun x y => decide (x ≤ y)) 87 72)) := snd_icmp_le dX0_readMass_69 (by decide)
theorem s3_72 {l : Launch} {G : KG} : kOpOK l G 3 72 (.inl (g_ald 0 73)) := snd_aload_n dX0_readMass_72 rfl
theorem s3_73 {l : Launch} {G : KG} : kOpOK l G 3 73 (.inl (g_gfr 0 0 76)) := snd_gfr (c := 0) (j := 0) (N := 5) dX0_readMass_73 rfl hin0 (by decide) rfl (by decide) rfl wF_0_9
theorem s3_76 {l : Launch} {G : KG} : kOpOK l G 3 76 (.inl (g_ild 2 77)) := snd_iload_n dX0_readMass_76 rfl
theorem s3_77 {l : Launch} {G : KG} : kOpOK l G 3 77 (.inl (g_pald 6 78)) := snd_pald6 dX0_readMass_77
theorem s3_78 {l : Launch} {G : KG} : kOpOK l G 3 78 (.inl (g_push 48 80)) := snd_bipush dX0_readMass_78 rfl
theorem s3_80 {l : Launch} {G : KG} : kOpOK l G 3 80 (.inl (g_br2 (fun x y => decide (¬ x = y)) 87 83)) := snd_icmp_ne dX0_readMass_80 (by decide)
theorem s3_83 {l : Launch} {G : KG} : kOpOK l G 3 83 (.inl (g_push 1 84)) := snd_iconst dX0_readMass_83 rfl
theorem s3_84 {l : Launch} {G : KG} : kOpOK l G 3 84 (.inl (g_goto 88)) := snd_goto dX0_readMass_84 (by decide)
theorem s3_87 {l : Launch} {G : KG} : kOpOK l G 3 87 (.inl (g_push 0 88)) := snd_iconst dX0_readMass_87 rfl
theorem s3_88 {l : Launch} {G : KG} : kOpOK l G 3 88 (.inl (g_ist 5 90)) := snd_istore dX0_readMass_88
theorem s3_90 {l : Launch} {G : KG} : kOpOK l G 3 90 (.inl (g_ild 5 92)) := snd_iload dX0_readMass_90
theorem s3_92 {l : Launch} {G : KG} : kOpOK l G 3 92 (.inl (g_br1 (fun x => decide (¬ x = 0)) 101 95)) := snd_if_ne dX0_readMass_92 (by decide)
theorem s3_95 {l : Launch} {G : KG} : kOpOK l G 3 95 (.inl (g_ild 4 97)) := snd_iload dX0_readMass_95
theorem s3_97 {l : Launch} {G : KG} : kOpOK l G 3 97 (.inl (g_push 4 98)) := snd_iconst dX0_readMass_97 rfl
theorem s3_98 {l : Launch} {G : KG} : kOpOK l G 3 98 (.inl (g_br2 (fun x y => decide (x ≤ y)) 103 101)) := snd_icmp_le dX0_readMass_98 (by decide)
theorem s3_101 {l : Launch} {G : KG} : kOpOK l G 3 101 (.inl (g_ild 2 102)) := snd_iload_n dX0_readMass_101 rfl
theorem s3_102 {l : Launch} {G : KG} : kOpOK l G 3 102 (.inr (.inr 1)) := ⟨rfl, Or.inr (Or.inl ⟨rfl, dX0_readMass_102, rfl⟩)⟩
theorem s3_103 {l : Launch} {G : KG} : kOpOK l G 3 103 (.inl (g_ald 0 104)) := snd_aload_n dX0_readMass_103 rfl
theorem s3_104 {l : Launch} {G : KG} : kOpOK l G 3 104 (.inl (g_gfr 0 1 107)) := snd_gfr (c := 0) (j := 1) (N := 5) dX0_readMass_104 rfl hin0 (by decide) rfl (by decide) rfl wF_0_15
theorem s3_107 {l : Launch} {G : KG} : kOpOK l G 3 107 (.inl (g_ild 1 108)) := snd_iload_n dX0_readMass_107 rfl
theorem s3_108 {l : Launch} {G : KG} : kOpOK l G 3 108 (.inl (g_ild 3 109)) := snd_iload_n dX0_readMass_108 rfl
theorem s3_109 {l : Launch} {G : KG} : kOpOK l G 3 109 (.inl (g_past 5 110)) := snd_past5 dX0_readMass_109
theorem s3_110 {l : Launch} {G : KG} : kOpOK l G 3 110 (.inl (g_push (-1) 111)) := snd_iconst dX0_readMass_110 rfl
theorem s3_111 {l : Launch} {G : KG} : kOpOK l G 3 111 (.inr (.inr 1)) := ⟨rfl, Or.inr (Or.inl ⟨rfl, dX0_readMass_111, rfl⟩)⟩
theorem s4_0 {l : Launch} {G : KG} : kOpOK l G 4 0 (.inl (g_ald 0 1)) := snd_aload_n dX0_skipSpaces_0 rfl
theorem s4_1 {l : Launch} {G : KG} : kOpOK l G 4 1 (.inl (g_gfi 0 4 4)) := snd_gfi (c := 0) (j := 4) (N := 5) dX0_skipSpaces_1 rfl hin0 (by decide) rfl (by decide) rfl wF_0_29
theorem s4_4 {l : Launch} {G : KG} : kOpOK l G 4 4 (.inl (g_ald 0 5)) := snd_aload_n dX0_skipSpaces_4 rfl
theorem s4_5 {l : Launch} {G : KG} : kOpOK l G 4 5 (.inl (g_gfi 0 3 8)) := snd_gfi (c := 0) (j := 3) (N := 5) dX0_skipSpaces_5 rfl hin0 (by decide) rfl (by decide) rfl wF_0_33
theorem s4_8 {l : Launch} {G : KG} : kOpOK l G 4 8 (.inl (g_br2 (fun x y => decide (y ≤ x)) 33 11)) := snd_icmp_ge dX0_skipSpaces_8 (by decide)
theorem s4_11 {l : Launch} {G : KG} : kOpOK l G 4 11 (.inl (g_ald 0 12)) := snd_aload_n dX0_skipSpaces_11 rfl
theorem s4_12 {l : Launch} {G : KG} : kOpOK l G 4 12 (.inl (g_push 32 14)) := snd_bipush dX0_skipSpaces_12 rfl
theorem s4_14 {l : Launch} {G : KG} : kOpOK l G 4 14 (.inr (.inl (5, 2, 17))) := ⟨snd_callV (c := 0) dX0_skipSpaces_14 rfl mok_5 rfl rfl rfl rfl (by decide) rfl wM_0_40 wN_X0_isSign wL_X0_isSign wI_0 (by decide), rfl, mok_5⟩
theorem s4_17 {l : Launch} {G : KG} : kOpOK l G 4 17 (.inl (g_br1 (fun x => decide (x = 0)) 33 20)) := snd_if_eq dX0_skipSpaces_17 (by decide)
theorem s4_20 {l : Launch} {G : KG} : kOpOK l G 4 20 (.inl (g_ald 0 21)) := snd_aload_n dX0_skipSpaces_20 rfl
theorem s4_21 {l : Launch} {G : KG} : kOpOK l G 4 21 (.inl (g_dup 22)) := snd_dup dX0_skipSpaces_21
theorem s4_22 {l : Launch} {G : KG} : kOpOK l G 4 22 (.inl (g_gfi 0 4 25)) := snd_gfi (c := 0) (j := 4) (N := 5) dX0_skipSpaces_22 rfl hin0 (by decide) rfl (by decide) rfl wF_0_29
theorem s4_25 {l : Launch} {G : KG} : kOpOK l G 4 25 (.inl (g_push 1 26)) := snd_iconst dX0_skipSpaces_25 rfl
theorem s4_26 {l : Launch} {G : KG} : kOpOK l G 4 26 (.inl (g_iop (fun x y => x + y) 27)) := snd_iadd dX0_skipSpaces_26
theorem s4_27 {l : Launch} {G : KG} : kOpOK l G 4 27 (.inl (g_pfi 0 4 30)) := snd_pfi (c := 0) (j := 4) (N := 5) dX0_skipSpaces_27 rfl hin0 (by decide) rfl (by decide) rfl wF_0_29 tyX0 tyX0_ok nmX0 rfl (by decide +kernel)
theorem s4_30 {l : Launch} {G : KG} : kOpOK l G 4 30 (.inl (g_goto 0)) := snd_goto dX0_skipSpaces_30 (by decide)
theorem s4_33 {l : Launch} {G : KG} : kOpOK l G 4 33 (.inr (.inr 0)) := ⟨rfl, Or.inl ⟨rfl, dX0_skipSpaces_33, rfl⟩⟩
theorem s5_0 {l : Launch} {G : KG} : kOpOK l G 5 0 (.inl (g_ald 0 1)) := snd_aload_n dX0_isSign_0 rfl
theorem s5_1 {l : Launch} {G : KG} : kOpOK l G 5 1 (.inl (g_gfi 0 4 4)) := snd_gfi (c := 0) (j := 4) (N := 5) dX0_isSign_1 rfl hin0 (by decide) rfl (by decide) rfl wF_0_29
theorem s5_4 {l : Launch} {G : KG} : kOpOK l G 5 4 (.inl (g_ald 0 5)) := snd_aload_n dX0_isSign_4 rfl
theorem s5_5 {l : Launch} {G : KG} : kOpOK l G 5 5 (.inl (g_gfi 0 3 8)) := snd_gfi (c := 0) (j := 3) (N := 5) dX0_isSign_5 rfl hin0 (by decide) rfl (by decide) rfl wF_0_33
theorem s5_8 {l : Launch} {G : KG} : kOpOK l G 5 8 (.inl (g_br2 (fun x y => decide (y ≤ x)) 28 11)) := snd_icmp_ge dX0_isSign_8 (by decide)
theorem s5_11 {l : Launch} {G : KG} : kOpOK l G 5 11 (.inl (g_ald 0 12)) := snd_aload_n dX0_isSign_11 rfl
theorem s5_12 {l : Launch} {G : KG} : kOpOK l G 5 12 (.inl (g_gfr 0 0 15)) := snd_gfr (c := 0) (j := 0) (N := 5) dX0_isSign_12 rfl hin0 (by decide) rfl (by decide) rfl wF_0_9
theorem s5_15 {l : Launch} {G : KG} : kOpOK l G 5 15 (.inl (g_ald 0 16)) := snd_aload_n dX0_isSign_15 rfl
theorem s5_16 {l : Launch} {G : KG} : kOpOK l G 5 16 (.inl (g_gfi 0 4 19)) := snd_gfi (c := 0) (j := 4) (N := 5) dX0_isSign_16 rfl hin0 (by decide) rfl (by decide) rfl wF_0_29
theorem s5_19 {l : Launch} {G : KG} : kOpOK l G 5 19 (.inl (g_pald 6 20)) := snd_pald6 dX0_isSign_19
theorem s5_20 {l : Launch} {G : KG} : kOpOK l G 5 20 (.inl (g_ild 1 21)) := snd_iload_n dX0_isSign_20 rfl
theorem s5_21 {l : Launch} {G : KG} : kOpOK l G 5 21 (.inl (g_br2 (fun x y => decide (¬ x = y)) 28 24)) := snd_icmp_ne dX0_isSign_21 (by decide)
theorem s5_24 {l : Launch} {G : KG} : kOpOK l G 5 24 (.inl (g_push 1 25)) := snd_iconst dX0_isSign_24 rfl
theorem s5_25 {l : Launch} {G : KG} : kOpOK l G 5 25 (.inl (g_goto 29)) := snd_goto dX0_isSign_25 (by decide)
theorem s5_28 {l : Launch} {G : KG} : kOpOK l G 5 28 (.inl (g_push 0 29)) := snd_iconst dX0_isSign_28 rfl
theorem s5_29 {l : Launch} {G : KG} : kOpOK l G 5 29 (.inr (.inr 2)) := ⟨rfl, Or.inr (Or.inr ⟨rfl, dX0_isSign_29, rfl⟩)⟩
theorem s6_0 {l : Launch} {G : KG} : kOpOK l G 6 0 (.inl (g_ald 0 1)) := snd_aload_n dX0_isDigit_0 rfl
theorem s6_1 {l : Launch} {G : KG} : kOpOK l G 6 1 (.inl (g_gfi 0 4 4)) := snd_gfi (c := 0) (j := 4) (N := 5) dX0_isDigit_1 rfl hin0 (by decide) rfl (by decide) rfl wF_0_29
theorem s6_4 {l : Launch} {G : KG} : kOpOK l G 6 4 (.inl (g_ald 0 5)) := snd_aload_n dX0_isDigit_4 rfl
theorem s6_5 {l : Launch} {G : KG} : kOpOK l G 6 5 (.inl (g_gfi 0 3 8)) := snd_gfi (c := 0) (j := 3) (N := 5) dX0_isDigit_5 rfl hin0 (by decide) rfl (by decide) rfl wF_0_33
theorem s6_8 {l : Launch} {G : KG} : kOpOK l G 6 8 (.inl (g_br2 (fun x y => decide (y ≤ x)) 34 11)) := snd_icmp_ge dX0_isDigit_8 (by decide)
theorem s6_11 {l : Launch} {G : KG} : kOpOK l G 6 11 (.inl (g_ald 0 12)) := snd_aload_n dX0_isDigit_11 rfl
theorem s6_12 {l : Launch} {G : KG} : kOpOK l G 6 12 (.inl (g_gfr 0 0 15)) := snd_gfr (c := 0) (j := 0) (N := 5) dX0_isDigit_12 rfl hin0 (by decide) rfl (by decide) rfl wF_0_9
theorem s6_15 {l : Launch} {G : KG} : kOpOK l G 6 15 (.inl (g_ald 0 16)) := snd_aload_n dX0_isDigit_15 rfl
theorem s6_16 {l : Launch} {G : KG} : kOpOK l G 6 16 (.inl (g_gfi 0 4 19)) := snd_gfi (c := 0) (j := 4) (N := 5) dX0_isDigit_16 rfl hin0 (by decide) rfl (by decide) rfl wF_0_29
theorem s6_19 {l : Launch} {G : KG} : kOpOK l G 6 19 (.inl (g_pald 6 20)) := snd_pald6 dX0_isDigit_19
theorem s6_20 {l : Launch} {G : KG} : kOpOK l G 6 20 (.inl (g_push 48 22)) := snd_bipush dX0_isDigit_20 rfl
theorem s6_22 {l : Launch} {G : KG} : kOpOK l G 6 22 (.inl (g_push 57 24)) := snd_bipush dX0_isDigit_22 rfl
theorem s6_24 {l : Launch} {G : KG} : kOpOK l G 6 24 (.inr (.inl (59, 3, 27))) := ⟨snd_callSN (host := RX3) (idx := 55) dX0_isDigit_24 rfl mok_59 rfl rfl (by decide +kernel) wS_X3_isIn (by decide), rfl, mok_59⟩
theorem s6_27 {l : Launch} {G : KG} : kOpOK l G 6 27 (.inl (g_br1 (fun x => decide (x = 0)) 34 30)) := snd_if_eq dX0_isDigit_27 (by decide)
theorem s6_30 {l : Launch} {G : KG} : kOpOK l G 6 30 (.inl (g_push 1 31)) := snd_iconst dX0_isDigit_30 rfl
theorem s6_31 {l : Launch} {G : KG} : kOpOK l G 6 31 (.inl (g_goto 35)) := snd_goto dX0_isDigit_31 (by decide)
theorem s6_34 {l : Launch} {G : KG} : kOpOK l G 6 34 (.inl (g_push 0 35)) := snd_iconst dX0_isDigit_34 rfl
theorem s6_35 {l : Launch} {G : KG} : kOpOK l G 6 35 (.inr (.inr 2)) := ⟨rfl, Or.inr (Or.inr ⟨rfl, dX0_isDigit_35, rfl⟩)⟩
theorem s7_0 {l : Launch} {G : KG} : kOpOK l G 7 0 (.inl (g_ald 0 1)) := snd_aload_n dX0_digit_0 rfl
theorem s7_1 {l : Launch} {G : KG} : kOpOK l G 7 1 (.inl (g_gfr 0 0 4)) := snd_gfr (c := 0) (j := 0) (N := 5) dX0_digit_1 rfl hin0 (by decide) rfl (by decide) rfl wF_0_9
theorem s7_4 {l : Launch} {G : KG} : kOpOK l G 7 4 (.inl (g_ald 0 5)) := snd_aload_n dX0_digit_4 rfl
theorem s7_5 {l : Launch} {G : KG} : kOpOK l G 7 5 (.inl (g_gfi 0 4 8)) := snd_gfi (c := 0) (j := 4) (N := 5) dX0_digit_5 rfl hin0 (by decide) rfl (by decide) rfl wF_0_29
theorem s7_8 {l : Launch} {G : KG} : kOpOK l G 7 8 (.inl (g_pald 6 9)) := snd_pald6 dX0_digit_8
theorem s7_9 {l : Launch} {G : KG} : kOpOK l G 7 9 (.inl (g_push 48 11)) := snd_bipush dX0_digit_9 rfl
theorem s7_11 {l : Launch} {G : KG} : kOpOK l G 7 11 (.inl (g_iop (fun x y => x - y) 12)) := snd_isub dX0_digit_11
theorem s7_12 {l : Launch} {G : KG} : kOpOK l G 7 12 (.inr (.inr 1)) := ⟨rfl, Or.inr (Or.inl ⟨rfl, dX0_digit_12, rfl⟩)⟩
theorem s8_0 {l : Launch} {G : KG} : kOpOK l G 8 0 (.inl (g_ald 1 1)) := snd_aload_n dX1_copyFrom_0 rfl
theorem s8_1 {l : Launch} {G : KG} : kOpOK l G 8 1 (.inl (g_gfr 1 0 4)) := snd_gfr (c := 1) (j := 0) (N := 14) dX1_copyFrom_1 rfl hin1 (by decide) rfl (by decide) rfl wF_1_9
theorem s8_4 {l : Launch} {G : KG} : kOpOK l G 8 4 (.inl (g_ald 0 5)) := snd_aload_n dX1_copyFrom_4 rfl
theorem s8_5 {l : Launch} {G : KG} : kOpOK l G 8 5 (.inl (g_gfr 1 0 8)) := snd_gfr (c := 1) (j := 0) (N := 14) dX1_copyFrom_5 rfl hin1 (by decide) rfl (by decide) rfl wF_1_9
theorem s8_8 {l : Launch} {G : KG} : kOpOK l G 8 8 (.inr (.inl (64, 2, 11))) := ⟨snd_callSN (host := RX3) (idx := 44) dX1_copyFrom_8 rfl mok_64 rfl rfl (by decide +kernel) wS_X3_copyRow (by decide), rfl, mok_64⟩
theorem s8_11 {l : Launch} {G : KG} : kOpOK l G 8 11 (.inl (g_ald 1 12)) := snd_aload_n dX1_copyFrom_11 rfl
theorem s8_12 {l : Launch} {G : KG} : kOpOK l G 8 12 (.inl (g_gfr 1 1 15)) := snd_gfr (c := 1) (j := 1) (N := 14) dX1_copyFrom_12 rfl hin1 (by decide) rfl (by decide) rfl wF_1_15
theorem s8_15 {l : Launch} {G : KG} : kOpOK l G 8 15 (.inl (g_ald 0 16)) := snd_aload_n dX1_copyFrom_15 rfl
theorem s8_16 {l : Launch} {G : KG} : kOpOK l G 8 16 (.inl (g_gfr 1 1 19)) := snd_gfr (c := 1) (j := 1) (N := 14) dX1_copyFrom_16 rfl hin1 (by decide) rfl (by decide) rfl wF_1_15
theorem s8_19 {l : Launch} {G : KG} : kOpOK l G 8 19 (.inr (.inl (64, 2, 22))) := ⟨snd_callSN (host := RX3) (idx := 44) dX1_copyFrom_19 rfl mok_64 rfl rfl (by decide +kernel) wS_X3_copyRow (by decide), rfl, mok_64⟩
theorem s8_22 {l : Launch} {G : KG} : kOpOK l G 8 22 (.inl (g_push 0 23)) := snd_iconst dX1_copyFrom_22 rfl
theorem s8_23 {l : Launch} {G : KG} : kOpOK l G 8 23 (.inl (g_ist 2 24)) := snd_istore_n dX1_copyFrom_23 rfl
theorem s8_24 {l : Launch} {G : KG} : kOpOK l G 8 24 (.inl (g_ild 2 25)) := snd_iload_n dX1_copyFrom_24 rfl
theorem s8_25 {l : Launch} {G : KG} : kOpOK l G 8 25 (.inl (g_push 6 27)) := snd_bipush dX1_copyFrom_25 rfl
theorem s8_27 {l : Launch} {G : KG} : kOpOK l G 8 27 (.inl (g_br2 (fun x y => decide (y < x)) 51 30)) := snd_icmp_gt dX1_copyFrom_27 (by decide)
theorem s8_30 {l : Launch} {G : KG} : kOpOK l G 8 30 (.inl (g_ald 0 31)) := snd_aload_n dX1_copyFrom_30 rfl
theorem s8_31 {l : Launch} {G : KG} : kOpOK l G 8 31 (.inl (g_gfr 1 2 34)) := snd_gfr (c := 1) (j := 2) (N := 14) dX1_copyFrom_31 rfl hin1 (by decide) rfl (by decide) rfl wF_1_20
theorem s8_34 {l : Launch} {G : KG} : kOpOK l G 8 34 (.inl (g_ild 2 35)) := snd_iload_n dX1_copyFrom_34 rfl
theorem s8_35 {l : Launch} {G : KG} : kOpOK l G 8 35 (.inl (g_aald 9 36)) := snd_aald9 dX1_copyFrom_35
theorem s8_36 {l : Launch} {G : KG} : kOpOK l G 8 36 (.inl (g_ald 1 37)) := snd_aload_n dX1_copyFrom_36 rfl
theorem s8_37 {l : Launch} {G : KG} : kOpOK l G 8 37 (.inl (g_gfr 1 2 40)) := snd_gfr (c := 1) (j := 2) (N := 14) dX1_copyFrom_37 rfl hin1 (by decide) rfl (by decide) rfl wF_1_20
theorem s8_40 {l : Launch} {G : KG} : kOpOK l G 8 40 (.inl (g_ild 2 41)) := snd_iload_n dX1_copyFrom_40 rfl
theorem s8_41 {l : Launch} {G : KG} : kOpOK l G 8 41 (.inl (g_aald 9 42)) := snd_aald9 dX1_copyFrom_41
theorem s8_42 {l : Launch} {G : KG} : kOpOK l G 8 42 (.inr (.inl (22, 2, 45))) := ⟨snd_callV (c := 2) dX1_copyFrom_42 rfl mok_22 rfl rfl rfl rfl (by decide) rfl wM_1_48 wN_X2_copyFrom wL_X2_copyFrom wI_2 (by decide), rfl, mok_22⟩
theorem s8_45 {l : Launch} {G : KG} : kOpOK l G 8 45 (.inl (g_iinc 2 1 48)) := snd_iinc dX1_copyFrom_45 rfl
theorem s8_48 {l : Launch} {G : KG} : kOpOK l G 8 48 (.inl (g_goto 24)) := snd_goto dX1_copyFrom_48 (by decide)
theorem s8_51 {l : Launch} {G : KG} : kOpOK l G 8 51 (.inl (g_ald 1 52)) := snd_aload_n dX1_copyFrom_51 rfl
theorem s8_52 {l : Launch} {G : KG} : kOpOK l G 8 52 (.inl (g_gfr 1 3 55)) := snd_gfr (c := 1) (j := 3) (N := 14) dX1_copyFrom_52 rfl hin1 (by decide) rfl (by decide) rfl wF_1_24
theorem s8_55 {l : Launch} {G : KG} : kOpOK l G 8 55 (.inl (g_ald 0 56)) := snd_aload_n dX1_copyFrom_55 rfl
theorem s8_56 {l : Launch} {G : KG} : kOpOK l G 8 56 (.inl (g_gfr 1 3 59)) := snd_gfr (c := 1) (j := 3) (N := 14) dX1_copyFrom_56 rfl hin1 (by decide) rfl (by decide) rfl wF_1_24
theorem s8_59 {l : Launch} {G : KG} : kOpOK l G 8 59 (.inr (.inl (64, 2, 62))) := ⟨snd_callSN (host := RX3) (idx := 44) dX1_copyFrom_59 rfl mok_64 rfl rfl (by decide +kernel) wS_X3_copyRow (by decide), rfl, mok_64⟩
theorem s8_62 {l : Launch} {G : KG} : kOpOK l G 8 62 (.inl (g_ald 1 63)) := snd_aload_n dX1_copyFrom_62 rfl
theorem s8_63 {l : Launch} {G : KG} : kOpOK l G 8 63 (.inl (g_gfr 1 4 66)) := snd_gfr (c := 1) (j := 4) (N := 14) dX1_copyFrom_63 rfl hin1 (by decide) rfl (by decide) rfl wF_1_27
theorem s8_66 {l : Launch} {G : KG} : kOpOK l G 8 66 (.inl (g_ald 0 67)) := snd_aload_n dX1_copyFrom_66 rfl
theorem s8_67 {l : Launch} {G : KG} : kOpOK l G 8 67 (.inl (g_gfr 1 4 70)) := snd_gfr (c := 1) (j := 4) (N := 14) dX1_copyFrom_67 rfl hin1 (by decide) rfl (by decide) rfl wF_1_27
theorem s8_70 {l : Launch} {G : KG} : kOpOK l G 8 70 (.inr (.inl (64, 2, 73))) := ⟨snd_callSN (host := RX3) (idx := 44) dX1_copyFrom_70 rfl mok_64 rfl rfl (by decide +kernel) wS_X3_copyRow (by decide), rfl, mok_64⟩
theorem s8_73 {l : Launch} {G : KG} : kOpOK l G 8 73 (.inl (g_ald 0 74)) := snd_aload_n dX1_copyFrom_73 rfl
theorem s8_74 {l : Launch} {G : KG} : kOpOK l G 8 74 (.inl (g_ald 1 75)) := snd_aload_n dX1_copyFrom_74 rfl
theorem s8_75 {l : Launch} {G : KG} : kOpOK l G 8 75 (.inl (g_gfi 1 5 78)) := snd_gfi (c := 1) (j := 5) (N := 14) dX1_copyFrom_75 rfl hin1 (by decide) rfl (by decide) rfl wF_1_52
theorem s8_78 {l : Launch} {G : KG} : kOpOK l G 8 78 (.inl (g_pfi 1 5 81)) := snd_pfi (c := 1) (j := 5) (N := 14) dX1_copyFrom_78 rfl hin1 (by decide) rfl (by decide) rfl wF_1_52 tyX1 tyX1_ok nmX1 rfl (by decide +kernel)
theorem s8_81 {l : Launch} {G : KG} : kOpOK l G 8 81 (.inl (g_ald 0 82)) := snd_aload_n dX1_copyFrom_81 rfl
theorem s8_82 {l : Launch} {G : KG} : kOpOK l G 8 82 (.inl (g_ald 1 83)) := snd_aload_n dX1_copyFrom_82 rfl
theorem s8_83 {l : Launch} {G : KG} : kOpOK l G 8 83 (.inl (g_gfi 1 6 86)) := snd_gfi (c := 1) (j := 6) (N := 14) dX1_copyFrom_83 rfl hin1 (by decide) rfl (by decide) rfl wF_1_30
theorem s8_86 {l : Launch} {G : KG} : kOpOK l G 8 86 (.inl (g_pfi 1 6 89)) := snd_pfi (c := 1) (j := 6) (N := 14) dX1_copyFrom_86 rfl hin1 (by decide) rfl (by decide) rfl wF_1_30 tyX1 tyX1_ok nmX1 rfl (by decide +kernel)
theorem s8_89 {l : Launch} {G : KG} : kOpOK l G 8 89 (.inl (g_ald 0 90)) := snd_aload_n dX1_copyFrom_89 rfl
theorem s8_90 {l : Launch} {G : KG} : kOpOK l G 8 90 (.inl (g_ald 1 91)) := snd_aload_n dX1_copyFrom_90 rfl
theorem s8_91 {l : Launch} {G : KG} : kOpOK l G 8 91 (.inl (g_gfi 1 7 94)) := snd_gfi (c := 1) (j := 7) (N := 14) dX1_copyFrom_91 rfl hin1 (by decide) rfl (by decide) rfl wF_1_34
theorem s8_94 {l : Launch} {G : KG} : kOpOK l G 8 94 (.inl (g_pfi 1 7 97)) := snd_pfi (c := 1) (j := 7) (N := 14) dX1_copyFrom_94 rfl hin1 (by decide) rfl (by decide) rfl wF_1_34 tyX1 tyX1_ok nmX1 rfl (by decide +kernel)
theorem s8_97 {l : Launch} {G : KG} : kOpOK l G 8 97 (.inl (g_ald 0 98)) := snd_aload_n dX1_copyFrom_97 rfl
theorem s8_98 {l : Launch} {G : KG} : kOpOK l G 8 98 (.inl (g_ald 1 99)) := snd_aload_n dX1_copyFrom_98 rfl
theorem s8_99 {l : Launch} {G : KG} : kOpOK l G 8 99 (.inl (g_gfi 1 8 102)) := snd_gfi (c := 1) (j := 8) (N := 14) dX1_copyFrom_99 rfl hin1 (by decide) rfl (by decide) rfl wF_1_37
theorem s8_102 {l : Launch} {G : KG} : kOpOK l G 8 102 (.inl (g_pfi 1 8 105)) := snd_pfi (c := 1) (j := 8) (N := 14) dX1_copyFrom_102 rfl hin1 (by decide) rfl (by decide) rfl wF_1_37 tyX1 tyX1_ok nmX1 rfl (by decide +kernel)
theorem s8_105 {l : Launch} {G : KG} : kOpOK l G 8 105 (.inl (g_ald 0 106)) := snd_aload_n dX1_copyFrom_105 rfl
theorem s8_106 {l : Launch} {G : KG} : kOpOK l G 8 106 (.inl (g_ald 1 107)) := snd_aload_n dX1_copyFrom_106 rfl
theorem s8_107 {l : Launch} {G : KG} : kOpOK l G 8 107 (.inl (g_gfi 1 9 110)) := snd_gfi (c := 1) (j := 9) (N := 14) dX1_copyFrom_107 rfl hin1 (by decide) rfl (by decide) rfl wF_1_40
theorem s8_110 {l : Launch} {G : KG} : kOpOK l G 8 110 (.inl (g_pfi 1 9 113)) := snd_pfi (c := 1) (j := 9) (N := 14) dX1_copyFrom_110 rfl hin1 (by decide) rfl (by decide) rfl wF_1_40 tyX1 tyX1_ok nmX1 rfl (by decide +kernel)
theorem s8_113 {l : Launch} {G : KG} : kOpOK l G 8 113 (.inl (g_ald 0 114)) := snd_aload_n dX1_copyFrom_113 rfl
theorem s8_114 {l : Launch} {G : KG} : kOpOK l G 8 114 (.inl (g_ald 1 115)) := snd_aload_n dX1_copyFrom_114 rfl
theorem s8_115 {l : Launch} {G : KG} : kOpOK l G 8 115 (.inl (g_gfi 1 10 118)) := snd_gfi (c := 1) (j := 10) (N := 14) dX1_copyFrom_115 rfl hin1 (by decide) rfl (by decide) rfl wF_1_55
theorem s8_118 {l : Launch} {G : KG} : kOpOK l G 8 118 (.inl (g_pfz 1 10 121)) := snd_pfz (c := 1) (j := 10) (N := 14) dX1_copyFrom_118 rfl hin1 (by decide) rfl (by decide) rfl wF_1_55 tyX1 tyX1_ok nmX1 rfl (by decide +kernel)
theorem s8_121 {l : Launch} {G : KG} : kOpOK l G 8 121 (.inl (g_ald 0 122)) := snd_aload_n dX1_copyFrom_121 rfl
theorem s8_122 {l : Launch} {G : KG} : kOpOK l G 8 122 (.inl (g_ald 1 123)) := snd_aload_n dX1_copyFrom_122 rfl
theorem s8_123 {l : Launch} {G : KG} : kOpOK l G 8 123 (.inl (g_gfi 1 11 126)) := snd_gfi (c := 1) (j := 11) (N := 14) dX1_copyFrom_123 rfl hin1 (by decide) rfl (by decide) rfl wF_1_59
theorem s8_126 {l : Launch} {G : KG} : kOpOK l G 8 126 (.inl (g_pfi 1 11 129)) := snd_pfi (c := 1) (j := 11) (N := 14) dX1_copyFrom_126 rfl hin1 (by decide) rfl (by decide) rfl wF_1_59 tyX1 tyX1_ok nmX1 rfl (by decide +kernel)
theorem s8_129 {l : Launch} {G : KG} : kOpOK l G 8 129 (.inl (g_ald 0 130)) := snd_aload_n dX1_copyFrom_129 rfl
theorem s8_130 {l : Launch} {G : KG} : kOpOK l G 8 130 (.inl (g_ald 1 131)) := snd_aload_n dX1_copyFrom_130 rfl
theorem s8_131 {l : Launch} {G : KG} : kOpOK l G 8 131 (.inl (g_gfi 1 12 134)) := snd_gfi (c := 1) (j := 12) (N := 14) dX1_copyFrom_131 rfl hin1 (by decide) rfl (by decide) rfl wF_1_62
theorem s8_134 {l : Launch} {G : KG} : kOpOK l G 8 134 (.inl (g_pfi 1 12 137)) := snd_pfi (c := 1) (j := 12) (N := 14) dX1_copyFrom_134 rfl hin1 (by decide) rfl (by decide) rfl wF_1_62 tyX1 tyX1_ok nmX1 rfl (by decide +kernel)
theorem s8_137 {l : Launch} {G : KG} : kOpOK l G 8 137 (.inl (g_ald 0 138)) := snd_aload_n dX1_copyFrom_137 rfl
theorem s8_138 {l : Launch} {G : KG} : kOpOK l G 8 138 (.inl (g_ald 1 139)) := snd_aload_n dX1_copyFrom_138 rfl
theorem s8_139 {l : Launch} {G : KG} : kOpOK l G 8 139 (.inl (g_gfi 1 13 142)) := snd_gfi (c := 1) (j := 13) (N := 14) dX1_copyFrom_139 rfl hin1 (by decide) rfl (by decide) rfl wF_1_65
theorem s8_142 {l : Launch} {G : KG} : kOpOK l G 8 142 (.inl (g_pfi 1 13 145)) := snd_pfi (c := 1) (j := 13) (N := 14) dX1_copyFrom_142 rfl hin1 (by decide) rfl (by decide) rfl wF_1_65 tyX1 tyX1_ok nmX1 rfl (by decide +kernel)
theorem s8_145 {l : Launch} {G : KG} : kOpOK l G 8 145 (.inr (.inr 0)) := ⟨rfl, Or.inl ⟨rfl, dX1_copyFrom_145, rfl⟩⟩
theorem s9_0 {l : Launch} {G : KG} : kOpOK l G 9 0 (.inl (g_ild 1 1)) := snd_iload_n dX1_isTray_0 rfl
theorem s9_1 {l : Launch} {G : KG} : kOpOK l G 9 1 (.inl (g_push 0 2)) := snd_iconst dX1_isTray_1 rfl
theorem s9_2 {l : Launch} {G : KG} : kOpOK l G 9 2 (.inl (g_ald 0 3)) := snd_aload_n dX1_isTray_2 rfl
theorem s9_3 {l : Launch} {G : KG} : kOpOK l G 9 3 (.inl (g_gfi 1 5 6)) := snd_gfi (c := 1) (j := 5) (N := 14) dX1_isTray_3 rfl hin1 (by decide) rfl (by decide) rfl wF_1_52
theorem s9_6 {l : Launch} {G : KG} : kOpOK l G 9 6 (.inr (.inl (59, 3, 9))) := ⟨snd_callSN (host := RX3) (idx := 68) dX1_isTray_6 rfl mok_59 rfl rfl (by decide +kernel) wS_X3_isIn (by decide), rfl, mok_59⟩
theorem s9_9 {l : Launch} {G : KG} : kOpOK l G 9 9 (.inr (.inr 2)) := ⟨rfl, Or.inr (Or.inr ⟨rfl, dX1_isTray_9, rfl⟩)⟩
theorem s10_0 {l : Launch} {G : KG} : kOpOK l G 10 0 (.inl (g_ild 1 1)) := snd_iload_n dX1_isSieve_0 rfl
theorem s10_1 {l : Launch} {G : KG} : kOpOK l G 10 1 (.inl (g_push 0 2)) := snd_iconst dX1_isSieve_1 rfl
theorem s10_2 {l : Launch} {G : KG} : kOpOK l G 10 2 (.inl (g_ald 0 3)) := snd_aload_n dX1_isSieve_2 rfl
theorem s10_3 {l : Launch} {G : KG} : kOpOK l G 10 3 (.inl (g_gfi 1 5 6)) := snd_gfi (c := 1) (j := 5) (N := 14) dX1_isSieve_3 rfl hin1 (by decide) rfl (by decide) rfl wF_1_52
theorem s10_6 {l : Launch} {G : KG} : kOpOK l G 10 6 (.inl (g_push 1 7)) := snd_iconst dX1_isSieve_6 rfl
theorem s10_7 {l : Launch} {G : KG} : kOpOK l G 10 7 (.inl (g_iop (fun x y => x - y) 8)) := snd_isub dX1_isSieve_7
theorem s10_8 {l : Launch} {G : KG} : kOpOK l G 10 8 (.inr (.inl (59, 3, 11))) := ⟨snd_callSN (host := RX3) (idx := 68) dX1_isSieve_8 rfl mok_59 rfl rfl (by decide +kernel) wS_X3_isIn (by decide), rfl, mok_59⟩
theorem s10_11 {l : Launch} {G : KG} : kOpOK l G 10 11 (.inr (.inr 2)) := ⟨rfl, Or.inr (Or.inr ⟨rfl, dX1_isSieve_11, rfl⟩)⟩
theorem s11_0 {l : Launch} {G : KG} : kOpOK l G 11 0 (.inl (g_push 1 1)) := snd_iconst dX1_halveSample_0 rfl
theorem s11_1 {l : Launch} {G : KG} : kOpOK l G 11 1 (.inl (g_ist 2 2)) := snd_istore_n dX1_halveSample_1 rfl
theorem s11_2 {l : Launch} {G : KG} : kOpOK l G 11 2 (.inl (g_push 0 3)) := snd_iconst dX1_halveSample_2 rfl
theorem s11_3 {l : Launch} {G : KG} : kOpOK l G 11 3 (.inl (g_ist 3 4)) := snd_istore_n dX1_halveSample_3 rfl
theorem s11_4 {l : Launch} {G : KG} : kOpOK l G 11 4 (.inl (g_ild 3 5)) := snd_iload_n dX1_halveSample_4 rfl
theorem s11_5 {l : Launch} {G : KG} : kOpOK l G 11 5 (.inl (g_push 10 7)) := snd_bipush dX1_halveSample_5 rfl
theorem s11_7 {l : Launch} {G : KG} : kOpOK l G 11 7 (.inl (g_br2 (fun x y => decide (y ≤ x)) 116 10)) := snd_icmp_ge dX1_halveSample_7 (by decide)
theorem s11_10 {l : Launch} {G : KG} : kOpOK l G 11 10 (.inl (g_ald 0 11)) := snd_aload_n dX1_halveSample_10 rfl
theorem s11_11 {l : Launch} {G : KG} : kOpOK l G 11 11 (.inl (g_gfr 1 0 14)) := snd_gfr (c := 1) (j := 0) (N := 14) dX1_halveSample_11 rfl hin1 (by decide) rfl (by decide) rfl wF_1_9
theorem s11_14 {l : Launch} {G : KG} : kOpOK l G 11 14 (.inl (g_ild 3 15)) := snd_iload_n dX1_halveSample_14 rfl
theorem s11_15 {l : Launch} {G : KG} : kOpOK l G 11 15 (.inl (g_pald 5 16)) := snd_pald5 dX1_halveSample_15
theorem s11_16 {l : Launch} {G : KG} : kOpOK l G 11 16 (.inl (g_push 2 17)) := snd_iconst dX1_halveSample_16 rfl
theorem s11_17 {l : Launch} {G : KG} : kOpOK l G 11 17 (.inl (g_idiv (fun x y => x / y) 18)) := snd_idiv dX1_halveSample_17
theorem s11_18 {l : Launch} {G : KG} : kOpOK l G 11 18 (.inl (g_ist 4 20)) := snd_istore dX1_halveSample_18
theorem s11_20 {l : Launch} {G : KG} : kOpOK l G 11 20 (.inl (g_ild 4 22)) := snd_iload dX1_halveSample_20
theorem s11_22 {l : Launch} {G : KG} : kOpOK l G 11 22 (.inl (g_ist 5 24)) := snd_istore dX1_halveSample_22
theorem s11_24 {l : Launch} {G : KG} : kOpOK l G 11 24 (.inl (g_ald 0 25)) := snd_aload_n dX1_halveSample_24 rfl
theorem s11_25 {l : Launch} {G : KG} : kOpOK l G 11 25 (.inl (g_gfr 1 0 28)) := snd_gfr (c := 1) (j := 0) (N := 14) dX1_halveSample_25 rfl hin1 (by decide) rfl (by decide) rfl wF_1_9
theorem s11_28 {l : Launch} {G : KG} : kOpOK l G 11 28 (.inl (g_ild 3 29)) := snd_iload_n dX1_halveSample_28 rfl
theorem s11_29 {l : Launch} {G : KG} : kOpOK l G 11 29 (.inl (g_pald 5 30)) := snd_pald5 dX1_halveSample_29
theorem s11_30 {l : Launch} {G : KG} : kOpOK l G 11 30 (.inl (g_push 2 31)) := snd_iconst dX1_halveSample_30 rfl
theorem s11_31 {l : Launch} {G : KG} : kOpOK l G 11 31 (.inl (g_idiv k_irem 32)) := snd_irem dX1_halveSample_31
theorem s11_32 {l : Launch} {G : KG} : kOpOK l G 11 32 (.inl (g_br1 (fun x => decide (x = 0)) 73 35)) := snd_if_eq dX1_halveSample_32 (by decide)
theorem s11_35 {l : Launch} {G : KG} : kOpOK l G 11 35 (.inl (g_ild 4 37)) := snd_iload dX1_halveSample_35
theorem s11_37 {l : Launch} {G : KG} : kOpOK l G 11 37 (.inl (g_ild 2 38)) := snd_iload_n dX1_halveSample_37 rfl
theorem s11_38 {l : Launch} {G : KG} : kOpOK l G 11 38 (.inl (g_br1 (fun x => decide (x = 0)) 45 41)) := snd_if_eq dX1_halveSample_38 (by decide)
theorem s11_41 {l : Launch} {G : KG} : kOpOK l G 11 41 (.inl (g_push 1 42)) := snd_iconst dX1_halveSample_41 rfl
theorem s11_42 {l : Launch} {G : KG} : kOpOK l G 11 42 (.inl (g_goto 46)) := snd_goto dX1_halveSample_42 (by decide)
theorem s11_45 {l : Launch} {G : KG} : kOpOK l G 11 45 (.inl (g_push 0 46)) := snd_iconst dX1_halveSample_45 rfl
theorem s11_46 {l : Launch} {G : KG} : kOpOK l G 11 46 (.inl (g_iop (fun x y => x + y) 47)) := snd_iadd dX1_halveSample_46
theorem s11_47 {l : Launch} {G : KG} : kOpOK l G 11 47 (.inl (g_ist 4 49)) := snd_istore dX1_halveSample_47
theorem s11_49 {l : Launch} {G : KG} : kOpOK l G 11 49 (.inl (g_ild 5 51)) := snd_iload dX1_halveSample_49
theorem s11_51 {l : Launch} {G : KG} : kOpOK l G 11 51 (.inl (g_ild 2 52)) := snd_iload_n dX1_halveSample_51 rfl
theorem s11_52 {l : Launch} {G : KG} : kOpOK l G 11 52 (.inl (g_br1 (fun x => decide (x = 0)) 59 55)) := snd_if_eq dX1_halveSample_52 (by decide)
theorem s11_55 {l : Launch} {G : KG} : kOpOK l G 11 55 (.inl (g_push 0 56)) := snd_iconst dX1_halveSample_55 rfl
theorem s11_56 {l : Launch} {G : KG} : kOpOK l G 11 56 (.inl (g_goto 60)) := snd_goto dX1_halveSample_56 (by decide)
theorem s11_59 {l : Launch} {G : KG} : kOpOK l G 11 59 (.inl (g_push 1 60)) := snd_iconst dX1_halveSample_59 rfl
theorem s11_60 {l : Launch} {G : KG} : kOpOK l G 11 60 (.inl (g_iop (fun x y => x + y) 61)) := snd_iadd dX1_halveSample_60
theorem s11_61 {l : Launch} {G : KG} : kOpOK l G 11 61 (.inl (g_ist 5 63)) := snd_istore dX1_halveSample_61
theorem s11_63 {l : Launch} {G : KG} : kOpOK l G 11 63 (.inl (g_ild 2 64)) := snd_iload_n dX1_halveSample_63 rfl
theorem s11_64 {l : Launch} {G : KG} : kOpOK l G 11 64 (.inl (g_br1 (fun x => decide (¬ x = 0)) 71 67)) := snd_if_ne dX1_halveSample_64 (by decide)
theorem s11_67 {l : Launch} {G : KG} : kOpOK l G 11 67 (.inl (g_push 1 68)) := snd_iconst dX1_halveSample_67 rfl
theorem s11_68 {l : Launch} {G : KG} : kOpOK l G 11 68 (.inl (g_goto 72)) := snd_goto dX1_halveSample_68 (by decide)
theorem s11_71 {l : Launch} {G : KG} : kOpOK l G 11 71 (.inl (g_push 0 72)) := snd_iconst dX1_halveSample_71 rfl
theorem s11_72 {l : Launch} {G : KG} : kOpOK l G 11 72 (.inl (g_ist 2 73)) := snd_istore_n dX1_halveSample_72 rfl
theorem s11_73 {l : Launch} {G : KG} : kOpOK l G 11 73 (.inl (g_ald 0 74)) := snd_aload_n dX1_halveSample_73 rfl
theorem s11_74 {l : Launch} {G : KG} : kOpOK l G 11 74 (.inl (g_gfr 1 0 77)) := snd_gfr (c := 1) (j := 0) (N := 14) dX1_halveSample_74 rfl hin1 (by decide) rfl (by decide) rfl wF_1_9
theorem s11_77 {l : Launch} {G : KG} : kOpOK l G 11 77 (.inl (g_ild 3 78)) := snd_iload_n dX1_halveSample_77 rfl
theorem s11_78 {l : Launch} {G : KG} : kOpOK l G 11 78 (.inl (g_ild 1 79)) := snd_iload_n dX1_halveSample_78 rfl
theorem s11_79 {l : Launch} {G : KG} : kOpOK l G 11 79 (.inl (g_br1 (fun x => decide (x = 0)) 87 82)) := snd_if_eq dX1_halveSample_79 (by decide)
theorem s11_82 {l : Launch} {G : KG} : kOpOK l G 11 82 (.inl (g_ild 4 84)) := snd_iload dX1_halveSample_82
theorem s11_84 {l : Launch} {G : KG} : kOpOK l G 11 84 (.inl (g_goto 89)) := snd_goto dX1_halveSample_84 (by decide)
theorem s11_87 {l : Launch} {G : KG} : kOpOK l G 11 87 (.inl (g_ild 5 89)) := snd_iload dX1_halveSample_87
theorem s11_89 {l : Launch} {G : KG} : kOpOK l G 11 89 (.inl (g_past 5 90)) := snd_past5 dX1_halveSample_89
theorem s11_90 {l : Launch} {G : KG} : kOpOK l G 11 90 (.inl (g_ald 0 91)) := snd_aload_n dX1_halveSample_90 rfl
theorem s11_91 {l : Launch} {G : KG} : kOpOK l G 11 91 (.inl (g_gfr 1 1 94)) := snd_gfr (c := 1) (j := 1) (N := 14) dX1_halveSample_91 rfl hin1 (by decide) rfl (by decide) rfl wF_1_15
theorem s11_94 {l : Launch} {G : KG} : kOpOK l G 11 94 (.inl (g_ild 3 95)) := snd_iload_n dX1_halveSample_94 rfl
theorem s11_95 {l : Launch} {G : KG} : kOpOK l G 11 95 (.inl (g_dup2 96)) := snd_dup2 dX1_halveSample_95
theorem s11_96 {l : Launch} {G : KG} : kOpOK l G 11 96 (.inl (g_pald 5 97)) := snd_pald5 dX1_halveSample_96
theorem s11_97 {l : Launch} {G : KG} : kOpOK l G 11 97 (.inl (g_ild 1 98)) := snd_iload_n dX1_halveSample_97 rfl
theorem s11_98 {l : Launch} {G : KG} : kOpOK l G 11 98 (.inl (g_br1 (fun x => decide (x = 0)) 106 101)) := snd_if_eq dX1_halveSample_98 (by decide)
theorem s11_101 {l : Launch} {G : KG} : kOpOK l G 11 101 (.inl (g_ild 5 103)) := snd_iload dX1_halveSample_101
theorem s11_103 {l : Launch} {G : KG} : kOpOK l G 11 103 (.inl (g_goto 108)) := snd_goto dX1_halveSample_103 (by decide)
theorem s11_106 {l : Launch} {G : KG} : kOpOK l G 11 106 (.inl (g_ild 4 108)) := snd_iload dX1_halveSample_106
theorem s11_108 {l : Launch} {G : KG} : kOpOK l G 11 108 (.inl (g_iop (fun x y => x + y) 109)) := snd_iadd dX1_halveSample_108
theorem s11_109 {l : Launch} {G : KG} : kOpOK l G 11 109 (.inl (g_past 5 110)) := snd_past5 dX1_halveSample_109
theorem s11_110 {l : Launch} {G : KG} : kOpOK l G 11 110 (.inl (g_iinc 3 1 113)) := snd_iinc dX1_halveSample_110 rfl
theorem s11_113 {l : Launch} {G : KG} : kOpOK l G 11 113 (.inl (g_goto 4)) := snd_goto dX1_halveSample_113 (by decide)
theorem s11_116 {l : Launch} {G : KG} : kOpOK l G 11 116 (.inr (.inr 0)) := ⟨rfl, Or.inl ⟨rfl, dX1_halveSample_116, rfl⟩⟩
theorem s12_0 {l : Launch} {G : KG} : kOpOK l G 12 0 (.inl (g_push 0 1)) := snd_iconst dX1_findSieve_0 rfl
theorem s12_1 {l : Launch} {G : KG} : kOpOK l G 12 1 (.inl (g_ist 2 2)) := snd_istore_n dX1_findSieve_1 rfl
theorem s12_2 {l : Launch} {G : KG} : kOpOK l G 12 2 (.inl (g_ild 2 3)) := snd_iload_n dX1_findSieve_2 rfl
theorem s12_3 {l : Launch} {G : KG} : kOpOK l G 12 3 (.inl (g_ald 0 4)) := snd_aload_n dX1_findSieve_3 rfl
theorem s12_4 {l : Launch} {G : KG} : kOpOK l G 12 4 (.inl (g_gfi 1 5 7)) := snd_gfi (c := 1) (j := 5) (N := 14) dX1_findSieve_4 rfl hin1 (by decide) rfl (by decide) rfl wF_1_52
theorem s12_7 {l : Launch} {G : KG} : kOpOK l G 12 7 (.inl (g_br2 (fun x y => decide (y ≤ x)) 31 10)) := snd_icmp_ge dX1_findSieve_7 (by decide)
theorem s12_10 {l : Launch} {G : KG} : kOpOK l G 12 10 (.inl (g_ald 0 11)) := snd_aload_n dX1_findSieve_10 rfl
theorem s12_11 {l : Launch} {G : KG} : kOpOK l G 12 11 (.inl (g_gfr 1 2 14)) := snd_gfr (c := 1) (j := 2) (N := 14) dX1_findSieve_11 rfl hin1 (by decide) rfl (by decide) rfl wF_1_20
theorem s12_14 {l : Launch} {G : KG} : kOpOK l G 12 14 (.inl (g_ild 2 15)) := snd_iload_n dX1_findSieve_14 rfl
theorem s12_15 {l : Launch} {G : KG} : kOpOK l G 12 15 (.inl (g_aald 9 16)) := snd_aald9 dX1_findSieve_15
theorem s12_16 {l : Launch} {G : KG} : kOpOK l G 12 16 (.inl (g_gfi 2 1 19)) := snd_gfi (c := 2) (j := 1) (N := 4) dX1_findSieve_16 rfl hin2 (by decide) rfl (by decide) rfl wF_1_72
theorem s12_19 {l : Launch} {G : KG} : kOpOK l G 12 19 (.inl (g_ild 1 20)) := snd_iload_n dX1_findSieve_19 rfl
theorem s12_20 {l : Launch} {G : KG} : kOpOK l G 12 20 (.inl (g_br2 (fun x y => decide (¬ x = y)) 25 23)) := snd_icmp_ne dX1_findSieve_20 (by decide)
theorem s12_23 {l : Launch} {G : KG} : kOpOK l G 12 23 (.inl (g_ild 2 24)) := snd_iload_n dX1_findSieve_23 rfl
theorem s12_24 {l : Launch} {G : KG} : kOpOK l G 12 24 (.inr (.inr 1)) := ⟨rfl, Or.inr (Or.inl ⟨rfl, dX1_findSieve_24, rfl⟩)⟩
theorem s12_25 {l : Launch} {G : KG} : kOpOK l G 12 25 (.inl (g_iinc 2 1 28)) := snd_iinc dX1_findSieve_25 rfl
theorem s12_28 {l : Launch} {G : KG} : kOpOK l G 12 28 (.inl (g_goto 2)) := snd_goto dX1_findSieve_28 (by decide)
theorem s12_31 {l : Launch} {G : KG} : kOpOK l G 12 31 (.inl (g_push (-9) 33)) := snd_bipush dX1_findSieve_31 rfl
theorem s12_33 {l : Launch} {G : KG} : kOpOK l G 12 33 (.inr (.inr 1)) := ⟨rfl, Or.inr (Or.inl ⟨rfl, dX1_findSieve_33, rfl⟩)⟩
theorem s13_0 {l : Launch} {G : KG} : kOpOK l G 13 0 (.inl (g_ald 0 1)) := snd_aload_n dX1_insertSieve_0 rfl
theorem s13_1 {l : Launch} {G : KG} : kOpOK l G 13 1 (.inl (g_gfi 1 5 4)) := snd_gfi (c := 1) (j := 5) (N := 14) dX1_insertSieve_1 rfl hin1 (by decide) rfl (by decide) rfl wF_1_52
theorem s13_4 {l : Launch} {G : KG} : kOpOK l G 13 4 (.inl (g_ist 2 5)) := snd_istore_n dX1_insertSieve_4 rfl
theorem s13_5 {l : Launch} {G : KG} : kOpOK l G 13 5 (.inl (g_ild 2 6)) := snd_iload_n dX1_insertSieve_5 rfl
theorem s13_6 {l : Launch} {G : KG} : kOpOK l G 13 6 (.inl (g_br1 (fun x => decide (x ≤ 0)) 50 9)) := snd_if_le dX1_insertSieve_6 (by decide)
theorem s13_9 {l : Launch} {G : KG} : kOpOK l G 13 9 (.inl (g_ald 0 10)) := snd_aload_n dX1_insertSieve_9 rfl
theorem s13_10 {l : Launch} {G : KG} : kOpOK l G 13 10 (.inl (g_gfr 1 2 13)) := snd_gfr (c := 1) (j := 2) (N := 14) dX1_insertSieve_10 rfl hin1 (by decide) rfl (by decide) rfl wF_1_20
theorem s13_13 {l : Launch} {G : KG} : kOpOK l G 13 13 (.inl (g_ild 2 14)) := snd_iload_n dX1_insertSieve_13 rfl
theorem s13_14 {l : Launch} {G : KG} : kOpOK l G 13 14 (.inl (g_push 1 15)) := snd_iconst dX1_insertSieve_14 rfl
theorem s13_15 {l : Launch} {G : KG} : kOpOK l G 13 15 (.inl (g_iop (fun x y => x - y) 16)) := snd_isub dX1_insertSieve_15
theorem s13_16 {l : Launch} {G : KG} : kOpOK l G 13 16 (.inl (g_aald 9 17)) := snd_aald9 dX1_insertSieve_16
theorem s13_17 {l : Launch} {G : KG} : kOpOK l G 13 17 (.inl (g_gfi 2 1 20)) := snd_gfi (c := 2) (j := 1) (N := 4) dX1_insertSieve_17 rfl hin2 (by decide) rfl (by decide) rfl wF_1_72
theorem s13_20 {l : Launch} {G : KG} : kOpOK l G 13 20 (.inl (g_ild 1 21)) := snd_iload_n dX1_insertSieve_20 rfl
theorem s13_21 {l : Launch} {G : KG} : kOpOK l G 13 21 (.inl (g_br2 (fun x y => decide (y ≤ x)) 50 24)) := snd_icmp_ge dX1_insertSieve_21 (by decide)
theorem s13_24 {l : Launch} {G : KG} : kOpOK l G 13 24 (.inl (g_ald 0 25)) := snd_aload_n dX1_insertSieve_24 rfl
theorem s13_25 {l : Launch} {G : KG} : kOpOK l G 13 25 (.inl (g_gfr 1 2 28)) := snd_gfr (c := 1) (j := 2) (N := 14) dX1_insertSieve_25 rfl hin1 (by decide) rfl (by decide) rfl wF_1_20
theorem s13_28 {l : Launch} {G : KG} : kOpOK l G 13 28 (.inl (g_ild 2 29)) := snd_iload_n dX1_insertSieve_28 rfl
theorem s13_29 {l : Launch} {G : KG} : kOpOK l G 13 29 (.inl (g_aald 9 30)) := snd_aald9 dX1_insertSieve_29
theorem s13_30 {l : Launch} {G : KG} : kOpOK l G 13 30 (.inl (g_ald 0 31)) := snd_aload_n dX1_insertSieve_30 rfl
theorem s13_31 {l : Launch} {G : KG} : kOpOK l G 13 31 (.inl (g_gfr 1 2 34)) := snd_gfr (c := 1) (j := 2) (N := 14) dX1_insertSieve_31 rfl hin1 (by decide) rfl (by decide) rfl wF_1_20
theorem s13_34 {l : Launch} {G : KG} : kOpOK l G 13 34 (.inl (g_ild 2 35)) := snd_iload_n dX1_insertSieve_34 rfl
theorem s13_35 {l : Launch} {G : KG} : kOpOK l G 13 35 (.inl (g_push 1 36)) := snd_iconst dX1_insertSieve_35 rfl
theorem s13_36 {l : Launch} {G : KG} : kOpOK l G 13 36 (.inl (g_iop (fun x y => x - y) 37)) := snd_isub dX1_insertSieve_36
theorem s13_37 {l : Launch} {G : KG} : kOpOK l G 13 37 (.inl (g_aald 9 38)) := snd_aald9 dX1_insertSieve_37
theorem s13_38 {l : Launch} {G : KG} : kOpOK l G 13 38 (.inl (g_gfi 2 1 41)) := snd_gfi (c := 2) (j := 1) (N := 4) dX1_insertSieve_38 rfl hin2 (by decide) rfl (by decide) rfl wF_1_72
theorem s13_41 {l : Launch} {G : KG} : kOpOK l G 13 41 (.inl (g_pfi 2 1 44)) := snd_pfi (c := 2) (j := 1) (N := 4) dX1_insertSieve_41 rfl hin2 (by decide) rfl (by decide) rfl wF_1_72 tyX2 tyX2_ok nmX2 rfl (by decide +kernel)
theorem s13_44 {l : Launch} {G : KG} : kOpOK l G 13 44 (.inl (g_iinc 2 (-1) 47)) := snd_iinc dX1_insertSieve_44 rfl
theorem s13_47 {l : Launch} {G : KG} : kOpOK l G 13 47 (.inl (g_goto 5)) := snd_goto dX1_insertSieve_47 (by decide)
theorem s13_50 {l : Launch} {G : KG} : kOpOK l G 13 50 (.inl (g_ald 0 51)) := snd_aload_n dX1_insertSieve_50 rfl
theorem s13_51 {l : Launch} {G : KG} : kOpOK l G 13 51 (.inl (g_gfr 1 2 54)) := snd_gfr (c := 1) (j := 2) (N := 14) dX1_insertSieve_51 rfl hin1 (by decide) rfl (by decide) rfl wF_1_20
theorem s13_54 {l : Launch} {G : KG} : kOpOK l G 13 54 (.inl (g_ild 2 55)) := snd_iload_n dX1_insertSieve_54 rfl
theorem s13_55 {l : Launch} {G : KG} : kOpOK l G 13 55 (.inl (g_aald 9 56)) := snd_aald9 dX1_insertSieve_55
theorem s13_56 {l : Launch} {G : KG} : kOpOK l G 13 56 (.inl (g_ild 1 57)) := snd_iload_n dX1_insertSieve_56 rfl
theorem s13_57 {l : Launch} {G : KG} : kOpOK l G 13 57 (.inl (g_pfi 2 1 60)) := snd_pfi (c := 2) (j := 1) (N := 4) dX1_insertSieve_57 rfl hin2 (by decide) rfl (by decide) rfl wF_1_72 tyX2 tyX2_ok nmX2 rfl (by decide +kernel)
theorem s13_60 {l : Launch} {G : KG} : kOpOK l G 13 60 (.inl (g_ald 0 61)) := snd_aload_n dX1_insertSieve_60 rfl
theorem s13_61 {l : Launch} {G : KG} : kOpOK l G 13 61 (.inl (g_dup 62)) := snd_dup dX1_insertSieve_61
theorem s13_62 {l : Launch} {G : KG} : kOpOK l G 13 62 (.inl (g_gfi 1 5 65)) := snd_gfi (c := 1) (j := 5) (N := 14) dX1_insertSieve_62 rfl hin1 (by decide) rfl (by decide) rfl wF_1_52
theorem s13_65 {l : Launch} {G : KG} : kOpOK l G 13 65 (.inl (g_push 1 66)) := snd_iconst dX1_insertSieve_65 rfl
theorem s13_66 {l : Launch} {G : KG} : kOpOK l G 13 66 (.inl (g_iop (fun x y => x + y) 67)) := snd_iadd dX1_insertSieve_66
theorem s13_67 {l : Launch} {G : KG} : kOpOK l G 13 67 (.inl (g_pfi 1 5 70)) := snd_pfi (c := 1) (j := 5) (N := 14) dX1_insertSieve_67 rfl hin1 (by decide) rfl (by decide) rfl wF_1_52 tyX1 tyX1_ok nmX1 rfl (by decide +kernel)
theorem s13_70 {l : Launch} {G : KG} : kOpOK l G 13 70 (.inl (g_ild 2 71)) := snd_iload_n dX1_insertSieve_70 rfl
theorem s13_71 {l : Launch} {G : KG} : kOpOK l G 13 71 (.inr (.inr 1)) := ⟨rfl, Or.inr (Or.inl ⟨rfl, dX1_insertSieve_71, rfl⟩)⟩
theorem s14_0 {l : Launch} {G : KG} : kOpOK l G 14 0 (.inl (g_ild 1 1)) := snd_iload_n dX1_takeSieve_0 rfl
theorem s14_1 {l : Launch} {G : KG} : kOpOK l G 14 1 (.inl (g_ist 2 2)) := snd_istore_n dX1_takeSieve_1 rfl
theorem s14_2 {l : Launch} {G : KG} : kOpOK l G 14 2 (.inl (g_ild 2 3)) := snd_iload_n dX1_takeSieve_2 rfl
theorem s14_3 {l : Launch} {G : KG} : kOpOK l G 14 3 (.inl (g_ald 0 4)) := snd_aload_n dX1_takeSieve_3 rfl
theorem s14_4 {l : Launch} {G : KG} : kOpOK l G 14 4 (.inl (g_gfi 1 5 7)) := snd_gfi (c := 1) (j := 5) (N := 14) dX1_takeSieve_4 rfl hin1 (by decide) rfl (by decide) rfl wF_1_52
theorem s14_7 {l : Launch} {G : KG} : kOpOK l G 14 7 (.inl (g_br2 (fun x y => decide (y ≤ x)) 36 10)) := snd_icmp_ge dX1_takeSieve_7 (by decide)
theorem s14_10 {l : Launch} {G : KG} : kOpOK l G 14 10 (.inl (g_ald 0 11)) := snd_aload_n dX1_takeSieve_10 rfl
theorem s14_11 {l : Launch} {G : KG} : kOpOK l G 14 11 (.inl (g_gfr 1 2 14)) := snd_gfr (c := 1) (j := 2) (N := 14) dX1_takeSieve_11 rfl hin1 (by decide) rfl (by decide) rfl wF_1_20
theorem s14_14 {l : Launch} {G : KG} : kOpOK l G 14 14 (.inl (g_ild 2 15)) := snd_iload_n dX1_takeSieve_14 rfl
theorem s14_15 {l : Launch} {G : KG} : kOpOK l G 14 15 (.inl (g_aald 9 16)) := snd_aald9 dX1_takeSieve_15
theorem s14_16 {l : Launch} {G : KG} : kOpOK l G 14 16 (.inl (g_ald 0 17)) := snd_aload_n dX1_takeSieve_16 rfl
theorem s14_17 {l : Launch} {G : KG} : kOpOK l G 14 17 (.inl (g_gfr 1 2 20)) := snd_gfr (c := 1) (j := 2) (N := 14) dX1_takeSieve_17 rfl hin1 (by decide) rfl (by decide) rfl wF_1_20
theorem s14_20 {l : Launch} {G : KG} : kOpOK l G 14 20 (.inl (g_ild 2 21)) := snd_iload_n dX1_takeSieve_20 rfl
theorem s14_21 {l : Launch} {G : KG} : kOpOK l G 14 21 (.inl (g_push 1 22)) := snd_iconst dX1_takeSieve_21 rfl
theorem s14_22 {l : Launch} {G : KG} : kOpOK l G 14 22 (.inl (g_iop (fun x y => x + y) 23)) := snd_iadd dX1_takeSieve_22
theorem s14_23 {l : Launch} {G : KG} : kOpOK l G 14 23 (.inl (g_aald 9 24)) := snd_aald9 dX1_takeSieve_23
theorem s14_24 {l : Launch} {G : KG} : kOpOK l G 14 24 (.inl (g_gfi 2 1 27)) := snd_gfi (c := 2) (j := 1) (N := 4) dX1_takeSieve_24 rfl hin2 (by decide) rfl (by decide) rfl wF_1_72
theorem s14_27 {l : Launch} {G : KG} : kOpOK l G 14 27 (.inl (g_pfi 2 1 30)) := snd_pfi (c := 2) (j := 1) (N := 4) dX1_takeSieve_27 rfl hin2 (by decide) rfl (by decide) rfl wF_1_72 tyX2 tyX2_ok nmX2 rfl (by decide +kernel)
theorem s14_30 {l : Launch} {G : KG} : kOpOK l G 14 30 (.inl (g_iinc 2 1 33)) := snd_iinc dX1_takeSieve_30 rfl
theorem s14_33 {l : Launch} {G : KG} : kOpOK l G 14 33 (.inl (g_goto 2)) := snd_goto dX1_takeSieve_33 (by decide)
theorem s14_36 {l : Launch} {G : KG} : kOpOK l G 14 36 (.inl (g_ald 0 37)) := snd_aload_n dX1_takeSieve_36 rfl
theorem s14_37 {l : Launch} {G : KG} : kOpOK l G 14 37 (.inl (g_dup 38)) := snd_dup dX1_takeSieve_37
theorem s14_38 {l : Launch} {G : KG} : kOpOK l G 14 38 (.inl (g_gfi 1 5 41)) := snd_gfi (c := 1) (j := 5) (N := 14) dX1_takeSieve_38 rfl hin1 (by decide) rfl (by decide) rfl wF_1_52
theorem s14_41 {l : Launch} {G : KG} : kOpOK l G 14 41 (.inl (g_push 1 42)) := snd_iconst dX1_takeSieve_41 rfl
theorem s14_42 {l : Launch} {G : KG} : kOpOK l G 14 42 (.inl (g_iop (fun x y => x - y) 43)) := snd_isub dX1_takeSieve_42
theorem s14_43 {l : Launch} {G : KG} : kOpOK l G 14 43 (.inl (g_pfi 1 5 46)) := snd_pfi (c := 1) (j := 5) (N := 14) dX1_takeSieve_43 rfl hin1 (by decide) rfl (by decide) rfl wF_1_52 tyX1 tyX1_ok nmX1 rfl (by decide +kernel)
theorem s14_46 {l : Launch} {G : KG} : kOpOK l G 14 46 (.inr (.inr 0)) := ⟨rfl, Or.inl ⟨rfl, dX1_takeSieve_46, rfl⟩⟩
theorem s15_0 {l : Launch} {G : KG} : kOpOK l G 15 0 (.inl (g_push 0 1)) := snd_iconst dX1_endAnalysis_0 rfl
theorem s15_1 {l : Launch} {G : KG} : kOpOK l G 15 1 (.inl (g_ist 1 2)) := snd_istore_n dX1_endAnalysis_1 rfl
theorem s15_2 {l : Launch} {G : KG} : kOpOK l G 15 2 (.inl (g_ild 1 3)) := snd_iload_n dX1_endAnalysis_2 rfl
theorem s15_3 {l : Launch} {G : KG} : kOpOK l G 15 3 (.inl (g_push 6 5)) := snd_bipush dX1_endAnalysis_3 rfl
theorem s15_5 {l : Launch} {G : KG} : kOpOK l G 15 5 (.inl (g_br2 (fun x y => decide (y < x)) 23 8)) := snd_icmp_gt dX1_endAnalysis_5 (by decide)
theorem s15_8 {l : Launch} {G : KG} : kOpOK l G 15 8 (.inl (g_ald 0 9)) := snd_aload_n dX1_endAnalysis_8 rfl
theorem s15_9 {l : Launch} {G : KG} : kOpOK l G 15 9 (.inl (g_gfr 1 2 12)) := snd_gfr (c := 1) (j := 2) (N := 14) dX1_endAnalysis_9 rfl hin1 (by decide) rfl (by decide) rfl wF_1_20
theorem s15_12 {l : Launch} {G : KG} : kOpOK l G 15 12 (.inl (g_ild 1 13)) := snd_iload_n dX1_endAnalysis_12 rfl
theorem s15_13 {l : Launch} {G : KG} : kOpOK l G 15 13 (.inl (g_aald 9 14)) := snd_aald9 dX1_endAnalysis_13
theorem s15_14 {l : Launch} {G : KG} : kOpOK l G 15 14 (.inr (.inl (23, 1, 17))) := ⟨snd_callV (c := 2) dX1_endAnalysis_14 rfl mok_23 rfl rfl rfl rfl (by decide) rfl wM_1_75 wN_X2_throwAway wL_X2_throwAway wI_2 (by decide), rfl, mok_23⟩
theorem s15_17 {l : Launch} {G : KG} : kOpOK l G 15 17 (.inl (g_iinc 1 1 20)) := snd_iinc dX1_endAnalysis_17 rfl
theorem s15_20 {l : Launch} {G : KG} : kOpOK l G 15 20 (.inl (g_goto 2)) := snd_goto dX1_endAnalysis_20 (by decide)
theorem s15_23 {l : Launch} {G : KG} : kOpOK l G 15 23 (.inl (g_ald 0 24)) := snd_aload_n dX1_endAnalysis_23 rfl
theorem s15_24 {l : Launch} {G : KG} : kOpOK l G 15 24 (.inl (g_push 0 25)) := snd_iconst dX1_endAnalysis_24 rfl
theorem s15_25 {l : Launch} {G : KG} : kOpOK l G 15 25 (.inl (g_pfz 1 10 28)) := snd_pfz (c := 1) (j := 10) (N := 14) dX1_endAnalysis_25 rfl hin1 (by decide) rfl (by decide) rfl wF_1_55 tyX1 tyX1_ok nmX1 rfl (by decide +kernel)
theorem s15_28 {l : Launch} {G : KG} : kOpOK l G 15 28 (.inl (g_ald 0 29)) := snd_aload_n dX1_endAnalysis_28 rfl
theorem s15_29 {l : Launch} {G : KG} : kOpOK l G 15 29 (.inl (g_push 0 30)) := snd_iconst dX1_endAnalysis_29 rfl
theorem s15_30 {l : Launch} {G : KG} : kOpOK l G 15 30 (.inl (g_pfi 1 11 33)) := snd_pfi (c := 1) (j := 11) (N := 14) dX1_endAnalysis_30 rfl hin1 (by decide) rfl (by decide) rfl wF_1_59 tyX1 tyX1_ok nmX1 rfl (by decide +kernel)
theorem s15_33 {l : Launch} {G : KG} : kOpOK l G 15 33 (.inl (g_ald 0 34)) := snd_aload_n dX1_endAnalysis_33 rfl
theorem s15_34 {l : Launch} {G : KG} : kOpOK l G 15 34 (.inl (g_push 0 35)) := snd_iconst dX1_endAnalysis_34 rfl
theorem s15_35 {l : Launch} {G : KG} : kOpOK l G 15 35 (.inl (g_pfi 1 12 38)) := snd_pfi (c := 1) (j := 12) (N := 14) dX1_endAnalysis_35 rfl hin1 (by decide) rfl (by decide) rfl wF_1_62 tyX1 tyX1_ok nmX1 rfl (by decide +kernel)
theorem s15_38 {l : Launch} {G : KG} : kOpOK l G 15 38 (.inl (g_ald 0 39)) := snd_aload_n dX1_endAnalysis_38 rfl
theorem s15_39 {l : Launch} {G : KG} : kOpOK l G 15 39 (.inl (g_push 0 40)) := snd_iconst dX1_endAnalysis_39 rfl
theorem s15_40 {l : Launch} {G : KG} : kOpOK l G 15 40 (.inl (g_pfi 1 13 43)) := snd_pfi (c := 1) (j := 13) (N := 14) dX1_endAnalysis_40 rfl hin1 (by decide) rfl (by decide) rfl wF_1_65 tyX1 tyX1_ok nmX1 rfl (by decide +kernel)
theorem s15_43 {l : Launch} {G : KG} : kOpOK l G 15 43 (.inr (.inr 0)) := ⟨rfl, Or.inl ⟨rfl, dX1_endAnalysis_43, rfl⟩⟩
theorem s16_0 {l : Launch} {G : KG} : kOpOK l G 16 0 (.inl (g_ald 0 1)) := snd_aload_n dX1_beginAnalysis_0 rfl
theorem s16_1 {l : Launch} {G : KG} : kOpOK l G 16 1 (.inl (g_gfr 1 0 4)) := snd_gfr (c := 1) (j := 0) (N := 14) dX1_beginAnalysis_1 rfl hin1 (by decide) rfl (by decide) rfl wF_1_9
theorem s16_4 {l : Launch} {G : KG} : kOpOK l G 16 4 (.inl (g_ald 0 5)) := snd_aload_n dX1_beginAnalysis_4 rfl
theorem s16_5 {l : Launch} {G : KG} : kOpOK l G 16 5 (.inl (g_gfr 1 2 8)) := snd_gfr (c := 1) (j := 2) (N := 14) dX1_beginAnalysis_5 rfl hin1 (by decide) rfl (by decide) rfl wF_1_20
theorem s16_8 {l : Launch} {G : KG} : kOpOK l G 16 8 (.inl (g_push 0 9)) := snd_iconst dX1_beginAnalysis_8 rfl
theorem s16_9 {l : Launch} {G : KG} : kOpOK l G 16 9 (.inl (g_aald 9 10)) := snd_aald9 dX1_beginAnalysis_9
theorem s16_10 {l : Launch} {G : KG} : kOpOK l G 16 10 (.inl (g_gfr 2 0 13)) := snd_gfr (c := 2) (j := 0) (N := 4) dX1_beginAnalysis_10 rfl hin2 (by decide) rfl (by decide) rfl wF_1_78
theorem s16_13 {l : Launch} {G : KG} : kOpOK l G 16 13 (.inr (.inl (64, 2, 16))) := ⟨snd_callSN (host := RX3) (idx := 44) dX1_beginAnalysis_13 rfl mok_64 rfl rfl (by decide +kernel) wS_X3_copyRow (by decide), rfl, mok_64⟩
theorem s16_16 {l : Launch} {G : KG} : kOpOK l G 16 16 (.inl (g_ald 0 17)) := snd_aload_n dX1_beginAnalysis_16 rfl
theorem s16_17 {l : Launch} {G : KG} : kOpOK l G 16 17 (.inl (g_gfr 1 0 20)) := snd_gfr (c := 1) (j := 0) (N := 14) dX1_beginAnalysis_17 rfl hin1 (by decide) rfl (by decide) rfl wF_1_9
theorem s16_20 {l : Launch} {G : KG} : kOpOK l G 16 20 (.inr (.inl (63, 1, 23))) := ⟨snd_callSN (host := RX3) (idx := 81) dX1_beginAnalysis_20 rfl mok_63 rfl rfl (by decide +kernel) wS_X3_clearRow (by decide), rfl, mok_63⟩
theorem s16_23 {l : Launch} {G : KG} : kOpOK l G 16 23 (.inl (g_ald 0 24)) := snd_aload_n dX1_beginAnalysis_23 rfl
theorem s16_24 {l : Launch} {G : KG} : kOpOK l G 16 24 (.inl (g_push 1 25)) := snd_iconst dX1_beginAnalysis_24 rfl
theorem s16_25 {l : Launch} {G : KG} : kOpOK l G 16 25 (.inl (g_pfz 1 10 28)) := snd_pfz (c := 1) (j := 10) (N := 14) dX1_beginAnalysis_25 rfl hin1 (by decide) rfl (by decide) rfl wF_1_55 tyX1 tyX1_ok nmX1 rfl (by decide +kernel)
theorem s16_28 {l : Launch} {G : KG} : kOpOK l G 16 28 (.inl (g_ald 0 29)) := snd_aload_n dX1_beginAnalysis_28 rfl
theorem s16_29 {l : Launch} {G : KG} : kOpOK l G 16 29 (.inl (g_ild 1 30)) := snd_iload_n dX1_beginAnalysis_29 rfl
theorem s16_30 {l : Launch} {G : KG} : kOpOK l G 16 30 (.inl (g_pfi 1 11 33)) := snd_pfi (c := 1) (j := 11) (N := 14) dX1_beginAnalysis_30 rfl hin1 (by decide) rfl (by decide) rfl wF_1_59 tyX1 tyX1_ok nmX1 rfl (by decide +kernel)
theorem s16_33 {l : Launch} {G : KG} : kOpOK l G 16 33 (.inr (.inr 0)) := ⟨rfl, Or.inl ⟨rfl, dX1_beginAnalysis_33, rfl⟩⟩
theorem s17_0 {l : Launch} {G : KG} : kOpOK l G 17 0 (.inl (g_ald 0 1)) := snd_aload_n dX1_shakeOneMinute_0 rfl
theorem s17_1 {l : Launch} {G : KG} : kOpOK l G 17 1 (.inl (g_push 0 2)) := snd_iconst dX1_shakeOneMinute_1 rfl
theorem s17_2 {l : Launch} {G : KG} : kOpOK l G 17 2 (.inl (g_pfi 1 13 5)) := snd_pfi (c := 1) (j := 13) (N := 14) dX1_shakeOneMinute_2 rfl hin1 (by decide) rfl (by decide) rfl wF_1_65 tyX1 tyX1_ok nmX1 rfl (by decide +kernel)
theorem s17_5 {l : Launch} {G : KG} : kOpOK l G 17 5 (.inl (g_ald 0 6)) := snd_aload_n dX1_shakeOneMinute_5 rfl
theorem s17_6 {l : Launch} {G : KG} : kOpOK l G 17 6 (.inl (g_gfi 1 5 9)) := snd_gfi (c := 1) (j := 5) (N := 14) dX1_shakeOneMinute_6 rfl hin1 (by decide) rfl (by decide) rfl wF_1_52
theorem s17_9 {l : Launch} {G : KG} : kOpOK l G 17 9 (.inl (g_push 1 10)) := snd_iconst dX1_shakeOneMinute_9 rfl
theorem s17_10 {l : Launch} {G : KG} : kOpOK l G 17 10 (.inl (g_iop (fun x y => x - y) 11)) := snd_isub dX1_shakeOneMinute_10
theorem s17_11 {l : Launch} {G : KG} : kOpOK l G 17 11 (.inl (g_ist 1 12)) := snd_istore_n dX1_shakeOneMinute_11 rfl
theorem s17_12 {l : Launch} {G : KG} : kOpOK l G 17 12 (.inl (g_ild 1 13)) := snd_iload_n dX1_shakeOneMinute_12 rfl
theorem s17_13 {l : Launch} {G : KG} : kOpOK l G 17 13 (.inl (g_br1 (fun x => decide (x < 0)) 65 16)) := snd_if_lt dX1_shakeOneMinute_13 (by decide)
theorem s17_16 {l : Launch} {G : KG} : kOpOK l G 17 16 (.inl (g_ald 0 17)) := snd_aload_n dX1_shakeOneMinute_16 rfl
theorem s17_17 {l : Launch} {G : KG} : kOpOK l G 17 17 (.inl (g_dup 18)) := snd_dup dX1_shakeOneMinute_17
theorem s17_18 {l : Launch} {G : KG} : kOpOK l G 17 18 (.inl (g_gfi 1 13 21)) := snd_gfi (c := 1) (j := 13) (N := 14) dX1_shakeOneMinute_18 rfl hin1 (by decide) rfl (by decide) rfl wF_1_65
theorem s17_21 {l : Launch} {G : KG} : kOpOK l G 17 21 (.inl (g_ald 0 22)) := snd_aload_n dX1_shakeOneMinute_21 rfl
theorem s17_22 {l : Launch} {G : KG} : kOpOK l G 17 22 (.inl (g_gfr 1 2 25)) := snd_gfr (c := 1) (j := 2) (N := 14) dX1_shakeOneMinute_22 rfl hin1 (by decide) rfl (by decide) rfl wF_1_20
theorem s17_25 {l : Launch} {G : KG} : kOpOK l G 17 25 (.inl (g_ild 1 26)) := snd_iload_n dX1_shakeOneMinute_25 rfl
theorem s17_26 {l : Launch} {G : KG} : kOpOK l G 17 26 (.inl (g_aald 9 27)) := snd_aald9 dX1_shakeOneMinute_26
theorem s17_27 {l : Launch} {G : KG} : kOpOK l G 17 27 (.inl (g_ald 0 28)) := snd_aload_n dX1_shakeOneMinute_27 rfl
theorem s17_28 {l : Launch} {G : KG} : kOpOK l G 17 28 (.inl (g_gfr 1 2 31)) := snd_gfr (c := 1) (j := 2) (N := 14) dX1_shakeOneMinute_28 rfl hin1 (by decide) rfl (by decide) rfl wF_1_20
theorem s17_31 {l : Launch} {G : KG} : kOpOK l G 17 31 (.inl (g_ild 1 32)) := snd_iload_n dX1_shakeOneMinute_31 rfl
theorem s17_32 {l : Launch} {G : KG} : kOpOK l G 17 32 (.inl (g_push 1 33)) := snd_iconst dX1_shakeOneMinute_32 rfl
theorem s17_33 {l : Launch} {G : KG} : kOpOK l G 17 33 (.inl (g_iop (fun x y => x + y) 34)) := snd_iadd dX1_shakeOneMinute_33
theorem s17_34 {l : Launch} {G : KG} : kOpOK l G 17 34 (.inl (g_aald 9 35)) := snd_aald9 dX1_shakeOneMinute_34
theorem s17_35 {l : Launch} {G : KG} : kOpOK l G 17 35 (.inl (g_ald 0 36)) := snd_aload_n dX1_shakeOneMinute_35 rfl
theorem s17_36 {l : Launch} {G : KG} : kOpOK l G 17 36 (.inl (g_gfi 1 6 39)) := snd_gfi (c := 1) (j := 6) (N := 14) dX1_shakeOneMinute_36 rfl hin1 (by decide) rfl (by decide) rfl wF_1_30
theorem s17_39 {l : Launch} {G : KG} : kOpOK l G 17 39 (.inr (.inl (25, 3, 42))) := ⟨snd_callV (c := 2) dX1_shakeOneMinute_39 rfl mok_25 rfl rfl rfl rfl (by decide) rfl wM_1_85 wN_X2_dropOnto wL_X2_dropOnto wI_2 (by decide), rfl, mok_25⟩
theorem s17_42 {l : Launch} {G : KG} : kOpOK l G 17 42 (.inl (g_iop (fun x y => x + y) 43)) := snd_iadd dX1_shakeOneMinute_42
theorem s17_43 {l : Launch} {G : KG} : kOpOK l G 17 43 (.inl (g_pfi 1 13 46)) := snd_pfi (c := 1) (j := 13) (N := 14) dX1_shakeOneMinute_43 rfl hin1 (by decide) rfl (by decide) rfl wF_1_65 tyX1 tyX1_ok nmX1 rfl (by decide +kernel)
theorem s17_46 {l : Launch} {G : KG} : kOpOK l G 17 46 (.inl (g_ald 0 47)) := snd_aload_n dX1_shakeOneMinute_46 rfl
theorem s17_47 {l : Launch} {G : KG} : kOpOK l G 17 47 (.inl (g_gfr 1 2 50)) := snd_gfr (c := 1) (j := 2) (N := 14) dX1_shakeOneMinute_47 rfl hin1 (by decide) rfl (by decide) rfl wF_1_20
theorem s17_50 {l : Launch} {G : KG} : kOpOK l G 17 50 (.inl (g_ild 1 51)) := snd_iload_n dX1_shakeOneMinute_50 rfl
theorem s17_51 {l : Launch} {G : KG} : kOpOK l G 17 51 (.inl (g_aald 9 52)) := snd_aald9 dX1_shakeOneMinute_51
theorem s17_52 {l : Launch} {G : KG} : kOpOK l G 17 52 (.inl (g_ald 0 53)) := snd_aload_n dX1_shakeOneMinute_52 rfl
theorem s17_53 {l : Launch} {G : KG} : kOpOK l G 17 53 (.inl (g_gfi 1 7 56)) := snd_gfi (c := 1) (j := 7) (N := 14) dX1_shakeOneMinute_53 rfl hin1 (by decide) rfl (by decide) rfl wF_1_34
theorem s17_56 {l : Launch} {G : KG} : kOpOK l G 17 56 (.inr (.inl (26, 2, 59))) := ⟨snd_callV (c := 2) dX1_shakeOneMinute_56 rfl mok_26 rfl rfl rfl rfl (by decide) rfl wM_1_89 wN_X2_blind wL_X2_blind wI_2 (by decide), rfl, mok_26⟩
theorem s17_59 {l : Launch} {G : KG} : kOpOK l G 17 59 (.inl (g_iinc 1 (-1) 62)) := snd_iinc dX1_shakeOneMinute_59 rfl
theorem s17_62 {l : Launch} {G : KG} : kOpOK l G 17 62 (.inl (g_goto 12)) := snd_goto dX1_shakeOneMinute_62 (by decide)
theorem s17_65 {l : Launch} {G : KG} : kOpOK l G 17 65 (.inl (g_ald 0 66)) := snd_aload_n dX1_shakeOneMinute_65 rfl
theorem s17_66 {l : Launch} {G : KG} : kOpOK l G 17 66 (.inl (g_gfr 1 2 69)) := snd_gfr (c := 1) (j := 2) (N := 14) dX1_shakeOneMinute_66 rfl hin1 (by decide) rfl (by decide) rfl wF_1_20
theorem s17_69 {l : Launch} {G : KG} : kOpOK l G 17 69 (.inl (g_ald 0 70)) := snd_aload_n dX1_shakeOneMinute_69 rfl
theorem s17_70 {l : Launch} {G : KG} : kOpOK l G 17 70 (.inl (g_gfi 1 5 73)) := snd_gfi (c := 1) (j := 5) (N := 14) dX1_shakeOneMinute_70 rfl hin1 (by decide) rfl (by decide) rfl wF_1_52
theorem s17_73 {l : Launch} {G : KG} : kOpOK l G 17 73 (.inl (g_aald 9 74)) := snd_aald9 dX1_shakeOneMinute_73
theorem s17_74 {l : Launch} {G : KG} : kOpOK l G 17 74 (.inl (g_gfr 2 0 77)) := snd_gfr (c := 2) (j := 0) (N := 4) dX1_shakeOneMinute_74 rfl hin2 (by decide) rfl (by decide) rfl wF_1_78
theorem s17_77 {l : Launch} {G : KG} : kOpOK l G 17 77 (.inl (g_ast 1 78)) := snd_astore_n dX1_shakeOneMinute_77 rfl
theorem s17_78 {l : Launch} {G : KG} : kOpOK l G 17 78 (.inl (g_ald 1 79)) := snd_aload_n dX1_shakeOneMinute_78 rfl
theorem s17_79 {l : Launch} {G : KG} : kOpOK l G 17 79 (.inl (g_push 0 80)) := snd_iconst dX1_shakeOneMinute_79 rfl
theorem s17_80 {l : Launch} {G : KG} : kOpOK l G 17 80 (.inl (g_dup2 81)) := snd_dup2 dX1_shakeOneMinute_80
theorem s17_81 {l : Launch} {G : KG} : kOpOK l G 17 81 (.inl (g_pald 5 82)) := snd_pald5 dX1_shakeOneMinute_81
theorem s17_82 {l : Launch} {G : KG} : kOpOK l G 17 82 (.inl (g_ald 1 83)) := snd_aload_n dX1_shakeOneMinute_82 rfl
theorem s17_83 {l : Launch} {G : KG} : kOpOK l G 17 83 (.inl (g_push 0 84)) := snd_iconst dX1_shakeOneMinute_83 rfl
theorem s17_84 {l : Launch} {G : KG} : kOpOK l G 17 84 (.inl (g_pald 5 85)) := snd_pald5 dX1_shakeOneMinute_84
theorem s17_85 {l : Launch} {G : KG} : kOpOK l G 17 85 (.inl (g_ald 0 86)) := snd_aload_n dX1_shakeOneMinute_85 rfl
theorem s17_86 {l : Launch} {G : KG} : kOpOK l G 17 86 (.inl (g_gfi 1 8 89)) := snd_gfi (c := 1) (j := 8) (N := 14) dX1_shakeOneMinute_86 rfl hin1 (by decide) rfl (by decide) rfl wF_1_37
theorem s17_89 {l : Launch} {G : KG} : kOpOK l G 17 89 (.inl (g_iop (fun x y => x * y) 90)) := snd_imul dX1_shakeOneMinute_89
theorem s17_90 {l : Launch} {G : KG} : kOpOK l G 17 90 (.inl (g_push 1000 93)) := snd_sipush dX1_shakeOneMinute_90 rfl
theorem s17_93 {l : Launch} {G : KG} : kOpOK l G 17 93 (.inl (g_idiv (fun x y => x / y) 94)) := snd_idiv dX1_shakeOneMinute_93
theorem s17_94 {l : Launch} {G : KG} : kOpOK l G 17 94 (.inl (g_iop (fun x y => x - y) 95)) := snd_isub dX1_shakeOneMinute_94
theorem s17_95 {l : Launch} {G : KG} : kOpOK l G 17 95 (.inl (g_past 5 96)) := snd_past5 dX1_shakeOneMinute_95
theorem s17_96 {l : Launch} {G : KG} : kOpOK l G 17 96 (.inl (g_ald 0 97)) := snd_aload_n dX1_shakeOneMinute_96 rfl
theorem s17_97 {l : Launch} {G : KG} : kOpOK l G 17 97 (.inl (g_dup 98)) := snd_dup dX1_shakeOneMinute_97
theorem s17_98 {l : Launch} {G : KG} : kOpOK l G 17 98 (.inl (g_gfi 1 12 101)) := snd_gfi (c := 1) (j := 12) (N := 14) dX1_shakeOneMinute_98 rfl hin1 (by decide) rfl (by decide) rfl wF_1_62
theorem s17_101 {l : Launch} {G : KG} : kOpOK l G 17 101 (.inl (g_push 1 102)) := snd_iconst dX1_shakeOneMinute_101 rfl
theorem s17_102 {l : Launch} {G : KG} : kOpOK l G 17 102 (.inl (g_iop (fun x y => x + y) 103)) := snd_iadd dX1_shakeOneMinute_102
theorem s17_103 {l : Launch} {G : KG} : kOpOK l G 17 103 (.inl (g_pfi 1 12 106)) := snd_pfi (c := 1) (j := 12) (N := 14) dX1_shakeOneMinute_103 rfl hin1 (by decide) rfl (by decide) rfl wF_1_62 tyX1 tyX1_ok nmX1 rfl (by decide +kernel)
theorem s17_106 {l : Launch} {G : KG} : kOpOK l G 17 106 (.inl (g_ald 0 107)) := snd_aload_n dX1_shakeOneMinute_106 rfl
theorem s17_107 {l : Launch} {G : KG} : kOpOK l G 17 107 (.inl (g_gfi 1 13 110)) := snd_gfi (c := 1) (j := 13) (N := 14) dX1_shakeOneMinute_107 rfl hin1 (by decide) rfl (by decide) rfl wF_1_65
theorem s17_110 {l : Launch} {G : KG} : kOpOK l G 17 110 (.inr (.inr 1)) := ⟨rfl, Or.inr (Or.inl ⟨rfl, dX1_shakeOneMinute_110, rfl⟩)⟩
theorem s18_0 {l : Launch} {G : KG} : kOpOK l G 18 0 (.inl (g_push 0 1)) := snd_iconst dX1_lostMass_0 rfl
theorem s18_1 {l : Launch} {G : KG} : kOpOK l G 18 1 (.inl (g_ist 1 2)) := snd_istore_n dX1_lostMass_1 rfl
theorem s18_2 {l : Launch} {G : KG} : kOpOK l G 18 2 (.inl (g_push 0 3)) := snd_iconst dX1_lostMass_2 rfl
theorem s18_3 {l : Launch} {G : KG} : kOpOK l G 18 3 (.inl (g_ist 2 4)) := snd_istore_n dX1_lostMass_3 rfl
theorem s18_4 {l : Launch} {G : KG} : kOpOK l G 18 4 (.inl (g_ild 2 5)) := snd_iload_n dX1_lostMass_4 rfl
theorem s18_5 {l : Launch} {G : KG} : kOpOK l G 18 5 (.inl (g_ald 0 6)) := snd_aload_n dX1_lostMass_5 rfl
theorem s18_6 {l : Launch} {G : KG} : kOpOK l G 18 6 (.inl (g_gfi 1 5 9)) := snd_gfi (c := 1) (j := 5) (N := 14) dX1_lostMass_6 rfl hin1 (by decide) rfl (by decide) rfl wF_1_52
theorem s18_9 {l : Launch} {G : KG} : kOpOK l G 18 9 (.inl (g_br2 (fun x y => decide (y < x)) 45 12)) := snd_icmp_gt dX1_lostMass_9 (by decide)
theorem s18_12 {l : Launch} {G : KG} : kOpOK l G 18 12 (.inl (g_ald 0 13)) := snd_aload_n dX1_lostMass_12 rfl
theorem s18_13 {l : Launch} {G : KG} : kOpOK l G 18 13 (.inl (g_gfr 1 2 16)) := snd_gfr (c := 1) (j := 2) (N := 14) dX1_lostMass_13 rfl hin1 (by decide) rfl (by decide) rfl wF_1_20
theorem s18_16 {l : Launch} {G : KG} : kOpOK l G 18 16 (.inl (g_ild 2 17)) := snd_iload_n dX1_lostMass_16 rfl
theorem s18_17 {l : Launch} {G : KG} : kOpOK l G 18 17 (.inl (g_aald 9 18)) := snd_aald9 dX1_lostMass_17
theorem s18_18 {l : Launch} {G : KG} : kOpOK l G 18 18 (.inl (g_ast 3 19)) := snd_astore_n dX1_lostMass_18 rfl
theorem s18_19 {l : Launch} {G : KG} : kOpOK l G 18 19 (.inl (g_ild 1 20)) := snd_iload_n dX1_lostMass_19 rfl
theorem s18_20 {l : Launch} {G : KG} : kOpOK l G 18 20 (.inl (g_ald 3 21)) := snd_aload_n dX1_lostMass_20 rfl
theorem s18_21 {l : Launch} {G : KG} : kOpOK l G 18 21 (.inl (g_gfr 2 0 24)) := snd_gfr (c := 2) (j := 0) (N := 4) dX1_lostMass_21 rfl hin2 (by decide) rfl (by decide) rfl wF_1_78
theorem s18_24 {l : Launch} {G : KG} : kOpOK l G 18 24 (.inr (.inl (62, 1, 27))) := ⟨snd_callSN (host := RX3) (idx := 93) dX1_lostMass_24 rfl mok_62 rfl rfl (by decide +kernel) wS_X3_sumOf (by decide), rfl, mok_62⟩
theorem s18_27 {l : Launch} {G : KG} : kOpOK l G 18 27 (.inl (g_ald 3 28)) := snd_aload_n dX1_lostMass_27 rfl
theorem s18_28 {l : Launch} {G : KG} : kOpOK l G 18 28 (.inl (g_gfi 2 2 31)) := snd_gfi (c := 2) (j := 2) (N := 4) dX1_lostMass_28 rfl hin2 (by decide) rfl (by decide) rfl wF_1_97
theorem s18_31 {l : Launch} {G : KG} : kOpOK l G 18 31 (.inl (g_iop (fun x y => x + y) 32)) := snd_iadd dX1_lostMass_31
theorem s18_32 {l : Launch} {G : KG} : kOpOK l G 18 32 (.inl (g_ald 3 33)) := snd_aload_n dX1_lostMass_32 rfl
theorem s18_33 {l : Launch} {G : KG} : kOpOK l G 18 33 (.inl (g_gfi 2 3 36)) := snd_gfi (c := 2) (j := 3) (N := 4) dX1_lostMass_33 rfl hin2 (by decide) rfl (by decide) rfl wF_1_100
theorem s18_36 {l : Launch} {G : KG} : kOpOK l G 18 36 (.inl (g_iop (fun x y => x + y) 37)) := snd_iadd dX1_lostMass_36
theorem s18_37 {l : Launch} {G : KG} : kOpOK l G 18 37 (.inl (g_iop (fun x y => x + y) 38)) := snd_iadd dX1_lostMass_37
theorem s18_38 {l : Launch} {G : KG} : kOpOK l G 18 38 (.inl (g_ist 1 39)) := snd_istore_n dX1_lostMass_38 rfl
theorem s18_39 {l : Launch} {G : KG} : kOpOK l G 18 39 (.inl (g_iinc 2 1 42)) := snd_iinc dX1_lostMass_39 rfl
theorem s18_42 {l : Launch} {G : KG} : kOpOK l G 18 42 (.inl (g_goto 4)) := snd_goto dX1_lostMass_42 (by decide)
theorem s18_45 {l : Launch} {G : KG} : kOpOK l G 18 45 (.inl (g_ald 0 46)) := snd_aload_n dX1_lostMass_45 rfl
theorem s18_46 {l : Launch} {G : KG} : kOpOK l G 18 46 (.inl (g_gfi 1 11 49)) := snd_gfi (c := 1) (j := 11) (N := 14) dX1_lostMass_46 rfl hin1 (by decide) rfl (by decide) rfl wF_1_59
theorem s18_49 {l : Launch} {G : KG} : kOpOK l G 18 49 (.inl (g_ild 1 50)) := snd_iload_n dX1_lostMass_49 rfl
theorem s18_50 {l : Launch} {G : KG} : kOpOK l G 18 50 (.inl (g_iop (fun x y => x - y) 51)) := snd_isub dX1_lostMass_50
theorem s18_51 {l : Launch} {G : KG} : kOpOK l G 18 51 (.inr (.inr 1)) := ⟨rfl, Or.inr (Or.inl ⟨rfl, dX1_lostMass_51, rfl⟩)⟩
theorem s19_0 {l : Launch} {G : KG} : kOpOK l G 19 0 (.inl (g_ald 0 1)) := snd_aload_n dX1_hasCollected_0 rfl
theorem s19_1 {l : Launch} {G : KG} : kOpOK l G 19 1 (.inl (g_gfi 1 10 4)) := snd_gfi (c := 1) (j := 10) (N := 14) dX1_hasCollected_1 rfl hin1 (by decide) rfl (by decide) rfl wF_1_55
theorem s19_4 {l : Launch} {G : KG} : kOpOK l G 19 4 (.inl (g_br1 (fun x => decide (x = 0)) 19 7)) := snd_if_eq dX1_hasCollected_4 (by decide)
theorem s19_7 {l : Launch} {G : KG} : kOpOK l G 19 7 (.inl (g_ald 0 8)) := snd_aload_n dX1_hasCollected_7 rfl
theorem s19_8 {l : Launch} {G : KG} : kOpOK l G 19 8 (.inl (g_push 0 9)) := snd_iconst dX1_hasCollected_8 rfl
theorem s19_9 {l : Launch} {G : KG} : kOpOK l G 19 9 (.inr (.inl (21, 2, 12))) := ⟨snd_callV (c := 1) dX1_hasCollected_9 rfl mok_21 rfl rfl rfl rfl (by decide) rfl wM_1_103 wN_X1_collectedFrom wL_X1_collectedFrom wI_1 (by decide), rfl, mok_21⟩
theorem s19_12 {l : Launch} {G : KG} : kOpOK l G 19 12 (.inl (g_br1 (fun x => decide (x = 0)) 19 15)) := snd_if_eq dX1_hasCollected_12 (by decide)
theorem s19_15 {l : Launch} {G : KG} : kOpOK l G 19 15 (.inl (g_push 1 16)) := snd_iconst dX1_hasCollected_15 rfl
theorem s19_16 {l : Launch} {G : KG} : kOpOK l G 19 16 (.inl (g_goto 20)) := snd_goto dX1_hasCollected_16 (by decide)
theorem s19_19 {l : Launch} {G : KG} : kOpOK l G 19 19 (.inl (g_push 0 20)) := snd_iconst dX1_hasCollected_19 rfl
theorem s19_20 {l : Launch} {G : KG} : kOpOK l G 19 20 (.inr (.inr 2)) := ⟨rfl, Or.inr (Or.inr ⟨rfl, dX1_hasCollected_20, rfl⟩)⟩
theorem s20_0 {l : Launch} {G : KG} : kOpOK l G 20 0 (.inl (g_ald 0 1)) := snd_aload_n dX1_passingOf_0 rfl
theorem s20_1 {l : Launch} {G : KG} : kOpOK l G 20 1 (.inl (g_ild 1 2)) := snd_iload_n dX1_passingOf_1 rfl
theorem s20_2 {l : Launch} {G : KG} : kOpOK l G 20 2 (.inl (g_push 1 3)) := snd_iconst dX1_passingOf_2 rfl
theorem s20_3 {l : Launch} {G : KG} : kOpOK l G 20 3 (.inl (g_iop (fun x y => x + y) 4)) := snd_iadd dX1_passingOf_3
theorem s20_4 {l : Launch} {G : KG} : kOpOK l G 20 4 (.inr (.inl (21, 2, 7))) := ⟨snd_callV (c := 1) dX1_passingOf_4 rfl mok_21 rfl rfl rfl rfl (by decide) rfl wM_1_103 wN_X1_collectedFrom wL_X1_collectedFrom wI_1 (by decide), rfl, mok_21⟩
theorem s20_7 {l : Launch} {G : KG} : kOpOK l G 20 7 (.inl (g_ald 0 8)) := snd_aload_n dX1_passingOf_7 rfl
theorem s20_8 {l : Launch} {G : KG} : kOpOK l G 20 8 (.inl (g_push 0 9)) := snd_iconst dX1_passingOf_8 rfl
theorem s20_9 {l : Launch} {G : KG} : kOpOK l G 20 9 (.inr (.inl (21, 2, 12))) := ⟨snd_callV (c := 1) dX1_passingOf_9 rfl mok_21 rfl rfl rfl rfl (by decide) rfl wM_1_103 wN_X1_collectedFrom wL_X1_collectedFrom wI_1 (by decide), rfl, mok_21⟩
theorem s20_12 {l : Launch} {G : KG} : kOpOK l G 20 12 (.inr (.inl (65, 2, 15))) := ⟨snd_callSN (host := RX3) (idx := 107) dX1_passingOf_12 rfl mok_65 rfl rfl (by decide +kernel) wS_X3_perThousand (by decide), rfl, mok_65⟩
theorem s20_15 {l : Launch} {G : KG} : kOpOK l G 20 15 (.inr (.inr 1)) := ⟨rfl, Or.inr (Or.inl ⟨rfl, dX1_passingOf_15, rfl⟩)⟩
theorem s21_0 {l : Launch} {G : KG} : kOpOK l G 21 0 (.inl (g_push 0 1)) := snd_iconst dX1_collectedFrom_0 rfl
theorem s21_1 {l : Launch} {G : KG} : kOpOK l G 21 1 (.inl (g_ist 2 2)) := snd_istore_n dX1_collectedFrom_1 rfl
theorem s21_2 {l : Launch} {G : KG} : kOpOK l G 21 2 (.inl (g_ild 1 3)) := snd_iload_n dX1_collectedFrom_2 rfl
theorem s21_3 {l : Launch} {G : KG} : kOpOK l G 21 3 (.inl (g_ist 3 4)) := snd_istore_n dX1_collectedFrom_3 rfl
theorem s21_4 {l : Launch} {G : KG} : kOpOK l G 21 4 (.inl (g_ild 3 5)) := snd_iload_n dX1_collectedFrom_4 rfl
theorem s21_5 {l : Launch} {G : KG} : kOpOK l G 21 5 (.inl (g_ald 0 6)) := snd_aload_n dX1_collectedFrom_5 rfl
theorem s21_6 {l : Launch} {G : KG} : kOpOK l G 21 6 (.inl (g_gfi 1 5 9)) := snd_gfi (c := 1) (j := 5) (N := 14) dX1_collectedFrom_6 rfl hin1 (by decide) rfl (by decide) rfl wF_1_52
theorem s21_9 {l : Launch} {G : KG} : kOpOK l G 21 9 (.inl (g_br2 (fun x y => decide (y < x)) 30 12)) := snd_icmp_gt dX1_collectedFrom_9 (by decide)
theorem s21_12 {l : Launch} {G : KG} : kOpOK l G 21 12 (.inl (g_ild 2 13)) := snd_iload_n dX1_collectedFrom_12 rfl
theorem s21_13 {l : Launch} {G : KG} : kOpOK l G 21 13 (.inl (g_ald 0 14)) := snd_aload_n dX1_collectedFrom_13 rfl
theorem s21_14 {l : Launch} {G : KG} : kOpOK l G 21 14 (.inl (g_gfr 1 2 17)) := snd_gfr (c := 1) (j := 2) (N := 14) dX1_collectedFrom_14 rfl hin1 (by decide) rfl (by decide) rfl wF_1_20
theorem s21_17 {l : Launch} {G : KG} : kOpOK l G 21 17 (.inl (g_ild 3 18)) := snd_iload_n dX1_collectedFrom_17 rfl
theorem s21_18 {l : Launch} {G : KG} : kOpOK l G 21 18 (.inl (g_aald 9 19)) := snd_aald9 dX1_collectedFrom_18
theorem s21_19 {l : Launch} {G : KG} : kOpOK l G 21 19 (.inl (g_gfi 2 3 22)) := snd_gfi (c := 2) (j := 3) (N := 4) dX1_collectedFrom_19 rfl hin2 (by decide) rfl (by decide) rfl wF_1_100
theorem s21_22 {l : Launch} {G : KG} : kOpOK l G 21 22 (.inl (g_iop (fun x y => x + y) 23)) := snd_iadd dX1_collectedFrom_22
theorem s21_23 {l : Launch} {G : KG} : kOpOK l G 21 23 (.inl (g_ist 2 24)) := snd_istore_n dX1_collectedFrom_23 rfl
theorem s21_24 {l : Launch} {G : KG} : kOpOK l G 21 24 (.inl (g_iinc 3 1 27)) := snd_iinc dX1_collectedFrom_24 rfl
theorem s21_27 {l : Launch} {G : KG} : kOpOK l G 21 27 (.inl (g_goto 4)) := snd_goto dX1_collectedFrom_27 (by decide)
theorem s21_30 {l : Launch} {G : KG} : kOpOK l G 21 30 (.inl (g_ild 2 31)) := snd_iload_n dX1_collectedFrom_30 rfl
theorem s21_31 {l : Launch} {G : KG} : kOpOK l G 21 31 (.inr (.inr 1)) := ⟨rfl, Or.inr (Or.inl ⟨rfl, dX1_collectedFrom_31, rfl⟩)⟩
theorem s22_0 {l : Launch} {G : KG} : kOpOK l G 22 0 (.inl (g_ald 1 1)) := snd_aload_n dX2_copyFrom_0 rfl
theorem s22_1 {l : Launch} {G : KG} : kOpOK l G 22 1 (.inl (g_gfr 2 0 4)) := snd_gfr (c := 2) (j := 0) (N := 4) dX2_copyFrom_1 rfl hin2 (by decide) rfl (by decide) rfl wF_2_9
theorem s22_4 {l : Launch} {G : KG} : kOpOK l G 22 4 (.inl (g_ald 0 5)) := snd_aload_n dX2_copyFrom_4 rfl
theorem s22_5 {l : Launch} {G : KG} : kOpOK l G 22 5 (.inl (g_gfr 2 0 8)) := snd_gfr (c := 2) (j := 0) (N := 4) dX2_copyFrom_5 rfl hin2 (by decide) rfl (by decide) rfl wF_2_9
theorem s22_8 {l : Launch} {G : KG} : kOpOK l G 22 8 (.inr (.inl (64, 2, 11))) := ⟨snd_callSN (host := RX3) (idx := 15) dX2_copyFrom_8 rfl mok_64 rfl rfl (by decide +kernel) wS_X3_copyRow (by decide), rfl, mok_64⟩
theorem s22_11 {l : Launch} {G : KG} : kOpOK l G 22 11 (.inl (g_ald 0 12)) := snd_aload_n dX2_copyFrom_11 rfl
theorem s22_12 {l : Launch} {G : KG} : kOpOK l G 22 12 (.inl (g_ald 1 13)) := snd_aload_n dX2_copyFrom_12 rfl
theorem s22_13 {l : Launch} {G : KG} : kOpOK l G 22 13 (.inl (g_gfi 2 1 16)) := snd_gfi (c := 2) (j := 1) (N := 4) dX2_copyFrom_13 rfl hin2 (by decide) rfl (by decide) rfl wF_2_19
theorem s22_16 {l : Launch} {G : KG} : kOpOK l G 22 16 (.inl (g_pfi 2 1 19)) := snd_pfi (c := 2) (j := 1) (N := 4) dX2_copyFrom_16 rfl hin2 (by decide) rfl (by decide) rfl wF_2_19 tyX2 tyX2_ok nmX2 rfl (by decide +kernel)
theorem s22_19 {l : Launch} {G : KG} : kOpOK l G 22 19 (.inl (g_ald 0 20)) := snd_aload_n dX2_copyFrom_19 rfl
theorem s22_20 {l : Launch} {G : KG} : kOpOK l G 22 20 (.inl (g_ald 1 21)) := snd_aload_n dX2_copyFrom_20 rfl
theorem s22_21 {l : Launch} {G : KG} : kOpOK l G 22 21 (.inl (g_gfi 2 2 24)) := snd_gfi (c := 2) (j := 2) (N := 4) dX2_copyFrom_21 rfl hin2 (by decide) rfl (by decide) rfl wF_2_23
theorem s22_24 {l : Launch} {G : KG} : kOpOK l G 22 24 (.inl (g_pfi 2 2 27)) := snd_pfi (c := 2) (j := 2) (N := 4) dX2_copyFrom_24 rfl hin2 (by decide) rfl (by decide) rfl wF_2_23 tyX2 tyX2_ok nmX2 rfl (by decide +kernel)
theorem s22_27 {l : Launch} {G : KG} : kOpOK l G 22 27 (.inl (g_ald 0 28)) := snd_aload_n dX2_copyFrom_27 rfl
theorem s22_28 {l : Launch} {G : KG} : kOpOK l G 22 28 (.inl (g_ald 1 29)) := snd_aload_n dX2_copyFrom_28 rfl
theorem s22_29 {l : Launch} {G : KG} : kOpOK l G 22 29 (.inl (g_gfi 2 3 32)) := snd_gfi (c := 2) (j := 3) (N := 4) dX2_copyFrom_29 rfl hin2 (by decide) rfl (by decide) rfl wF_2_26
theorem s22_32 {l : Launch} {G : KG} : kOpOK l G 22 32 (.inl (g_pfi 2 3 35)) := snd_pfi (c := 2) (j := 3) (N := 4) dX2_copyFrom_32 rfl hin2 (by decide) rfl (by decide) rfl wF_2_26 tyX2 tyX2_ok nmX2 rfl (by decide +kernel)
theorem s22_35 {l : Launch} {G : KG} : kOpOK l G 22 35 (.inr (.inr 0)) := ⟨rfl, Or.inl ⟨rfl, dX2_copyFrom_35, rfl⟩⟩
theorem s23_0 {l : Launch} {G : KG} : kOpOK l G 23 0 (.inl (g_ald 0 1)) := snd_aload_n dX2_throwAway_0 rfl
theorem s23_1 {l : Launch} {G : KG} : kOpOK l G 23 1 (.inl (g_gfr 2 0 4)) := snd_gfr (c := 2) (j := 0) (N := 4) dX2_throwAway_1 rfl hin2 (by decide) rfl (by decide) rfl wF_2_9
theorem s23_4 {l : Launch} {G : KG} : kOpOK l G 23 4 (.inr (.inl (63, 1, 7))) := ⟨snd_callSN (host := RX3) (idx := 29) dX2_throwAway_4 rfl mok_63 rfl rfl (by decide +kernel) wS_X3_clearRow (by decide), rfl, mok_63⟩
theorem s23_7 {l : Launch} {G : KG} : kOpOK l G 23 7 (.inl (g_ald 0 8)) := snd_aload_n dX2_throwAway_7 rfl
theorem s23_8 {l : Launch} {G : KG} : kOpOK l G 23 8 (.inl (g_push 0 9)) := snd_iconst dX2_throwAway_8 rfl
theorem s23_9 {l : Launch} {G : KG} : kOpOK l G 23 9 (.inl (g_pfi 2 2 12)) := snd_pfi (c := 2) (j := 2) (N := 4) dX2_throwAway_9 rfl hin2 (by decide) rfl (by decide) rfl wF_2_23 tyX2 tyX2_ok nmX2 rfl (by decide +kernel)
theorem s23_12 {l : Launch} {G : KG} : kOpOK l G 23 12 (.inl (g_ald 0 13)) := snd_aload_n dX2_throwAway_12 rfl
theorem s23_13 {l : Launch} {G : KG} : kOpOK l G 23 13 (.inl (g_push 0 14)) := snd_iconst dX2_throwAway_13 rfl
theorem s23_14 {l : Launch} {G : KG} : kOpOK l G 23 14 (.inl (g_pfi 2 3 17)) := snd_pfi (c := 2) (j := 3) (N := 4) dX2_throwAway_14 rfl hin2 (by decide) rfl (by decide) rfl wF_2_26 tyX2 tyX2_ok nmX2 rfl (by decide +kernel)
theorem s23_17 {l : Launch} {G : KG} : kOpOK l G 23 17 (.inr (.inr 0)) := ⟨rfl, Or.inl ⟨rfl, dX2_throwAway_17, rfl⟩⟩
theorem s24_0 {l : Launch} {G : KG} : kOpOK l G 24 0 (.inl (g_push 100 2)) := snd_bipush dX2_openness_0 rfl
theorem s24_2 {l : Launch} {G : KG} : kOpOK l G 24 2 (.inl (g_push 1000 5)) := snd_sipush dX2_openness_2 rfl
theorem s24_5 {l : Launch} {G : KG} : kOpOK l G 24 5 (.inl (g_ald 0 6)) := snd_aload_n dX2_openness_5 rfl
theorem s24_6 {l : Launch} {G : KG} : kOpOK l G 24 6 (.inl (g_gfi 2 2 9)) := snd_gfi (c := 2) (j := 2) (N := 4) dX2_openness_6 rfl hin2 (by decide) rfl (by decide) rfl wF_2_23
theorem s24_9 {l : Launch} {G : KG} : kOpOK l G 24 9 (.inl (g_ild 1 10)) := snd_iload_n dX2_openness_9 rfl
theorem s24_10 {l : Launch} {G : KG} : kOpOK l G 24 10 (.inr (.inl (65, 2, 13))) := ⟨snd_callSN (host := RX3) (idx := 33) dX2_openness_10 rfl mok_65 rfl rfl (by decide +kernel) wS_X3_perThousand (by decide), rfl, mok_65⟩
theorem s24_13 {l : Launch} {G : KG} : kOpOK l G 24 13 (.inl (g_iop (fun x y => x - y) 14)) := snd_isub dX2_openness_13
theorem s24_14 {l : Launch} {G : KG} : kOpOK l G 24 14 (.inl (g_imax 17)) := snd_imax dX2_openness_14 wM_2_37 wS_snd_imax wI_math wC_snd_imax (by decide) (by decide)
theorem s24_17 {l : Launch} {G : KG} : kOpOK l G 24 17 (.inr (.inr 1)) := ⟨rfl, Or.inr (Or.inl ⟨rfl, dX2_openness_17, rfl⟩)⟩
theorem s25_0 {l : Launch} {G : KG} : kOpOK l G 25 0 (.inl (g_ald 0 1)) := snd_aload_n dX2_dropOnto_0 rfl
theorem s25_1 {l : Launch} {G : KG} : kOpOK l G 25 1 (.inl (g_ild 2 2)) := snd_iload_n dX2_dropOnto_1 rfl
theorem s25_2 {l : Launch} {G : KG} : kOpOK l G 25 2 (.inr (.inl (24, 2, 5))) := ⟨snd_callV (c := 2) dX2_dropOnto_2 rfl mok_24 rfl rfl rfl rfl (by decide) rfl wM_2_42 wN_X2_openness wL_X2_openness wI_2 (by decide), rfl, mok_24⟩
theorem s25_5 {l : Launch} {G : KG} : kOpOK l G 25 5 (.inl (g_ist 3 6)) := snd_istore_n dX2_dropOnto_5 rfl
theorem s25_6 {l : Launch} {G : KG} : kOpOK l G 25 6 (.inl (g_push 0 7)) := snd_iconst dX2_dropOnto_6 rfl
theorem s25_7 {l : Launch} {G : KG} : kOpOK l G 25 7 (.inl (g_ist 4 9)) := snd_istore dX2_dropOnto_7
theorem s25_9 {l : Launch} {G : KG} : kOpOK l G 25 9 (.inl (g_push 0 10)) := snd_iconst dX2_dropOnto_9 rfl
theorem s25_10 {l : Launch} {G : KG} : kOpOK l G 25 10 (.inl (g_ist 5 12)) := snd_istore dX2_dropOnto_10
theorem s25_12 {l : Launch} {G : KG} : kOpOK l G 25 12 (.inl (g_ild 5 14)) := snd_iload dX2_dropOnto_12
theorem s25_14 {l : Launch} {G : KG} : kOpOK l G 25 14 (.inl (g_ald 0 15)) := snd_aload_n dX2_dropOnto_14 rfl
theorem s25_15 {l : Launch} {G : KG} : kOpOK l G 25 15 (.inl (g_gfi 2 1 18)) := snd_gfi (c := 2) (j := 1) (N := 4) dX2_dropOnto_15 rfl hin2 (by decide) rfl (by decide) rfl wF_2_19
theorem s25_18 {l : Launch} {G : KG} : kOpOK l G 25 18 (.inl (g_br2 (fun x y => decide (y ≤ x)) 81 21)) := snd_icmp_ge dX2_dropOnto_18 (by decide)
theorem s25_21 {l : Launch} {G : KG} : kOpOK l G 25 21 (.inl (g_ald 0 22)) := snd_aload_n dX2_dropOnto_21 rfl
theorem s25_22 {l : Launch} {G : KG} : kOpOK l G 25 22 (.inl (g_gfr 2 0 25)) := snd_gfr (c := 2) (j := 0) (N := 4) dX2_dropOnto_22 rfl hin2 (by decide) rfl (by decide) rfl wF_2_9
theorem s25_25 {l : Launch} {G : KG} : kOpOK l G 25 25 (.inl (g_ild 5 27)) := snd_iload dX2_dropOnto_25
theorem s25_27 {l : Launch} {G : KG} : kOpOK l G 25 27 (.inl (g_pald 5 28)) := snd_pald5 dX2_dropOnto_27
theorem s25_28 {l : Launch} {G : KG} : kOpOK l G 25 28 (.inl (g_ild 3 29)) := snd_iload_n dX2_dropOnto_28 rfl
theorem s25_29 {l : Launch} {G : KG} : kOpOK l G 25 29 (.inl (g_ald 0 30)) := snd_aload_n dX2_dropOnto_29 rfl
theorem s25_30 {l : Launch} {G : KG} : kOpOK l G 25 30 (.inl (g_gfi 2 1 33)) := snd_gfi (c := 2) (j := 1) (N := 4) dX2_dropOnto_30 rfl hin2 (by decide) rfl (by decide) rfl wF_2_19
theorem s25_33 {l : Launch} {G : KG} : kOpOK l G 25 33 (.inl (g_ild 5 35)) := snd_iload dX2_dropOnto_33
theorem s25_35 {l : Launch} {G : KG} : kOpOK l G 25 35 (.inl (g_iop (fun x y => x - y) 36)) := snd_isub dX2_dropOnto_35
theorem s25_36 {l : Launch} {G : KG} : kOpOK l G 25 36 (.inr (.inl (28, 1, 39))) := ⟨snd_callS dX2_dropOnto_36 rfl mok_28 rfl rfl rfl wM_2_46 wS_X2_easeOf wI_2 (by decide), rfl, mok_28⟩
theorem s25_39 {l : Launch} {G : KG} : kOpOK l G 25 39 (.inr (.inl (27, 3, 42))) := ⟨snd_callS dX2_dropOnto_39 rfl mok_27 rfl rfl rfl wM_2_49 wS_X2_fallingOf wI_2 (by decide), rfl, mok_27⟩
theorem s25_42 {l : Launch} {G : KG} : kOpOK l G 25 42 (.inl (g_ist 6 44)) := snd_istore dX2_dropOnto_42
theorem s25_44 {l : Launch} {G : KG} : kOpOK l G 25 44 (.inl (g_ald 0 45)) := snd_aload_n dX2_dropOnto_44 rfl
theorem s25_45 {l : Launch} {G : KG} : kOpOK l G 25 45 (.inl (g_gfr 2 0 48)) := snd_gfr (c := 2) (j := 0) (N := 4) dX2_dropOnto_45 rfl hin2 (by decide) rfl (by decide) rfl wF_2_9
theorem s25_48 {l : Launch} {G : KG} : kOpOK l G 25 48 (.inl (g_ild 5 50)) := snd_iload dX2_dropOnto_48
theorem s25_50 {l : Launch} {G : KG} : kOpOK l G 25 50 (.inl (g_dup2 51)) := snd_dup2 dX2_dropOnto_50
theorem s25_51 {l : Launch} {G : KG} : kOpOK l G 25 51 (.inl (g_pald 5 52)) := snd_pald5 dX2_dropOnto_51
theorem s25_52 {l : Launch} {G : KG} : kOpOK l G 25 52 (.inl (g_ild 6 54)) := snd_iload dX2_dropOnto_52
theorem s25_54 {l : Launch} {G : KG} : kOpOK l G 25 54 (.inl (g_iop (fun x y => x - y) 55)) := snd_isub dX2_dropOnto_54
theorem s25_55 {l : Launch} {G : KG} : kOpOK l G 25 55 (.inl (g_past 5 56)) := snd_past5 dX2_dropOnto_55
theorem s25_56 {l : Launch} {G : KG} : kOpOK l G 25 56 (.inl (g_ald 1 57)) := snd_aload_n dX2_dropOnto_56 rfl
theorem s25_57 {l : Launch} {G : KG} : kOpOK l G 25 57 (.inl (g_gfr 2 0 60)) := snd_gfr (c := 2) (j := 0) (N := 4) dX2_dropOnto_57 rfl hin2 (by decide) rfl (by decide) rfl wF_2_9
theorem s25_60 {l : Launch} {G : KG} : kOpOK l G 25 60 (.inl (g_ild 5 62)) := snd_iload dX2_dropOnto_60
theorem s25_62 {l : Launch} {G : KG} : kOpOK l G 25 62 (.inl (g_dup2 63)) := snd_dup2 dX2_dropOnto_62
theorem s25_63 {l : Launch} {G : KG} : kOpOK l G 25 63 (.inl (g_pald 5 64)) := snd_pald5 dX2_dropOnto_63
theorem s25_64 {l : Launch} {G : KG} : kOpOK l G 25 64 (.inl (g_ild 6 66)) := snd_iload dX2_dropOnto_64
theorem s25_66 {l : Launch} {G : KG} : kOpOK l G 25 66 (.inl (g_iop (fun x y => x + y) 67)) := snd_iadd dX2_dropOnto_66
theorem s25_67 {l : Launch} {G : KG} : kOpOK l G 25 67 (.inl (g_past 5 68)) := snd_past5 dX2_dropOnto_67
theorem s25_68 {l : Launch} {G : KG} : kOpOK l G 25 68 (.inl (g_ild 4 70)) := snd_iload dX2_dropOnto_68
theorem s25_70 {l : Launch} {G : KG} : kOpOK l G 25 70 (.inl (g_ild 6 72)) := snd_iload dX2_dropOnto_70
theorem s25_72 {l : Launch} {G : KG} : kOpOK l G 25 72 (.inl (g_iop (fun x y => x + y) 73)) := snd_iadd dX2_dropOnto_72
theorem s25_73 {l : Launch} {G : KG} : kOpOK l G 25 73 (.inl (g_ist 4 75)) := snd_istore dX2_dropOnto_73
theorem s25_75 {l : Launch} {G : KG} : kOpOK l G 25 75 (.inl (g_iinc 5 1 78)) := snd_iinc dX2_dropOnto_75 rfl
theorem s25_78 {l : Launch} {G : KG} : kOpOK l G 25 78 (.inl (g_goto 12)) := snd_goto dX2_dropOnto_78 (by decide)
theorem s25_81 {l : Launch} {G : KG} : kOpOK l G 25 81 (.inl (g_ild 4 83)) := snd_iload dX2_dropOnto_81
theorem s25_83 {l : Launch} {G : KG} : kOpOK l G 25 83 (.inr (.inr 1)) := ⟨rfl, Or.inr (Or.inl ⟨rfl, dX2_dropOnto_83, rfl⟩)⟩
theorem s26_0 {l : Launch} {G : KG} : kOpOK l G 26 0 (.inl (g_ald 0 1)) := snd_aload_n dX2_blind_0 rfl
theorem s26_1 {l : Launch} {G : KG} : kOpOK l G 26 1 (.inl (g_gfr 2 0 4)) := snd_gfr (c := 2) (j := 0) (N := 4) dX2_blind_1 rfl hin2 (by decide) rfl (by decide) rfl wF_2_9
theorem s26_4 {l : Launch} {G : KG} : kOpOK l G 26 4 (.inl (g_ald 0 5)) := snd_aload_n dX2_blind_4 rfl
theorem s26_5 {l : Launch} {G : KG} : kOpOK l G 26 5 (.inl (g_gfi 2 1 8)) := snd_gfi (c := 2) (j := 1) (N := 4) dX2_blind_5 rfl hin2 (by decide) rfl (by decide) rfl wF_2_19
theorem s26_8 {l : Launch} {G : KG} : kOpOK l G 26 8 (.inl (g_pald 5 9)) := snd_pald5 dX2_blind_8
theorem s26_9 {l : Launch} {G : KG} : kOpOK l G 26 9 (.inl (g_ild 1 10)) := snd_iload_n dX2_blind_9 rfl
theorem s26_10 {l : Launch} {G : KG} : kOpOK l G 26 10 (.inl (g_iop (fun x y => x * y) 11)) := snd_imul dX2_blind_10
theorem s26_11 {l : Launch} {G : KG} : kOpOK l G 26 11 (.inl (g_push 1000 14)) := snd_sipush dX2_blind_11 rfl
theorem s26_14 {l : Launch} {G : KG} : kOpOK l G 26 14 (.inl (g_idiv (fun x y => x / y) 15)) := snd_idiv dX2_blind_14
theorem s26_15 {l : Launch} {G : KG} : kOpOK l G 26 15 (.inl (g_ist 2 16)) := snd_istore_n dX2_blind_15 rfl
theorem s26_16 {l : Launch} {G : KG} : kOpOK l G 26 16 (.inl (g_ald 0 17)) := snd_aload_n dX2_blind_16 rfl
theorem s26_17 {l : Launch} {G : KG} : kOpOK l G 26 17 (.inl (g_gfr 2 0 20)) := snd_gfr (c := 2) (j := 0) (N := 4) dX2_blind_17 rfl hin2 (by decide) rfl (by decide) rfl wF_2_9
theorem s26_20 {l : Launch} {G : KG} : kOpOK l G 26 20 (.inl (g_ald 0 21)) := snd_aload_n dX2_blind_20 rfl
theorem s26_21 {l : Launch} {G : KG} : kOpOK l G 26 21 (.inl (g_gfi 2 1 24)) := snd_gfi (c := 2) (j := 1) (N := 4) dX2_blind_21 rfl hin2 (by decide) rfl (by decide) rfl wF_2_19
theorem s26_24 {l : Launch} {G : KG} : kOpOK l G 26 24 (.inl (g_dup2 25)) := snd_dup2 dX2_blind_24
theorem s26_25 {l : Launch} {G : KG} : kOpOK l G 26 25 (.inl (g_pald 5 26)) := snd_pald5 dX2_blind_25
theorem s26_26 {l : Launch} {G : KG} : kOpOK l G 26 26 (.inl (g_ild 2 27)) := snd_iload_n dX2_blind_26 rfl
theorem s26_27 {l : Launch} {G : KG} : kOpOK l G 26 27 (.inl (g_iop (fun x y => x - y) 28)) := snd_isub dX2_blind_27
theorem s26_28 {l : Launch} {G : KG} : kOpOK l G 26 28 (.inl (g_past 5 29)) := snd_past5 dX2_blind_28
theorem s26_29 {l : Launch} {G : KG} : kOpOK l G 26 29 (.inl (g_ald 0 30)) := snd_aload_n dX2_blind_29 rfl
theorem s26_30 {l : Launch} {G : KG} : kOpOK l G 26 30 (.inl (g_dup 31)) := snd_dup dX2_blind_30
theorem s26_31 {l : Launch} {G : KG} : kOpOK l G 26 31 (.inl (g_gfi 2 2 34)) := snd_gfi (c := 2) (j := 2) (N := 4) dX2_blind_31 rfl hin2 (by decide) rfl (by decide) rfl wF_2_23
theorem s26_34 {l : Launch} {G : KG} : kOpOK l G 26 34 (.inl (g_ild 2 35)) := snd_iload_n dX2_blind_34 rfl
theorem s26_35 {l : Launch} {G : KG} : kOpOK l G 26 35 (.inl (g_iop (fun x y => x + y) 36)) := snd_iadd dX2_blind_35
theorem s26_36 {l : Launch} {G : KG} : kOpOK l G 26 36 (.inl (g_pfi 2 2 39)) := snd_pfi (c := 2) (j := 2) (N := 4) dX2_blind_36 rfl hin2 (by decide) rfl (by decide) rfl wF_2_23 tyX2 tyX2_ok nmX2 rfl (by decide +kernel)
theorem s26_39 {l : Launch} {G : KG} : kOpOK l G 26 39 (.inr (.inr 0)) := ⟨rfl, Or.inl ⟨rfl, dX2_blind_39, rfl⟩⟩
theorem s27_0 {l : Launch} {G : KG} : kOpOK l G 27 0 (.inl (g_ild 0 1)) := snd_iload_n dX2_fallingOf_0 rfl
theorem s27_1 {l : Launch} {G : KG} : kOpOK l G 27 1 (.inl (g_br1 (fun x => decide (¬ x = 0)) 6 4)) := snd_if_ne dX2_fallingOf_1 (by decide)
theorem s27_4 {l : Launch} {G : KG} : kOpOK l G 27 4 (.inl (g_push 0 5)) := snd_iconst dX2_fallingOf_4 rfl
theorem s27_5 {l : Launch} {G : KG} : kOpOK l G 27 5 (.inr (.inr 1)) := ⟨rfl, Or.inr (Or.inl ⟨rfl, dX2_fallingOf_5, rfl⟩)⟩
theorem s27_6 {l : Launch} {G : KG} : kOpOK l G 27 6 (.inl (g_pushl 1 7)) := snd_lconst dX2_fallingOf_6 rfl
theorem s27_7 {l : Launch} {G : KG} : kOpOK l G 27 7 (.inl (g_ild 0 8)) := snd_iload_n dX2_fallingOf_7 rfl
theorem s27_8 {l : Launch} {G : KG} : kOpOK l G 27 8 (.inl (g_i2l 9)) := snd_i2l dX2_fallingOf_8
theorem s27_9 {l : Launch} {G : KG} : kOpOK l G 27 9 (.inl (g_ild 1 10)) := snd_iload_n dX2_fallingOf_9 rfl
theorem s27_10 {l : Launch} {G : KG} : kOpOK l G 27 10 (.inl (g_i2l 11)) := snd_i2l dX2_fallingOf_10
theorem s27_11 {l : Launch} {G : KG} : kOpOK l G 27 11 (.inl (g_lop (fun x y => x * y) 12)) := snd_lmul dX2_fallingOf_11
theorem s27_12 {l : Launch} {G : KG} : kOpOK l G 27 12 (.inl (g_ild 2 13)) := snd_iload_n dX2_fallingOf_12 rfl
theorem s27_13 {l : Launch} {G : KG} : kOpOK l G 27 13 (.inl (g_i2l 14)) := snd_i2l dX2_fallingOf_13
theorem s27_14 {l : Launch} {G : KG} : kOpOK l G 27 14 (.inl (g_lop (fun x y => x * y) 15)) := snd_lmul dX2_fallingOf_14
theorem s27_15 {l : Launch} {G : KG} : kOpOK l G 27 15 (.inl (g_pushl 1000000 18)) := snd_ldc2 dX2_fallingOf_15 wK_2_53
theorem s27_18 {l : Launch} {G : KG} : kOpOK l G 27 18 (.inl (g_ldiv 19)) := snd_ldiv dX2_fallingOf_18
theorem s27_19 {l : Launch} {G : KG} : kOpOK l G 27 19 (.inl (g_lmax 22)) := snd_lmax dX2_fallingOf_19 wM_2_55 wS_snd_lmax wI_math wC_snd_lmax (by decide) (by decide)
theorem s27_22 {l : Launch} {G : KG} : kOpOK l G 27 22 (.inl (g_l2i 23)) := snd_l2i dX2_fallingOf_22
theorem s27_23 {l : Launch} {G : KG} : kOpOK l G 27 23 (.inr (.inr 1)) := ⟨rfl, Or.inr (Or.inl ⟨rfl, dX2_fallingOf_23, rfl⟩)⟩
theorem s28_0 {l : Launch} {G : KG} : kOpOK l G 28 0 (.inl (g_ild 0 1)) := snd_iload_n dX2_easeOf_0 rfl
theorem s28_1 {l : Launch} {G : KG} : kOpOK l G 28 1 (.inl (g_lsw2 1 2 28 32 36)) := snd_lsw2 dX2_easeOf_1 (by decide) (by decide) (by decide) rfl rfl (by decide)
theorem s28_28 {l : Launch} {G : KG} : kOpOK l G 28 28 (.inl (g_push 300 31)) := snd_sipush dX2_easeOf_28 rfl
theorem s28_31 {l : Launch} {G : KG} : kOpOK l G 28 31 (.inr (.inr 1)) := ⟨rfl, Or.inr (Or.inl ⟨rfl, dX2_easeOf_31, rfl⟩)⟩
theorem s28_32 {l : Launch} {G : KG} : kOpOK l G 28 32 (.inl (g_push 600 35)) := snd_sipush dX2_easeOf_32 rfl
theorem s28_35 {l : Launch} {G : KG} : kOpOK l G 28 35 (.inr (.inr 1)) := ⟨rfl, Or.inr (Or.inl ⟨rfl, dX2_easeOf_35, rfl⟩)⟩
theorem s28_36 {l : Launch} {G : KG} : kOpOK l G 28 36 (.inl (g_push 900 39)) := snd_sipush dX2_easeOf_36 rfl
theorem s28_39 {l : Launch} {G : KG} : kOpOK l G 28 39 (.inr (.inr 1)) := ⟨rfl, Or.inr (Or.inl ⟨rfl, dX2_easeOf_39, rfl⟩)⟩
theorem s29_0 {l : Launch} {G : KG} : kOpOK l G 29 0 (.inl (g_ild 1 1)) := snd_iload_n dX3_setMass_0 rfl
theorem s29_1 {l : Launch} {G : KG} : kOpOK l G 29 1 (.inr (.inl (60, 1, 4))) := ⟨snd_callS dX3_setMass_1 rfl mok_60 rfl rfl rfl wM_3_30 wS_X3_isClass wI_3 (by decide), rfl, mok_60⟩
theorem s29_4 {l : Launch} {G : KG} : kOpOK l G 29 4 (.inl (g_br1 (fun x => decide (x = 0)) 18 7)) := snd_if_eq dX3_setMass_4 (by decide)
theorem s29_7 {l : Launch} {G : KG} : kOpOK l G 29 7 (.inl (g_ild 2 8)) := snd_iload_n dX3_setMass_7 rfl
theorem s29_8 {l : Launch} {G : KG} : kOpOK l G 29 8 (.inl (g_push 0 9)) := snd_iconst dX3_setMass_8 rfl
theorem s29_9 {l : Launch} {G : KG} : kOpOK l G 29 9 (.inl (g_push 9999 12)) := snd_sipush dX3_setMass_9 rfl
theorem s29_12 {l : Launch} {G : KG} : kOpOK l G 29 12 (.inr (.inl (59, 3, 15))) := ⟨snd_callS dX3_setMass_12 rfl mok_59 rfl rfl rfl wM_3_34 wS_X3_isIn wI_3 (by decide), rfl, mok_59⟩
theorem s29_15 {l : Launch} {G : KG} : kOpOK l G 29 15 (.inl (g_br1 (fun x => decide (¬ x = 0)) 20 18)) := snd_if_ne dX3_setMass_15 (by decide)
theorem s29_18 {l : Launch} {G : KG} : kOpOK l G 29 18 (.inl (g_push (-1) 19)) := snd_iconst dX3_setMass_18 rfl
theorem s29_19 {l : Launch} {G : KG} : kOpOK l G 29 19 (.inr (.inr 1)) := ⟨rfl, Or.inr (Or.inl ⟨rfl, dX3_setMass_19, rfl⟩)⟩
theorem s29_20 {l : Launch} {G : KG} : kOpOK l G 29 20 (.inl (g_ald 0 21)) := snd_aload_n dX3_setMass_20 rfl
theorem s29_21 {l : Launch} {G : KG} : kOpOK l G 29 21 (.inr (.inl (58, 1, 24))) := ⟨snd_callV (c := 3) dX3_setMass_21 rfl mok_58 rfl rfl rfl rfl (by decide) rfl wM_3_38 wN_X3_saveState wL_X3_saveState wI_3 (by decide), rfl, mok_58⟩
theorem s29_24 {l : Launch} {G : KG} : kOpOK l G 29 24 (.inl (g_ald 0 25)) := snd_aload_n dX3_setMass_24 rfl
theorem s29_25 {l : Launch} {G : KG} : kOpOK l G 29 25 (.inl (g_gfr 3 0 28)) := snd_gfr (c := 3) (j := 0) (N := 6) dX3_setMass_25 rfl hin3 (by decide) rfl (by decide) rfl wF_3_10
theorem s29_28 {l : Launch} {G : KG} : kOpOK l G 29 28 (.inl (g_gfr 1 0 31)) := snd_gfr (c := 1) (j := 0) (N := 14) dX3_setMass_28 rfl hin1 (by decide) rfl (by decide) rfl wF_3_41
theorem s29_31 {l : Launch} {G : KG} : kOpOK l G 29 31 (.inl (g_ild 1 32)) := snd_iload_n dX3_setMass_31 rfl
theorem s29_32 {l : Launch} {G : KG} : kOpOK l G 29 32 (.inl (g_pald 5 33)) := snd_pald5 dX3_setMass_32
theorem s29_33 {l : Launch} {G : KG} : kOpOK l G 29 33 (.inl (g_ist 3 34)) := snd_istore_n dX3_setMass_33 rfl
theorem s29_34 {l : Launch} {G : KG} : kOpOK l G 29 34 (.inl (g_ald 0 35)) := snd_aload_n dX3_setMass_34 rfl
theorem s29_35 {l : Launch} {G : KG} : kOpOK l G 29 35 (.inl (g_gfr 3 0 38)) := snd_gfr (c := 3) (j := 0) (N := 6) dX3_setMass_35 rfl hin3 (by decide) rfl (by decide) rfl wF_3_10
theorem s29_38 {l : Launch} {G : KG} : kOpOK l G 29 38 (.inl (g_gfr 1 0 41)) := snd_gfr (c := 1) (j := 0) (N := 14) dX3_setMass_38 rfl hin1 (by decide) rfl (by decide) rfl wF_3_41
theorem s29_41 {l : Launch} {G : KG} : kOpOK l G 29 41 (.inl (g_ild 1 42)) := snd_iload_n dX3_setMass_41 rfl
theorem s29_42 {l : Launch} {G : KG} : kOpOK l G 29 42 (.inl (g_ild 2 43)) := snd_iload_n dX3_setMass_42 rfl
theorem s29_43 {l : Launch} {G : KG} : kOpOK l G 29 43 (.inl (g_past 5 44)) := snd_past5 dX3_setMass_43
theorem s29_44 {l : Launch} {G : KG} : kOpOK l G 29 44 (.inl (g_ild 3 45)) := snd_iload_n dX3_setMass_44 rfl
theorem s29_45 {l : Launch} {G : KG} : kOpOK l G 29 45 (.inr (.inr 1)) := ⟨rfl, Or.inr (Or.inl ⟨rfl, dX3_setMass_45, rfl⟩)⟩
theorem s30_0 {l : Launch} {G : KG} : kOpOK l G 30 0 (.inl (g_ald 0 1)) := snd_aload_n dX3_mass_0 rfl
theorem s30_1 {l : Launch} {G : KG} : kOpOK l G 30 1 (.inl (g_gfr 3 0 4)) := snd_gfr (c := 3) (j := 0) (N := 6) dX3_mass_1 rfl hin3 (by decide) rfl (by decide) rfl wF_3_10
theorem s30_4 {l : Launch} {G : KG} : kOpOK l G 30 4 (.inl (g_gfr 1 0 7)) := snd_gfr (c := 1) (j := 0) (N := 14) dX3_mass_4 rfl hin1 (by decide) rfl (by decide) rfl wF_3_41
theorem s30_7 {l : Launch} {G : KG} : kOpOK l G 30 7 (.inl (g_ild 1 8)) := snd_iload_n dX3_mass_7 rfl
theorem s30_8 {l : Launch} {G : KG} : kOpOK l G 30 8 (.inr (.inl (61, 2, 11))) := ⟨snd_callS dX3_mass_8 rfl mok_61 rfl rfl rfl wM_3_45 wS_X3_massIn wI_3 (by decide), rfl, mok_61⟩
theorem s30_11 {l : Launch} {G : KG} : kOpOK l G 30 11 (.inr (.inr 1)) := ⟨rfl, Or.inr (Or.inl ⟨rfl, dX3_mass_11, rfl⟩)⟩
theorem s31_0 {l : Launch} {G : KG} : kOpOK l G 31 0 (.inl (g_ald 0 1)) := snd_aload_n dX3_reserve_0 rfl
theorem s31_1 {l : Launch} {G : KG} : kOpOK l G 31 1 (.inl (g_gfr 3 0 4)) := snd_gfr (c := 3) (j := 0) (N := 6) dX3_reserve_1 rfl hin3 (by decide) rfl (by decide) rfl wF_3_10
theorem s31_4 {l : Launch} {G : KG} : kOpOK l G 31 4 (.inl (g_gfr 1 1 7)) := snd_gfr (c := 1) (j := 1) (N := 14) dX3_reserve_4 rfl hin1 (by decide) rfl (by decide) rfl wF_3_49
theorem s31_7 {l : Launch} {G : KG} : kOpOK l G 31 7 (.inl (g_ild 1 8)) := snd_iload_n dX3_reserve_7 rfl
theorem s31_8 {l : Launch} {G : KG} : kOpOK l G 31 8 (.inr (.inl (61, 2, 11))) := ⟨snd_callS dX3_reserve_8 rfl mok_61 rfl rfl rfl wM_3_45 wS_X3_massIn wI_3 (by decide), rfl, mok_61⟩
theorem s31_11 {l : Launch} {G : KG} : kOpOK l G 31 11 (.inr (.inr 1)) := ⟨rfl, Or.inr (Or.inl ⟨rfl, dX3_reserve_11, rfl⟩)⟩
theorem s32_0 {l : Launch} {G : KG} : kOpOK l G 32 0 (.inl (g_ild 1 1)) := snd_iload_n dX3_split_0 rfl
theorem s32_1 {l : Launch} {G : KG} : kOpOK l G 32 1 (.inl (g_push 0 2)) := snd_iconst dX3_split_1 rfl
theorem s32_2 {l : Launch} {G : KG} : kOpOK l G 32 2 (.inl (g_push 1 3)) := snd_iconst dX3_split_2 rfl
theorem s32_3 {l : Launch} {G : KG} : kOpOK l G 32 3 (.inr (.inl (59, 3, 6))) := ⟨snd_callS dX3_split_3 rfl mok_59 rfl rfl rfl wM_3_34 wS_X3_isIn wI_3 (by decide), rfl, mok_59⟩
theorem s32_6 {l : Launch} {G : KG} : kOpOK l G 32 6 (.inl (g_br1 (fun x => decide (¬ x = 0)) 11 9)) := snd_if_ne dX3_split_6 (by decide)
theorem s32_9 {l : Launch} {G : KG} : kOpOK l G 32 9 (.inl (g_push (-1) 10)) := snd_iconst dX3_split_9 rfl
theorem s32_10 {l : Launch} {G : KG} : kOpOK l G 32 10 (.inr (.inr 1)) := ⟨rfl, Or.inr (Or.inl ⟨rfl, dX3_split_10, rfl⟩)⟩
theorem s32_11 {l : Launch} {G : KG} : kOpOK l G 32 11 (.inl (g_ald 0 12)) := snd_aload_n dX3_split_11 rfl
theorem s32_12 {l : Launch} {G : KG} : kOpOK l G 32 12 (.inl (g_gfr 3 0 15)) := snd_gfr (c := 3) (j := 0) (N := 6) dX3_split_12 rfl hin3 (by decide) rfl (by decide) rfl wF_3_10
theorem s32_15 {l : Launch} {G : KG} : kOpOK l G 32 15 (.inl (g_gfr 1 0 18)) := snd_gfr (c := 1) (j := 0) (N := 14) dX3_split_15 rfl hin1 (by decide) rfl (by decide) rfl wF_3_41
theorem s32_18 {l : Launch} {G : KG} : kOpOK l G 32 18 (.inr (.inl (62, 1, 21))) := ⟨snd_callS dX3_split_18 rfl mok_62 rfl rfl rfl wM_3_52 wS_X3_sumOf wI_3 (by decide), rfl, mok_62⟩
theorem s32_21 {l : Launch} {G : KG} : kOpOK l G 32 21 (.inl (g_br1 (fun x => decide (¬ x = 0)) 27 24)) := snd_if_ne dX3_split_21 (by decide)
theorem s32_24 {l : Launch} {G : KG} : kOpOK l G 32 24 (.inl (g_push (-2) 26)) := snd_bipush dX3_split_24 rfl
theorem s32_26 {l : Launch} {G : KG} : kOpOK l G 32 26 (.inr (.inr 1)) := ⟨rfl, Or.inr (Or.inl ⟨rfl, dX3_split_26, rfl⟩)⟩
theorem s32_27 {l : Launch} {G : KG} : kOpOK l G 32 27 (.inl (g_ald 0 28)) := snd_aload_n dX3_split_27 rfl
theorem s32_28 {l : Launch} {G : KG} : kOpOK l G 32 28 (.inr (.inl (58, 1, 31))) := ⟨snd_callV (c := 3) dX3_split_28 rfl mok_58 rfl rfl rfl rfl (by decide) rfl wM_3_38 wN_X3_saveState wL_X3_saveState wI_3 (by decide), rfl, mok_58⟩
theorem s32_31 {l : Launch} {G : KG} : kOpOK l G 32 31 (.inl (g_ald 0 32)) := snd_aload_n dX3_split_31 rfl
theorem s32_32 {l : Launch} {G : KG} : kOpOK l G 32 32 (.inl (g_gfr 3 0 35)) := snd_gfr (c := 3) (j := 0) (N := 6) dX3_split_32 rfl hin3 (by decide) rfl (by decide) rfl wF_3_10
theorem s32_35 {l : Launch} {G : KG} : kOpOK l G 32 35 (.inl (g_ild 1 36)) := snd_iload_n dX3_split_35 rfl
theorem s32_36 {l : Launch} {G : KG} : kOpOK l G 32 36 (.inl (g_br1 (fun x => decide (¬ x = 0)) 43 39)) := snd_if_ne dX3_split_36 (by decide)
theorem s32_39 {l : Launch} {G : KG} : kOpOK l G 32 39 (.inl (g_push 1 40)) := snd_iconst dX3_split_39 rfl
theorem s32_40 {l : Launch} {G : KG} : kOpOK l G 32 40 (.inl (g_goto 44)) := snd_goto dX3_split_40 (by decide)
theorem s32_43 {l : Launch} {G : KG} : kOpOK l G 32 43 (.inl (g_push 0 44)) := snd_iconst dX3_split_43 rfl
theorem s32_44 {l : Launch} {G : KG} : kOpOK l G 32 44 (.inr (.inl (11, 2, 47))) := ⟨snd_callV (c := 1) dX3_split_44 rfl mok_11 rfl rfl rfl rfl (by decide) rfl wM_3_56 wN_X1_halveSample wL_X1_halveSample wI_1 (by decide), rfl, mok_11⟩
theorem s32_47 {l : Launch} {G : KG} : kOpOK l G 32 47 (.inl (g_ald 0 48)) := snd_aload_n dX3_split_47 rfl
theorem s32_48 {l : Launch} {G : KG} : kOpOK l G 32 48 (.inl (g_gfr 3 0 51)) := snd_gfr (c := 3) (j := 0) (N := 6) dX3_split_48 rfl hin3 (by decide) rfl (by decide) rfl wF_3_10
theorem s32_51 {l : Launch} {G : KG} : kOpOK l G 32 51 (.inl (g_gfr 1 0 54)) := snd_gfr (c := 1) (j := 0) (N := 14) dX3_split_51 rfl hin1 (by decide) rfl (by decide) rfl wF_3_41
theorem s32_54 {l : Launch} {G : KG} : kOpOK l G 32 54 (.inr (.inl (62, 1, 57))) := ⟨snd_callS dX3_split_54 rfl mok_62 rfl rfl rfl wM_3_52 wS_X3_sumOf wI_3 (by decide), rfl, mok_62⟩
theorem s32_57 {l : Launch} {G : KG} : kOpOK l G 32 57 (.inr (.inr 1)) := ⟨rfl, Or.inr (Or.inl ⟨rfl, dX3_split_57, rfl⟩)⟩
theorem s33_0 {l : Launch} {G : KG} : kOpOK l G 33 0 (.inl (g_ild 1 1)) := snd_iload_n dX3_splitTo_0 rfl
theorem s33_1 {l : Launch} {G : KG} : kOpOK l G 33 1 (.inl (g_push 1 2)) := snd_iconst dX3_splitTo_1 rfl
theorem s33_2 {l : Launch} {G : KG} : kOpOK l G 33 2 (.inl (g_push 9999 5)) := snd_sipush dX3_splitTo_2 rfl
theorem s33_5 {l : Launch} {G : KG} : kOpOK l G 33 5 (.inr (.inl (59, 3, 8))) := ⟨snd_callS dX3_splitTo_5 rfl mok_59 rfl rfl rfl wM_3_34 wS_X3_isIn wI_3 (by decide), rfl, mok_59⟩
theorem s33_8 {l : Launch} {G : KG} : kOpOK l G 33 8 (.inl (g_br1 (fun x => decide (¬ x = 0)) 13 11)) := snd_if_ne dX3_splitTo_8 (by decide)
theorem s33_11 {l : Launch} {G : KG} : kOpOK l G 33 11 (.inl (g_push (-1) 12)) := snd_iconst dX3_splitTo_11 rfl
theorem s33_12 {l : Launch} {G : KG} : kOpOK l G 33 12 (.inr (.inr 1)) := ⟨rfl, Or.inr (Or.inl ⟨rfl, dX3_splitTo_12, rfl⟩)⟩
theorem s33_13 {l : Launch} {G : KG} : kOpOK l G 33 13 (.inl (g_ald 0 14)) := snd_aload_n dX3_splitTo_13 rfl
theorem s33_14 {l : Launch} {G : KG} : kOpOK l G 33 14 (.inr (.inl (58, 1, 17))) := ⟨snd_callV (c := 3) dX3_splitTo_14 rfl mok_58 rfl rfl rfl rfl (by decide) rfl wM_3_38 wN_X3_saveState wL_X3_saveState wI_3 (by decide), rfl, mok_58⟩
theorem s33_17 {l : Launch} {G : KG} : kOpOK l G 33 17 (.inl (g_push 0 18)) := snd_iconst dX3_splitTo_17 rfl
theorem s33_18 {l : Launch} {G : KG} : kOpOK l G 33 18 (.inl (g_ist 2 19)) := snd_istore_n dX3_splitTo_18 rfl
theorem s33_19 {l : Launch} {G : KG} : kOpOK l G 33 19 (.inl (g_ild 2 20)) := snd_iload_n dX3_splitTo_19 rfl
theorem s33_20 {l : Launch} {G : KG} : kOpOK l G 33 20 (.inl (g_push 100 22)) := snd_bipush dX3_splitTo_20 rfl
theorem s33_22 {l : Launch} {G : KG} : kOpOK l G 33 22 (.inl (g_br2 (fun x y => decide (y ≤ x)) 53 25)) := snd_icmp_ge dX3_splitTo_22 (by decide)
theorem s33_25 {l : Launch} {G : KG} : kOpOK l G 33 25 (.inl (g_ald 0 26)) := snd_aload_n dX3_splitTo_25 rfl
theorem s33_26 {l : Launch} {G : KG} : kOpOK l G 33 26 (.inl (g_gfr 3 0 29)) := snd_gfr (c := 3) (j := 0) (N := 6) dX3_splitTo_26 rfl hin3 (by decide) rfl (by decide) rfl wF_3_10
theorem s33_29 {l : Launch} {G : KG} : kOpOK l G 33 29 (.inl (g_gfr 1 0 32)) := snd_gfr (c := 1) (j := 0) (N := 14) dX3_splitTo_29 rfl hin1 (by decide) rfl (by decide) rfl wF_3_41
theorem s33_32 {l : Launch} {G : KG} : kOpOK l G 33 32 (.inr (.inl (62, 1, 35))) := ⟨snd_callS dX3_splitTo_32 rfl mok_62 rfl rfl rfl wM_3_52 wS_X3_sumOf wI_3 (by decide), rfl, mok_62⟩
theorem s33_35 {l : Launch} {G : KG} : kOpOK l G 33 35 (.inl (g_ild 1 36)) := snd_iload_n dX3_splitTo_35 rfl
theorem s33_36 {l : Launch} {G : KG} : kOpOK l G 33 36 (.inl (g_br2 (fun x y => decide (x ≤ y)) 53 39)) := snd_icmp_le dX3_splitTo_36 (by decide)
theorem s33_39 {l : Launch} {G : KG} : kOpOK l G 33 39 (.inl (g_ald 0 40)) := snd_aload_n dX3_splitTo_39 rfl
theorem s33_40 {l : Launch} {G : KG} : kOpOK l G 33 40 (.inl (g_gfr 3 0 43)) := snd_gfr (c := 3) (j := 0) (N := 6) dX3_splitTo_40 rfl hin3 (by decide) rfl (by decide) rfl wF_3_10
theorem s33_43 {l : Launch} {G : KG} : kOpOK l G 33 43 (.inl (g_push 1 44)) := snd_iconst dX3_splitTo_43 rfl
theorem s33_44 {l : Launch} {G : KG} : kOpOK l G 33 44 (.inr (.inl (11, 2, 47))) := ⟨snd_callV (c := 1) dX3_splitTo_44 rfl mok_11 rfl rfl rfl rfl (by decide) rfl wM_3_56 wN_X1_halveSample wL_X1_halveSample wI_1 (by decide), rfl, mok_11⟩
theorem s33_47 {l : Launch} {G : KG} : kOpOK l G 33 47 (.inl (g_iinc 2 1 50)) := snd_iinc dX3_splitTo_47 rfl
theorem s33_50 {l : Launch} {G : KG} : kOpOK l G 33 50 (.inl (g_goto 19)) := snd_goto dX3_splitTo_50 (by decide)
theorem s33_53 {l : Launch} {G : KG} : kOpOK l G 33 53 (.inl (g_ild 2 54)) := snd_iload_n dX3_splitTo_53 rfl
theorem s33_54 {l : Launch} {G : KG} : kOpOK l G 33 54 (.inr (.inr 1)) := ⟨rfl, Or.inr (Or.inl ⟨rfl, dX3_splitTo_54, rfl⟩)⟩
theorem s34_0 {l : Launch} {G : KG} : kOpOK l G 34 0 (.inl (g_push 0 1)) := snd_iconst dX3_combine_0 rfl
theorem s34_1 {l : Launch} {G : KG} : kOpOK l G 34 1 (.inl (g_ist 1 2)) := snd_istore_n dX3_combine_1 rfl
theorem s34_2 {l : Launch} {G : KG} : kOpOK l G 34 2 (.inl (g_ild 1 3)) := snd_iload_n dX3_combine_2 rfl
theorem s34_3 {l : Launch} {G : KG} : kOpOK l G 34 3 (.inl (g_push 10 5)) := snd_bipush dX3_combine_3 rfl
theorem s34_5 {l : Launch} {G : KG} : kOpOK l G 34 5 (.inl (g_br2 (fun x y => decide (y ≤ x)) 42 8)) := snd_icmp_ge dX3_combine_5 (by decide)
theorem s34_8 {l : Launch} {G : KG} : kOpOK l G 34 8 (.inl (g_ald 0 9)) := snd_aload_n dX3_combine_8 rfl
theorem s34_9 {l : Launch} {G : KG} : kOpOK l G 34 9 (.inl (g_gfr 3 0 12)) := snd_gfr (c := 3) (j := 0) (N := 6) dX3_combine_9 rfl hin3 (by decide) rfl (by decide) rfl wF_3_10
theorem s34_12 {l : Launch} {G : KG} : kOpOK l G 34 12 (.inl (g_gfr 1 0 15)) := snd_gfr (c := 1) (j := 0) (N := 14) dX3_combine_12 rfl hin1 (by decide) rfl (by decide) rfl wF_3_41
theorem s34_15 {l : Launch} {G : KG} : kOpOK l G 34 15 (.inl (g_ild 1 16)) := snd_iload_n dX3_combine_15 rfl
theorem s34_16 {l : Launch} {G : KG} : kOpOK l G 34 16 (.inl (g_pald 5 17)) := snd_pald5 dX3_combine_16
theorem s34_17 {l : Launch} {G : KG} : kOpOK l G 34 17 (.inl (g_ald 0 18)) := snd_aload_n dX3_combine_17 rfl
theorem s34_18 {l : Launch} {G : KG} : kOpOK l G 34 18 (.inl (g_gfr 3 0 21)) := snd_gfr (c := 3) (j := 0) (N := 6) dX3_combine_18 rfl hin3 (by decide) rfl (by decide) rfl wF_3_10
theorem s34_21 {l : Launch} {G : KG} : kOpOK l G 34 21 (.inl (g_gfr 1 1 24)) := snd_gfr (c := 1) (j := 1) (N := 14) dX3_combine_21 rfl hin1 (by decide) rfl (by decide) rfl wF_3_49
theorem s34_24 {l : Launch} {G : KG} : kOpOK l G 34 24 (.inl (g_ild 1 25)) := snd_iload_n dX3_combine_24 rfl
theorem s34_25 {l : Launch} {G : KG} : kOpOK l G 34 25 (.inl (g_pald 5 26)) := snd_pald5 dX3_combine_25
theorem s34_26 {l : Launch} {G : KG} : kOpOK l G 34 26 (.inl (g_iop (fun x y => x + y) 27)) := snd_iadd dX3_combine_26
theorem s34_27 {l : Launch} {G : KG} : kOpOK l G 34 27 (.inl (g_push 9999 30)) := snd_sipush dX3_combine_27 rfl
theorem s34_30 {l : Launch} {G : KG} : kOpOK l G 34 30 (.inl (g_br2 (fun x y => decide (x ≤ y)) 36 33)) := snd_icmp_le dX3_combine_30 (by decide)
theorem s34_33 {l : Launch} {G : KG} : kOpOK l G 34 33 (.inl (g_push (-3) 35)) := snd_bipush dX3_combine_33 rfl
theorem s34_35 {l : Launch} {G : KG} : kOpOK l G 34 35 (.inr (.inr 1)) := ⟨rfl, Or.inr (Or.inl ⟨rfl, dX3_combine_35, rfl⟩)⟩
theorem s34_36 {l : Launch} {G : KG} : kOpOK l G 34 36 (.inl (g_iinc 1 1 39)) := snd_iinc dX3_combine_36 rfl
theorem s34_39 {l : Launch} {G : KG} : kOpOK l G 34 39 (.inl (g_goto 2)) := snd_goto dX3_combine_39 (by decide)
theorem s34_42 {l : Launch} {G : KG} : kOpOK l G 34 42 (.inl (g_ald 0 43)) := snd_aload_n dX3_combine_42 rfl
theorem s34_43 {l : Launch} {G : KG} : kOpOK l G 34 43 (.inr (.inl (58, 1, 46))) := ⟨snd_callV (c := 3) dX3_combine_43 rfl mok_58 rfl rfl rfl rfl (by decide) rfl wM_3_38 wN_X3_saveState wL_X3_saveState wI_3 (by decide), rfl, mok_58⟩
theorem s34_46 {l : Launch} {G : KG} : kOpOK l G 34 46 (.inl (g_push 0 47)) := snd_iconst dX3_combine_46 rfl
theorem s34_47 {l : Launch} {G : KG} : kOpOK l G 34 47 (.inl (g_ist 1 48)) := snd_istore_n dX3_combine_47 rfl
theorem s34_48 {l : Launch} {G : KG} : kOpOK l G 34 48 (.inl (g_ild 1 49)) := snd_iload_n dX3_combine_48 rfl
theorem s34_49 {l : Launch} {G : KG} : kOpOK l G 34 49 (.inl (g_push 10 51)) := snd_bipush dX3_combine_49 rfl
theorem s34_51 {l : Launch} {G : KG} : kOpOK l G 34 51 (.inl (g_br2 (fun x y => decide (y ≤ x)) 91 54)) := snd_icmp_ge dX3_combine_51 (by decide)
theorem s34_54 {l : Launch} {G : KG} : kOpOK l G 34 54 (.inl (g_ald 0 55)) := snd_aload_n dX3_combine_54 rfl
theorem s34_55 {l : Launch} {G : KG} : kOpOK l G 34 55 (.inl (g_gfr 3 0 58)) := snd_gfr (c := 3) (j := 0) (N := 6) dX3_combine_55 rfl hin3 (by decide) rfl (by decide) rfl wF_3_10
theorem s34_58 {l : Launch} {G : KG} : kOpOK l G 34 58 (.inl (g_gfr 1 0 61)) := snd_gfr (c := 1) (j := 0) (N := 14) dX3_combine_58 rfl hin1 (by decide) rfl (by decide) rfl wF_3_41
theorem s34_61 {l : Launch} {G : KG} : kOpOK l G 34 61 (.inl (g_ild 1 62)) := snd_iload_n dX3_combine_61 rfl
theorem s34_62 {l : Launch} {G : KG} : kOpOK l G 34 62 (.inl (g_dup2 63)) := snd_dup2 dX3_combine_62
theorem s34_63 {l : Launch} {G : KG} : kOpOK l G 34 63 (.inl (g_pald 5 64)) := snd_pald5 dX3_combine_63
theorem s34_64 {l : Launch} {G : KG} : kOpOK l G 34 64 (.inl (g_ald 0 65)) := snd_aload_n dX3_combine_64 rfl
theorem s34_65 {l : Launch} {G : KG} : kOpOK l G 34 65 (.inl (g_gfr 3 0 68)) := snd_gfr (c := 3) (j := 0) (N := 6) dX3_combine_65 rfl hin3 (by decide) rfl (by decide) rfl wF_3_10
theorem s34_68 {l : Launch} {G : KG} : kOpOK l G 34 68 (.inl (g_gfr 1 1 71)) := snd_gfr (c := 1) (j := 1) (N := 14) dX3_combine_68 rfl hin1 (by decide) rfl (by decide) rfl wF_3_49
theorem s34_71 {l : Launch} {G : KG} : kOpOK l G 34 71 (.inl (g_ild 1 72)) := snd_iload_n dX3_combine_71 rfl
theorem s34_72 {l : Launch} {G : KG} : kOpOK l G 34 72 (.inl (g_pald 5 73)) := snd_pald5 dX3_combine_72
theorem s34_73 {l : Launch} {G : KG} : kOpOK l G 34 73 (.inl (g_iop (fun x y => x + y) 74)) := snd_iadd dX3_combine_73
theorem s34_74 {l : Launch} {G : KG} : kOpOK l G 34 74 (.inl (g_past 5 75)) := snd_past5 dX3_combine_74
theorem s34_75 {l : Launch} {G : KG} : kOpOK l G 34 75 (.inl (g_ald 0 76)) := snd_aload_n dX3_combine_75 rfl
theorem s34_76 {l : Launch} {G : KG} : kOpOK l G 34 76 (.inl (g_gfr 3 0 79)) := snd_gfr (c := 3) (j := 0) (N := 6) dX3_combine_76 rfl hin3 (by decide) rfl (by decide) rfl wF_3_10
theorem s34_79 {l : Launch} {G : KG} : kOpOK l G 34 79 (.inl (g_gfr 1 1 82)) := snd_gfr (c := 1) (j := 1) (N := 14) dX3_combine_79 rfl hin1 (by decide) rfl (by decide) rfl wF_3_49
theorem s34_82 {l : Launch} {G : KG} : kOpOK l G 34 82 (.inl (g_ild 1 83)) := snd_iload_n dX3_combine_82 rfl
theorem s34_83 {l : Launch} {G : KG} : kOpOK l G 34 83 (.inl (g_push 0 84)) := snd_iconst dX3_combine_83 rfl
theorem s34_84 {l : Launch} {G : KG} : kOpOK l G 34 84 (.inl (g_past 5 85)) := snd_past5 dX3_combine_84
theorem s34_85 {l : Launch} {G : KG} : kOpOK l G 34 85 (.inl (g_iinc 1 1 88)) := snd_iinc dX3_combine_85 rfl
theorem s34_88 {l : Launch} {G : KG} : kOpOK l G 34 88 (.inl (g_goto 48)) := snd_goto dX3_combine_88 (by decide)
theorem s34_91 {l : Launch} {G : KG} : kOpOK l G 34 91 (.inl (g_ald 0 92)) := snd_aload_n dX3_combine_91 rfl
theorem s34_92 {l : Launch} {G : KG} : kOpOK l G 34 92 (.inl (g_gfr 3 0 95)) := snd_gfr (c := 3) (j := 0) (N := 6) dX3_combine_92 rfl hin3 (by decide) rfl (by decide) rfl wF_3_10
theorem s34_95 {l : Launch} {G : KG} : kOpOK l G 34 95 (.inl (g_gfr 1 0 98)) := snd_gfr (c := 1) (j := 0) (N := 14) dX3_combine_95 rfl hin1 (by decide) rfl (by decide) rfl wF_3_41
theorem s34_98 {l : Launch} {G : KG} : kOpOK l G 34 98 (.inr (.inl (62, 1, 101))) := ⟨snd_callS dX3_combine_98 rfl mok_62 rfl rfl rfl wM_3_52 wS_X3_sumOf wI_3 (by decide), rfl, mok_62⟩
theorem s34_101 {l : Launch} {G : KG} : kOpOK l G 34 101 (.inr (.inr 1)) := ⟨rfl, Or.inr (Or.inl ⟨rfl, dX3_combine_101, rfl⟩)⟩
theorem s35_0 {l : Launch} {G : KG} : kOpOK l G 35 0 (.inl (g_ild 1 1)) := snd_iload_n dX3_appendCharacter_0 rfl
theorem s35_1 {l : Launch} {G : KG} : kOpOK l G 35 1 (.inl (g_push 0 2)) := snd_iconst dX3_appendCharacter_1 rfl
theorem s35_2 {l : Launch} {G : KG} : kOpOK l G 35 2 (.inl (g_push 255 5)) := snd_sipush dX3_appendCharacter_2 rfl
theorem s35_5 {l : Launch} {G : KG} : kOpOK l G 35 5 (.inr (.inl (59, 3, 8))) := ⟨snd_callS dX3_appendCharacter_5 rfl mok_59 rfl rfl rfl wM_3_34 wS_X3_isIn wI_3 (by decide), rfl, mok_59⟩
theorem s35_8 {l : Launch} {G : KG} : kOpOK l G 35 8 (.inl (g_br1 (fun x => decide (¬ x = 0)) 13 11)) := snd_if_ne dX3_appendCharacter_8 (by decide)
theorem s35_11 {l : Launch} {G : KG} : kOpOK l G 35 11 (.inl (g_push (-1) 12)) := snd_iconst dX3_appendCharacter_11 rfl
theorem s35_12 {l : Launch} {G : KG} : kOpOK l G 35 12 (.inr (.inr 1)) := ⟨rfl, Or.inr (Or.inl ⟨rfl, dX3_appendCharacter_12, rfl⟩)⟩
theorem s35_13 {l : Launch} {G : KG} : kOpOK l G 35 13 (.inl (g_ald 0 14)) := snd_aload_n dX3_appendCharacter_13 rfl
theorem s35_14 {l : Launch} {G : KG} : kOpOK l G 35 14 (.inl (g_gfr 3 3 17)) := snd_gfr (c := 3) (j := 3) (N := 6) dX3_appendCharacter_14 rfl hin3 (by decide) rfl (by decide) rfl wF_3_26
theorem s35_17 {l : Launch} {G : KG} : kOpOK l G 35 17 (.inl (g_gfi 0 3 20)) := snd_gfi (c := 0) (j := 3) (N := 5) dX3_appendCharacter_17 rfl hin0 (by decide) rfl (by decide) rfl wF_3_60
theorem s35_20 {l : Launch} {G : KG} : kOpOK l G 35 20 (.inl (g_push 80 22)) := snd_bipush dX3_appendCharacter_20 rfl
theorem s35_22 {l : Launch} {G : KG} : kOpOK l G 35 22 (.inl (g_br2 (fun x y => decide (x < y)) 28 25)) := snd_icmp_lt dX3_appendCharacter_22 (by decide)
theorem s35_25 {l : Launch} {G : KG} : kOpOK l G 35 25 (.inl (g_push (-3) 27)) := snd_bipush dX3_appendCharacter_25 rfl
theorem s35_27 {l : Launch} {G : KG} : kOpOK l G 35 27 (.inr (.inr 1)) := ⟨rfl, Or.inr (Or.inl ⟨rfl, dX3_appendCharacter_27, rfl⟩)⟩
theorem s35_28 {l : Launch} {G : KG} : kOpOK l G 35 28 (.inl (g_ald 0 29)) := snd_aload_n dX3_appendCharacter_28 rfl
theorem s35_29 {l : Launch} {G : KG} : kOpOK l G 35 29 (.inl (g_gfr 3 3 32)) := snd_gfr (c := 3) (j := 3) (N := 6) dX3_appendCharacter_29 rfl hin3 (by decide) rfl (by decide) rfl wF_3_26
theorem s35_32 {l : Launch} {G : KG} : kOpOK l G 35 32 (.inl (g_gfr 0 0 35)) := snd_gfr (c := 0) (j := 0) (N := 5) dX3_appendCharacter_32 rfl hin0 (by decide) rfl (by decide) rfl wF_3_64
theorem s35_35 {l : Launch} {G : KG} : kOpOK l G 35 35 (.inl (g_ald 0 36)) := snd_aload_n dX3_appendCharacter_35 rfl
theorem s35_36 {l : Launch} {G : KG} : kOpOK l G 35 36 (.inl (g_gfr 3 3 39)) := snd_gfr (c := 3) (j := 3) (N := 6) dX3_appendCharacter_36 rfl hin3 (by decide) rfl (by decide) rfl wF_3_26
theorem s35_39 {l : Launch} {G : KG} : kOpOK l G 35 39 (.inl (g_gfi 0 3 42)) := snd_gfi (c := 0) (j := 3) (N := 5) dX3_appendCharacter_39 rfl hin0 (by decide) rfl (by decide) rfl wF_3_60
theorem s35_42 {l : Launch} {G : KG} : kOpOK l G 35 42 (.inl (g_ild 1 43)) := snd_iload_n dX3_appendCharacter_42 rfl
theorem s35_43 {l : Launch} {G : KG} : kOpOK l G 35 43 (.inl (g_i2i k_i2c 44)) := snd_i2c dX3_appendCharacter_43
theorem s35_44 {l : Launch} {G : KG} : kOpOK l G 35 44 (.inl (g_past 6 45)) := snd_past6 dX3_appendCharacter_44
theorem s35_45 {l : Launch} {G : KG} : kOpOK l G 35 45 (.inl (g_ald 0 46)) := snd_aload_n dX3_appendCharacter_45 rfl
theorem s35_46 {l : Launch} {G : KG} : kOpOK l G 35 46 (.inl (g_gfr 3 3 49)) := snd_gfr (c := 3) (j := 3) (N := 6) dX3_appendCharacter_46 rfl hin3 (by decide) rfl (by decide) rfl wF_3_26
theorem s35_49 {l : Launch} {G : KG} : kOpOK l G 35 49 (.inl (g_dup 50)) := snd_dup dX3_appendCharacter_49
theorem s35_50 {l : Launch} {G : KG} : kOpOK l G 35 50 (.inl (g_gfi 0 3 53)) := snd_gfi (c := 0) (j := 3) (N := 5) dX3_appendCharacter_50 rfl hin0 (by decide) rfl (by decide) rfl wF_3_60
theorem s35_53 {l : Launch} {G : KG} : kOpOK l G 35 53 (.inl (g_push 1 54)) := snd_iconst dX3_appendCharacter_53 rfl
theorem s35_54 {l : Launch} {G : KG} : kOpOK l G 35 54 (.inl (g_iop (fun x y => x + y) 55)) := snd_iadd dX3_appendCharacter_54
theorem s35_55 {l : Launch} {G : KG} : kOpOK l G 35 55 (.inl (g_pfi 0 3 58)) := snd_pfi (c := 0) (j := 3) (N := 5) dX3_appendCharacter_55 rfl hin0 (by decide) rfl (by decide) rfl wF_3_60 tyX0 tyX0_ok nmX0 rfl (by decide +kernel)
theorem s35_58 {l : Launch} {G : KG} : kOpOK l G 35 58 (.inl (g_ald 0 59)) := snd_aload_n dX3_appendCharacter_58 rfl
theorem s35_59 {l : Launch} {G : KG} : kOpOK l G 35 59 (.inl (g_gfr 3 3 62)) := snd_gfr (c := 3) (j := 3) (N := 6) dX3_appendCharacter_59 rfl hin3 (by decide) rfl (by decide) rfl wF_3_26
theorem s35_62 {l : Launch} {G : KG} : kOpOK l G 35 62 (.inl (g_gfi 0 3 65)) := snd_gfi (c := 0) (j := 3) (N := 5) dX3_appendCharacter_62 rfl hin0 (by decide) rfl (by decide) rfl wF_3_60
theorem s35_65 {l : Launch} {G : KG} : kOpOK l G 35 65 (.inr (.inr 1)) := ⟨rfl, Or.inr (Or.inl ⟨rfl, dX3_appendCharacter_65, rfl⟩)⟩
theorem s36_0 {l : Launch} {G : KG} : kOpOK l G 36 0 (.inl (g_ald 0 1)) := snd_aload_n dX3_clearText_0 rfl
theorem s36_1 {l : Launch} {G : KG} : kOpOK l G 36 1 (.inl (g_gfr 3 3 4)) := snd_gfr (c := 3) (j := 3) (N := 6) dX3_clearText_1 rfl hin3 (by decide) rfl (by decide) rfl wF_3_26
theorem s36_4 {l : Launch} {G : KG} : kOpOK l G 36 4 (.inl (g_gfi 0 3 7)) := snd_gfi (c := 0) (j := 3) (N := 5) dX3_clearText_4 rfl hin0 (by decide) rfl (by decide) rfl wF_3_60
theorem s36_7 {l : Launch} {G : KG} : kOpOK l G 36 7 (.inl (g_ist 1 8)) := snd_istore_n dX3_clearText_7 rfl
theorem s36_8 {l : Launch} {G : KG} : kOpOK l G 36 8 (.inl (g_ald 0 9)) := snd_aload_n dX3_clearText_8 rfl
theorem s36_9 {l : Launch} {G : KG} : kOpOK l G 36 9 (.inl (g_gfr 3 3 12)) := snd_gfr (c := 3) (j := 3) (N := 6) dX3_clearText_9 rfl hin3 (by decide) rfl (by decide) rfl wF_3_26
theorem s36_12 {l : Launch} {G : KG} : kOpOK l G 36 12 (.inl (g_push 0 13)) := snd_iconst dX3_clearText_12 rfl
theorem s36_13 {l : Launch} {G : KG} : kOpOK l G 36 13 (.inl (g_pfi 0 3 16)) := snd_pfi (c := 0) (j := 3) (N := 5) dX3_clearText_13 rfl hin0 (by decide) rfl (by decide) rfl wF_3_60 tyX0 tyX0_ok nmX0 rfl (by decide +kernel)
theorem s36_16 {l : Launch} {G : KG} : kOpOK l G 36 16 (.inl (g_ild 1 17)) := snd_iload_n dX3_clearText_16 rfl
theorem s36_17 {l : Launch} {G : KG} : kOpOK l G 36 17 (.inr (.inr 1)) := ⟨rfl, Or.inr (Or.inl ⟨rfl, dX3_clearText_17, rfl⟩)⟩
theorem s37_0 {l : Launch} {G : KG} : kOpOK l G 37 0 (.inl (g_ald 0 1)) := snd_aload_n dX3_load_0 rfl
theorem s37_1 {l : Launch} {G : KG} : kOpOK l G 37 1 (.inl (g_gfr 3 3 4)) := snd_gfr (c := 3) (j := 3) (N := 6) dX3_load_1 rfl hin3 (by decide) rfl (by decide) rfl wF_3_26
theorem s37_4 {l : Launch} {G : KG} : kOpOK l G 37 4 (.inr (.inl (0, 1, 7))) := ⟨snd_callV (c := 0) dX3_load_4 rfl mok_0 rfl rfl rfl rfl (by decide) rfl wM_3_68 wN_X0_readPairs wL_X0_readPairs wI_0 (by decide), rfl, mok_0⟩
theorem s37_7 {l : Launch} {G : KG} : kOpOK l G 37 7 (.inl (g_ist 1 8)) := snd_istore_n dX3_load_7 rfl
theorem s37_8 {l : Launch} {G : KG} : kOpOK l G 37 8 (.inl (g_ild 1 9)) := snd_iload_n dX3_load_8 rfl
theorem s37_9 {l : Launch} {G : KG} : kOpOK l G 37 9 (.inl (g_push (-1) 10)) := snd_iconst dX3_load_9 rfl
theorem s37_10 {l : Launch} {G : KG} : kOpOK l G 37 10 (.inl (g_br2 (fun x y => decide (x = y)) 18 13)) := snd_icmp_eq dX3_load_10 (by decide)
theorem s37_13 {l : Launch} {G : KG} : kOpOK l G 37 13 (.inl (g_push (-10) 15)) := snd_bipush dX3_load_13 rfl
theorem s37_15 {l : Launch} {G : KG} : kOpOK l G 37 15 (.inl (g_ild 1 16)) := snd_iload_n dX3_load_15 rfl
theorem s37_16 {l : Launch} {G : KG} : kOpOK l G 37 16 (.inl (g_iop (fun x y => x - y) 17)) := snd_isub dX3_load_16
theorem s37_17 {l : Launch} {G : KG} : kOpOK l G 37 17 (.inr (.inr 1)) := ⟨rfl, Or.inr (Or.inl ⟨rfl, dX3_load_17, rfl⟩)⟩
theorem s37_18 {l : Launch} {G : KG} : kOpOK l G 37 18 (.inl (g_ald 0 19)) := snd_aload_n dX3_load_18 rfl
theorem s37_19 {l : Launch} {G : KG} : kOpOK l G 37 19 (.inr (.inl (58, 1, 22))) := ⟨snd_callV (c := 3) dX3_load_19 rfl mok_58 rfl rfl rfl rfl (by decide) rfl wM_3_38 wN_X3_saveState wL_X3_saveState wI_3 (by decide), rfl, mok_58⟩
theorem s37_22 {l : Launch} {G : KG} : kOpOK l G 37 22 (.inl (g_ald 0 23)) := snd_aload_n dX3_load_22 rfl
theorem s37_23 {l : Launch} {G : KG} : kOpOK l G 37 23 (.inl (g_gfr 3 3 26)) := snd_gfr (c := 3) (j := 3) (N := 6) dX3_load_23 rfl hin3 (by decide) rfl (by decide) rfl wF_3_26
theorem s37_26 {l : Launch} {G : KG} : kOpOK l G 37 26 (.inl (g_gfr 0 1 29)) := snd_gfr (c := 0) (j := 1) (N := 5) dX3_load_26 rfl hin0 (by decide) rfl (by decide) rfl wF_3_72
theorem s37_29 {l : Launch} {G : KG} : kOpOK l G 37 29 (.inl (g_ald 0 30)) := snd_aload_n dX3_load_29 rfl
theorem s37_30 {l : Launch} {G : KG} : kOpOK l G 37 30 (.inl (g_gfr 3 0 33)) := snd_gfr (c := 3) (j := 0) (N := 6) dX3_load_30 rfl hin3 (by decide) rfl (by decide) rfl wF_3_10
theorem s37_33 {l : Launch} {G : KG} : kOpOK l G 37 33 (.inl (g_gfr 1 0 36)) := snd_gfr (c := 1) (j := 0) (N := 14) dX3_load_33 rfl hin1 (by decide) rfl (by decide) rfl wF_3_41
theorem s37_36 {l : Launch} {G : KG} : kOpOK l G 37 36 (.inr (.inl (64, 2, 39))) := ⟨snd_callS dX3_load_36 rfl mok_64 rfl rfl rfl wM_3_75 wS_X3_copyRow wI_3 (by decide), rfl, mok_64⟩
theorem s37_39 {l : Launch} {G : KG} : kOpOK l G 37 39 (.inl (g_ald 0 40)) := snd_aload_n dX3_load_39 rfl
theorem s37_40 {l : Launch} {G : KG} : kOpOK l G 37 40 (.inl (g_gfr 3 3 43)) := snd_gfr (c := 3) (j := 3) (N := 6) dX3_load_40 rfl hin3 (by decide) rfl (by decide) rfl wF_3_26
theorem s37_43 {l : Launch} {G : KG} : kOpOK l G 37 43 (.inl (g_push 0 44)) := snd_iconst dX3_load_43 rfl
theorem s37_44 {l : Launch} {G : KG} : kOpOK l G 37 44 (.inl (g_pfi 0 3 47)) := snd_pfi (c := 0) (j := 3) (N := 5) dX3_load_44 rfl hin0 (by decide) rfl (by decide) rfl wF_3_60 tyX0 tyX0_ok nmX0 rfl (by decide +kernel)
theorem s37_47 {l : Launch} {G : KG} : kOpOK l G 37 47 (.inl (g_ald 0 48)) := snd_aload_n dX3_load_47 rfl
theorem s37_48 {l : Launch} {G : KG} : kOpOK l G 37 48 (.inl (g_gfr 3 0 51)) := snd_gfr (c := 3) (j := 0) (N := 6) dX3_load_48 rfl hin3 (by decide) rfl (by decide) rfl wF_3_10
theorem s37_51 {l : Launch} {G : KG} : kOpOK l G 37 51 (.inl (g_gfr 1 0 54)) := snd_gfr (c := 1) (j := 0) (N := 14) dX3_load_51 rfl hin1 (by decide) rfl (by decide) rfl wF_3_41
theorem s37_54 {l : Launch} {G : KG} : kOpOK l G 37 54 (.inr (.inl (62, 1, 57))) := ⟨snd_callS dX3_load_54 rfl mok_62 rfl rfl rfl wM_3_52 wS_X3_sumOf wI_3 (by decide), rfl, mok_62⟩
theorem s37_57 {l : Launch} {G : KG} : kOpOK l G 37 57 (.inr (.inr 1)) := ⟨rfl, Or.inr (Or.inl ⟨rfl, dX3_load_57, rfl⟩)⟩
theorem s38_0 {l : Launch} {G : KG} : kOpOK l G 38 0 (.inl (g_ild 1 1)) := snd_iload_n dX3_addSieve_0 rfl
theorem s38_1 {l : Launch} {G : KG} : kOpOK l G 38 1 (.inl (g_push 1 2)) := snd_iconst dX3_addSieve_1 rfl
theorem s38_2 {l : Launch} {G : KG} : kOpOK l G 38 2 (.inl (g_push 9 4)) := snd_bipush dX3_addSieve_2 rfl
theorem s38_4 {l : Launch} {G : KG} : kOpOK l G 38 4 (.inr (.inl (59, 3, 7))) := ⟨snd_callS dX3_addSieve_4 rfl mok_59 rfl rfl rfl wM_3_34 wS_X3_isIn wI_3 (by decide), rfl, mok_59⟩
theorem s38_7 {l : Launch} {G : KG} : kOpOK l G 38 7 (.inl (g_br1 (fun x => decide (¬ x = 0)) 12 10)) := snd_if_ne dX3_addSieve_7 (by decide)
theorem s38_10 {l : Launch} {G : KG} : kOpOK l G 38 10 (.inl (g_push (-1) 11)) := snd_iconst dX3_addSieve_10 rfl
theorem s38_11 {l : Launch} {G : KG} : kOpOK l G 38 11 (.inr (.inr 1)) := ⟨rfl, Or.inr (Or.inl ⟨rfl, dX3_addSieve_11, rfl⟩)⟩
theorem s38_12 {l : Launch} {G : KG} : kOpOK l G 38 12 (.inl (g_ald 0 13)) := snd_aload_n dX3_addSieve_12 rfl
theorem s38_13 {l : Launch} {G : KG} : kOpOK l G 38 13 (.inl (g_gfr 3 0 16)) := snd_gfr (c := 3) (j := 0) (N := 6) dX3_addSieve_13 rfl hin3 (by decide) rfl (by decide) rfl wF_3_10
theorem s38_16 {l : Launch} {G : KG} : kOpOK l G 38 16 (.inl (g_ild 1 17)) := snd_iload_n dX3_addSieve_16 rfl
theorem s38_17 {l : Launch} {G : KG} : kOpOK l G 38 17 (.inr (.inl (12, 2, 20))) := ⟨snd_callV (c := 1) dX3_addSieve_17 rfl mok_12 rfl rfl rfl rfl (by decide) rfl wM_3_79 wN_X1_findSieve wL_X1_findSieve wI_1 (by decide), rfl, mok_12⟩
theorem s38_20 {l : Launch} {G : KG} : kOpOK l G 38 20 (.inl (g_push (-9) 22)) := snd_bipush dX3_addSieve_20 rfl
theorem s38_22 {l : Launch} {G : KG} : kOpOK l G 38 22 (.inl (g_br2 (fun x y => decide (x = y)) 28 25)) := snd_icmp_eq dX3_addSieve_22 (by decide)
theorem s38_25 {l : Launch} {G : KG} : kOpOK l G 38 25 (.inl (g_push (-2) 27)) := snd_bipush dX3_addSieve_25 rfl
theorem s38_27 {l : Launch} {G : KG} : kOpOK l G 38 27 (.inr (.inr 1)) := ⟨rfl, Or.inr (Or.inl ⟨rfl, dX3_addSieve_27, rfl⟩)⟩
theorem s38_28 {l : Launch} {G : KG} : kOpOK l G 38 28 (.inl (g_ald 0 29)) := snd_aload_n dX3_addSieve_28 rfl
theorem s38_29 {l : Launch} {G : KG} : kOpOK l G 38 29 (.inl (g_gfr 3 0 32)) := snd_gfr (c := 3) (j := 0) (N := 6) dX3_addSieve_29 rfl hin3 (by decide) rfl (by decide) rfl wF_3_10
theorem s38_32 {l : Launch} {G : KG} : kOpOK l G 38 32 (.inl (g_gfi 1 5 35)) := snd_gfi (c := 1) (j := 5) (N := 14) dX3_addSieve_32 rfl hin1 (by decide) rfl (by decide) rfl wF_3_83
theorem s38_35 {l : Launch} {G : KG} : kOpOK l G 38 35 (.inl (g_push 6 37)) := snd_bipush dX3_addSieve_35 rfl
theorem s38_37 {l : Launch} {G : KG} : kOpOK l G 38 37 (.inl (g_br2 (fun x y => decide (x < y)) 43 40)) := snd_icmp_lt dX3_addSieve_37 (by decide)
theorem s38_40 {l : Launch} {G : KG} : kOpOK l G 38 40 (.inl (g_push (-3) 42)) := snd_bipush dX3_addSieve_40 rfl
theorem s38_42 {l : Launch} {G : KG} : kOpOK l G 38 42 (.inr (.inr 1)) := ⟨rfl, Or.inr (Or.inl ⟨rfl, dX3_addSieve_42, rfl⟩)⟩
theorem s38_43 {l : Launch} {G : KG} : kOpOK l G 38 43 (.inl (g_ald 0 44)) := snd_aload_n dX3_addSieve_43 rfl
theorem s38_44 {l : Launch} {G : KG} : kOpOK l G 38 44 (.inr (.inl (58, 1, 47))) := ⟨snd_callV (c := 3) dX3_addSieve_44 rfl mok_58 rfl rfl rfl rfl (by decide) rfl wM_3_38 wN_X3_saveState wL_X3_saveState wI_3 (by decide), rfl, mok_58⟩
theorem s38_47 {l : Launch} {G : KG} : kOpOK l G 38 47 (.inl (g_ald 0 48)) := snd_aload_n dX3_addSieve_47 rfl
theorem s38_48 {l : Launch} {G : KG} : kOpOK l G 38 48 (.inl (g_gfr 3 0 51)) := snd_gfr (c := 3) (j := 0) (N := 6) dX3_addSieve_48 rfl hin3 (by decide) rfl (by decide) rfl wF_3_10
theorem s38_51 {l : Launch} {G : KG} : kOpOK l G 38 51 (.inr (.inl (15, 1, 54))) := ⟨snd_callV (c := 1) dX3_addSieve_51 rfl mok_15 rfl rfl rfl rfl (by decide) rfl wM_3_86 wN_X1_endAnalysis wL_X1_endAnalysis wI_1 (by decide), rfl, mok_15⟩
theorem s38_54 {l : Launch} {G : KG} : kOpOK l G 38 54 (.inl (g_ald 0 55)) := snd_aload_n dX3_addSieve_54 rfl
theorem s38_55 {l : Launch} {G : KG} : kOpOK l G 38 55 (.inl (g_gfr 3 0 58)) := snd_gfr (c := 3) (j := 0) (N := 6) dX3_addSieve_55 rfl hin3 (by decide) rfl (by decide) rfl wF_3_10
theorem s38_58 {l : Launch} {G : KG} : kOpOK l G 38 58 (.inl (g_ild 1 59)) := snd_iload_n dX3_addSieve_58 rfl
theorem s38_59 {l : Launch} {G : KG} : kOpOK l G 38 59 (.inr (.inl (13, 2, 62))) := ⟨snd_callV (c := 1) dX3_addSieve_59 rfl mok_13 rfl rfl rfl rfl (by decide) rfl wM_3_89 wN_X1_insertSieve wL_X1_insertSieve wI_1 (by decide), rfl, mok_13⟩
theorem s38_62 {l : Launch} {G : KG} : kOpOK l G 38 62 (.inr (.inr 1)) := ⟨rfl, Or.inr (Or.inl ⟨rfl, dX3_addSieve_62, rfl⟩)⟩
theorem s39_0 {l : Launch} {G : KG} : kOpOK l G 39 0 (.inl (g_ild 1 1)) := snd_iload_n dX3_removeSieve_0 rfl
theorem s39_1 {l : Launch} {G : KG} : kOpOK l G 39 1 (.inl (g_push 1 2)) := snd_iconst dX3_removeSieve_1 rfl
theorem s39_2 {l : Launch} {G : KG} : kOpOK l G 39 2 (.inl (g_push 9 4)) := snd_bipush dX3_removeSieve_2 rfl
theorem s39_4 {l : Launch} {G : KG} : kOpOK l G 39 4 (.inr (.inl (59, 3, 7))) := ⟨snd_callS dX3_removeSieve_4 rfl mok_59 rfl rfl rfl wM_3_34 wS_X3_isIn wI_3 (by decide), rfl, mok_59⟩
theorem s39_7 {l : Launch} {G : KG} : kOpOK l G 39 7 (.inl (g_br1 (fun x => decide (¬ x = 0)) 12 10)) := snd_if_ne dX3_removeSieve_7 (by decide)
theorem s39_10 {l : Launch} {G : KG} : kOpOK l G 39 10 (.inl (g_push (-1) 11)) := snd_iconst dX3_removeSieve_10 rfl
theorem s39_11 {l : Launch} {G : KG} : kOpOK l G 39 11 (.inr (.inr 1)) := ⟨rfl, Or.inr (Or.inl ⟨rfl, dX3_removeSieve_11, rfl⟩)⟩
theorem s39_12 {l : Launch} {G : KG} : kOpOK l G 39 12 (.inl (g_ald 0 13)) := snd_aload_n dX3_removeSieve_12 rfl
theorem s39_13 {l : Launch} {G : KG} : kOpOK l G 39 13 (.inl (g_gfr 3 0 16)) := snd_gfr (c := 3) (j := 0) (N := 6) dX3_removeSieve_13 rfl hin3 (by decide) rfl (by decide) rfl wF_3_10
theorem s39_16 {l : Launch} {G : KG} : kOpOK l G 39 16 (.inl (g_ild 1 17)) := snd_iload_n dX3_removeSieve_16 rfl
theorem s39_17 {l : Launch} {G : KG} : kOpOK l G 39 17 (.inr (.inl (12, 2, 20))) := ⟨snd_callV (c := 1) dX3_removeSieve_17 rfl mok_12 rfl rfl rfl rfl (by decide) rfl wM_3_79 wN_X1_findSieve wL_X1_findSieve wI_1 (by decide), rfl, mok_12⟩
theorem s39_20 {l : Launch} {G : KG} : kOpOK l G 39 20 (.inl (g_ist 2 21)) := snd_istore_n dX3_removeSieve_20 rfl
theorem s39_21 {l : Launch} {G : KG} : kOpOK l G 39 21 (.inl (g_ild 2 22)) := snd_iload_n dX3_removeSieve_21 rfl
theorem s39_22 {l : Launch} {G : KG} : kOpOK l G 39 22 (.inl (g_push (-9) 24)) := snd_bipush dX3_removeSieve_22 rfl
theorem s39_24 {l : Launch} {G : KG} : kOpOK l G 39 24 (.inl (g_br2 (fun x y => decide (¬ x = y)) 30 27)) := snd_icmp_ne dX3_removeSieve_24 (by decide)
theorem s39_27 {l : Launch} {G : KG} : kOpOK l G 39 27 (.inl (g_push (-2) 29)) := snd_bipush dX3_removeSieve_27 rfl
theorem s39_29 {l : Launch} {G : KG} : kOpOK l G 39 29 (.inr (.inr 1)) := ⟨rfl, Or.inr (Or.inl ⟨rfl, dX3_removeSieve_29, rfl⟩)⟩
theorem s39_30 {l : Launch} {G : KG} : kOpOK l G 39 30 (.inl (g_ald 0 31)) := snd_aload_n dX3_removeSieve_30 rfl
theorem s39_31 {l : Launch} {G : KG} : kOpOK l G 39 31 (.inr (.inl (58, 1, 34))) := ⟨snd_callV (c := 3) dX3_removeSieve_31 rfl mok_58 rfl rfl rfl rfl (by decide) rfl wM_3_38 wN_X3_saveState wL_X3_saveState wI_3 (by decide), rfl, mok_58⟩
theorem s39_34 {l : Launch} {G : KG} : kOpOK l G 39 34 (.inl (g_ald 0 35)) := snd_aload_n dX3_removeSieve_34 rfl
theorem s39_35 {l : Launch} {G : KG} : kOpOK l G 39 35 (.inl (g_gfr 3 0 38)) := snd_gfr (c := 3) (j := 0) (N := 6) dX3_removeSieve_35 rfl hin3 (by decide) rfl (by decide) rfl wF_3_10
theorem s39_38 {l : Launch} {G : KG} : kOpOK l G 39 38 (.inr (.inl (15, 1, 41))) := ⟨snd_callV (c := 1) dX3_removeSieve_38 rfl mok_15 rfl rfl rfl rfl (by decide) rfl wM_3_86 wN_X1_endAnalysis wL_X1_endAnalysis wI_1 (by decide), rfl, mok_15⟩
theorem s39_41 {l : Launch} {G : KG} : kOpOK l G 39 41 (.inl (g_ald 0 42)) := snd_aload_n dX3_removeSieve_41 rfl
theorem s39_42 {l : Launch} {G : KG} : kOpOK l G 39 42 (.inl (g_gfr 3 0 45)) := snd_gfr (c := 3) (j := 0) (N := 6) dX3_removeSieve_42 rfl hin3 (by decide) rfl (by decide) rfl wF_3_10
theorem s39_45 {l : Launch} {G : KG} : kOpOK l G 39 45 (.inl (g_ild 2 46)) := snd_iload_n dX3_removeSieve_45 rfl
theorem s39_46 {l : Launch} {G : KG} : kOpOK l G 39 46 (.inr (.inl (14, 2, 49))) := ⟨snd_callV (c := 1) dX3_removeSieve_46 rfl mok_14 rfl rfl rfl rfl (by decide) rfl wM_3_92 wN_X1_takeSieve wL_X1_takeSieve wI_1 (by decide), rfl, mok_14⟩
theorem s39_49 {l : Launch} {G : KG} : kOpOK l G 39 49 (.inl (g_ald 0 50)) := snd_aload_n dX3_removeSieve_49 rfl
theorem s39_50 {l : Launch} {G : KG} : kOpOK l G 39 50 (.inl (g_gfr 3 0 53)) := snd_gfr (c := 3) (j := 0) (N := 6) dX3_removeSieve_50 rfl hin3 (by decide) rfl (by decide) rfl wF_3_10
theorem s39_53 {l : Launch} {G : KG} : kOpOK l G 39 53 (.inl (g_gfi 1 5 56)) := snd_gfi (c := 1) (j := 5) (N := 14) dX3_removeSieve_53 rfl hin1 (by decide) rfl (by decide) rfl wF_3_83
theorem s39_56 {l : Launch} {G : KG} : kOpOK l G 39 56 (.inr (.inr 1)) := ⟨rfl, Or.inr (Or.inl ⟨rfl, dX3_removeSieve_56, rfl⟩)⟩
theorem s40_0 {l : Launch} {G : KG} : kOpOK l G 40 0 (.inl (g_ild 1 1)) := snd_iload_n dX3_setRules_0 rfl
theorem s40_1 {l : Launch} {G : KG} : kOpOK l G 40 1 (.inl (g_push 1 2)) := snd_iconst dX3_setRules_1 rfl
theorem s40_2 {l : Launch} {G : KG} : kOpOK l G 40 2 (.inl (g_push 9999 5)) := snd_sipush dX3_setRules_2 rfl
theorem s40_5 {l : Launch} {G : KG} : kOpOK l G 40 5 (.inr (.inl (59, 3, 8))) := ⟨snd_callS dX3_setRules_5 rfl mok_59 rfl rfl rfl wM_3_34 wS_X3_isIn wI_3 (by decide), rfl, mok_59⟩
theorem s40_8 {l : Launch} {G : KG} : kOpOK l G 40 8 (.inl (g_br1 (fun x => decide (x = 0)) 43 11)) := snd_if_eq dX3_setRules_8 (by decide)
theorem s40_11 {l : Launch} {G : KG} : kOpOK l G 40 11 (.inl (g_ild 2 12)) := snd_iload_n dX3_setRules_11 rfl
theorem s40_12 {l : Launch} {G : KG} : kOpOK l G 40 12 (.inl (g_push 0 13)) := snd_iconst dX3_setRules_12 rfl
theorem s40_13 {l : Launch} {G : KG} : kOpOK l G 40 13 (.inl (g_push 200 16)) := snd_sipush dX3_setRules_13 rfl
theorem s40_16 {l : Launch} {G : KG} : kOpOK l G 40 16 (.inr (.inl (59, 3, 19))) := ⟨snd_callS dX3_setRules_16 rfl mok_59 rfl rfl rfl wM_3_34 wS_X3_isIn wI_3 (by decide), rfl, mok_59⟩
theorem s40_19 {l : Launch} {G : KG} : kOpOK l G 40 19 (.inl (g_br1 (fun x => decide (x = 0)) 43 22)) := snd_if_eq dX3_setRules_19 (by decide)
theorem s40_22 {l : Launch} {G : KG} : kOpOK l G 40 22 (.inl (g_ild 3 23)) := snd_iload_n dX3_setRules_22 rfl
theorem s40_23 {l : Launch} {G : KG} : kOpOK l G 40 23 (.inl (g_push 0 24)) := snd_iconst dX3_setRules_23 rfl
theorem s40_24 {l : Launch} {G : KG} : kOpOK l G 40 24 (.inl (g_push 100 26)) := snd_bipush dX3_setRules_24 rfl
theorem s40_26 {l : Launch} {G : KG} : kOpOK l G 40 26 (.inr (.inl (59, 3, 29))) := ⟨snd_callS dX3_setRules_26 rfl mok_59 rfl rfl rfl wM_3_34 wS_X3_isIn wI_3 (by decide), rfl, mok_59⟩
theorem s40_29 {l : Launch} {G : KG} : kOpOK l G 40 29 (.inl (g_br1 (fun x => decide (x = 0)) 43 32)) := snd_if_eq dX3_setRules_29 (by decide)
theorem s40_32 {l : Launch} {G : KG} : kOpOK l G 40 32 (.inl (g_ild 4 34)) := snd_iload dX3_setRules_32
theorem s40_34 {l : Launch} {G : KG} : kOpOK l G 40 34 (.inl (g_push 0 35)) := snd_iconst dX3_setRules_34 rfl
theorem s40_35 {l : Launch} {G : KG} : kOpOK l G 40 35 (.inl (g_push 100 37)) := snd_bipush dX3_setRules_35 rfl
theorem s40_37 {l : Launch} {G : KG} : kOpOK l G 40 37 (.inr (.inl (59, 3, 40))) := ⟨snd_callS dX3_setRules_37 rfl mok_59 rfl rfl rfl wM_3_34 wS_X3_isIn wI_3 (by decide), rfl, mok_59⟩
theorem s40_40 {l : Launch} {G : KG} : kOpOK l G 40 40 (.inl (g_br1 (fun x => decide (¬ x = 0)) 45 43)) := snd_if_ne dX3_setRules_40 (by decide)
theorem s40_43 {l : Launch} {G : KG} : kOpOK l G 40 43 (.inl (g_push (-1) 44)) := snd_iconst dX3_setRules_43 rfl
theorem s40_44 {l : Launch} {G : KG} : kOpOK l G 40 44 (.inr (.inr 1)) := ⟨rfl, Or.inr (Or.inl ⟨rfl, dX3_setRules_44, rfl⟩)⟩
theorem s40_45 {l : Launch} {G : KG} : kOpOK l G 40 45 (.inl (g_ald 0 46)) := snd_aload_n dX3_setRules_45 rfl
theorem s40_46 {l : Launch} {G : KG} : kOpOK l G 40 46 (.inr (.inl (58, 1, 49))) := ⟨snd_callV (c := 3) dX3_setRules_46 rfl mok_58 rfl rfl rfl rfl (by decide) rfl wM_3_38 wN_X3_saveState wL_X3_saveState wI_3 (by decide), rfl, mok_58⟩
theorem s40_49 {l : Launch} {G : KG} : kOpOK l G 40 49 (.inl (g_ald 0 50)) := snd_aload_n dX3_setRules_49 rfl
theorem s40_50 {l : Launch} {G : KG} : kOpOK l G 40 50 (.inl (g_gfr 3 0 53)) := snd_gfr (c := 3) (j := 0) (N := 6) dX3_setRules_50 rfl hin3 (by decide) rfl (by decide) rfl wF_3_10
theorem s40_53 {l : Launch} {G : KG} : kOpOK l G 40 53 (.inl (g_gfi 1 6 56)) := snd_gfi (c := 1) (j := 6) (N := 14) dX3_setRules_53 rfl hin1 (by decide) rfl (by decide) rfl wF_3_96
theorem s40_56 {l : Launch} {G : KG} : kOpOK l G 40 56 (.inl (g_ild 1 57)) := snd_iload_n dX3_setRules_56 rfl
theorem s40_57 {l : Launch} {G : KG} : kOpOK l G 40 57 (.inl (g_br2 (fun x y => decide (¬ x = y)) 98 60)) := snd_icmp_ne dX3_setRules_57 (by decide)
theorem s40_60 {l : Launch} {G : KG} : kOpOK l G 40 60 (.inl (g_ald 0 61)) := snd_aload_n dX3_setRules_60 rfl
theorem s40_61 {l : Launch} {G : KG} : kOpOK l G 40 61 (.inl (g_gfr 3 0 64)) := snd_gfr (c := 3) (j := 0) (N := 6) dX3_setRules_61 rfl hin3 (by decide) rfl (by decide) rfl wF_3_10
theorem s40_64 {l : Launch} {G : KG} : kOpOK l G 40 64 (.inl (g_gfi 1 7 67)) := snd_gfi (c := 1) (j := 7) (N := 14) dX3_setRules_64 rfl hin1 (by decide) rfl (by decide) rfl wF_3_99
theorem s40_67 {l : Launch} {G : KG} : kOpOK l G 40 67 (.inl (g_ild 2 68)) := snd_iload_n dX3_setRules_67 rfl
theorem s40_68 {l : Launch} {G : KG} : kOpOK l G 40 68 (.inl (g_br2 (fun x y => decide (¬ x = y)) 98 71)) := snd_icmp_ne dX3_setRules_68 (by decide)
theorem s40_71 {l : Launch} {G : KG} : kOpOK l G 40 71 (.inl (g_ald 0 72)) := snd_aload_n dX3_setRules_71 rfl
theorem s40_72 {l : Launch} {G : KG} : kOpOK l G 40 72 (.inl (g_gfr 3 0 75)) := snd_gfr (c := 3) (j := 0) (N := 6) dX3_setRules_72 rfl hin3 (by decide) rfl (by decide) rfl wF_3_10
theorem s40_75 {l : Launch} {G : KG} : kOpOK l G 40 75 (.inl (g_gfi 1 8 78)) := snd_gfi (c := 1) (j := 8) (N := 14) dX3_setRules_75 rfl hin1 (by decide) rfl (by decide) rfl wF_3_102
theorem s40_78 {l : Launch} {G : KG} : kOpOK l G 40 78 (.inl (g_ild 3 79)) := snd_iload_n dX3_setRules_78 rfl
theorem s40_79 {l : Launch} {G : KG} : kOpOK l G 40 79 (.inl (g_br2 (fun x y => decide (¬ x = y)) 98 82)) := snd_icmp_ne dX3_setRules_79 (by decide)
theorem s40_82 {l : Launch} {G : KG} : kOpOK l G 40 82 (.inl (g_ald 0 83)) := snd_aload_n dX3_setRules_82 rfl
theorem s40_83 {l : Launch} {G : KG} : kOpOK l G 40 83 (.inl (g_gfr 3 0 86)) := snd_gfr (c := 3) (j := 0) (N := 6) dX3_setRules_83 rfl hin3 (by decide) rfl (by decide) rfl wF_3_10
theorem s40_86 {l : Launch} {G : KG} : kOpOK l G 40 86 (.inl (g_gfi 1 9 89)) := snd_gfi (c := 1) (j := 9) (N := 14) dX3_setRules_86 rfl hin1 (by decide) rfl (by decide) rfl wF_3_105
theorem s40_89 {l : Launch} {G : KG} : kOpOK l G 40 89 (.inl (g_ild 4 91)) := snd_iload dX3_setRules_89
theorem s40_91 {l : Launch} {G : KG} : kOpOK l G 40 91 (.inl (g_br2 (fun x y => decide (¬ x = y)) 98 94)) := snd_icmp_ne dX3_setRules_91 (by decide)
theorem s40_94 {l : Launch} {G : KG} : kOpOK l G 40 94 (.inl (g_push 1 95)) := snd_iconst dX3_setRules_94 rfl
theorem s40_95 {l : Launch} {G : KG} : kOpOK l G 40 95 (.inl (g_goto 99)) := snd_goto dX3_setRules_95 (by decide)
theorem s40_98 {l : Launch} {G : KG} : kOpOK l G 40 98 (.inl (g_push 0 99)) := snd_iconst dX3_setRules_98 rfl
theorem s40_99 {l : Launch} {G : KG} : kOpOK l G 40 99 (.inl (g_ist 5 101)) := snd_istore dX3_setRules_99
theorem s40_101 {l : Launch} {G : KG} : kOpOK l G 40 101 (.inl (g_ald 0 102)) := snd_aload_n dX3_setRules_101 rfl
theorem s40_102 {l : Launch} {G : KG} : kOpOK l G 40 102 (.inl (g_gfr 3 0 105)) := snd_gfr (c := 3) (j := 0) (N := 6) dX3_setRules_102 rfl hin3 (by decide) rfl (by decide) rfl wF_3_10
theorem s40_105 {l : Launch} {G : KG} : kOpOK l G 40 105 (.inl (g_ild 1 106)) := snd_iload_n dX3_setRules_105 rfl
theorem s40_106 {l : Launch} {G : KG} : kOpOK l G 40 106 (.inl (g_pfi 1 6 109)) := snd_pfi (c := 1) (j := 6) (N := 14) dX3_setRules_106 rfl hin1 (by decide) rfl (by decide) rfl wF_3_96 tyX1 tyX1_ok nmX1 rfl (by decide +kernel)
theorem s40_109 {l : Launch} {G : KG} : kOpOK l G 40 109 (.inl (g_ald 0 110)) := snd_aload_n dX3_setRules_109 rfl
theorem s40_110 {l : Launch} {G : KG} : kOpOK l G 40 110 (.inl (g_gfr 3 0 113)) := snd_gfr (c := 3) (j := 0) (N := 6) dX3_setRules_110 rfl hin3 (by decide) rfl (by decide) rfl wF_3_10
theorem s40_113 {l : Launch} {G : KG} : kOpOK l G 40 113 (.inl (g_ild 2 114)) := snd_iload_n dX3_setRules_113 rfl
theorem s40_114 {l : Launch} {G : KG} : kOpOK l G 40 114 (.inl (g_pfi 1 7 117)) := snd_pfi (c := 1) (j := 7) (N := 14) dX3_setRules_114 rfl hin1 (by decide) rfl (by decide) rfl wF_3_99 tyX1 tyX1_ok nmX1 rfl (by decide +kernel)
theorem s40_117 {l : Launch} {G : KG} : kOpOK l G 40 117 (.inl (g_ald 0 118)) := snd_aload_n dX3_setRules_117 rfl
theorem s40_118 {l : Launch} {G : KG} : kOpOK l G 40 118 (.inl (g_gfr 3 0 121)) := snd_gfr (c := 3) (j := 0) (N := 6) dX3_setRules_118 rfl hin3 (by decide) rfl (by decide) rfl wF_3_10
theorem s40_121 {l : Launch} {G : KG} : kOpOK l G 40 121 (.inl (g_ild 3 122)) := snd_iload_n dX3_setRules_121 rfl
theorem s40_122 {l : Launch} {G : KG} : kOpOK l G 40 122 (.inl (g_pfi 1 8 125)) := snd_pfi (c := 1) (j := 8) (N := 14) dX3_setRules_122 rfl hin1 (by decide) rfl (by decide) rfl wF_3_102 tyX1 tyX1_ok nmX1 rfl (by decide +kernel)
theorem s40_125 {l : Launch} {G : KG} : kOpOK l G 40 125 (.inl (g_ald 0 126)) := snd_aload_n dX3_setRules_125 rfl
theorem s40_126 {l : Launch} {G : KG} : kOpOK l G 40 126 (.inl (g_gfr 3 0 129)) := snd_gfr (c := 3) (j := 0) (N := 6) dX3_setRules_126 rfl hin3 (by decide) rfl (by decide) rfl wF_3_10
theorem s40_129 {l : Launch} {G : KG} : kOpOK l G 40 129 (.inl (g_ild 4 131)) := snd_iload dX3_setRules_129
theorem s40_131 {l : Launch} {G : KG} : kOpOK l G 40 131 (.inl (g_pfi 1 9 134)) := snd_pfi (c := 1) (j := 9) (N := 14) dX3_setRules_131 rfl hin1 (by decide) rfl (by decide) rfl wF_3_105 tyX1 tyX1_ok nmX1 rfl (by decide +kernel)
theorem s40_134 {l : Launch} {G : KG} : kOpOK l G 40 134 (.inl (g_ild 5 136)) := snd_iload dX3_setRules_134
theorem s40_136 {l : Launch} {G : KG} : kOpOK l G 40 136 (.inl (g_br1 (fun x => decide (x = 0)) 143 139)) := snd_if_eq dX3_setRules_136 (by decide)
theorem s40_139 {l : Launch} {G : KG} : kOpOK l G 40 139 (.inl (g_push 0 140)) := snd_iconst dX3_setRules_139 rfl
theorem s40_140 {l : Launch} {G : KG} : kOpOK l G 40 140 (.inl (g_goto 144)) := snd_goto dX3_setRules_140 (by decide)
theorem s40_143 {l : Launch} {G : KG} : kOpOK l G 40 143 (.inl (g_push 1 144)) := snd_iconst dX3_setRules_143 rfl
theorem s40_144 {l : Launch} {G : KG} : kOpOK l G 40 144 (.inr (.inr 1)) := ⟨rfl, Or.inr (Or.inl ⟨rfl, dX3_setRules_144, rfl⟩)⟩
theorem s41_0 {l : Launch} {G : KG} : kOpOK l G 41 0 (.inl (g_ild 1 1)) := snd_iload_n dX3_setBand_0 rfl
theorem s41_1 {l : Launch} {G : KG} : kOpOK l G 41 1 (.inl (g_push 1 2)) := snd_iconst dX3_setBand_1 rfl
theorem s41_2 {l : Launch} {G : KG} : kOpOK l G 41 2 (.inl (g_push 9 4)) := snd_bipush dX3_setBand_2 rfl
theorem s41_4 {l : Launch} {G : KG} : kOpOK l G 41 4 (.inr (.inl (59, 3, 7))) := ⟨snd_callS dX3_setBand_4 rfl mok_59 rfl rfl rfl wM_3_34 wS_X3_isIn wI_3 (by decide), rfl, mok_59⟩
theorem s41_7 {l : Launch} {G : KG} : kOpOK l G 41 7 (.inl (g_br1 (fun x => decide (x = 0)) 32 10)) := snd_if_eq dX3_setBand_7 (by decide)
theorem s41_10 {l : Launch} {G : KG} : kOpOK l G 41 10 (.inl (g_ild 2 11)) := snd_iload_n dX3_setBand_10 rfl
theorem s41_11 {l : Launch} {G : KG} : kOpOK l G 41 11 (.inl (g_push 0 12)) := snd_iconst dX3_setBand_11 rfl
theorem s41_12 {l : Launch} {G : KG} : kOpOK l G 41 12 (.inl (g_push 1000 15)) := snd_sipush dX3_setBand_12 rfl
theorem s41_15 {l : Launch} {G : KG} : kOpOK l G 41 15 (.inr (.inl (59, 3, 18))) := ⟨snd_callS dX3_setBand_15 rfl mok_59 rfl rfl rfl wM_3_34 wS_X3_isIn wI_3 (by decide), rfl, mok_59⟩
theorem s41_18 {l : Launch} {G : KG} : kOpOK l G 41 18 (.inl (g_br1 (fun x => decide (x = 0)) 32 21)) := snd_if_eq dX3_setBand_18 (by decide)
theorem s41_21 {l : Launch} {G : KG} : kOpOK l G 41 21 (.inl (g_ild 3 22)) := snd_iload_n dX3_setBand_21 rfl
theorem s41_22 {l : Launch} {G : KG} : kOpOK l G 41 22 (.inl (g_ild 2 23)) := snd_iload_n dX3_setBand_22 rfl
theorem s41_23 {l : Launch} {G : KG} : kOpOK l G 41 23 (.inl (g_push 1000 26)) := snd_sipush dX3_setBand_23 rfl
theorem s41_26 {l : Launch} {G : KG} : kOpOK l G 41 26 (.inr (.inl (59, 3, 29))) := ⟨snd_callS dX3_setBand_26 rfl mok_59 rfl rfl rfl wM_3_34 wS_X3_isIn wI_3 (by decide), rfl, mok_59⟩
theorem s41_29 {l : Launch} {G : KG} : kOpOK l G 41 29 (.inl (g_br1 (fun x => decide (¬ x = 0)) 34 32)) := snd_if_ne dX3_setBand_29 (by decide)
theorem s41_32 {l : Launch} {G : KG} : kOpOK l G 41 32 (.inl (g_push (-1) 33)) := snd_iconst dX3_setBand_32 rfl
theorem s41_33 {l : Launch} {G : KG} : kOpOK l G 41 33 (.inr (.inr 1)) := ⟨rfl, Or.inr (Or.inl ⟨rfl, dX3_setBand_33, rfl⟩)⟩
theorem s41_34 {l : Launch} {G : KG} : kOpOK l G 41 34 (.inl (g_ald 0 35)) := snd_aload_n dX3_setBand_34 rfl
theorem s41_35 {l : Launch} {G : KG} : kOpOK l G 41 35 (.inr (.inl (58, 1, 38))) := ⟨snd_callV (c := 3) dX3_setBand_35 rfl mok_58 rfl rfl rfl rfl (by decide) rfl wM_3_38 wN_X3_saveState wL_X3_saveState wI_3 (by decide), rfl, mok_58⟩
theorem s41_38 {l : Launch} {G : KG} : kOpOK l G 41 38 (.inl (g_ald 0 39)) := snd_aload_n dX3_setBand_38 rfl
theorem s41_39 {l : Launch} {G : KG} : kOpOK l G 41 39 (.inl (g_gfr 3 0 42)) := snd_gfr (c := 3) (j := 0) (N := 6) dX3_setBand_39 rfl hin3 (by decide) rfl (by decide) rfl wF_3_10
theorem s41_42 {l : Launch} {G : KG} : kOpOK l G 41 42 (.inl (g_gfr 1 3 45)) := snd_gfr (c := 1) (j := 3) (N := 14) dX3_setBand_42 rfl hin1 (by decide) rfl (by decide) rfl wF_3_108
theorem s41_45 {l : Launch} {G : KG} : kOpOK l G 41 45 (.inl (g_ild 1 46)) := snd_iload_n dX3_setBand_45 rfl
theorem s41_46 {l : Launch} {G : KG} : kOpOK l G 41 46 (.inl (g_pald 5 47)) := snd_pald5 dX3_setBand_46
theorem s41_47 {l : Launch} {G : KG} : kOpOK l G 41 47 (.inl (g_ild 2 48)) := snd_iload_n dX3_setBand_47 rfl
theorem s41_48 {l : Launch} {G : KG} : kOpOK l G 41 48 (.inl (g_br2 (fun x y => decide (¬ x = y)) 68 51)) := snd_icmp_ne dX3_setBand_48 (by decide)
theorem s41_51 {l : Launch} {G : KG} : kOpOK l G 41 51 (.inl (g_ald 0 52)) := snd_aload_n dX3_setBand_51 rfl
theorem s41_52 {l : Launch} {G : KG} : kOpOK l G 41 52 (.inl (g_gfr 3 0 55)) := snd_gfr (c := 3) (j := 0) (N := 6) dX3_setBand_52 rfl hin3 (by decide) rfl (by decide) rfl wF_3_10
theorem s41_55 {l : Launch} {G : KG} : kOpOK l G 41 55 (.inl (g_gfr 1 4 58)) := snd_gfr (c := 1) (j := 4) (N := 14) dX3_setBand_55 rfl hin1 (by decide) rfl (by decide) rfl wF_3_111
theorem s41_58 {l : Launch} {G : KG} : kOpOK l G 41 58 (.inl (g_ild 1 59)) := snd_iload_n dX3_setBand_58 rfl
theorem s41_59 {l : Launch} {G : KG} : kOpOK l G 41 59 (.inl (g_pald 5 60)) := snd_pald5 dX3_setBand_59
theorem s41_60 {l : Launch} {G : KG} : kOpOK l G 41 60 (.inl (g_ild 3 61)) := snd_iload_n dX3_setBand_60 rfl
theorem s41_61 {l : Launch} {G : KG} : kOpOK l G 41 61 (.inl (g_br2 (fun x y => decide (¬ x = y)) 68 64)) := snd_icmp_ne dX3_setBand_61 (by decide)
theorem s41_64 {l : Launch} {G : KG} : kOpOK l G 41 64 (.inl (g_push 1 65)) := snd_iconst dX3_setBand_64 rfl
theorem s41_65 {l : Launch} {G : KG} : kOpOK l G 41 65 (.inl (g_goto 69)) := snd_goto dX3_setBand_65 (by decide)
theorem s41_68 {l : Launch} {G : KG} : kOpOK l G 41 68 (.inl (g_push 0 69)) := snd_iconst dX3_setBand_68 rfl
theorem s41_69 {l : Launch} {G : KG} : kOpOK l G 41 69 (.inl (g_ist 4 71)) := snd_istore dX3_setBand_69
theorem s41_71 {l : Launch} {G : KG} : kOpOK l G 41 71 (.inl (g_ald 0 72)) := snd_aload_n dX3_setBand_71 rfl
theorem s41_72 {l : Launch} {G : KG} : kOpOK l G 41 72 (.inl (g_gfr 3 0 75)) := snd_gfr (c := 3) (j := 0) (N := 6) dX3_setBand_72 rfl hin3 (by decide) rfl (by decide) rfl wF_3_10
theorem s41_75 {l : Launch} {G : KG} : kOpOK l G 41 75 (.inl (g_gfr 1 3 78)) := snd_gfr (c := 1) (j := 3) (N := 14) dX3_setBand_75 rfl hin1 (by decide) rfl (by decide) rfl wF_3_108
theorem s41_78 {l : Launch} {G : KG} : kOpOK l G 41 78 (.inl (g_ild 1 79)) := snd_iload_n dX3_setBand_78 rfl
theorem s41_79 {l : Launch} {G : KG} : kOpOK l G 41 79 (.inl (g_ild 2 80)) := snd_iload_n dX3_setBand_79 rfl
theorem s41_80 {l : Launch} {G : KG} : kOpOK l G 41 80 (.inl (g_past 5 81)) := snd_past5 dX3_setBand_80
theorem s41_81 {l : Launch} {G : KG} : kOpOK l G 41 81 (.inl (g_ald 0 82)) := snd_aload_n dX3_setBand_81 rfl
theorem s41_82 {l : Launch} {G : KG} : kOpOK l G 41 82 (.inl (g_gfr 3 0 85)) := snd_gfr (c := 3) (j := 0) (N := 6) dX3_setBand_82 rfl hin3 (by decide) rfl (by decide) rfl wF_3_10
theorem s41_85 {l : Launch} {G : KG} : kOpOK l G 41 85 (.inl (g_gfr 1 4 88)) := snd_gfr (c := 1) (j := 4) (N := 14) dX3_setBand_85 rfl hin1 (by decide) rfl (by decide) rfl wF_3_111
theorem s41_88 {l : Launch} {G : KG} : kOpOK l G 41 88 (.inl (g_ild 1 89)) := snd_iload_n dX3_setBand_88 rfl
theorem s41_89 {l : Launch} {G : KG} : kOpOK l G 41 89 (.inl (g_ild 3 90)) := snd_iload_n dX3_setBand_89 rfl
theorem s41_90 {l : Launch} {G : KG} : kOpOK l G 41 90 (.inl (g_past 5 91)) := snd_past5 dX3_setBand_90
theorem s41_91 {l : Launch} {G : KG} : kOpOK l G 41 91 (.inl (g_ild 4 93)) := snd_iload dX3_setBand_91
theorem s41_93 {l : Launch} {G : KG} : kOpOK l G 41 93 (.inl (g_br1 (fun x => decide (x = 0)) 100 96)) := snd_if_eq dX3_setBand_93 (by decide)
theorem s41_96 {l : Launch} {G : KG} : kOpOK l G 41 96 (.inl (g_push 0 97)) := snd_iconst dX3_setBand_96 rfl
theorem s41_97 {l : Launch} {G : KG} : kOpOK l G 41 97 (.inl (g_goto 101)) := snd_goto dX3_setBand_97 (by decide)
theorem s41_100 {l : Launch} {G : KG} : kOpOK l G 41 100 (.inl (g_push 1 101)) := snd_iconst dX3_setBand_100 rfl
theorem s41_101 {l : Launch} {G : KG} : kOpOK l G 41 101 (.inr (.inr 1)) := ⟨rfl, Or.inr (Or.inl ⟨rfl, dX3_setBand_101, rfl⟩)⟩
theorem s42_0 {l : Launch} {G : KG} : kOpOK l G 42 0 (.inl (g_ild 1 1)) := snd_iload_n dX3_count_0 rfl
theorem s42_1 {l : Launch} {G : KG} : kOpOK l G 42 1 (.inl (g_tsw 9 [56, 64, 72, 80, 88, 96, 112, 120, 128, 136] 141)) := snd_tsw dX3_count_1 (by decide) (by decide) (by decide)
theorem s42_56 {l : Launch} {G : KG} : kOpOK l G 42 56 (.inl (g_ald 0 57)) := snd_aload_n dX3_count_56 rfl
theorem s42_57 {l : Launch} {G : KG} : kOpOK l G 42 57 (.inl (g_gfr 3 0 60)) := snd_gfr (c := 3) (j := 0) (N := 6) dX3_count_57 rfl hin3 (by decide) rfl (by decide) rfl wF_3_10
theorem s42_60 {l : Launch} {G : KG} : kOpOK l G 42 60 (.inl (g_gfi 1 5 63)) := snd_gfi (c := 1) (j := 5) (N := 14) dX3_count_60 rfl hin1 (by decide) rfl (by decide) rfl wF_3_83
theorem s42_63 {l : Launch} {G : KG} : kOpOK l G 42 63 (.inr (.inr 1)) := ⟨rfl, Or.inr (Or.inl ⟨rfl, dX3_count_63, rfl⟩)⟩
theorem s42_64 {l : Launch} {G : KG} : kOpOK l G 42 64 (.inl (g_ald 0 65)) := snd_aload_n dX3_count_64 rfl
theorem s42_65 {l : Launch} {G : KG} : kOpOK l G 42 65 (.inl (g_gfr 3 0 68)) := snd_gfr (c := 3) (j := 0) (N := 6) dX3_count_65 rfl hin3 (by decide) rfl (by decide) rfl wF_3_10
theorem s42_68 {l : Launch} {G : KG} : kOpOK l G 42 68 (.inl (g_gfi 1 6 71)) := snd_gfi (c := 1) (j := 6) (N := 14) dX3_count_68 rfl hin1 (by decide) rfl (by decide) rfl wF_3_96
theorem s42_71 {l : Launch} {G : KG} : kOpOK l G 42 71 (.inr (.inr 1)) := ⟨rfl, Or.inr (Or.inl ⟨rfl, dX3_count_71, rfl⟩)⟩
theorem s42_72 {l : Launch} {G : KG} : kOpOK l G 42 72 (.inl (g_ald 0 73)) := snd_aload_n dX3_count_72 rfl
theorem s42_73 {l : Launch} {G : KG} : kOpOK l G 42 73 (.inl (g_gfr 3 0 76)) := snd_gfr (c := 3) (j := 0) (N := 6) dX3_count_73 rfl hin3 (by decide) rfl (by decide) rfl wF_3_10
theorem s42_76 {l : Launch} {G : KG} : kOpOK l G 42 76 (.inl (g_gfi 1 7 79)) := snd_gfi (c := 1) (j := 7) (N := 14) dX3_count_76 rfl hin1 (by decide) rfl (by decide) rfl wF_3_99
theorem s42_79 {l : Launch} {G : KG} : kOpOK l G 42 79 (.inr (.inr 1)) := ⟨rfl, Or.inr (Or.inl ⟨rfl, dX3_count_79, rfl⟩)⟩
theorem s42_80 {l : Launch} {G : KG} : kOpOK l G 42 80 (.inl (g_ald 0 81)) := snd_aload_n dX3_count_80 rfl
theorem s42_81 {l : Launch} {G : KG} : kOpOK l G 42 81 (.inl (g_gfr 3 0 84)) := snd_gfr (c := 3) (j := 0) (N := 6) dX3_count_81 rfl hin3 (by decide) rfl (by decide) rfl wF_3_10
theorem s42_84 {l : Launch} {G : KG} : kOpOK l G 42 84 (.inl (g_gfi 1 8 87)) := snd_gfi (c := 1) (j := 8) (N := 14) dX3_count_84 rfl hin1 (by decide) rfl (by decide) rfl wF_3_102
theorem s42_87 {l : Launch} {G : KG} : kOpOK l G 42 87 (.inr (.inr 1)) := ⟨rfl, Or.inr (Or.inl ⟨rfl, dX3_count_87, rfl⟩)⟩
theorem s42_88 {l : Launch} {G : KG} : kOpOK l G 42 88 (.inl (g_ald 0 89)) := snd_aload_n dX3_count_88 rfl
theorem s42_89 {l : Launch} {G : KG} : kOpOK l G 42 89 (.inl (g_gfr 3 0 92)) := snd_gfr (c := 3) (j := 0) (N := 6) dX3_count_89 rfl hin3 (by decide) rfl (by decide) rfl wF_3_10
theorem s42_92 {l : Launch} {G : KG} : kOpOK l G 42 92 (.inl (g_gfi 1 9 95)) := snd_gfi (c := 1) (j := 9) (N := 14) dX3_count_92 rfl hin1 (by decide) rfl (by decide) rfl wF_3_105
theorem s42_95 {l : Launch} {G : KG} : kOpOK l G 42 95 (.inr (.inr 1)) := ⟨rfl, Or.inr (Or.inl ⟨rfl, dX3_count_95, rfl⟩)⟩
theorem s42_96 {l : Launch} {G : KG} : kOpOK l G 42 96 (.inl (g_ald 0 97)) := snd_aload_n dX3_count_96 rfl
theorem s42_97 {l : Launch} {G : KG} : kOpOK l G 42 97 (.inl (g_gfr 3 0 100)) := snd_gfr (c := 3) (j := 0) (N := 6) dX3_count_97 rfl hin3 (by decide) rfl (by decide) rfl wF_3_10
theorem s42_100 {l : Launch} {G : KG} : kOpOK l G 42 100 (.inl (g_gfi 1 10 103)) := snd_gfi (c := 1) (j := 10) (N := 14) dX3_count_100 rfl hin1 (by decide) rfl (by decide) rfl wF_3_114
theorem s42_103 {l : Launch} {G : KG} : kOpOK l G 42 103 (.inl (g_br1 (fun x => decide (x = 0)) 110 106)) := snd_if_eq dX3_count_103 (by decide)
theorem s42_106 {l : Launch} {G : KG} : kOpOK l G 42 106 (.inl (g_push 1 107)) := snd_iconst dX3_count_106 rfl
theorem s42_107 {l : Launch} {G : KG} : kOpOK l G 42 107 (.inl (g_goto 111)) := snd_goto dX3_count_107 (by decide)
theorem s42_110 {l : Launch} {G : KG} : kOpOK l G 42 110 (.inl (g_push 0 111)) := snd_iconst dX3_count_110 rfl
theorem s42_111 {l : Launch} {G : KG} : kOpOK l G 42 111 (.inr (.inr 1)) := ⟨rfl, Or.inr (Or.inl ⟨rfl, dX3_count_111, rfl⟩)⟩
theorem s42_112 {l : Launch} {G : KG} : kOpOK l G 42 112 (.inl (g_ald 0 113)) := snd_aload_n dX3_count_112 rfl
theorem s42_113 {l : Launch} {G : KG} : kOpOK l G 42 113 (.inl (g_gfr 3 0 116)) := snd_gfr (c := 3) (j := 0) (N := 6) dX3_count_113 rfl hin3 (by decide) rfl (by decide) rfl wF_3_10
theorem s42_116 {l : Launch} {G : KG} : kOpOK l G 42 116 (.inl (g_gfi 1 12 119)) := snd_gfi (c := 1) (j := 12) (N := 14) dX3_count_116 rfl hin1 (by decide) rfl (by decide) rfl wF_3_118
theorem s42_119 {l : Launch} {G : KG} : kOpOK l G 42 119 (.inr (.inr 1)) := ⟨rfl, Or.inr (Or.inl ⟨rfl, dX3_count_119, rfl⟩)⟩
theorem s42_120 {l : Launch} {G : KG} : kOpOK l G 42 120 (.inl (g_ald 0 121)) := snd_aload_n dX3_count_120 rfl
theorem s42_121 {l : Launch} {G : KG} : kOpOK l G 42 121 (.inl (g_gfr 3 0 124)) := snd_gfr (c := 3) (j := 0) (N := 6) dX3_count_121 rfl hin3 (by decide) rfl (by decide) rfl wF_3_10
theorem s42_124 {l : Launch} {G : KG} : kOpOK l G 42 124 (.inl (g_gfi 1 13 127)) := snd_gfi (c := 1) (j := 13) (N := 14) dX3_count_124 rfl hin1 (by decide) rfl (by decide) rfl wF_3_121
theorem s42_127 {l : Launch} {G : KG} : kOpOK l G 42 127 (.inr (.inr 1)) := ⟨rfl, Or.inr (Or.inl ⟨rfl, dX3_count_127, rfl⟩)⟩
theorem s42_128 {l : Launch} {G : KG} : kOpOK l G 42 128 (.inl (g_ald 0 129)) := snd_aload_n dX3_count_128 rfl
theorem s42_129 {l : Launch} {G : KG} : kOpOK l G 42 129 (.inl (g_gfr 3 3 132)) := snd_gfr (c := 3) (j := 3) (N := 6) dX3_count_129 rfl hin3 (by decide) rfl (by decide) rfl wF_3_26
theorem s42_132 {l : Launch} {G : KG} : kOpOK l G 42 132 (.inl (g_gfi 0 3 135)) := snd_gfi (c := 0) (j := 3) (N := 5) dX3_count_132 rfl hin0 (by decide) rfl (by decide) rfl wF_3_60
theorem s42_135 {l : Launch} {G : KG} : kOpOK l G 42 135 (.inr (.inr 1)) := ⟨rfl, Or.inr (Or.inl ⟨rfl, dX3_count_135, rfl⟩)⟩
theorem s42_136 {l : Launch} {G : KG} : kOpOK l G 42 136 (.inl (g_ald 0 137)) := snd_aload_n dX3_count_136 rfl
theorem s42_137 {l : Launch} {G : KG} : kOpOK l G 42 137 (.inl (g_gfi 3 5 140)) := snd_gfi (c := 3) (j := 5) (N := 6) dX3_count_137 rfl hin3 (by decide) rfl (by decide) rfl wF_3_124
theorem s42_140 {l : Launch} {G : KG} : kOpOK l G 42 140 (.inr (.inr 1)) := ⟨rfl, Or.inr (Or.inl ⟨rfl, dX3_count_140, rfl⟩)⟩
theorem s42_141 {l : Launch} {G : KG} : kOpOK l G 42 141 (.inl (g_push (-1) 142)) := snd_iconst dX3_count_141 rfl
theorem s42_142 {l : Launch} {G : KG} : kOpOK l G 42 142 (.inr (.inr 1)) := ⟨rfl, Or.inr (Or.inl ⟨rfl, dX3_count_142, rfl⟩)⟩
theorem s43_0 {l : Launch} {G : KG} : kOpOK l G 43 0 (.inl (g_ald 0 1)) := snd_aload_n dX3_tray_0 rfl
theorem s43_1 {l : Launch} {G : KG} : kOpOK l G 43 1 (.inl (g_gfr 3 0 4)) := snd_gfr (c := 3) (j := 0) (N := 6) dX3_tray_1 rfl hin3 (by decide) rfl (by decide) rfl wF_3_10
theorem s43_4 {l : Launch} {G : KG} : kOpOK l G 43 4 (.inl (g_ild 1 5)) := snd_iload_n dX3_tray_4 rfl
theorem s43_5 {l : Launch} {G : KG} : kOpOK l G 43 5 (.inr (.inl (9, 2, 8))) := ⟨snd_callV (c := 1) dX3_tray_5 rfl mok_9 rfl rfl rfl rfl (by decide) rfl wM_3_127 wN_X1_isTray wL_X1_isTray wI_1 (by decide), rfl, mok_9⟩
theorem s43_8 {l : Launch} {G : KG} : kOpOK l G 43 8 (.inl (g_br1 (fun x => decide (¬ x = 0)) 13 11)) := snd_if_ne dX3_tray_8 (by decide)
theorem s43_11 {l : Launch} {G : KG} : kOpOK l G 43 11 (.inl (g_push (-1) 12)) := snd_iconst dX3_tray_11 rfl
theorem s43_12 {l : Launch} {G : KG} : kOpOK l G 43 12 (.inr (.inr 1)) := ⟨rfl, Or.inr (Or.inl ⟨rfl, dX3_tray_12, rfl⟩)⟩
theorem s43_13 {l : Launch} {G : KG} : kOpOK l G 43 13 (.inl (g_ald 0 14)) := snd_aload_n dX3_tray_13 rfl
theorem s43_14 {l : Launch} {G : KG} : kOpOK l G 43 14 (.inl (g_gfr 3 0 17)) := snd_gfr (c := 3) (j := 0) (N := 6) dX3_tray_14 rfl hin3 (by decide) rfl (by decide) rfl wF_3_10
theorem s43_17 {l : Launch} {G : KG} : kOpOK l G 43 17 (.inl (g_gfr 1 2 20)) := snd_gfr (c := 1) (j := 2) (N := 14) dX3_tray_17 rfl hin1 (by decide) rfl (by decide) rfl wF_3_130
theorem s43_20 {l : Launch} {G : KG} : kOpOK l G 43 20 (.inl (g_ild 1 21)) := snd_iload_n dX3_tray_20 rfl
theorem s43_21 {l : Launch} {G : KG} : kOpOK l G 43 21 (.inl (g_aald 9 22)) := snd_aald9 dX3_tray_21
theorem s43_22 {l : Launch} {G : KG} : kOpOK l G 43 22 (.inl (g_ast 3 23)) := snd_astore_n dX3_tray_22 rfl
theorem s43_23 {l : Launch} {G : KG} : kOpOK l G 43 23 (.inl (g_ild 2 24)) := snd_iload_n dX3_tray_23 rfl
theorem s43_24 {l : Launch} {G : KG} : kOpOK l G 43 24 (.inl (g_tsw 4 [60, 65, 73, 78, 83] 95)) := snd_tsw dX3_tray_24 (by decide) (by decide) (by decide)
theorem s43_60 {l : Launch} {G : KG} : kOpOK l G 43 60 (.inl (g_ald 3 61)) := snd_aload_n dX3_tray_60 rfl
theorem s43_61 {l : Launch} {G : KG} : kOpOK l G 43 61 (.inl (g_gfi 2 1 64)) := snd_gfi (c := 2) (j := 1) (N := 4) dX3_tray_61 rfl hin2 (by decide) rfl (by decide) rfl wF_3_134
theorem s43_64 {l : Launch} {G : KG} : kOpOK l G 43 64 (.inr (.inr 1)) := ⟨rfl, Or.inr (Or.inl ⟨rfl, dX3_tray_64, rfl⟩)⟩
theorem s43_65 {l : Launch} {G : KG} : kOpOK l G 43 65 (.inl (g_ald 3 66)) := snd_aload_n dX3_tray_65 rfl
theorem s43_66 {l : Launch} {G : KG} : kOpOK l G 43 66 (.inl (g_gfr 2 0 69)) := snd_gfr (c := 2) (j := 0) (N := 4) dX3_tray_66 rfl hin2 (by decide) rfl (by decide) rfl wF_3_139
theorem s43_69 {l : Launch} {G : KG} : kOpOK l G 43 69 (.inr (.inl (62, 1, 72))) := ⟨snd_callS dX3_tray_69 rfl mok_62 rfl rfl rfl wM_3_52 wS_X3_sumOf wI_3 (by decide), rfl, mok_62⟩
theorem s43_72 {l : Launch} {G : KG} : kOpOK l G 43 72 (.inr (.inr 1)) := ⟨rfl, Or.inr (Or.inl ⟨rfl, dX3_tray_72, rfl⟩)⟩
theorem s43_73 {l : Launch} {G : KG} : kOpOK l G 43 73 (.inl (g_ald 3 74)) := snd_aload_n dX3_tray_73 rfl
theorem s43_74 {l : Launch} {G : KG} : kOpOK l G 43 74 (.inl (g_gfi 2 2 77)) := snd_gfi (c := 2) (j := 2) (N := 4) dX3_tray_74 rfl hin2 (by decide) rfl (by decide) rfl wF_3_142
theorem s43_77 {l : Launch} {G : KG} : kOpOK l G 43 77 (.inr (.inr 1)) := ⟨rfl, Or.inr (Or.inl ⟨rfl, dX3_tray_77, rfl⟩)⟩
theorem s43_78 {l : Launch} {G : KG} : kOpOK l G 43 78 (.inl (g_ald 3 79)) := snd_aload_n dX3_tray_78 rfl
theorem s43_79 {l : Launch} {G : KG} : kOpOK l G 43 79 (.inl (g_gfi 2 3 82)) := snd_gfi (c := 2) (j := 3) (N := 4) dX3_tray_79 rfl hin2 (by decide) rfl (by decide) rfl wF_3_145
theorem s43_82 {l : Launch} {G : KG} : kOpOK l G 43 82 (.inr (.inr 1)) := ⟨rfl, Or.inr (Or.inl ⟨rfl, dX3_tray_82, rfl⟩)⟩
theorem s43_83 {l : Launch} {G : KG} : kOpOK l G 43 83 (.inl (g_ald 3 84)) := snd_aload_n dX3_tray_83 rfl
theorem s43_84 {l : Launch} {G : KG} : kOpOK l G 43 84 (.inl (g_ald 0 85)) := snd_aload_n dX3_tray_84 rfl
theorem s43_85 {l : Launch} {G : KG} : kOpOK l G 43 85 (.inl (g_gfr 3 0 88)) := snd_gfr (c := 3) (j := 0) (N := 6) dX3_tray_85 rfl hin3 (by decide) rfl (by decide) rfl wF_3_10
theorem s43_88 {l : Launch} {G : KG} : kOpOK l G 43 88 (.inl (g_gfi 1 6 91)) := snd_gfi (c := 1) (j := 6) (N := 14) dX3_tray_88 rfl hin1 (by decide) rfl (by decide) rfl wF_3_96
theorem s43_91 {l : Launch} {G : KG} : kOpOK l G 43 91 (.inr (.inl (24, 2, 94))) := ⟨snd_callV (c := 2) dX3_tray_91 rfl mok_24 rfl rfl rfl rfl (by decide) rfl wM_3_148 wN_X2_openness wL_X2_openness wI_2 (by decide), rfl, mok_24⟩
