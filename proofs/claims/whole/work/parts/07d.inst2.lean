theorem s88_1 {l : Launch} {G : KG} : kOpOK l G 88 1 (.inl (g_push 1 2)) := snd_iconst dX4_removeSieve_1 rfl
theorem s88_2 {l : Launch} {G : KG} : kOpOK l G 88 2 (.inl (g_push 9 4)) := snd_bipush dX4_removeSieve_2 rfl
theorem s88_4 {l : Launch} {G : KG} : kOpOK l G 88 4 (.inr (.inl (66, 3, 7))) := ⟨snd_callS dX4_removeSieve_4 rfl mok_66 rfl rfl rfl wM_4_30 wS_X4_in wI_4 (by decide), rfl, mok_66⟩
theorem s88_7 {l : Launch} {G : KG} : kOpOK l G 88 7 (.inl (g_br1 (fun x => decide (¬ x = 0)) 12 10)) := snd_if_ne dX4_removeSieve_7 (by decide)
theorem s88_10 {l : Launch} {G : KG} : kOpOK l G 88 10 (.inl (g_push (-1) 11)) := snd_iconst dX4_removeSieve_10 rfl
theorem s88_11 {l : Launch} {G : KG} : kOpOK l G 88 11 (.inr (.inr 1)) := ⟨rfl, Or.inr (Or.inl ⟨rfl, dX4_removeSieve_11, rfl⟩)⟩
theorem s88_12 {l : Launch} {G : KG} : kOpOK l G 88 12 (.inl (g_ald 0 13)) := snd_aload_n dX4_removeSieve_12 rfl
theorem s88_13 {l : Launch} {G : KG} : kOpOK l G 88 13 (.inl (g_ild 1 14)) := snd_iload_n dX4_removeSieve_13 rfl
theorem s88_14 {l : Launch} {G : KG} : kOpOK l G 88 14 (.inr (.inl (85, 2, 17))) := ⟨snd_callV (c := 4) dX4_removeSieve_14 rfl mok_85 rfl rfl rfl rfl (by decide) rfl wM_4_67 wN_X4_trayWith wL_X4_trayWith wI_4 (by decide), rfl, mok_85⟩
theorem s88_17 {l : Launch} {G : KG} : kOpOK l G 88 17 (.inl (g_ist 2 18)) := snd_istore_n dX4_removeSieve_17 rfl
theorem s88_18 {l : Launch} {G : KG} : kOpOK l G 88 18 (.inl (g_ild 2 19)) := snd_iload_n dX4_removeSieve_18 rfl
theorem s88_19 {l : Launch} {G : KG} : kOpOK l G 88 19 (.inl (g_push (-9) 21)) := snd_bipush dX4_removeSieve_19 rfl
theorem s88_21 {l : Launch} {G : KG} : kOpOK l G 88 21 (.inl (g_br2 (fun x y => decide (¬ x = y)) 27 24)) := snd_icmp_ne dX4_removeSieve_21 (by decide)
theorem s88_24 {l : Launch} {G : KG} : kOpOK l G 88 24 (.inl (g_push (-2) 26)) := snd_bipush dX4_removeSieve_24 rfl
theorem s88_26 {l : Launch} {G : KG} : kOpOK l G 88 26 (.inr (.inr 1)) := ⟨rfl, Or.inr (Or.inl ⟨rfl, dX4_removeSieve_26, rfl⟩)⟩
theorem s88_27 {l : Launch} {G : KG} : kOpOK l G 88 27 (.inl (g_ald 0 28)) := snd_aload_n dX4_removeSieve_27 rfl
theorem s88_28 {l : Launch} {G : KG} : kOpOK l G 88 28 (.inr (.inl (67, 1, 31))) := ⟨snd_callV (c := 4) dX4_removeSieve_28 rfl mok_67 rfl rfl rfl rfl (by decide) rfl wM_4_34 wN_X4_notes wL_X4_notes wI_4 (by decide), rfl, mok_67⟩
theorem s88_31 {l : Launch} {G : KG} : kOpOK l G 88 31 (.inl (g_ald 0 32)) := snd_aload_n dX4_removeSieve_31 rfl
theorem s88_32 {l : Launch} {G : KG} : kOpOK l G 88 32 (.inr (.inl (86, 1, 35))) := ⟨snd_callV (c := 4) dX4_removeSieve_32 rfl mok_86 rfl rfl rfl rfl (by decide) rfl wM_4_70 wN_X4_ends wL_X4_ends wI_4 (by decide), rfl, mok_86⟩
theorem s88_35 {l : Launch} {G : KG} : kOpOK l G 88 35 (.inl (g_ald 0 36)) := snd_aload_n dX4_removeSieve_35 rfl
theorem s88_36 {l : Launch} {G : KG} : kOpOK l G 88 36 (.inl (g_gfr 4 0 39)) := snd_gfr (c := 4) (j := 0) (N := 8) dX4_removeSieve_36 rfl hin4 (by decide) rfl (by decide) rfl wF_4_7
theorem s88_39 {l : Launch} {G : KG} : kOpOK l G 88 39 (.inl (g_push 24 41)) := snd_bipush dX4_removeSieve_39 rfl
theorem s88_41 {l : Launch} {G : KG} : kOpOK l G 88 41 (.inl (g_dup2 42)) := snd_dup2 dX4_removeSieve_41
theorem s88_42 {l : Launch} {G : KG} : kOpOK l G 88 42 (.inl (g_pald 5 43)) := snd_pald5 dX4_removeSieve_42
theorem s88_43 {l : Launch} {G : KG} : kOpOK l G 88 43 (.inl (g_push 1 44)) := snd_iconst dX4_removeSieve_43 rfl
theorem s88_44 {l : Launch} {G : KG} : kOpOK l G 88 44 (.inl (g_iop (fun x y => x - y) 45)) := snd_isub dX4_removeSieve_44
theorem s88_45 {l : Launch} {G : KG} : kOpOK l G 88 45 (.inl (g_past 5 46)) := snd_past5 dX4_removeSieve_45
theorem s88_46 {l : Launch} {G : KG} : kOpOK l G 88 46 (.inl (g_ild 2 47)) := snd_iload_n dX4_removeSieve_46 rfl
theorem s88_47 {l : Launch} {G : KG} : kOpOK l G 88 47 (.inl (g_ist 3 48)) := snd_istore_n dX4_removeSieve_47 rfl
theorem s88_48 {l : Launch} {G : KG} : kOpOK l G 88 48 (.inl (g_ild 3 49)) := snd_iload_n dX4_removeSieve_48 rfl
theorem s88_49 {l : Launch} {G : KG} : kOpOK l G 88 49 (.inl (g_ald 0 50)) := snd_aload_n dX4_removeSieve_49 rfl
theorem s88_50 {l : Launch} {G : KG} : kOpOK l G 88 50 (.inl (g_gfr 4 0 53)) := snd_gfr (c := 4) (j := 0) (N := 8) dX4_removeSieve_50 rfl hin4 (by decide) rfl (by decide) rfl wF_4_7
theorem s88_53 {l : Launch} {G : KG} : kOpOK l G 88 53 (.inl (g_push 24 55)) := snd_bipush dX4_removeSieve_53 rfl
theorem s88_55 {l : Launch} {G : KG} : kOpOK l G 88 55 (.inl (g_pald 5 56)) := snd_pald5 dX4_removeSieve_55
theorem s88_56 {l : Launch} {G : KG} : kOpOK l G 88 56 (.inl (g_br2 (fun x y => decide (y ≤ x)) 85 59)) := snd_icmp_ge dX4_removeSieve_56 (by decide)
theorem s88_59 {l : Launch} {G : KG} : kOpOK l G 88 59 (.inl (g_ald 0 60)) := snd_aload_n dX4_removeSieve_59 rfl
theorem s88_60 {l : Launch} {G : KG} : kOpOK l G 88 60 (.inl (g_gfr 4 0 63)) := snd_gfr (c := 4) (j := 0) (N := 8) dX4_removeSieve_60 rfl hin4 (by decide) rfl (by decide) rfl wF_4_7
theorem s88_63 {l : Launch} {G : KG} : kOpOK l G 88 63 (.inl (g_push 25 65)) := snd_bipush dX4_removeSieve_63 rfl
theorem s88_65 {l : Launch} {G : KG} : kOpOK l G 88 65 (.inl (g_ild 3 66)) := snd_iload_n dX4_removeSieve_65 rfl
theorem s88_66 {l : Launch} {G : KG} : kOpOK l G 88 66 (.inl (g_iop (fun x y => x + y) 67)) := snd_iadd dX4_removeSieve_66
theorem s88_67 {l : Launch} {G : KG} : kOpOK l G 88 67 (.inl (g_ald 0 68)) := snd_aload_n dX4_removeSieve_67 rfl
theorem s88_68 {l : Launch} {G : KG} : kOpOK l G 88 68 (.inl (g_gfr 4 0 71)) := snd_gfr (c := 4) (j := 0) (N := 8) dX4_removeSieve_68 rfl hin4 (by decide) rfl (by decide) rfl wF_4_7
theorem s88_71 {l : Launch} {G : KG} : kOpOK l G 88 71 (.inl (g_push 25 73)) := snd_bipush dX4_removeSieve_71 rfl
theorem s88_73 {l : Launch} {G : KG} : kOpOK l G 88 73 (.inl (g_ild 3 74)) := snd_iload_n dX4_removeSieve_73 rfl
theorem s88_74 {l : Launch} {G : KG} : kOpOK l G 88 74 (.inl (g_iop (fun x y => x + y) 75)) := snd_iadd dX4_removeSieve_74
theorem s88_75 {l : Launch} {G : KG} : kOpOK l G 88 75 (.inl (g_push 1 76)) := snd_iconst dX4_removeSieve_75 rfl
theorem s88_76 {l : Launch} {G : KG} : kOpOK l G 88 76 (.inl (g_iop (fun x y => x + y) 77)) := snd_iadd dX4_removeSieve_76
theorem s88_77 {l : Launch} {G : KG} : kOpOK l G 88 77 (.inl (g_pald 5 78)) := snd_pald5 dX4_removeSieve_77
theorem s88_78 {l : Launch} {G : KG} : kOpOK l G 88 78 (.inl (g_past 5 79)) := snd_past5 dX4_removeSieve_78
theorem s88_79 {l : Launch} {G : KG} : kOpOK l G 88 79 (.inl (g_iinc 3 1 82)) := snd_iinc dX4_removeSieve_79 rfl
theorem s88_82 {l : Launch} {G : KG} : kOpOK l G 88 82 (.inl (g_goto 48)) := snd_goto dX4_removeSieve_82 (by decide)
theorem s88_85 {l : Launch} {G : KG} : kOpOK l G 88 85 (.inl (g_ald 0 86)) := snd_aload_n dX4_removeSieve_85 rfl
theorem s88_86 {l : Launch} {G : KG} : kOpOK l G 88 86 (.inl (g_gfr 4 0 89)) := snd_gfr (c := 4) (j := 0) (N := 8) dX4_removeSieve_86 rfl hin4 (by decide) rfl (by decide) rfl wF_4_7
theorem s88_89 {l : Launch} {G : KG} : kOpOK l G 88 89 (.inl (g_push 24 91)) := snd_bipush dX4_removeSieve_89 rfl
theorem s88_91 {l : Launch} {G : KG} : kOpOK l G 88 91 (.inl (g_pald 5 92)) := snd_pald5 dX4_removeSieve_91
theorem s88_92 {l : Launch} {G : KG} : kOpOK l G 88 92 (.inr (.inr 1)) := ⟨rfl, Or.inr (Or.inl ⟨rfl, dX4_removeSieve_92, rfl⟩)⟩
theorem s89_0 {l : Launch} {G : KG} : kOpOK l G 89 0 (.inl (g_ald 0 1)) := snd_aload_n dX4_changes_0 rfl
theorem s89_1 {l : Launch} {G : KG} : kOpOK l G 89 1 (.inl (g_gfr 4 0 4)) := snd_gfr (c := 4) (j := 0) (N := 8) dX4_changes_1 rfl hin4 (by decide) rfl (by decide) rfl wF_4_7
theorem s89_4 {l : Launch} {G : KG} : kOpOK l G 89 4 (.inl (g_ild 1 5)) := snd_iload_n dX4_changes_4 rfl
theorem s89_5 {l : Launch} {G : KG} : kOpOK l G 89 5 (.inl (g_pald 5 6)) := snd_pald5 dX4_changes_5
theorem s89_6 {l : Launch} {G : KG} : kOpOK l G 89 6 (.inl (g_ild 2 7)) := snd_iload_n dX4_changes_6 rfl
theorem s89_7 {l : Launch} {G : KG} : kOpOK l G 89 7 (.inl (g_br2 (fun x y => decide (¬ x = y)) 14 10)) := snd_icmp_ne dX4_changes_7 (by decide)
theorem s89_10 {l : Launch} {G : KG} : kOpOK l G 89 10 (.inl (g_push 0 11)) := snd_iconst dX4_changes_10 rfl
theorem s89_11 {l : Launch} {G : KG} : kOpOK l G 89 11 (.inl (g_goto 15)) := snd_goto dX4_changes_11 (by decide)
theorem s89_14 {l : Launch} {G : KG} : kOpOK l G 89 14 (.inl (g_push 1 15)) := snd_iconst dX4_changes_14 rfl
theorem s89_15 {l : Launch} {G : KG} : kOpOK l G 89 15 (.inl (g_ist 3 16)) := snd_istore_n dX4_changes_15 rfl
theorem s89_16 {l : Launch} {G : KG} : kOpOK l G 89 16 (.inl (g_ald 0 17)) := snd_aload_n dX4_changes_16 rfl
theorem s89_17 {l : Launch} {G : KG} : kOpOK l G 89 17 (.inl (g_gfr 4 0 20)) := snd_gfr (c := 4) (j := 0) (N := 8) dX4_changes_17 rfl hin4 (by decide) rfl (by decide) rfl wF_4_7
theorem s89_20 {l : Launch} {G : KG} : kOpOK l G 89 20 (.inl (g_ild 1 21)) := snd_iload_n dX4_changes_20 rfl
theorem s89_21 {l : Launch} {G : KG} : kOpOK l G 89 21 (.inl (g_ild 2 22)) := snd_iload_n dX4_changes_21 rfl
theorem s89_22 {l : Launch} {G : KG} : kOpOK l G 89 22 (.inl (g_past 5 23)) := snd_past5 dX4_changes_22
theorem s89_23 {l : Launch} {G : KG} : kOpOK l G 89 23 (.inl (g_ild 3 24)) := snd_iload_n dX4_changes_23 rfl
theorem s89_24 {l : Launch} {G : KG} : kOpOK l G 89 24 (.inr (.inr 1)) := ⟨rfl, Or.inr (Or.inl ⟨rfl, dX4_changes_24, rfl⟩)⟩
theorem s90_0 {l : Launch} {G : KG} : kOpOK l G 90 0 (.inl (g_ild 1 1)) := snd_iload_n dX4_setRules_0 rfl
theorem s90_1 {l : Launch} {G : KG} : kOpOK l G 90 1 (.inl (g_push 1 2)) := snd_iconst dX4_setRules_1 rfl
theorem s90_2 {l : Launch} {G : KG} : kOpOK l G 90 2 (.inl (g_push 9999 5)) := snd_sipush dX4_setRules_2 rfl
theorem s90_5 {l : Launch} {G : KG} : kOpOK l G 90 5 (.inr (.inl (66, 3, 8))) := ⟨snd_callS dX4_setRules_5 rfl mok_66 rfl rfl rfl wM_4_30 wS_X4_in wI_4 (by decide), rfl, mok_66⟩
theorem s90_8 {l : Launch} {G : KG} : kOpOK l G 90 8 (.inl (g_br1 (fun x => decide (x = 0)) 43 11)) := snd_if_eq dX4_setRules_8 (by decide)
theorem s90_11 {l : Launch} {G : KG} : kOpOK l G 90 11 (.inl (g_ild 2 12)) := snd_iload_n dX4_setRules_11 rfl
theorem s90_12 {l : Launch} {G : KG} : kOpOK l G 90 12 (.inl (g_push 0 13)) := snd_iconst dX4_setRules_12 rfl
theorem s90_13 {l : Launch} {G : KG} : kOpOK l G 90 13 (.inl (g_push 200 16)) := snd_sipush dX4_setRules_13 rfl
theorem s90_16 {l : Launch} {G : KG} : kOpOK l G 90 16 (.inr (.inl (66, 3, 19))) := ⟨snd_callS dX4_setRules_16 rfl mok_66 rfl rfl rfl wM_4_30 wS_X4_in wI_4 (by decide), rfl, mok_66⟩
theorem s90_19 {l : Launch} {G : KG} : kOpOK l G 90 19 (.inl (g_br1 (fun x => decide (x = 0)) 43 22)) := snd_if_eq dX4_setRules_19 (by decide)
theorem s90_22 {l : Launch} {G : KG} : kOpOK l G 90 22 (.inl (g_ild 3 23)) := snd_iload_n dX4_setRules_22 rfl
theorem s90_23 {l : Launch} {G : KG} : kOpOK l G 90 23 (.inl (g_push 0 24)) := snd_iconst dX4_setRules_23 rfl
theorem s90_24 {l : Launch} {G : KG} : kOpOK l G 90 24 (.inl (g_push 100 26)) := snd_bipush dX4_setRules_24 rfl
theorem s90_26 {l : Launch} {G : KG} : kOpOK l G 90 26 (.inr (.inl (66, 3, 29))) := ⟨snd_callS dX4_setRules_26 rfl mok_66 rfl rfl rfl wM_4_30 wS_X4_in wI_4 (by decide), rfl, mok_66⟩
theorem s90_29 {l : Launch} {G : KG} : kOpOK l G 90 29 (.inl (g_br1 (fun x => decide (x = 0)) 43 32)) := snd_if_eq dX4_setRules_29 (by decide)
theorem s90_32 {l : Launch} {G : KG} : kOpOK l G 90 32 (.inl (g_ild 4 34)) := snd_iload dX4_setRules_32
theorem s90_34 {l : Launch} {G : KG} : kOpOK l G 90 34 (.inl (g_push 0 35)) := snd_iconst dX4_setRules_34 rfl
theorem s90_35 {l : Launch} {G : KG} : kOpOK l G 90 35 (.inl (g_push 100 37)) := snd_bipush dX4_setRules_35 rfl
theorem s90_37 {l : Launch} {G : KG} : kOpOK l G 90 37 (.inr (.inl (66, 3, 40))) := ⟨snd_callS dX4_setRules_37 rfl mok_66 rfl rfl rfl wM_4_30 wS_X4_in wI_4 (by decide), rfl, mok_66⟩
theorem s90_40 {l : Launch} {G : KG} : kOpOK l G 90 40 (.inl (g_br1 (fun x => decide (¬ x = 0)) 45 43)) := snd_if_ne dX4_setRules_40 (by decide)
theorem s90_43 {l : Launch} {G : KG} : kOpOK l G 90 43 (.inl (g_push (-1) 44)) := snd_iconst dX4_setRules_43 rfl
theorem s90_44 {l : Launch} {G : KG} : kOpOK l G 90 44 (.inr (.inr 1)) := ⟨rfl, Or.inr (Or.inl ⟨rfl, dX4_setRules_44, rfl⟩)⟩
theorem s90_45 {l : Launch} {G : KG} : kOpOK l G 90 45 (.inl (g_ald 0 46)) := snd_aload_n dX4_setRules_45 rfl
theorem s90_46 {l : Launch} {G : KG} : kOpOK l G 90 46 (.inr (.inl (67, 1, 49))) := ⟨snd_callV (c := 4) dX4_setRules_46 rfl mok_67 rfl rfl rfl rfl (by decide) rfl wM_4_34 wN_X4_notes wL_X4_notes wI_4 (by decide), rfl, mok_67⟩
theorem s90_49 {l : Launch} {G : KG} : kOpOK l G 90 49 (.inl (g_ald 0 50)) := snd_aload_n dX4_setRules_49 rfl
theorem s90_50 {l : Launch} {G : KG} : kOpOK l G 90 50 (.inl (g_push 20 52)) := snd_bipush dX4_setRules_50 rfl
theorem s90_52 {l : Launch} {G : KG} : kOpOK l G 90 52 (.inl (g_ild 1 53)) := snd_iload_n dX4_setRules_52 rfl
theorem s90_53 {l : Launch} {G : KG} : kOpOK l G 90 53 (.inr (.inl (89, 3, 56))) := ⟨snd_callV (c := 4) dX4_setRules_53 rfl mok_89 rfl rfl rfl rfl (by decide) rfl wM_4_73 wN_X4_changes wL_X4_changes wI_4 (by decide), rfl, mok_89⟩
theorem s90_56 {l : Launch} {G : KG} : kOpOK l G 90 56 (.inl (g_ald 0 57)) := snd_aload_n dX4_setRules_56 rfl
theorem s90_57 {l : Launch} {G : KG} : kOpOK l G 90 57 (.inl (g_push 21 59)) := snd_bipush dX4_setRules_57 rfl
theorem s90_59 {l : Launch} {G : KG} : kOpOK l G 90 59 (.inl (g_ild 2 60)) := snd_iload_n dX4_setRules_59 rfl
theorem s90_60 {l : Launch} {G : KG} : kOpOK l G 90 60 (.inr (.inl (89, 3, 63))) := ⟨snd_callV (c := 4) dX4_setRules_60 rfl mok_89 rfl rfl rfl rfl (by decide) rfl wM_4_73 wN_X4_changes wL_X4_changes wI_4 (by decide), rfl, mok_89⟩
theorem s90_63 {l : Launch} {G : KG} : kOpOK l G 90 63 (.inl (g_iop (fun x y => x + y) 64)) := snd_iadd dX4_setRules_63
theorem s90_64 {l : Launch} {G : KG} : kOpOK l G 90 64 (.inl (g_ald 0 65)) := snd_aload_n dX4_setRules_64 rfl
theorem s90_65 {l : Launch} {G : KG} : kOpOK l G 90 65 (.inl (g_push 22 67)) := snd_bipush dX4_setRules_65 rfl
theorem s90_67 {l : Launch} {G : KG} : kOpOK l G 90 67 (.inl (g_ild 3 68)) := snd_iload_n dX4_setRules_67 rfl
theorem s90_68 {l : Launch} {G : KG} : kOpOK l G 90 68 (.inr (.inl (89, 3, 71))) := ⟨snd_callV (c := 4) dX4_setRules_68 rfl mok_89 rfl rfl rfl rfl (by decide) rfl wM_4_73 wN_X4_changes wL_X4_changes wI_4 (by decide), rfl, mok_89⟩
theorem s90_71 {l : Launch} {G : KG} : kOpOK l G 90 71 (.inl (g_iop (fun x y => x + y) 72)) := snd_iadd dX4_setRules_71
theorem s90_72 {l : Launch} {G : KG} : kOpOK l G 90 72 (.inl (g_ald 0 73)) := snd_aload_n dX4_setRules_72 rfl
theorem s90_73 {l : Launch} {G : KG} : kOpOK l G 90 73 (.inl (g_push 23 75)) := snd_bipush dX4_setRules_73 rfl
theorem s90_75 {l : Launch} {G : KG} : kOpOK l G 90 75 (.inl (g_ild 4 77)) := snd_iload dX4_setRules_75
theorem s90_77 {l : Launch} {G : KG} : kOpOK l G 90 77 (.inr (.inl (89, 3, 80))) := ⟨snd_callV (c := 4) dX4_setRules_77 rfl mok_89 rfl rfl rfl rfl (by decide) rfl wM_4_73 wN_X4_changes wL_X4_changes wI_4 (by decide), rfl, mok_89⟩
theorem s90_80 {l : Launch} {G : KG} : kOpOK l G 90 80 (.inl (g_iop (fun x y => x + y) 81)) := snd_iadd dX4_setRules_80
theorem s90_81 {l : Launch} {G : KG} : kOpOK l G 90 81 (.inl (g_ist 5 83)) := snd_istore dX4_setRules_81
theorem s90_83 {l : Launch} {G : KG} : kOpOK l G 90 83 (.inl (g_ild 5 85)) := snd_iload dX4_setRules_83
theorem s90_85 {l : Launch} {G : KG} : kOpOK l G 90 85 (.inl (g_br1 (fun x => decide (x ≤ 0)) 92 88)) := snd_if_le dX4_setRules_85 (by decide)
theorem s90_88 {l : Launch} {G : KG} : kOpOK l G 90 88 (.inl (g_push 1 89)) := snd_iconst dX4_setRules_88 rfl
theorem s90_89 {l : Launch} {G : KG} : kOpOK l G 90 89 (.inl (g_goto 93)) := snd_goto dX4_setRules_89 (by decide)
theorem s90_92 {l : Launch} {G : KG} : kOpOK l G 90 92 (.inl (g_push 0 93)) := snd_iconst dX4_setRules_92 rfl
theorem s90_93 {l : Launch} {G : KG} : kOpOK l G 90 93 (.inr (.inr 1)) := ⟨rfl, Or.inr (Or.inl ⟨rfl, dX4_setRules_93, rfl⟩)⟩
theorem s91_0 {l : Launch} {G : KG} : kOpOK l G 91 0 (.inl (g_ild 1 1)) := snd_iload_n dX4_setBand_0 rfl
theorem s91_1 {l : Launch} {G : KG} : kOpOK l G 91 1 (.inl (g_push 1 2)) := snd_iconst dX4_setBand_1 rfl
theorem s91_2 {l : Launch} {G : KG} : kOpOK l G 91 2 (.inl (g_push 9 4)) := snd_bipush dX4_setBand_2 rfl
theorem s91_4 {l : Launch} {G : KG} : kOpOK l G 91 4 (.inr (.inl (66, 3, 7))) := ⟨snd_callS dX4_setBand_4 rfl mok_66 rfl rfl rfl wM_4_30 wS_X4_in wI_4 (by decide), rfl, mok_66⟩
theorem s91_7 {l : Launch} {G : KG} : kOpOK l G 91 7 (.inl (g_br1 (fun x => decide (x = 0)) 32 10)) := snd_if_eq dX4_setBand_7 (by decide)
theorem s91_10 {l : Launch} {G : KG} : kOpOK l G 91 10 (.inl (g_ild 2 11)) := snd_iload_n dX4_setBand_10 rfl
theorem s91_11 {l : Launch} {G : KG} : kOpOK l G 91 11 (.inl (g_push 0 12)) := snd_iconst dX4_setBand_11 rfl
theorem s91_12 {l : Launch} {G : KG} : kOpOK l G 91 12 (.inl (g_push 1000 15)) := snd_sipush dX4_setBand_12 rfl
theorem s91_15 {l : Launch} {G : KG} : kOpOK l G 91 15 (.inr (.inl (66, 3, 18))) := ⟨snd_callS dX4_setBand_15 rfl mok_66 rfl rfl rfl wM_4_30 wS_X4_in wI_4 (by decide), rfl, mok_66⟩
theorem s91_18 {l : Launch} {G : KG} : kOpOK l G 91 18 (.inl (g_br1 (fun x => decide (x = 0)) 32 21)) := snd_if_eq dX4_setBand_18 (by decide)
theorem s91_21 {l : Launch} {G : KG} : kOpOK l G 91 21 (.inl (g_ild 3 22)) := snd_iload_n dX4_setBand_21 rfl
theorem s91_22 {l : Launch} {G : KG} : kOpOK l G 91 22 (.inl (g_ild 2 23)) := snd_iload_n dX4_setBand_22 rfl
theorem s91_23 {l : Launch} {G : KG} : kOpOK l G 91 23 (.inl (g_push 1000 26)) := snd_sipush dX4_setBand_23 rfl
theorem s91_26 {l : Launch} {G : KG} : kOpOK l G 91 26 (.inr (.inl (66, 3, 29))) := ⟨snd_callS dX4_setBand_26 rfl mok_66 rfl rfl rfl wM_4_30 wS_X4_in wI_4 (by decide), rfl, mok_66⟩
theorem s91_29 {l : Launch} {G : KG} : kOpOK l G 91 29 (.inl (g_br1 (fun x => decide (¬ x = 0)) 34 32)) := snd_if_ne dX4_setBand_29 (by decide)
theorem s91_32 {l : Launch} {G : KG} : kOpOK l G 91 32 (.inl (g_push (-1) 33)) := snd_iconst dX4_setBand_32 rfl
theorem s91_33 {l : Launch} {G : KG} : kOpOK l G 91 33 (.inr (.inr 1)) := ⟨rfl, Or.inr (Or.inl ⟨rfl, dX4_setBand_33, rfl⟩)⟩
theorem s91_34 {l : Launch} {G : KG} : kOpOK l G 91 34 (.inl (g_ald 0 35)) := snd_aload_n dX4_setBand_34 rfl
theorem s91_35 {l : Launch} {G : KG} : kOpOK l G 91 35 (.inr (.inl (67, 1, 38))) := ⟨snd_callV (c := 4) dX4_setBand_35 rfl mok_67 rfl rfl rfl rfl (by decide) rfl wM_4_34 wN_X4_notes wL_X4_notes wI_4 (by decide), rfl, mok_67⟩
theorem s91_38 {l : Launch} {G : KG} : kOpOK l G 91 38 (.inl (g_ald 0 39)) := snd_aload_n dX4_setBand_38 rfl
theorem s91_39 {l : Launch} {G : KG} : kOpOK l G 91 39 (.inl (g_push 31 41)) := snd_bipush dX4_setBand_39 rfl
theorem s91_41 {l : Launch} {G : KG} : kOpOK l G 91 41 (.inl (g_push 2 42)) := snd_iconst dX4_setBand_41 rfl
theorem s91_42 {l : Launch} {G : KG} : kOpOK l G 91 42 (.inl (g_ild 1 43)) := snd_iload_n dX4_setBand_42 rfl
theorem s91_43 {l : Launch} {G : KG} : kOpOK l G 91 43 (.inl (g_iop (fun x y => x * y) 44)) := snd_imul dX4_setBand_43
theorem s91_44 {l : Launch} {G : KG} : kOpOK l G 91 44 (.inl (g_iop (fun x y => x + y) 45)) := snd_iadd dX4_setBand_44
theorem s91_45 {l : Launch} {G : KG} : kOpOK l G 91 45 (.inl (g_push 2 46)) := snd_iconst dX4_setBand_45 rfl
theorem s91_46 {l : Launch} {G : KG} : kOpOK l G 91 46 (.inl (g_iop (fun x y => x - y) 47)) := snd_isub dX4_setBand_46
theorem s91_47 {l : Launch} {G : KG} : kOpOK l G 91 47 (.inl (g_ild 2 48)) := snd_iload_n dX4_setBand_47 rfl
theorem s91_48 {l : Launch} {G : KG} : kOpOK l G 91 48 (.inr (.inl (89, 3, 51))) := ⟨snd_callV (c := 4) dX4_setBand_48 rfl mok_89 rfl rfl rfl rfl (by decide) rfl wM_4_73 wN_X4_changes wL_X4_changes wI_4 (by decide), rfl, mok_89⟩
theorem s91_51 {l : Launch} {G : KG} : kOpOK l G 91 51 (.inl (g_ald 0 52)) := snd_aload_n dX4_setBand_51 rfl
theorem s91_52 {l : Launch} {G : KG} : kOpOK l G 91 52 (.inl (g_push 31 54)) := snd_bipush dX4_setBand_52 rfl
theorem s91_54 {l : Launch} {G : KG} : kOpOK l G 91 54 (.inl (g_push 2 55)) := snd_iconst dX4_setBand_54 rfl
theorem s91_55 {l : Launch} {G : KG} : kOpOK l G 91 55 (.inl (g_ild 1 56)) := snd_iload_n dX4_setBand_55 rfl
theorem s91_56 {l : Launch} {G : KG} : kOpOK l G 91 56 (.inl (g_iop (fun x y => x * y) 57)) := snd_imul dX4_setBand_56
theorem s91_57 {l : Launch} {G : KG} : kOpOK l G 91 57 (.inl (g_iop (fun x y => x + y) 58)) := snd_iadd dX4_setBand_57
theorem s91_58 {l : Launch} {G : KG} : kOpOK l G 91 58 (.inl (g_push 1 59)) := snd_iconst dX4_setBand_58 rfl
theorem s91_59 {l : Launch} {G : KG} : kOpOK l G 91 59 (.inl (g_iop (fun x y => x - y) 60)) := snd_isub dX4_setBand_59
theorem s91_60 {l : Launch} {G : KG} : kOpOK l G 91 60 (.inl (g_ild 3 61)) := snd_iload_n dX4_setBand_60 rfl
theorem s91_61 {l : Launch} {G : KG} : kOpOK l G 91 61 (.inr (.inl (89, 3, 64))) := ⟨snd_callV (c := 4) dX4_setBand_61 rfl mok_89 rfl rfl rfl rfl (by decide) rfl wM_4_73 wN_X4_changes wL_X4_changes wI_4 (by decide), rfl, mok_89⟩
theorem s91_64 {l : Launch} {G : KG} : kOpOK l G 91 64 (.inl (g_iop (fun x y => x + y) 65)) := snd_iadd dX4_setBand_64
theorem s91_65 {l : Launch} {G : KG} : kOpOK l G 91 65 (.inl (g_ist 4 67)) := snd_istore dX4_setBand_65
theorem s91_67 {l : Launch} {G : KG} : kOpOK l G 91 67 (.inl (g_ild 4 69)) := snd_iload dX4_setBand_67
theorem s91_69 {l : Launch} {G : KG} : kOpOK l G 91 69 (.inl (g_br1 (fun x => decide (x ≤ 0)) 76 72)) := snd_if_le dX4_setBand_69 (by decide)
theorem s91_72 {l : Launch} {G : KG} : kOpOK l G 91 72 (.inl (g_push 1 73)) := snd_iconst dX4_setBand_72 rfl
theorem s91_73 {l : Launch} {G : KG} : kOpOK l G 91 73 (.inl (g_goto 77)) := snd_goto dX4_setBand_73 (by decide)
theorem s91_76 {l : Launch} {G : KG} : kOpOK l G 91 76 (.inl (g_push 0 77)) := snd_iconst dX4_setBand_76 rfl
theorem s91_77 {l : Launch} {G : KG} : kOpOK l G 91 77 (.inr (.inr 1)) := ⟨rfl, Or.inr (Or.inl ⟨rfl, dX4_setBand_77, rfl⟩)⟩
theorem s92_0 {l : Launch} {G : KG} : kOpOK l G 92 0 (.inl (g_ild 1 1)) := snd_iload_n dX4_count_0 rfl
theorem s92_1 {l : Launch} {G : KG} : kOpOK l G 92 1 (.inl (g_tsw 9 [56, 64, 64, 64, 64, 76, 84, 92, 100, 105] 110)) := snd_tsw dX4_count_1 (by decide) (by decide) (by decide)
theorem s92_56 {l : Launch} {G : KG} : kOpOK l G 92 56 (.inl (g_ald 0 57)) := snd_aload_n dX4_count_56 rfl
theorem s92_57 {l : Launch} {G : KG} : kOpOK l G 92 57 (.inl (g_gfr 4 0 60)) := snd_gfr (c := 4) (j := 0) (N := 8) dX4_count_57 rfl hin4 (by decide) rfl (by decide) rfl wF_4_7
theorem s92_60 {l : Launch} {G : KG} : kOpOK l G 92 60 (.inl (g_push 24 62)) := snd_bipush dX4_count_60 rfl
theorem s92_62 {l : Launch} {G : KG} : kOpOK l G 92 62 (.inl (g_pald 5 63)) := snd_pald5 dX4_count_62
theorem s92_63 {l : Launch} {G : KG} : kOpOK l G 92 63 (.inr (.inr 1)) := ⟨rfl, Or.inr (Or.inl ⟨rfl, dX4_count_63, rfl⟩)⟩
theorem s92_64 {l : Launch} {G : KG} : kOpOK l G 92 64 (.inl (g_ald 0 65)) := snd_aload_n dX4_count_64 rfl
theorem s92_65 {l : Launch} {G : KG} : kOpOK l G 92 65 (.inl (g_gfr 4 0 68)) := snd_gfr (c := 4) (j := 0) (N := 8) dX4_count_65 rfl hin4 (by decide) rfl (by decide) rfl wF_4_7
theorem s92_68 {l : Launch} {G : KG} : kOpOK l G 92 68 (.inl (g_push 20 70)) := snd_bipush dX4_count_68 rfl
theorem s92_70 {l : Launch} {G : KG} : kOpOK l G 92 70 (.inl (g_ild 1 71)) := snd_iload_n dX4_count_70 rfl
theorem s92_71 {l : Launch} {G : KG} : kOpOK l G 92 71 (.inl (g_iop (fun x y => x + y) 72)) := snd_iadd dX4_count_71
theorem s92_72 {l : Launch} {G : KG} : kOpOK l G 92 72 (.inl (g_push 1 73)) := snd_iconst dX4_count_72 rfl
theorem s92_73 {l : Launch} {G : KG} : kOpOK l G 92 73 (.inl (g_iop (fun x y => x - y) 74)) := snd_isub dX4_count_73
theorem s92_74 {l : Launch} {G : KG} : kOpOK l G 92 74 (.inl (g_pald 5 75)) := snd_pald5 dX4_count_74
theorem s92_75 {l : Launch} {G : KG} : kOpOK l G 92 75 (.inr (.inr 1)) := ⟨rfl, Or.inr (Or.inl ⟨rfl, dX4_count_75, rfl⟩)⟩
theorem s92_76 {l : Launch} {G : KG} : kOpOK l G 92 76 (.inl (g_ald 0 77)) := snd_aload_n dX4_count_76 rfl
theorem s92_77 {l : Launch} {G : KG} : kOpOK l G 92 77 (.inl (g_gfr 4 0 80)) := snd_gfr (c := 4) (j := 0) (N := 8) dX4_count_77 rfl hin4 (by decide) rfl (by decide) rfl wF_4_7
theorem s92_80 {l : Launch} {G : KG} : kOpOK l G 92 80 (.inl (g_push 49 82)) := snd_bipush dX4_count_80 rfl
theorem s92_82 {l : Launch} {G : KG} : kOpOK l G 92 82 (.inl (g_pald 5 83)) := snd_pald5 dX4_count_82
theorem s92_83 {l : Launch} {G : KG} : kOpOK l G 92 83 (.inr (.inr 1)) := ⟨rfl, Or.inr (Or.inl ⟨rfl, dX4_count_83, rfl⟩)⟩
theorem s92_84 {l : Launch} {G : KG} : kOpOK l G 92 84 (.inl (g_ald 0 85)) := snd_aload_n dX4_count_84 rfl
theorem s92_85 {l : Launch} {G : KG} : kOpOK l G 92 85 (.inl (g_gfr 4 0 88)) := snd_gfr (c := 4) (j := 0) (N := 8) dX4_count_85 rfl hin4 (by decide) rfl (by decide) rfl wF_4_7
theorem s92_88 {l : Launch} {G : KG} : kOpOK l G 92 88 (.inl (g_push 51 90)) := snd_bipush dX4_count_88 rfl
theorem s92_90 {l : Launch} {G : KG} : kOpOK l G 92 90 (.inl (g_pald 5 91)) := snd_pald5 dX4_count_90
theorem s92_91 {l : Launch} {G : KG} : kOpOK l G 92 91 (.inr (.inr 1)) := ⟨rfl, Or.inr (Or.inl ⟨rfl, dX4_count_91, rfl⟩)⟩
theorem s92_92 {l : Launch} {G : KG} : kOpOK l G 92 92 (.inl (g_ald 0 93)) := snd_aload_n dX4_count_92 rfl
theorem s92_93 {l : Launch} {G : KG} : kOpOK l G 92 93 (.inl (g_gfr 4 0 96)) := snd_gfr (c := 4) (j := 0) (N := 8) dX4_count_93 rfl hin4 (by decide) rfl (by decide) rfl wF_4_7
theorem s92_96 {l : Launch} {G : KG} : kOpOK l G 92 96 (.inl (g_push 52 98)) := snd_bipush dX4_count_96 rfl
theorem s92_98 {l : Launch} {G : KG} : kOpOK l G 92 98 (.inl (g_pald 5 99)) := snd_pald5 dX4_count_98
theorem s92_99 {l : Launch} {G : KG} : kOpOK l G 92 99 (.inr (.inr 1)) := ⟨rfl, Or.inr (Or.inl ⟨rfl, dX4_count_99, rfl⟩)⟩
theorem s92_100 {l : Launch} {G : KG} : kOpOK l G 92 100 (.inl (g_ald 0 101)) := snd_aload_n dX4_count_100 rfl
theorem s92_101 {l : Launch} {G : KG} : kOpOK l G 92 101 (.inl (g_gfi 4 4 104)) := snd_gfi (c := 4) (j := 4) (N := 8) dX4_count_101 rfl hin4 (by decide) rfl (by decide) rfl wF_4_49
theorem s92_104 {l : Launch} {G : KG} : kOpOK l G 92 104 (.inr (.inr 1)) := ⟨rfl, Or.inr (Or.inl ⟨rfl, dX4_count_104, rfl⟩)⟩
theorem s92_105 {l : Launch} {G : KG} : kOpOK l G 92 105 (.inl (g_ald 0 106)) := snd_aload_n dX4_count_105 rfl
theorem s92_106 {l : Launch} {G : KG} : kOpOK l G 92 106 (.inl (g_gfi 4 2 109)) := snd_gfi (c := 4) (j := 2) (N := 8) dX4_count_106 rfl hin4 (by decide) rfl (by decide) rfl wF_4_26
theorem s92_109 {l : Launch} {G : KG} : kOpOK l G 92 109 (.inr (.inr 1)) := ⟨rfl, Or.inr (Or.inl ⟨rfl, dX4_count_109, rfl⟩)⟩
theorem s92_110 {l : Launch} {G : KG} : kOpOK l G 92 110 (.inl (g_push (-1) 111)) := snd_iconst dX4_count_110 rfl
theorem s92_111 {l : Launch} {G : KG} : kOpOK l G 92 111 (.inr (.inr 1)) := ⟨rfl, Or.inr (Or.inl ⟨rfl, dX4_count_111, rfl⟩)⟩
theorem s93_0 {l : Launch} {G : KG} : kOpOK l G 93 0 (.inl (g_ild 1 1)) := snd_iload_n dX4_isTray_0 rfl
theorem s93_1 {l : Launch} {G : KG} : kOpOK l G 93 1 (.inl (g_push 0 2)) := snd_iconst dX4_isTray_1 rfl
theorem s93_2 {l : Launch} {G : KG} : kOpOK l G 93 2 (.inl (g_ald 0 3)) := snd_aload_n dX4_isTray_2 rfl
theorem s93_3 {l : Launch} {G : KG} : kOpOK l G 93 3 (.inl (g_gfr 4 0 6)) := snd_gfr (c := 4) (j := 0) (N := 8) dX4_isTray_3 rfl hin4 (by decide) rfl (by decide) rfl wF_4_7
theorem s93_6 {l : Launch} {G : KG} : kOpOK l G 93 6 (.inl (g_push 24 8)) := snd_bipush dX4_isTray_6 rfl
theorem s93_8 {l : Launch} {G : KG} : kOpOK l G 93 8 (.inl (g_pald 5 9)) := snd_pald5 dX4_isTray_8
theorem s93_9 {l : Launch} {G : KG} : kOpOK l G 93 9 (.inr (.inl (66, 3, 12))) := ⟨snd_callS dX4_isTray_9 rfl mok_66 rfl rfl rfl wM_4_30 wS_X4_in wI_4 (by decide), rfl, mok_66⟩
theorem s93_12 {l : Launch} {G : KG} : kOpOK l G 93 12 (.inr (.inr 2)) := ⟨rfl, Or.inr (Or.inr ⟨rfl, dX4_isTray_12, rfl⟩)⟩
theorem s94_0 {l : Launch} {G : KG} : kOpOK l G 94 0 (.inl (g_ild 1 1)) := snd_iload_n dX4_isSieve_0 rfl
theorem s94_1 {l : Launch} {G : KG} : kOpOK l G 94 1 (.inl (g_push 0 2)) := snd_iconst dX4_isSieve_1 rfl
theorem s94_2 {l : Launch} {G : KG} : kOpOK l G 94 2 (.inl (g_ald 0 3)) := snd_aload_n dX4_isSieve_2 rfl
theorem s94_3 {l : Launch} {G : KG} : kOpOK l G 94 3 (.inl (g_gfr 4 0 6)) := snd_gfr (c := 4) (j := 0) (N := 8) dX4_isSieve_3 rfl hin4 (by decide) rfl (by decide) rfl wF_4_7
theorem s94_6 {l : Launch} {G : KG} : kOpOK l G 94 6 (.inl (g_push 24 8)) := snd_bipush dX4_isSieve_6 rfl
theorem s94_8 {l : Launch} {G : KG} : kOpOK l G 94 8 (.inl (g_pald 5 9)) := snd_pald5 dX4_isSieve_8
theorem s94_9 {l : Launch} {G : KG} : kOpOK l G 94 9 (.inl (g_push 1 10)) := snd_iconst dX4_isSieve_9 rfl
theorem s94_10 {l : Launch} {G : KG} : kOpOK l G 94 10 (.inl (g_iop (fun x y => x - y) 11)) := snd_isub dX4_isSieve_10
theorem s94_11 {l : Launch} {G : KG} : kOpOK l G 94 11 (.inr (.inl (66, 3, 14))) := ⟨snd_callS dX4_isSieve_11 rfl mok_66 rfl rfl rfl wM_4_30 wS_X4_in wI_4 (by decide), rfl, mok_66⟩
theorem s94_14 {l : Launch} {G : KG} : kOpOK l G 94 14 (.inr (.inr 2)) := ⟨rfl, Or.inr (Or.inr ⟨rfl, dX4_isSieve_14, rfl⟩)⟩
theorem s95_0 {l : Launch} {G : KG} : kOpOK l G 95 0 (.inl (g_ald 0 1)) := snd_aload_n dX4_openness_0 rfl
theorem s95_1 {l : Launch} {G : KG} : kOpOK l G 95 1 (.inl (g_ild 1 2)) := snd_iload_n dX4_openness_1 rfl
theorem s95_2 {l : Launch} {G : KG} : kOpOK l G 95 2 (.inr (.inl (94, 2, 5))) := ⟨snd_callV (c := 4) dX4_openness_2 rfl mok_94 rfl rfl rfl rfl (by decide) rfl wM_4_76 wN_X4_isSieve wL_X4_isSieve wI_4 (by decide), rfl, mok_94⟩
theorem s95_5 {l : Launch} {G : KG} : kOpOK l G 95 5 (.inl (g_br1 (fun x => decide (¬ x = 0)) 12 8)) := snd_if_ne dX4_openness_5 (by decide)
theorem s95_8 {l : Launch} {G : KG} : kOpOK l G 95 8 (.inl (g_push 1000 11)) := snd_sipush dX4_openness_8 rfl
theorem s95_11 {l : Launch} {G : KG} : kOpOK l G 95 11 (.inr (.inr 1)) := ⟨rfl, Or.inr (Or.inl ⟨rfl, dX4_openness_11, rfl⟩)⟩
theorem s95_12 {l : Launch} {G : KG} : kOpOK l G 95 12 (.inl (g_push 1000 15)) := snd_sipush dX4_openness_12 rfl
theorem s95_15 {l : Launch} {G : KG} : kOpOK l G 95 15 (.inl (g_ald 0 16)) := snd_aload_n dX4_openness_15 rfl
theorem s95_16 {l : Launch} {G : KG} : kOpOK l G 95 16 (.inl (g_gfr 4 0 19)) := snd_gfr (c := 4) (j := 0) (N := 8) dX4_openness_16 rfl hin4 (by decide) rfl (by decide) rfl wF_4_7
theorem s95_19 {l : Launch} {G : KG} : kOpOK l G 95 19 (.inl (g_ald 0 20)) := snd_aload_n dX4_openness_19 rfl
theorem s95_20 {l : Launch} {G : KG} : kOpOK l G 95 20 (.inl (g_ild 1 21)) := snd_iload_n dX4_openness_20 rfl
theorem s95_21 {l : Launch} {G : KG} : kOpOK l G 95 21 (.inr (.inl (84, 2, 24))) := ⟨snd_callV (c := 4) dX4_openness_21 rfl mok_84 rfl rfl rfl rfl (by decide) rfl wM_4_80 wN_X4_at wL_X4_at wI_4 (by decide), rfl, mok_84⟩
theorem s95_24 {l : Launch} {G : KG} : kOpOK l G 95 24 (.inl (g_push 10 26)) := snd_bipush dX4_openness_24 rfl
theorem s95_26 {l : Launch} {G : KG} : kOpOK l G 95 26 (.inl (g_iop (fun x y => x + y) 27)) := snd_iadd dX4_openness_26
theorem s95_27 {l : Launch} {G : KG} : kOpOK l G 95 27 (.inl (g_pald 5 28)) := snd_pald5 dX4_openness_27
theorem s95_28 {l : Launch} {G : KG} : kOpOK l G 95 28 (.inl (g_push 1000 31)) := snd_sipush dX4_openness_28 rfl
theorem s95_31 {l : Launch} {G : KG} : kOpOK l G 95 31 (.inl (g_iop (fun x y => x * y) 32)) := snd_imul dX4_openness_31
theorem s95_32 {l : Launch} {G : KG} : kOpOK l G 95 32 (.inl (g_ald 0 33)) := snd_aload_n dX4_openness_32 rfl
theorem s95_33 {l : Launch} {G : KG} : kOpOK l G 95 33 (.inl (g_gfr 4 0 36)) := snd_gfr (c := 4) (j := 0) (N := 8) dX4_openness_33 rfl hin4 (by decide) rfl (by decide) rfl wF_4_7
theorem s95_36 {l : Launch} {G : KG} : kOpOK l G 95 36 (.inl (g_push 20 38)) := snd_bipush dX4_openness_36 rfl
theorem s95_38 {l : Launch} {G : KG} : kOpOK l G 95 38 (.inl (g_pald 5 39)) := snd_pald5 dX4_openness_38
theorem s95_39 {l : Launch} {G : KG} : kOpOK l G 95 39 (.inl (g_idiv (fun x y => x / y) 40)) := snd_idiv dX4_openness_39
theorem s95_40 {l : Launch} {G : KG} : kOpOK l G 95 40 (.inl (g_iop (fun x y => x - y) 41)) := snd_isub dX4_openness_40
theorem s95_41 {l : Launch} {G : KG} : kOpOK l G 95 41 (.inl (g_ist 2 42)) := snd_istore_n dX4_openness_41 rfl
theorem s95_42 {l : Launch} {G : KG} : kOpOK l G 95 42 (.inl (g_ild 2 43)) := snd_iload_n dX4_openness_42 rfl
theorem s95_43 {l : Launch} {G : KG} : kOpOK l G 95 43 (.inl (g_push 100 45)) := snd_bipush dX4_openness_43 rfl
theorem s95_45 {l : Launch} {G : KG} : kOpOK l G 95 45 (.inl (g_br2 (fun x y => decide (y ≤ x)) 53 48)) := snd_icmp_ge dX4_openness_45 (by decide)
theorem s95_48 {l : Launch} {G : KG} : kOpOK l G 95 48 (.inl (g_push 100 50)) := snd_bipush dX4_openness_48 rfl
theorem s95_50 {l : Launch} {G : KG} : kOpOK l G 95 50 (.inl (g_goto 54)) := snd_goto dX4_openness_50 (by decide)
theorem s95_53 {l : Launch} {G : KG} : kOpOK l G 95 53 (.inl (g_ild 2 54)) := snd_iload_n dX4_openness_53 rfl
theorem s95_54 {l : Launch} {G : KG} : kOpOK l G 95 54 (.inr (.inr 1)) := ⟨rfl, Or.inr (Or.inl ⟨rfl, dX4_openness_54, rfl⟩)⟩
theorem s96_0 {l : Launch} {G : KG} : kOpOK l G 96 0 (.inl (g_ald 0 1)) := snd_aload_n dX4_tray_0 rfl
theorem s96_1 {l : Launch} {G : KG} : kOpOK l G 96 1 (.inl (g_ild 1 2)) := snd_iload_n dX4_tray_1 rfl
theorem s96_2 {l : Launch} {G : KG} : kOpOK l G 96 2 (.inr (.inl (93, 2, 5))) := ⟨snd_callV (c := 4) dX4_tray_2 rfl mok_93 rfl rfl rfl rfl (by decide) rfl wM_4_83 wN_X4_isTray wL_X4_isTray wI_4 (by decide), rfl, mok_93⟩
theorem s96_5 {l : Launch} {G : KG} : kOpOK l G 96 5 (.inl (g_br1 (fun x => decide (x = 0)) 17 8)) := snd_if_eq dX4_tray_5 (by decide)
theorem s96_8 {l : Launch} {G : KG} : kOpOK l G 96 8 (.inl (g_ild 2 9)) := snd_iload_n dX4_tray_8 rfl
theorem s96_9 {l : Launch} {G : KG} : kOpOK l G 96 9 (.inl (g_push 0 10)) := snd_iconst dX4_tray_9 rfl
theorem s96_10 {l : Launch} {G : KG} : kOpOK l G 96 10 (.inl (g_push 4 11)) := snd_iconst dX4_tray_10 rfl
theorem s96_11 {l : Launch} {G : KG} : kOpOK l G 96 11 (.inr (.inl (66, 3, 14))) := ⟨snd_callS dX4_tray_11 rfl mok_66 rfl rfl rfl wM_4_30 wS_X4_in wI_4 (by decide), rfl, mok_66⟩
theorem s96_14 {l : Launch} {G : KG} : kOpOK l G 96 14 (.inl (g_br1 (fun x => decide (¬ x = 0)) 19 17)) := snd_if_ne dX4_tray_14 (by decide)
theorem s96_17 {l : Launch} {G : KG} : kOpOK l G 96 17 (.inl (g_push (-1) 18)) := snd_iconst dX4_tray_17 rfl
theorem s96_18 {l : Launch} {G : KG} : kOpOK l G 96 18 (.inr (.inr 1)) := ⟨rfl, Or.inr (Or.inl ⟨rfl, dX4_tray_18, rfl⟩)⟩
theorem s96_19 {l : Launch} {G : KG} : kOpOK l G 96 19 (.inl (g_ild 2 20)) := snd_iload_n dX4_tray_19 rfl
theorem s96_20 {l : Launch} {G : KG} : kOpOK l G 96 20 (.inl (g_tsw 3 [52, 74, 84, 98] 112)) := snd_tsw dX4_tray_20 (by decide) (by decide) (by decide)
theorem s96_52 {l : Launch} {G : KG} : kOpOK l G 96 52 (.inl (g_ald 0 53)) := snd_aload_n dX4_tray_52 rfl
theorem s96_53 {l : Launch} {G : KG} : kOpOK l G 96 53 (.inl (g_ild 1 54)) := snd_iload_n dX4_tray_53 rfl
theorem s96_54 {l : Launch} {G : KG} : kOpOK l G 96 54 (.inr (.inl (94, 2, 57))) := ⟨snd_callV (c := 4) dX4_tray_54 rfl mok_94 rfl rfl rfl rfl (by decide) rfl wM_4_76 wN_X4_isSieve wL_X4_isSieve wI_4 (by decide), rfl, mok_94⟩
theorem s96_57 {l : Launch} {G : KG} : kOpOK l G 96 57 (.inl (g_br1 (fun x => decide (x = 0)) 72 60)) := snd_if_eq dX4_tray_57 (by decide)
theorem s96_60 {l : Launch} {G : KG} : kOpOK l G 96 60 (.inl (g_ald 0 61)) := snd_aload_n dX4_tray_60 rfl
theorem s96_61 {l : Launch} {G : KG} : kOpOK l G 96 61 (.inl (g_gfr 4 0 64)) := snd_gfr (c := 4) (j := 0) (N := 8) dX4_tray_61 rfl hin4 (by decide) rfl (by decide) rfl wF_4_7
theorem s96_64 {l : Launch} {G : KG} : kOpOK l G 96 64 (.inl (g_push 25 66)) := snd_bipush dX4_tray_64 rfl
theorem s96_66 {l : Launch} {G : KG} : kOpOK l G 96 66 (.inl (g_ild 1 67)) := snd_iload_n dX4_tray_66 rfl
theorem s96_67 {l : Launch} {G : KG} : kOpOK l G 96 67 (.inl (g_iop (fun x y => x + y) 68)) := snd_iadd dX4_tray_67
theorem s96_68 {l : Launch} {G : KG} : kOpOK l G 96 68 (.inl (g_pald 5 69)) := snd_pald5 dX4_tray_68
theorem s96_69 {l : Launch} {G : KG} : kOpOK l G 96 69 (.inl (g_goto 73)) := snd_goto dX4_tray_69 (by decide)
theorem s96_72 {l : Launch} {G : KG} : kOpOK l G 96 72 (.inl (g_push 0 73)) := snd_iconst dX4_tray_72 rfl
theorem s96_73 {l : Launch} {G : KG} : kOpOK l G 96 73 (.inr (.inr 1)) := ⟨rfl, Or.inr (Or.inl ⟨rfl, dX4_tray_73, rfl⟩)⟩
theorem s96_74 {l : Launch} {G : KG} : kOpOK l G 96 74 (.inl (g_ald 0 75)) := snd_aload_n dX4_tray_74 rfl
theorem s96_75 {l : Launch} {G : KG} : kOpOK l G 96 75 (.inl (g_ald 0 76)) := snd_aload_n dX4_tray_75 rfl
theorem s96_76 {l : Launch} {G : KG} : kOpOK l G 96 76 (.inl (g_ild 1 77)) := snd_iload_n dX4_tray_76 rfl
theorem s96_77 {l : Launch} {G : KG} : kOpOK l G 96 77 (.inr (.inl (84, 2, 80))) := ⟨snd_callV (c := 4) dX4_tray_77 rfl mok_84 rfl rfl rfl rfl (by decide) rfl wM_4_80 wN_X4_at wL_X4_at wI_4 (by decide), rfl, mok_84⟩
theorem s96_80 {l : Launch} {G : KG} : kOpOK l G 96 80 (.inr (.inl (69, 2, 83))) := ⟨snd_callV (c := 4) dX4_tray_80 rfl mok_69 rfl rfl rfl rfl (by decide) rfl wM_4_37 wN_X4_sum wL_X4_sum wI_4 (by decide), rfl, mok_69⟩
theorem s96_83 {l : Launch} {G : KG} : kOpOK l G 96 83 (.inr (.inr 1)) := ⟨rfl, Or.inr (Or.inl ⟨rfl, dX4_tray_83, rfl⟩)⟩
theorem s96_84 {l : Launch} {G : KG} : kOpOK l G 96 84 (.inl (g_ald 0 85)) := snd_aload_n dX4_tray_84 rfl
theorem s96_85 {l : Launch} {G : KG} : kOpOK l G 96 85 (.inl (g_gfr 4 0 88)) := snd_gfr (c := 4) (j := 0) (N := 8) dX4_tray_85 rfl hin4 (by decide) rfl (by decide) rfl wF_4_7
theorem s96_88 {l : Launch} {G : KG} : kOpOK l G 96 88 (.inl (g_ald 0 89)) := snd_aload_n dX4_tray_88 rfl
theorem s96_89 {l : Launch} {G : KG} : kOpOK l G 96 89 (.inl (g_ild 1 90)) := snd_iload_n dX4_tray_89 rfl
theorem s96_90 {l : Launch} {G : KG} : kOpOK l G 96 90 (.inr (.inl (84, 2, 93))) := ⟨snd_callV (c := 4) dX4_tray_90 rfl mok_84 rfl rfl rfl rfl (by decide) rfl wM_4_80 wN_X4_at wL_X4_at wI_4 (by decide), rfl, mok_84⟩
theorem s96_93 {l : Launch} {G : KG} : kOpOK l G 96 93 (.inl (g_push 10 95)) := snd_bipush dX4_tray_93 rfl
theorem s96_95 {l : Launch} {G : KG} : kOpOK l G 96 95 (.inl (g_iop (fun x y => x + y) 96)) := snd_iadd dX4_tray_95
theorem s96_96 {l : Launch} {G : KG} : kOpOK l G 96 96 (.inl (g_pald 5 97)) := snd_pald5 dX4_tray_96
theorem s96_97 {l : Launch} {G : KG} : kOpOK l G 96 97 (.inr (.inr 1)) := ⟨rfl, Or.inr (Or.inl ⟨rfl, dX4_tray_97, rfl⟩)⟩
theorem s96_98 {l : Launch} {G : KG} : kOpOK l G 96 98 (.inl (g_ald 0 99)) := snd_aload_n dX4_tray_98 rfl
theorem s96_99 {l : Launch} {G : KG} : kOpOK l G 96 99 (.inl (g_gfr 4 0 102)) := snd_gfr (c := 4) (j := 0) (N := 8) dX4_tray_99 rfl hin4 (by decide) rfl (by decide) rfl wF_4_7
theorem s96_102 {l : Launch} {G : KG} : kOpOK l G 96 102 (.inl (g_ald 0 103)) := snd_aload_n dX4_tray_102 rfl
theorem s96_103 {l : Launch} {G : KG} : kOpOK l G 96 103 (.inl (g_ild 1 104)) := snd_iload_n dX4_tray_103 rfl
theorem s96_104 {l : Launch} {G : KG} : kOpOK l G 96 104 (.inr (.inl (84, 2, 107))) := ⟨snd_callV (c := 4) dX4_tray_104 rfl mok_84 rfl rfl rfl rfl (by decide) rfl wM_4_80 wN_X4_at wL_X4_at wI_4 (by decide), rfl, mok_84⟩
theorem s96_107 {l : Launch} {G : KG} : kOpOK l G 96 107 (.inl (g_push 11 109)) := snd_bipush dX4_tray_107 rfl
theorem s96_109 {l : Launch} {G : KG} : kOpOK l G 96 109 (.inl (g_iop (fun x y => x + y) 110)) := snd_iadd dX4_tray_109
theorem s96_110 {l : Launch} {G : KG} : kOpOK l G 96 110 (.inl (g_pald 5 111)) := snd_pald5 dX4_tray_110
theorem s96_111 {l : Launch} {G : KG} : kOpOK l G 96 111 (.inr (.inr 1)) := ⟨rfl, Or.inr (Or.inl ⟨rfl, dX4_tray_111, rfl⟩)⟩
theorem s96_112 {l : Launch} {G : KG} : kOpOK l G 96 112 (.inl (g_ald 0 113)) := snd_aload_n dX4_tray_112 rfl
theorem s96_113 {l : Launch} {G : KG} : kOpOK l G 96 113 (.inl (g_ild 1 114)) := snd_iload_n dX4_tray_113 rfl
theorem s96_114 {l : Launch} {G : KG} : kOpOK l G 96 114 (.inr (.inl (95, 2, 117))) := ⟨snd_callV (c := 4) dX4_tray_114 rfl mok_95 rfl rfl rfl rfl (by decide) rfl wM_4_86 wN_X4_openness wL_X4_openness wI_4 (by decide), rfl, mok_95⟩
theorem s96_117 {l : Launch} {G : KG} : kOpOK l G 96 117 (.inr (.inr 1)) := ⟨rfl, Or.inr (Or.inl ⟨rfl, dX4_tray_117, rfl⟩)⟩
theorem s97_0 {l : Launch} {G : KG} : kOpOK l G 97 0 (.inl (g_ald 0 1)) := snd_aload_n dX4_on_0 rfl
theorem s97_1 {l : Launch} {G : KG} : kOpOK l G 97 1 (.inl (g_ild 1 2)) := snd_iload_n dX4_on_1 rfl
theorem s97_2 {l : Launch} {G : KG} : kOpOK l G 97 2 (.inr (.inl (93, 2, 5))) := ⟨snd_callV (c := 4) dX4_on_2 rfl mok_93 rfl rfl rfl rfl (by decide) rfl wM_4_83 wN_X4_isTray wL_X4_isTray wI_4 (by decide), rfl, mok_93⟩
theorem s97_5 {l : Launch} {G : KG} : kOpOK l G 97 5 (.inl (g_br1 (fun x => decide (x = 0)) 18 8)) := snd_if_eq dX4_on_5 (by decide)
theorem s97_8 {l : Launch} {G : KG} : kOpOK l G 97 8 (.inl (g_ild 2 9)) := snd_iload_n dX4_on_8 rfl
theorem s97_9 {l : Launch} {G : KG} : kOpOK l G 97 9 (.inl (g_push 0 10)) := snd_iconst dX4_on_9 rfl
theorem s97_10 {l : Launch} {G : KG} : kOpOK l G 97 10 (.inl (g_push 9 12)) := snd_bipush dX4_on_10 rfl
theorem s97_12 {l : Launch} {G : KG} : kOpOK l G 97 12 (.inr (.inl (66, 3, 15))) := ⟨snd_callS dX4_on_12 rfl mok_66 rfl rfl rfl wM_4_30 wS_X4_in wI_4 (by decide), rfl, mok_66⟩
theorem s97_15 {l : Launch} {G : KG} : kOpOK l G 97 15 (.inl (g_br1 (fun x => decide (¬ x = 0)) 22 18)) := snd_if_ne dX4_on_15 (by decide)
theorem s97_18 {l : Launch} {G : KG} : kOpOK l G 97 18 (.inl (g_push (-1) 19)) := snd_iconst dX4_on_18 rfl
theorem s97_19 {l : Launch} {G : KG} : kOpOK l G 97 19 (.inl (g_goto 34)) := snd_goto dX4_on_19 (by decide)
theorem s97_22 {l : Launch} {G : KG} : kOpOK l G 97 22 (.inl (g_ald 0 23)) := snd_aload_n dX4_on_22 rfl
theorem s97_23 {l : Launch} {G : KG} : kOpOK l G 97 23 (.inl (g_gfr 4 0 26)) := snd_gfr (c := 4) (j := 0) (N := 8) dX4_on_23 rfl hin4 (by decide) rfl (by decide) rfl wF_4_7
theorem s97_26 {l : Launch} {G : KG} : kOpOK l G 97 26 (.inl (g_ald 0 27)) := snd_aload_n dX4_on_26 rfl
theorem s97_27 {l : Launch} {G : KG} : kOpOK l G 97 27 (.inl (g_ild 1 28)) := snd_iload_n dX4_on_27 rfl
theorem s97_28 {l : Launch} {G : KG} : kOpOK l G 97 28 (.inr (.inl (84, 2, 31))) := ⟨snd_callV (c := 4) dX4_on_28 rfl mok_84 rfl rfl rfl rfl (by decide) rfl wM_4_80 wN_X4_at wL_X4_at wI_4 (by decide), rfl, mok_84⟩
theorem s97_31 {l : Launch} {G : KG} : kOpOK l G 97 31 (.inl (g_ild 2 32)) := snd_iload_n dX4_on_31 rfl
theorem s97_32 {l : Launch} {G : KG} : kOpOK l G 97 32 (.inl (g_iop (fun x y => x + y) 33)) := snd_iadd dX4_on_32
theorem s97_33 {l : Launch} {G : KG} : kOpOK l G 97 33 (.inl (g_pald 5 34)) := snd_pald5 dX4_on_33
theorem s97_34 {l : Launch} {G : KG} : kOpOK l G 97 34 (.inr (.inr 1)) := ⟨rfl, Or.inr (Or.inl ⟨rfl, dX4_on_34, rfl⟩)⟩
theorem s98_0 {l : Launch} {G : KG} : kOpOK l G 98 0 (.inl (g_ald 0 1)) := snd_aload_n dX4_charge_0 rfl
theorem s98_1 {l : Launch} {G : KG} : kOpOK l G 98 1 (.inl (g_push 0 2)) := snd_iconst dX4_charge_1 rfl
theorem s98_2 {l : Launch} {G : KG} : kOpOK l G 98 2 (.inr (.inl (69, 2, 5))) := ⟨snd_callV (c := 4) dX4_charge_2 rfl mok_69 rfl rfl rfl rfl (by decide) rfl wM_4_37 wN_X4_sum wL_X4_sum wI_4 (by decide), rfl, mok_69⟩
theorem s98_5 {l : Launch} {G : KG} : kOpOK l G 98 5 (.inl (g_ist 1 6)) := snd_istore_n dX4_charge_5 rfl
theorem s98_6 {l : Launch} {G : KG} : kOpOK l G 98 6 (.inl (g_ald 0 7)) := snd_aload_n dX4_charge_6 rfl
theorem s98_7 {l : Launch} {G : KG} : kOpOK l G 98 7 (.inl (g_gfr 4 0 10)) := snd_gfr (c := 4) (j := 0) (N := 8) dX4_charge_7 rfl hin4 (by decide) rfl (by decide) rfl wF_4_7
theorem s98_10 {l : Launch} {G : KG} : kOpOK l G 98 10 (.inl (g_push 24 12)) := snd_bipush dX4_charge_10 rfl
theorem s98_12 {l : Launch} {G : KG} : kOpOK l G 98 12 (.inl (g_pald 5 13)) := snd_pald5 dX4_charge_12
theorem s98_13 {l : Launch} {G : KG} : kOpOK l G 98 13 (.inl (g_br1 (fun x => decide (x = 0)) 20 16)) := snd_if_eq dX4_charge_13 (by decide)
theorem s98_16 {l : Launch} {G : KG} : kOpOK l G 98 16 (.inl (g_ild 1 17)) := snd_iload_n dX4_charge_16 rfl
theorem s98_17 {l : Launch} {G : KG} : kOpOK l G 98 17 (.inl (g_br1 (fun x => decide (¬ x = 0)) 23 20)) := snd_if_ne dX4_charge_17 (by decide)
theorem s98_20 {l : Launch} {G : KG} : kOpOK l G 98 20 (.inl (g_push (-2) 22)) := snd_bipush dX4_charge_20 rfl
theorem s98_22 {l : Launch} {G : KG} : kOpOK l G 98 22 (.inr (.inr 1)) := ⟨rfl, Or.inr (Or.inl ⟨rfl, dX4_charge_22, rfl⟩)⟩
theorem s98_23 {l : Launch} {G : KG} : kOpOK l G 98 23 (.inl (g_ald 0 24)) := snd_aload_n dX4_charge_23 rfl
theorem s98_24 {l : Launch} {G : KG} : kOpOK l G 98 24 (.inr (.inl (67, 1, 27))) := ⟨snd_callV (c := 4) dX4_charge_24 rfl mok_67 rfl rfl rfl rfl (by decide) rfl wM_4_34 wN_X4_notes wL_X4_notes wI_4 (by decide), rfl, mok_67⟩
theorem s98_27 {l : Launch} {G : KG} : kOpOK l G 98 27 (.inl (g_ald 0 28)) := snd_aload_n dX4_charge_27 rfl
theorem s98_28 {l : Launch} {G : KG} : kOpOK l G 98 28 (.inr (.inl (86, 1, 31))) := ⟨snd_callV (c := 4) dX4_charge_28 rfl mok_86 rfl rfl rfl rfl (by decide) rfl wM_4_70 wN_X4_ends wL_X4_ends wI_4 (by decide), rfl, mok_86⟩
theorem s98_31 {l : Launch} {G : KG} : kOpOK l G 98 31 (.inl (g_push 0 32)) := snd_iconst dX4_charge_31 rfl
theorem s98_32 {l : Launch} {G : KG} : kOpOK l G 98 32 (.inl (g_ist 2 33)) := snd_istore_n dX4_charge_32 rfl
theorem s98_33 {l : Launch} {G : KG} : kOpOK l G 98 33 (.inl (g_ild 2 34)) := snd_iload_n dX4_charge_33 rfl
theorem s98_34 {l : Launch} {G : KG} : kOpOK l G 98 34 (.inl (g_push 10 36)) := snd_bipush dX4_charge_34 rfl
theorem s98_36 {l : Launch} {G : KG} : kOpOK l G 98 36 (.inl (g_br2 (fun x y => decide (y ≤ x)) 74 39)) := snd_icmp_ge dX4_charge_36 (by decide)
theorem s98_39 {l : Launch} {G : KG} : kOpOK l G 98 39 (.inl (g_ald 0 40)) := snd_aload_n dX4_charge_39 rfl
theorem s98_40 {l : Launch} {G : KG} : kOpOK l G 98 40 (.inl (g_gfr 4 0 43)) := snd_gfr (c := 4) (j := 0) (N := 8) dX4_charge_40 rfl hin4 (by decide) rfl (by decide) rfl wF_4_7
theorem s98_43 {l : Launch} {G : KG} : kOpOK l G 98 43 (.inl (g_ald 0 44)) := snd_aload_n dX4_charge_43 rfl
theorem s98_44 {l : Launch} {G : KG} : kOpOK l G 98 44 (.inl (g_push 0 45)) := snd_iconst dX4_charge_44 rfl
theorem s98_45 {l : Launch} {G : KG} : kOpOK l G 98 45 (.inr (.inl (84, 2, 48))) := ⟨snd_callV (c := 4) dX4_charge_45 rfl mok_84 rfl rfl rfl rfl (by decide) rfl wM_4_80 wN_X4_at wL_X4_at wI_4 (by decide), rfl, mok_84⟩
theorem s98_48 {l : Launch} {G : KG} : kOpOK l G 98 48 (.inl (g_ild 2 49)) := snd_iload_n dX4_charge_48 rfl
theorem s98_49 {l : Launch} {G : KG} : kOpOK l G 98 49 (.inl (g_iop (fun x y => x + y) 50)) := snd_iadd dX4_charge_49
theorem s98_50 {l : Launch} {G : KG} : kOpOK l G 98 50 (.inl (g_ald 0 51)) := snd_aload_n dX4_charge_50 rfl
theorem s98_51 {l : Launch} {G : KG} : kOpOK l G 98 51 (.inl (g_gfr 4 0 54)) := snd_gfr (c := 4) (j := 0) (N := 8) dX4_charge_51 rfl hin4 (by decide) rfl (by decide) rfl wF_4_7
theorem s98_54 {l : Launch} {G : KG} : kOpOK l G 98 54 (.inl (g_push 0 55)) := snd_iconst dX4_charge_54 rfl
theorem s98_55 {l : Launch} {G : KG} : kOpOK l G 98 55 (.inl (g_ild 2 56)) := snd_iload_n dX4_charge_55 rfl
theorem s98_56 {l : Launch} {G : KG} : kOpOK l G 98 56 (.inl (g_iop (fun x y => x + y) 57)) := snd_iadd dX4_charge_56
theorem s98_57 {l : Launch} {G : KG} : kOpOK l G 98 57 (.inl (g_pald 5 58)) := snd_pald5 dX4_charge_57
theorem s98_58 {l : Launch} {G : KG} : kOpOK l G 98 58 (.inl (g_past 5 59)) := snd_past5 dX4_charge_58
theorem s98_59 {l : Launch} {G : KG} : kOpOK l G 98 59 (.inl (g_ald 0 60)) := snd_aload_n dX4_charge_59 rfl
theorem s98_60 {l : Launch} {G : KG} : kOpOK l G 98 60 (.inl (g_gfr 4 0 63)) := snd_gfr (c := 4) (j := 0) (N := 8) dX4_charge_60 rfl hin4 (by decide) rfl (by decide) rfl wF_4_7
theorem s98_63 {l : Launch} {G : KG} : kOpOK l G 98 63 (.inl (g_push 0 64)) := snd_iconst dX4_charge_63 rfl
theorem s98_64 {l : Launch} {G : KG} : kOpOK l G 98 64 (.inl (g_ild 2 65)) := snd_iload_n dX4_charge_64 rfl
theorem s98_65 {l : Launch} {G : KG} : kOpOK l G 98 65 (.inl (g_iop (fun x y => x + y) 66)) := snd_iadd dX4_charge_65
theorem s98_66 {l : Launch} {G : KG} : kOpOK l G 98 66 (.inl (g_push 0 67)) := snd_iconst dX4_charge_66 rfl
theorem s98_67 {l : Launch} {G : KG} : kOpOK l G 98 67 (.inl (g_past 5 68)) := snd_past5 dX4_charge_67
theorem s98_68 {l : Launch} {G : KG} : kOpOK l G 98 68 (.inl (g_iinc 2 1 71)) := snd_iinc dX4_charge_68 rfl
theorem s98_71 {l : Launch} {G : KG} : kOpOK l G 98 71 (.inl (g_goto 33)) := snd_goto dX4_charge_71 (by decide)
theorem s98_74 {l : Launch} {G : KG} : kOpOK l G 98 74 (.inl (g_ald 0 75)) := snd_aload_n dX4_charge_74 rfl
theorem s98_75 {l : Launch} {G : KG} : kOpOK l G 98 75 (.inl (g_gfr 4 0 78)) := snd_gfr (c := 4) (j := 0) (N := 8) dX4_charge_75 rfl hin4 (by decide) rfl (by decide) rfl wF_4_7
theorem s98_78 {l : Launch} {G : KG} : kOpOK l G 98 78 (.inl (g_push 49 80)) := snd_bipush dX4_charge_78 rfl
theorem s98_80 {l : Launch} {G : KG} : kOpOK l G 98 80 (.inl (g_push 1 81)) := snd_iconst dX4_charge_80 rfl
theorem s98_81 {l : Launch} {G : KG} : kOpOK l G 98 81 (.inl (g_past 5 82)) := snd_past5 dX4_charge_81
theorem s98_82 {l : Launch} {G : KG} : kOpOK l G 98 82 (.inl (g_ald 0 83)) := snd_aload_n dX4_charge_82 rfl
theorem s98_83 {l : Launch} {G : KG} : kOpOK l G 98 83 (.inl (g_gfr 4 0 86)) := snd_gfr (c := 4) (j := 0) (N := 8) dX4_charge_83 rfl hin4 (by decide) rfl (by decide) rfl wF_4_7
theorem s98_86 {l : Launch} {G : KG} : kOpOK l G 98 86 (.inl (g_push 50 88)) := snd_bipush dX4_charge_86 rfl
theorem s98_88 {l : Launch} {G : KG} : kOpOK l G 98 88 (.inl (g_ild 1 89)) := snd_iload_n dX4_charge_88 rfl
theorem s98_89 {l : Launch} {G : KG} : kOpOK l G 98 89 (.inl (g_past 5 90)) := snd_past5 dX4_charge_89
theorem s98_90 {l : Launch} {G : KG} : kOpOK l G 98 90 (.inl (g_ild 1 91)) := snd_iload_n dX4_charge_90 rfl
theorem s98_91 {l : Launch} {G : KG} : kOpOK l G 98 91 (.inr (.inr 1)) := ⟨rfl, Or.inr (Or.inl ⟨rfl, dX4_charge_91, rfl⟩)⟩
theorem s99_0 {l : Launch} {G : KG} : kOpOK l G 99 0 (.inl (g_ild 2 1)) := snd_iload_n dX4_falling_0 rfl
theorem s99_1 {l : Launch} {G : KG} : kOpOK l G 99 1 (.inl (g_push 1 2)) := snd_iconst dX4_falling_1 rfl
theorem s99_2 {l : Launch} {G : KG} : kOpOK l G 99 2 (.inl (g_br2 (fun x y => decide (¬ x = y)) 11 5)) := snd_icmp_ne dX4_falling_2 (by decide)
theorem s99_5 {l : Launch} {G : KG} : kOpOK l G 99 5 (.inl (g_pushl 300 8)) := snd_ldc2 dX4_falling_5 wK_4_89
theorem s99_8 {l : Launch} {G : KG} : kOpOK l G 99 8 (.inl (g_goto 25)) := snd_goto dX4_falling_8 (by decide)
theorem s99_11 {l : Launch} {G : KG} : kOpOK l G 99 11 (.inl (g_ild 2 12)) := snd_iload_n dX4_falling_11 rfl
theorem s99_12 {l : Launch} {G : KG} : kOpOK l G 99 12 (.inl (g_push 2 13)) := snd_iconst dX4_falling_12 rfl
theorem s99_13 {l : Launch} {G : KG} : kOpOK l G 99 13 (.inl (g_br2 (fun x y => decide (¬ x = y)) 22 16)) := snd_icmp_ne dX4_falling_13 (by decide)
theorem s99_16 {l : Launch} {G : KG} : kOpOK l G 99 16 (.inl (g_pushl 600 19)) := snd_ldc2 dX4_falling_16 wK_4_91
theorem s99_19 {l : Launch} {G : KG} : kOpOK l G 99 19 (.inl (g_goto 25)) := snd_goto dX4_falling_19 (by decide)
theorem s99_22 {l : Launch} {G : KG} : kOpOK l G 99 22 (.inl (g_pushl 900 25)) := snd_ldc2 dX4_falling_22 wK_4_93
theorem s99_25 {l : Launch} {G : KG} : kOpOK l G 99 25 (.inl (g_lst 3 26)) := snd_lstore_n dX4_falling_25 rfl
theorem s99_26 {l : Launch} {G : KG} : kOpOK l G 99 26 (.inl (g_ild 0 27)) := snd_iload_n dX4_falling_26 rfl
theorem s99_27 {l : Launch} {G : KG} : kOpOK l G 99 27 (.inl (g_i2l 28)) := snd_i2l dX4_falling_27
theorem s99_28 {l : Launch} {G : KG} : kOpOK l G 99 28 (.inl (g_ild 1 29)) := snd_iload_n dX4_falling_28 rfl
theorem s99_29 {l : Launch} {G : KG} : kOpOK l G 99 29 (.inl (g_i2l 30)) := snd_i2l dX4_falling_29
theorem s99_30 {l : Launch} {G : KG} : kOpOK l G 99 30 (.inl (g_lld 3 31)) := snd_lload_n dX4_falling_30 rfl
theorem s99_31 {l : Launch} {G : KG} : kOpOK l G 99 31 (.inl (g_lop (fun x y => x * y) 32)) := snd_lmul dX4_falling_31
theorem s99_32 {l : Launch} {G : KG} : kOpOK l G 99 32 (.inl (g_lop (fun x y => x * y) 33)) := snd_lmul dX4_falling_32
theorem s99_33 {l : Launch} {G : KG} : kOpOK l G 99 33 (.inl (g_pushl 1000000 36)) := snd_ldc2 dX4_falling_33 wK_4_95
theorem s99_36 {l : Launch} {G : KG} : kOpOK l G 99 36 (.inl (g_ldiv 37)) := snd_ldiv dX4_falling_36
theorem s99_37 {l : Launch} {G : KG} : kOpOK l G 99 37 (.inl (g_l2i 38)) := snd_l2i dX4_falling_37
theorem s99_38 {l : Launch} {G : KG} : kOpOK l G 99 38 (.inl (g_ist 5 40)) := snd_istore dX4_falling_38
theorem s99_40 {l : Launch} {G : KG} : kOpOK l G 99 40 (.inl (g_ild 0 41)) := snd_iload_n dX4_falling_40 rfl
theorem s99_41 {l : Launch} {G : KG} : kOpOK l G 99 41 (.inl (g_br1 (fun x => decide (x ≤ 0)) 53 44)) := snd_if_le dX4_falling_41 (by decide)
theorem s99_44 {l : Launch} {G : KG} : kOpOK l G 99 44 (.inl (g_ild 5 46)) := snd_iload dX4_falling_44
theorem s99_46 {l : Launch} {G : KG} : kOpOK l G 99 46 (.inl (g_br1 (fun x => decide (¬ x = 0)) 53 49)) := snd_if_ne dX4_falling_46 (by decide)
theorem s99_49 {l : Launch} {G : KG} : kOpOK l G 99 49 (.inl (g_push 1 50)) := snd_iconst dX4_falling_49 rfl
theorem s99_50 {l : Launch} {G : KG} : kOpOK l G 99 50 (.inl (g_goto 55)) := snd_goto dX4_falling_50 (by decide)
theorem s99_53 {l : Launch} {G : KG} : kOpOK l G 99 53 (.inl (g_ild 5 55)) := snd_iload dX4_falling_53
theorem s99_55 {l : Launch} {G : KG} : kOpOK l G 99 55 (.inr (.inr 1)) := ⟨rfl, Or.inr (Or.inl ⟨rfl, dX4_falling_55, rfl⟩)⟩
theorem s100_0 {l : Launch} {G : KG} : kOpOK l G 100 0 (.inl (g_push 0 1)) := snd_iconst dX4_minute_0 rfl
theorem s100_1 {l : Launch} {G : KG} : kOpOK l G 100 1 (.inl (g_ist 1 2)) := snd_istore_n dX4_minute_1 rfl
theorem s100_2 {l : Launch} {G : KG} : kOpOK l G 100 2 (.inl (g_ald 0 3)) := snd_aload_n dX4_minute_2 rfl
theorem s100_3 {l : Launch} {G : KG} : kOpOK l G 100 3 (.inl (g_gfr 4 0 6)) := snd_gfr (c := 4) (j := 0) (N := 8) dX4_minute_3 rfl hin4 (by decide) rfl (by decide) rfl wF_4_7
theorem s100_6 {l : Launch} {G : KG} : kOpOK l G 100 6 (.inl (g_push 24 8)) := snd_bipush dX4_minute_6 rfl
theorem s100_8 {l : Launch} {G : KG} : kOpOK l G 100 8 (.inl (g_pald 5 9)) := snd_pald5 dX4_minute_8
theorem s100_9 {l : Launch} {G : KG} : kOpOK l G 100 9 (.inl (g_push 1 10)) := snd_iconst dX4_minute_9 rfl
theorem s100_10 {l : Launch} {G : KG} : kOpOK l G 100 10 (.inl (g_iop (fun x y => x - y) 11)) := snd_isub dX4_minute_10
theorem s100_11 {l : Launch} {G : KG} : kOpOK l G 100 11 (.inl (g_ist 2 12)) := snd_istore_n dX4_minute_11 rfl
theorem s100_12 {l : Launch} {G : KG} : kOpOK l G 100 12 (.inl (g_ild 2 13)) := snd_iload_n dX4_minute_12 rfl
theorem s100_13 {l : Launch} {G : KG} : kOpOK l G 100 13 (.inl (g_br1 (fun x => decide (x < 0)) 170 16)) := snd_if_lt dX4_minute_13 (by decide)
theorem s100_16 {l : Launch} {G : KG} : kOpOK l G 100 16 (.inl (g_ald 0 17)) := snd_aload_n dX4_minute_16 rfl
theorem s100_17 {l : Launch} {G : KG} : kOpOK l G 100 17 (.inl (g_ild 2 18)) := snd_iload_n dX4_minute_17 rfl
theorem s100_18 {l : Launch} {G : KG} : kOpOK l G 100 18 (.inr (.inl (84, 2, 21))) := ⟨snd_callV (c := 4) dX4_minute_18 rfl mok_84 rfl rfl rfl rfl (by decide) rfl wM_4_80 wN_X4_at wL_X4_at wI_4 (by decide), rfl, mok_84⟩
theorem s100_21 {l : Launch} {G : KG} : kOpOK l G 100 21 (.inl (g_ist 3 22)) := snd_istore_n dX4_minute_21 rfl
theorem s100_22 {l : Launch} {G : KG} : kOpOK l G 100 22 (.inl (g_ald 0 23)) := snd_aload_n dX4_minute_22 rfl
theorem s100_23 {l : Launch} {G : KG} : kOpOK l G 100 23 (.inl (g_gfr 4 0 26)) := snd_gfr (c := 4) (j := 0) (N := 8) dX4_minute_23 rfl hin4 (by decide) rfl (by decide) rfl wF_4_7
theorem s100_26 {l : Launch} {G : KG} : kOpOK l G 100 26 (.inl (g_push 25 28)) := snd_bipush dX4_minute_26 rfl
theorem s100_28 {l : Launch} {G : KG} : kOpOK l G 100 28 (.inl (g_ild 2 29)) := snd_iload_n dX4_minute_28 rfl
theorem s100_29 {l : Launch} {G : KG} : kOpOK l G 100 29 (.inl (g_iop (fun x y => x + y) 30)) := snd_iadd dX4_minute_29
theorem s100_30 {l : Launch} {G : KG} : kOpOK l G 100 30 (.inl (g_pald 5 31)) := snd_pald5 dX4_minute_30
theorem s100_31 {l : Launch} {G : KG} : kOpOK l G 100 31 (.inl (g_ist 4 33)) := snd_istore dX4_minute_31
theorem s100_33 {l : Launch} {G : KG} : kOpOK l G 100 33 (.inl (g_ald 0 34)) := snd_aload_n dX4_minute_33 rfl
theorem s100_34 {l : Launch} {G : KG} : kOpOK l G 100 34 (.inl (g_ild 2 35)) := snd_iload_n dX4_minute_34 rfl
theorem s100_35 {l : Launch} {G : KG} : kOpOK l G 100 35 (.inr (.inl (95, 2, 38))) := ⟨snd_callV (c := 4) dX4_minute_35 rfl mok_95 rfl rfl rfl rfl (by decide) rfl wM_4_86 wN_X4_openness wL_X4_openness wI_4 (by decide), rfl, mok_95⟩
theorem s100_38 {l : Launch} {G : KG} : kOpOK l G 100 38 (.inl (g_ist 5 40)) := snd_istore dX4_minute_38
theorem s100_40 {l : Launch} {G : KG} : kOpOK l G 100 40 (.inl (g_push 0 41)) := snd_iconst dX4_minute_40 rfl
theorem s100_41 {l : Launch} {G : KG} : kOpOK l G 100 41 (.inl (g_ist 6 43)) := snd_istore dX4_minute_41
theorem s100_43 {l : Launch} {G : KG} : kOpOK l G 100 43 (.inl (g_ild 6 45)) := snd_iload dX4_minute_43
theorem s100_45 {l : Launch} {G : KG} : kOpOK l G 100 45 (.inl (g_ild 4 47)) := snd_iload dX4_minute_45
theorem s100_47 {l : Launch} {G : KG} : kOpOK l G 100 47 (.inl (g_br2 (fun x y => decide (y ≤ x)) 113 50)) := snd_icmp_ge dX4_minute_47 (by decide)
theorem s100_50 {l : Launch} {G : KG} : kOpOK l G 100 50 (.inl (g_ald 0 51)) := snd_aload_n dX4_minute_50 rfl
theorem s100_51 {l : Launch} {G : KG} : kOpOK l G 100 51 (.inl (g_gfr 4 0 54)) := snd_gfr (c := 4) (j := 0) (N := 8) dX4_minute_51 rfl hin4 (by decide) rfl (by decide) rfl wF_4_7
theorem s100_54 {l : Launch} {G : KG} : kOpOK l G 100 54 (.inl (g_ild 3 55)) := snd_iload_n dX4_minute_54 rfl
theorem s100_55 {l : Launch} {G : KG} : kOpOK l G 100 55 (.inl (g_ild 6 57)) := snd_iload dX4_minute_55
theorem s100_57 {l : Launch} {G : KG} : kOpOK l G 100 57 (.inl (g_iop (fun x y => x + y) 58)) := snd_iadd dX4_minute_57
theorem s100_58 {l : Launch} {G : KG} : kOpOK l G 100 58 (.inl (g_pald 5 59)) := snd_pald5 dX4_minute_58
theorem s100_59 {l : Launch} {G : KG} : kOpOK l G 100 59 (.inl (g_ild 5 61)) := snd_iload dX4_minute_59
theorem s100_61 {l : Launch} {G : KG} : kOpOK l G 100 61 (.inl (g_ild 4 63)) := snd_iload dX4_minute_61
theorem s100_63 {l : Launch} {G : KG} : kOpOK l G 100 63 (.inl (g_ild 6 65)) := snd_iload dX4_minute_63
theorem s100_65 {l : Launch} {G : KG} : kOpOK l G 100 65 (.inl (g_iop (fun x y => x - y) 66)) := snd_isub dX4_minute_65
theorem s100_66 {l : Launch} {G : KG} : kOpOK l G 100 66 (.inr (.inl (99, 3, 69))) := ⟨snd_callS dX4_minute_66 rfl mok_99 rfl rfl rfl wM_4_97 wS_X4_falling wI_4 (by decide), rfl, mok_99⟩
theorem s100_69 {l : Launch} {G : KG} : kOpOK l G 100 69 (.inl (g_ist 7 71)) := snd_istore dX4_minute_69
theorem s100_71 {l : Launch} {G : KG} : kOpOK l G 100 71 (.inl (g_ald 0 72)) := snd_aload_n dX4_minute_71 rfl
theorem s100_72 {l : Launch} {G : KG} : kOpOK l G 100 72 (.inl (g_gfr 4 0 75)) := snd_gfr (c := 4) (j := 0) (N := 8) dX4_minute_72 rfl hin4 (by decide) rfl (by decide) rfl wF_4_7
theorem s100_75 {l : Launch} {G : KG} : kOpOK l G 100 75 (.inl (g_ild 3 76)) := snd_iload_n dX4_minute_75 rfl
theorem s100_76 {l : Launch} {G : KG} : kOpOK l G 100 76 (.inl (g_ild 6 78)) := snd_iload dX4_minute_76
theorem s100_78 {l : Launch} {G : KG} : kOpOK l G 100 78 (.inl (g_iop (fun x y => x + y) 79)) := snd_iadd dX4_minute_78
theorem s100_79 {l : Launch} {G : KG} : kOpOK l G 100 79 (.inl (g_dup2 80)) := snd_dup2 dX4_minute_79
theorem s100_80 {l : Launch} {G : KG} : kOpOK l G 100 80 (.inl (g_pald 5 81)) := snd_pald5 dX4_minute_80
theorem s100_81 {l : Launch} {G : KG} : kOpOK l G 100 81 (.inl (g_ild 7 83)) := snd_iload dX4_minute_81
theorem s100_83 {l : Launch} {G : KG} : kOpOK l G 100 83 (.inl (g_iop (fun x y => x - y) 84)) := snd_isub dX4_minute_83
theorem s100_84 {l : Launch} {G : KG} : kOpOK l G 100 84 (.inl (g_past 5 85)) := snd_past5 dX4_minute_84
theorem s100_85 {l : Launch} {G : KG} : kOpOK l G 100 85 (.inl (g_ald 0 86)) := snd_aload_n dX4_minute_85 rfl
theorem s100_86 {l : Launch} {G : KG} : kOpOK l G 100 86 (.inl (g_gfr 4 0 89)) := snd_gfr (c := 4) (j := 0) (N := 8) dX4_minute_86 rfl hin4 (by decide) rfl (by decide) rfl wF_4_7
theorem s100_89 {l : Launch} {G : KG} : kOpOK l G 100 89 (.inl (g_ild 3 90)) := snd_iload_n dX4_minute_89 rfl
theorem s100_90 {l : Launch} {G : KG} : kOpOK l G 100 90 (.inl (g_push 12 92)) := snd_bipush dX4_minute_90 rfl
theorem s100_92 {l : Launch} {G : KG} : kOpOK l G 100 92 (.inl (g_iop (fun x y => x + y) 93)) := snd_iadd dX4_minute_92
theorem s100_93 {l : Launch} {G : KG} : kOpOK l G 100 93 (.inl (g_ild 6 95)) := snd_iload dX4_minute_93
theorem s100_95 {l : Launch} {G : KG} : kOpOK l G 100 95 (.inl (g_iop (fun x y => x + y) 96)) := snd_iadd dX4_minute_95
theorem s100_96 {l : Launch} {G : KG} : kOpOK l G 100 96 (.inl (g_dup2 97)) := snd_dup2 dX4_minute_96
theorem s100_97 {l : Launch} {G : KG} : kOpOK l G 100 97 (.inl (g_pald 5 98)) := snd_pald5 dX4_minute_97
theorem s100_98 {l : Launch} {G : KG} : kOpOK l G 100 98 (.inl (g_ild 7 100)) := snd_iload dX4_minute_98
theorem s100_100 {l : Launch} {G : KG} : kOpOK l G 100 100 (.inl (g_iop (fun x y => x + y) 101)) := snd_iadd dX4_minute_100
theorem s100_101 {l : Launch} {G : KG} : kOpOK l G 100 101 (.inl (g_past 5 102)) := snd_past5 dX4_minute_101
theorem s100_102 {l : Launch} {G : KG} : kOpOK l G 100 102 (.inl (g_ild 1 103)) := snd_iload_n dX4_minute_102 rfl
theorem s100_103 {l : Launch} {G : KG} : kOpOK l G 100 103 (.inl (g_ild 7 105)) := snd_iload dX4_minute_103
theorem s100_105 {l : Launch} {G : KG} : kOpOK l G 100 105 (.inl (g_iop (fun x y => x + y) 106)) := snd_iadd dX4_minute_105
theorem s100_106 {l : Launch} {G : KG} : kOpOK l G 100 106 (.inl (g_ist 1 107)) := snd_istore_n dX4_minute_106 rfl
theorem s100_107 {l : Launch} {G : KG} : kOpOK l G 100 107 (.inl (g_iinc 6 1 110)) := snd_iinc dX4_minute_107 rfl
theorem s100_110 {l : Launch} {G : KG} : kOpOK l G 100 110 (.inl (g_goto 43)) := snd_goto dX4_minute_110 (by decide)
theorem s100_113 {l : Launch} {G : KG} : kOpOK l G 100 113 (.inl (g_ald 0 114)) := snd_aload_n dX4_minute_113 rfl
theorem s100_114 {l : Launch} {G : KG} : kOpOK l G 100 114 (.inl (g_gfr 4 0 117)) := snd_gfr (c := 4) (j := 0) (N := 8) dX4_minute_114 rfl hin4 (by decide) rfl (by decide) rfl wF_4_7
theorem s100_117 {l : Launch} {G : KG} : kOpOK l G 100 117 (.inl (g_ild 3 118)) := snd_iload_n dX4_minute_117 rfl
theorem s100_118 {l : Launch} {G : KG} : kOpOK l G 100 118 (.inl (g_ild 4 120)) := snd_iload dX4_minute_118
theorem s100_120 {l : Launch} {G : KG} : kOpOK l G 100 120 (.inl (g_iop (fun x y => x + y) 121)) := snd_iadd dX4_minute_120
theorem s100_121 {l : Launch} {G : KG} : kOpOK l G 100 121 (.inl (g_pald 5 122)) := snd_pald5 dX4_minute_121
theorem s100_122 {l : Launch} {G : KG} : kOpOK l G 100 122 (.inl (g_ald 0 123)) := snd_aload_n dX4_minute_122 rfl
theorem s100_123 {l : Launch} {G : KG} : kOpOK l G 100 123 (.inl (g_gfr 4 0 126)) := snd_gfr (c := 4) (j := 0) (N := 8) dX4_minute_123 rfl hin4 (by decide) rfl (by decide) rfl wF_4_7
theorem s100_126 {l : Launch} {G : KG} : kOpOK l G 100 126 (.inl (g_push 21 128)) := snd_bipush dX4_minute_126 rfl
theorem s100_128 {l : Launch} {G : KG} : kOpOK l G 100 128 (.inl (g_pald 5 129)) := snd_pald5 dX4_minute_128
theorem s100_129 {l : Launch} {G : KG} : kOpOK l G 100 129 (.inl (g_iop (fun x y => x * y) 130)) := snd_imul dX4_minute_129
theorem s100_130 {l : Launch} {G : KG} : kOpOK l G 100 130 (.inl (g_push 1000 133)) := snd_sipush dX4_minute_130 rfl
theorem s100_133 {l : Launch} {G : KG} : kOpOK l G 100 133 (.inl (g_idiv (fun x y => x / y) 134)) := snd_idiv dX4_minute_133
theorem s100_134 {l : Launch} {G : KG} : kOpOK l G 100 134 (.inl (g_ist 6 136)) := snd_istore dX4_minute_134
theorem s100_136 {l : Launch} {G : KG} : kOpOK l G 100 136 (.inl (g_ald 0 137)) := snd_aload_n dX4_minute_136 rfl
theorem s100_137 {l : Launch} {G : KG} : kOpOK l G 100 137 (.inl (g_gfr 4 0 140)) := snd_gfr (c := 4) (j := 0) (N := 8) dX4_minute_137 rfl hin4 (by decide) rfl (by decide) rfl wF_4_7
theorem s100_140 {l : Launch} {G : KG} : kOpOK l G 100 140 (.inl (g_ild 3 141)) := snd_iload_n dX4_minute_140 rfl
theorem s100_141 {l : Launch} {G : KG} : kOpOK l G 100 141 (.inl (g_ild 4 143)) := snd_iload dX4_minute_141
theorem s100_143 {l : Launch} {G : KG} : kOpOK l G 100 143 (.inl (g_iop (fun x y => x + y) 144)) := snd_iadd dX4_minute_143
theorem s100_144 {l : Launch} {G : KG} : kOpOK l G 100 144 (.inl (g_dup2 145)) := snd_dup2 dX4_minute_144
theorem s100_145 {l : Launch} {G : KG} : kOpOK l G 100 145 (.inl (g_pald 5 146)) := snd_pald5 dX4_minute_145
theorem s100_146 {l : Launch} {G : KG} : kOpOK l G 100 146 (.inl (g_ild 6 148)) := snd_iload dX4_minute_146
theorem s100_148 {l : Launch} {G : KG} : kOpOK l G 100 148 (.inl (g_iop (fun x y => x - y) 149)) := snd_isub dX4_minute_148
theorem s100_149 {l : Launch} {G : KG} : kOpOK l G 100 149 (.inl (g_past 5 150)) := snd_past5 dX4_minute_149
theorem s100_150 {l : Launch} {G : KG} : kOpOK l G 100 150 (.inl (g_ald 0 151)) := snd_aload_n dX4_minute_150 rfl
theorem s100_151 {l : Launch} {G : KG} : kOpOK l G 100 151 (.inl (g_gfr 4 0 154)) := snd_gfr (c := 4) (j := 0) (N := 8) dX4_minute_151 rfl hin4 (by decide) rfl (by decide) rfl wF_4_7
theorem s100_154 {l : Launch} {G : KG} : kOpOK l G 100 154 (.inl (g_ild 3 155)) := snd_iload_n dX4_minute_154 rfl
theorem s100_155 {l : Launch} {G : KG} : kOpOK l G 100 155 (.inl (g_push 10 157)) := snd_bipush dX4_minute_155 rfl
theorem s100_157 {l : Launch} {G : KG} : kOpOK l G 100 157 (.inl (g_iop (fun x y => x + y) 158)) := snd_iadd dX4_minute_157
theorem s100_158 {l : Launch} {G : KG} : kOpOK l G 100 158 (.inl (g_dup2 159)) := snd_dup2 dX4_minute_158
theorem s100_159 {l : Launch} {G : KG} : kOpOK l G 100 159 (.inl (g_pald 5 160)) := snd_pald5 dX4_minute_159
theorem s100_160 {l : Launch} {G : KG} : kOpOK l G 100 160 (.inl (g_ild 6 162)) := snd_iload dX4_minute_160
theorem s100_162 {l : Launch} {G : KG} : kOpOK l G 100 162 (.inl (g_iop (fun x y => x + y) 163)) := snd_iadd dX4_minute_162
theorem s100_163 {l : Launch} {G : KG} : kOpOK l G 100 163 (.inl (g_past 5 164)) := snd_past5 dX4_minute_163
theorem s100_164 {l : Launch} {G : KG} : kOpOK l G 100 164 (.inl (g_iinc 2 (-1) 167)) := snd_iinc dX4_minute_164 rfl
theorem s100_167 {l : Launch} {G : KG} : kOpOK l G 100 167 (.inl (g_goto 12)) := snd_goto dX4_minute_167 (by decide)
theorem s100_170 {l : Launch} {G : KG} : kOpOK l G 100 170 (.inl (g_ald 0 171)) := snd_aload_n dX4_minute_170 rfl
theorem s100_171 {l : Launch} {G : KG} : kOpOK l G 100 171 (.inl (g_ald 0 172)) := snd_aload_n dX4_minute_171 rfl
theorem s100_172 {l : Launch} {G : KG} : kOpOK l G 100 172 (.inl (g_gfr 4 0 175)) := snd_gfr (c := 4) (j := 0) (N := 8) dX4_minute_172 rfl hin4 (by decide) rfl (by decide) rfl wF_4_7
theorem s100_175 {l : Launch} {G : KG} : kOpOK l G 100 175 (.inl (g_push 24 177)) := snd_bipush dX4_minute_175 rfl
theorem s100_177 {l : Launch} {G : KG} : kOpOK l G 100 177 (.inl (g_pald 5 178)) := snd_pald5 dX4_minute_177
theorem s100_178 {l : Launch} {G : KG} : kOpOK l G 100 178 (.inr (.inl (84, 2, 181))) := ⟨snd_callV (c := 4) dX4_minute_178 rfl mok_84 rfl rfl rfl rfl (by decide) rfl wM_4_80 wN_X4_at wL_X4_at wI_4 (by decide), rfl, mok_84⟩
theorem s100_181 {l : Launch} {G : KG} : kOpOK l G 100 181 (.inl (g_ist 2 182)) := snd_istore_n dX4_minute_181 rfl
theorem s100_182 {l : Launch} {G : KG} : kOpOK l G 100 182 (.inl (g_ald 0 183)) := snd_aload_n dX4_minute_182 rfl
theorem s100_183 {l : Launch} {G : KG} : kOpOK l G 100 183 (.inl (g_gfr 4 0 186)) := snd_gfr (c := 4) (j := 0) (N := 8) dX4_minute_183 rfl hin4 (by decide) rfl (by decide) rfl wF_4_7
theorem s100_186 {l : Launch} {G : KG} : kOpOK l G 100 186 (.inl (g_ild 2 187)) := snd_iload_n dX4_minute_186 rfl
theorem s100_187 {l : Launch} {G : KG} : kOpOK l G 100 187 (.inl (g_dup2 188)) := snd_dup2 dX4_minute_187
theorem s100_188 {l : Launch} {G : KG} : kOpOK l G 100 188 (.inl (g_pald 5 189)) := snd_pald5 dX4_minute_188
theorem s100_189 {l : Launch} {G : KG} : kOpOK l G 100 189 (.inl (g_ald 0 190)) := snd_aload_n dX4_minute_189 rfl
theorem s100_190 {l : Launch} {G : KG} : kOpOK l G 100 190 (.inl (g_gfr 4 0 193)) := snd_gfr (c := 4) (j := 0) (N := 8) dX4_minute_190 rfl hin4 (by decide) rfl (by decide) rfl wF_4_7
theorem s100_193 {l : Launch} {G : KG} : kOpOK l G 100 193 (.inl (g_ild 2 194)) := snd_iload_n dX4_minute_193 rfl
theorem s100_194 {l : Launch} {G : KG} : kOpOK l G 100 194 (.inl (g_pald 5 195)) := snd_pald5 dX4_minute_194
theorem s100_195 {l : Launch} {G : KG} : kOpOK l G 100 195 (.inl (g_ald 0 196)) := snd_aload_n dX4_minute_195 rfl
theorem s100_196 {l : Launch} {G : KG} : kOpOK l G 100 196 (.inl (g_gfr 4 0 199)) := snd_gfr (c := 4) (j := 0) (N := 8) dX4_minute_196 rfl hin4 (by decide) rfl (by decide) rfl wF_4_7
theorem s100_199 {l : Launch} {G : KG} : kOpOK l G 100 199 (.inl (g_push 22 201)) := snd_bipush dX4_minute_199 rfl
theorem s100_201 {l : Launch} {G : KG} : kOpOK l G 100 201 (.inl (g_pald 5 202)) := snd_pald5 dX4_minute_201
theorem s100_202 {l : Launch} {G : KG} : kOpOK l G 100 202 (.inl (g_iop (fun x y => x * y) 203)) := snd_imul dX4_minute_202
theorem s100_203 {l : Launch} {G : KG} : kOpOK l G 100 203 (.inl (g_push 1000 206)) := snd_sipush dX4_minute_203 rfl
theorem s100_206 {l : Launch} {G : KG} : kOpOK l G 100 206 (.inl (g_idiv (fun x y => x / y) 207)) := snd_idiv dX4_minute_206
theorem s100_207 {l : Launch} {G : KG} : kOpOK l G 100 207 (.inl (g_iop (fun x y => x - y) 208)) := snd_isub dX4_minute_207
theorem s100_208 {l : Launch} {G : KG} : kOpOK l G 100 208 (.inl (g_past 5 209)) := snd_past5 dX4_minute_208
theorem s100_209 {l : Launch} {G : KG} : kOpOK l G 100 209 (.inl (g_ald 0 210)) := snd_aload_n dX4_minute_209 rfl
theorem s100_210 {l : Launch} {G : KG} : kOpOK l G 100 210 (.inl (g_gfr 4 0 213)) := snd_gfr (c := 4) (j := 0) (N := 8) dX4_minute_210 rfl hin4 (by decide) rfl (by decide) rfl wF_4_7
theorem s100_213 {l : Launch} {G : KG} : kOpOK l G 100 213 (.inl (g_push 51 215)) := snd_bipush dX4_minute_213 rfl
theorem s100_215 {l : Launch} {G : KG} : kOpOK l G 100 215 (.inl (g_dup2 216)) := snd_dup2 dX4_minute_215
theorem s100_216 {l : Launch} {G : KG} : kOpOK l G 100 216 (.inl (g_pald 5 217)) := snd_pald5 dX4_minute_216
theorem s100_217 {l : Launch} {G : KG} : kOpOK l G 100 217 (.inl (g_push 1 218)) := snd_iconst dX4_minute_217 rfl
theorem s100_218 {l : Launch} {G : KG} : kOpOK l G 100 218 (.inl (g_iop (fun x y => x + y) 219)) := snd_iadd dX4_minute_218
theorem s100_219 {l : Launch} {G : KG} : kOpOK l G 100 219 (.inl (g_past 5 220)) := snd_past5 dX4_minute_219
theorem s100_220 {l : Launch} {G : KG} : kOpOK l G 100 220 (.inl (g_ald 0 221)) := snd_aload_n dX4_minute_220 rfl
theorem s100_221 {l : Launch} {G : KG} : kOpOK l G 100 221 (.inl (g_gfr 4 0 224)) := snd_gfr (c := 4) (j := 0) (N := 8) dX4_minute_221 rfl hin4 (by decide) rfl (by decide) rfl wF_4_7
theorem s100_224 {l : Launch} {G : KG} : kOpOK l G 100 224 (.inl (g_push 52 226)) := snd_bipush dX4_minute_224 rfl
theorem s100_226 {l : Launch} {G : KG} : kOpOK l G 100 226 (.inl (g_ild 1 227)) := snd_iload_n dX4_minute_226 rfl
theorem s100_227 {l : Launch} {G : KG} : kOpOK l G 100 227 (.inl (g_past 5 228)) := snd_past5 dX4_minute_227
theorem s100_228 {l : Launch} {G : KG} : kOpOK l G 100 228 (.inl (g_ild 1 229)) := snd_iload_n dX4_minute_228 rfl
theorem s100_229 {l : Launch} {G : KG} : kOpOK l G 100 229 (.inr (.inr 1)) := ⟨rfl, Or.inr (Or.inl ⟨rfl, dX4_minute_229, rfl⟩)⟩
theorem s101_0 {l : Launch} {G : KG} : kOpOK l G 101 0 (.inl (g_ild 1 1)) := snd_iload_n dX4_shake_0 rfl
theorem s101_1 {l : Launch} {G : KG} : kOpOK l G 101 1 (.inl (g_push 1 2)) := snd_iconst dX4_shake_1 rfl
theorem s101_2 {l : Launch} {G : KG} : kOpOK l G 101 2 (.inl (g_push 200 5)) := snd_sipush dX4_shake_2 rfl
theorem s101_5 {l : Launch} {G : KG} : kOpOK l G 101 5 (.inr (.inl (66, 3, 8))) := ⟨snd_callS dX4_shake_5 rfl mok_66 rfl rfl rfl wM_4_30 wS_X4_in wI_4 (by decide), rfl, mok_66⟩
theorem s101_8 {l : Launch} {G : KG} : kOpOK l G 101 8 (.inl (g_br1 (fun x => decide (¬ x = 0)) 13 11)) := snd_if_ne dX4_shake_8 (by decide)
theorem s101_11 {l : Launch} {G : KG} : kOpOK l G 101 11 (.inl (g_push (-1) 12)) := snd_iconst dX4_shake_11 rfl
theorem s101_12 {l : Launch} {G : KG} : kOpOK l G 101 12 (.inr (.inr 1)) := ⟨rfl, Or.inr (Or.inl ⟨rfl, dX4_shake_12, rfl⟩)⟩
theorem s101_13 {l : Launch} {G : KG} : kOpOK l G 101 13 (.inl (g_ald 0 14)) := snd_aload_n dX4_shake_13 rfl
theorem s101_14 {l : Launch} {G : KG} : kOpOK l G 101 14 (.inl (g_gfr 4 0 17)) := snd_gfr (c := 4) (j := 0) (N := 8) dX4_shake_14 rfl hin4 (by decide) rfl (by decide) rfl wF_4_7
theorem s101_17 {l : Launch} {G : KG} : kOpOK l G 101 17 (.inl (g_push 49 19)) := snd_bipush dX4_shake_17 rfl
theorem s101_19 {l : Launch} {G : KG} : kOpOK l G 101 19 (.inl (g_pald 5 20)) := snd_pald5 dX4_shake_19
theorem s101_20 {l : Launch} {G : KG} : kOpOK l G 101 20 (.inl (g_br1 (fun x => decide (¬ x = 0)) 26 23)) := snd_if_ne dX4_shake_20 (by decide)
theorem s101_23 {l : Launch} {G : KG} : kOpOK l G 101 23 (.inl (g_push (-2) 25)) := snd_bipush dX4_shake_23 rfl
theorem s101_25 {l : Launch} {G : KG} : kOpOK l G 101 25 (.inr (.inr 1)) := ⟨rfl, Or.inr (Or.inl ⟨rfl, dX4_shake_25, rfl⟩)⟩
theorem s101_26 {l : Launch} {G : KG} : kOpOK l G 101 26 (.inl (g_ald 0 27)) := snd_aload_n dX4_shake_26 rfl
theorem s101_27 {l : Launch} {G : KG} : kOpOK l G 101 27 (.inr (.inl (67, 1, 30))) := ⟨snd_callV (c := 4) dX4_shake_27 rfl mok_67 rfl rfl rfl rfl (by decide) rfl wM_4_34 wN_X4_notes wL_X4_notes wI_4 (by decide), rfl, mok_67⟩
theorem s101_30 {l : Launch} {G : KG} : kOpOK l G 101 30 (.inl (g_push 0 31)) := snd_iconst dX4_shake_30 rfl
theorem s101_31 {l : Launch} {G : KG} : kOpOK l G 101 31 (.inl (g_ist 2 32)) := snd_istore_n dX4_shake_31 rfl
theorem s101_32 {l : Launch} {G : KG} : kOpOK l G 101 32 (.inl (g_push 0 33)) := snd_iconst dX4_shake_32 rfl
theorem s101_33 {l : Launch} {G : KG} : kOpOK l G 101 33 (.inl (g_ist 3 34)) := snd_istore_n dX4_shake_33 rfl
theorem s101_34 {l : Launch} {G : KG} : kOpOK l G 101 34 (.inl (g_ild 3 35)) := snd_iload_n dX4_shake_34 rfl
theorem s101_35 {l : Launch} {G : KG} : kOpOK l G 101 35 (.inl (g_ild 1 36)) := snd_iload_n dX4_shake_35 rfl
theorem s101_36 {l : Launch} {G : KG} : kOpOK l G 101 36 (.inl (g_br2 (fun x y => decide (y ≤ x)) 52 39)) := snd_icmp_ge dX4_shake_36 (by decide)
theorem s101_39 {l : Launch} {G : KG} : kOpOK l G 101 39 (.inl (g_ild 2 40)) := snd_iload_n dX4_shake_39 rfl
theorem s101_40 {l : Launch} {G : KG} : kOpOK l G 101 40 (.inl (g_ald 0 41)) := snd_aload_n dX4_shake_40 rfl
theorem s101_41 {l : Launch} {G : KG} : kOpOK l G 101 41 (.inr (.inl (100, 1, 44))) := ⟨snd_callV (c := 4) dX4_shake_41 rfl mok_100 rfl rfl rfl rfl (by decide) rfl wM_4_101 wN_X4_minute wL_X4_minute wI_4 (by decide), rfl, mok_100⟩
theorem s101_44 {l : Launch} {G : KG} : kOpOK l G 101 44 (.inl (g_iop (fun x y => x + y) 45)) := snd_iadd dX4_shake_44
theorem s101_45 {l : Launch} {G : KG} : kOpOK l G 101 45 (.inl (g_ist 2 46)) := snd_istore_n dX4_shake_45 rfl
theorem s101_46 {l : Launch} {G : KG} : kOpOK l G 101 46 (.inl (g_iinc 3 1 49)) := snd_iinc dX4_shake_46 rfl
theorem s101_49 {l : Launch} {G : KG} : kOpOK l G 101 49 (.inl (g_goto 34)) := snd_goto dX4_shake_49 (by decide)
theorem s101_52 {l : Launch} {G : KG} : kOpOK l G 101 52 (.inl (g_ild 2 53)) := snd_iload_n dX4_shake_52 rfl
theorem s101_53 {l : Launch} {G : KG} : kOpOK l G 101 53 (.inr (.inr 1)) := ⟨rfl, Or.inr (Or.inl ⟨rfl, dX4_shake_53, rfl⟩)⟩
theorem s102_0 {l : Launch} {G : KG} : kOpOK l G 102 0 (.inl (g_ald 0 1)) := snd_aload_n dX4_collect_0 rfl
theorem s102_1 {l : Launch} {G : KG} : kOpOK l G 102 1 (.inl (g_ild 1 2)) := snd_iload_n dX4_collect_1 rfl
theorem s102_2 {l : Launch} {G : KG} : kOpOK l G 102 2 (.inr (.inl (93, 2, 5))) := ⟨snd_callV (c := 4) dX4_collect_2 rfl mok_93 rfl rfl rfl rfl (by decide) rfl wM_4_83 wN_X4_isTray wL_X4_isTray wI_4 (by decide), rfl, mok_93⟩
theorem s102_5 {l : Launch} {G : KG} : kOpOK l G 102 5 (.inl (g_br1 (fun x => decide (¬ x = 0)) 10 8)) := snd_if_ne dX4_collect_5 (by decide)
theorem s102_8 {l : Launch} {G : KG} : kOpOK l G 102 8 (.inl (g_push (-1) 9)) := snd_iconst dX4_collect_8 rfl
theorem s102_9 {l : Launch} {G : KG} : kOpOK l G 102 9 (.inr (.inr 1)) := ⟨rfl, Or.inr (Or.inl ⟨rfl, dX4_collect_9, rfl⟩)⟩
theorem s102_10 {l : Launch} {G : KG} : kOpOK l G 102 10 (.inl (g_ald 0 11)) := snd_aload_n dX4_collect_10 rfl
theorem s102_11 {l : Launch} {G : KG} : kOpOK l G 102 11 (.inl (g_gfr 4 0 14)) := snd_gfr (c := 4) (j := 0) (N := 8) dX4_collect_11 rfl hin4 (by decide) rfl (by decide) rfl wF_4_7
theorem s102_14 {l : Launch} {G : KG} : kOpOK l G 102 14 (.inl (g_push 49 16)) := snd_bipush dX4_collect_14 rfl
theorem s102_16 {l : Launch} {G : KG} : kOpOK l G 102 16 (.inl (g_pald 5 17)) := snd_pald5 dX4_collect_16
theorem s102_17 {l : Launch} {G : KG} : kOpOK l G 102 17 (.inl (g_br1 (fun x => decide (¬ x = 0)) 23 20)) := snd_if_ne dX4_collect_17 (by decide)
theorem s102_20 {l : Launch} {G : KG} : kOpOK l G 102 20 (.inl (g_push (-2) 22)) := snd_bipush dX4_collect_20 rfl
theorem s102_22 {l : Launch} {G : KG} : kOpOK l G 102 22 (.inr (.inr 1)) := ⟨rfl, Or.inr (Or.inl ⟨rfl, dX4_collect_22, rfl⟩)⟩
theorem s102_23 {l : Launch} {G : KG} : kOpOK l G 102 23 (.inl (g_ald 0 24)) := snd_aload_n dX4_collect_23 rfl
theorem s102_24 {l : Launch} {G : KG} : kOpOK l G 102 24 (.inr (.inl (67, 1, 27))) := ⟨snd_callV (c := 4) dX4_collect_24 rfl mok_67 rfl rfl rfl rfl (by decide) rfl wM_4_34 wN_X4_notes wL_X4_notes wI_4 (by decide), rfl, mok_67⟩
theorem s102_27 {l : Launch} {G : KG} : kOpOK l G 102 27 (.inl (g_ald 0 28)) := snd_aload_n dX4_collect_27 rfl
theorem s102_28 {l : Launch} {G : KG} : kOpOK l G 102 28 (.inl (g_ald 0 29)) := snd_aload_n dX4_collect_28 rfl
theorem s102_29 {l : Launch} {G : KG} : kOpOK l G 102 29 (.inl (g_ild 1 30)) := snd_iload_n dX4_collect_29 rfl
theorem s102_30 {l : Launch} {G : KG} : kOpOK l G 102 30 (.inr (.inl (84, 2, 33))) := ⟨snd_callV (c := 4) dX4_collect_30 rfl mok_84 rfl rfl rfl rfl (by decide) rfl wM_4_80 wN_X4_at wL_X4_at wI_4 (by decide), rfl, mok_84⟩
theorem s102_33 {l : Launch} {G : KG} : kOpOK l G 102 33 (.inr (.inl (69, 2, 36))) := ⟨snd_callV (c := 4) dX4_collect_33 rfl mok_69 rfl rfl rfl rfl (by decide) rfl wM_4_37 wN_X4_sum wL_X4_sum wI_4 (by decide), rfl, mok_69⟩
theorem s102_36 {l : Launch} {G : KG} : kOpOK l G 102 36 (.inl (g_ist 2 37)) := snd_istore_n dX4_collect_36 rfl
theorem s102_37 {l : Launch} {G : KG} : kOpOK l G 102 37 (.inl (g_push 0 38)) := snd_iconst dX4_collect_37 rfl
theorem s102_38 {l : Launch} {G : KG} : kOpOK l G 102 38 (.inl (g_ist 3 39)) := snd_istore_n dX4_collect_38 rfl
theorem s102_39 {l : Launch} {G : KG} : kOpOK l G 102 39 (.inl (g_ild 3 40)) := snd_iload_n dX4_collect_39 rfl
theorem s102_40 {l : Launch} {G : KG} : kOpOK l G 102 40 (.inl (g_push 10 42)) := snd_bipush dX4_collect_40 rfl
theorem s102_42 {l : Launch} {G : KG} : kOpOK l G 102 42 (.inl (g_br2 (fun x y => decide (y ≤ x)) 64 45)) := snd_icmp_ge dX4_collect_42 (by decide)
theorem s102_45 {l : Launch} {G : KG} : kOpOK l G 102 45 (.inl (g_ald 0 46)) := snd_aload_n dX4_collect_45 rfl
theorem s102_46 {l : Launch} {G : KG} : kOpOK l G 102 46 (.inl (g_gfr 4 0 49)) := snd_gfr (c := 4) (j := 0) (N := 8) dX4_collect_46 rfl hin4 (by decide) rfl (by decide) rfl wF_4_7
theorem s102_49 {l : Launch} {G : KG} : kOpOK l G 102 49 (.inl (g_ald 0 50)) := snd_aload_n dX4_collect_49 rfl
theorem s102_50 {l : Launch} {G : KG} : kOpOK l G 102 50 (.inl (g_ild 1 51)) := snd_iload_n dX4_collect_50 rfl
theorem s102_51 {l : Launch} {G : KG} : kOpOK l G 102 51 (.inr (.inl (84, 2, 54))) := ⟨snd_callV (c := 4) dX4_collect_51 rfl mok_84 rfl rfl rfl rfl (by decide) rfl wM_4_80 wN_X4_at wL_X4_at wI_4 (by decide), rfl, mok_84⟩
theorem s102_54 {l : Launch} {G : KG} : kOpOK l G 102 54 (.inl (g_ild 3 55)) := snd_iload_n dX4_collect_54 rfl
theorem s102_55 {l : Launch} {G : KG} : kOpOK l G 102 55 (.inl (g_iop (fun x y => x + y) 56)) := snd_iadd dX4_collect_55
theorem s102_56 {l : Launch} {G : KG} : kOpOK l G 102 56 (.inl (g_push 0 57)) := snd_iconst dX4_collect_56 rfl
theorem s102_57 {l : Launch} {G : KG} : kOpOK l G 102 57 (.inl (g_past 5 58)) := snd_past5 dX4_collect_57
theorem s102_58 {l : Launch} {G : KG} : kOpOK l G 102 58 (.inl (g_iinc 3 1 61)) := snd_iinc dX4_collect_58 rfl
theorem s102_61 {l : Launch} {G : KG} : kOpOK l G 102 61 (.inl (g_goto 39)) := snd_goto dX4_collect_61 (by decide)
theorem s102_64 {l : Launch} {G : KG} : kOpOK l G 102 64 (.inl (g_ald 0 65)) := snd_aload_n dX4_collect_64 rfl
theorem s102_65 {l : Launch} {G : KG} : kOpOK l G 102 65 (.inl (g_gfr 4 0 68)) := snd_gfr (c := 4) (j := 0) (N := 8) dX4_collect_65 rfl hin4 (by decide) rfl (by decide) rfl wF_4_7
theorem s102_68 {l : Launch} {G : KG} : kOpOK l G 102 68 (.inl (g_ald 0 69)) := snd_aload_n dX4_collect_68 rfl
theorem s102_69 {l : Launch} {G : KG} : kOpOK l G 102 69 (.inl (g_ild 1 70)) := snd_iload_n dX4_collect_69 rfl
theorem s102_70 {l : Launch} {G : KG} : kOpOK l G 102 70 (.inr (.inl (84, 2, 73))) := ⟨snd_callV (c := 4) dX4_collect_70 rfl mok_84 rfl rfl rfl rfl (by decide) rfl wM_4_80 wN_X4_at wL_X4_at wI_4 (by decide), rfl, mok_84⟩
theorem s102_73 {l : Launch} {G : KG} : kOpOK l G 102 73 (.inl (g_push 11 75)) := snd_bipush dX4_collect_73 rfl
theorem s102_75 {l : Launch} {G : KG} : kOpOK l G 102 75 (.inl (g_iop (fun x y => x + y) 76)) := snd_iadd dX4_collect_75
theorem s102_76 {l : Launch} {G : KG} : kOpOK l G 102 76 (.inl (g_dup2 77)) := snd_dup2 dX4_collect_76
theorem s102_77 {l : Launch} {G : KG} : kOpOK l G 102 77 (.inl (g_pald 5 78)) := snd_pald5 dX4_collect_77
theorem s102_78 {l : Launch} {G : KG} : kOpOK l G 102 78 (.inl (g_ild 2 79)) := snd_iload_n dX4_collect_78 rfl
theorem s102_79 {l : Launch} {G : KG} : kOpOK l G 102 79 (.inl (g_iop (fun x y => x + y) 80)) := snd_iadd dX4_collect_79
theorem s102_80 {l : Launch} {G : KG} : kOpOK l G 102 80 (.inl (g_past 5 81)) := snd_past5 dX4_collect_80
theorem s102_81 {l : Launch} {G : KG} : kOpOK l G 102 81 (.inl (g_ild 2 82)) := snd_iload_n dX4_collect_81 rfl
theorem s102_82 {l : Launch} {G : KG} : kOpOK l G 102 82 (.inr (.inr 1)) := ⟨rfl, Or.inr (Or.inl ⟨rfl, dX4_collect_82, rfl⟩)⟩
theorem s103_0 {l : Launch} {G : KG} : kOpOK l G 103 0 (.inl (g_ald 0 1)) := snd_aload_n dX4_brush_0 rfl
theorem s103_1 {l : Launch} {G : KG} : kOpOK l G 103 1 (.inl (g_ild 1 2)) := snd_iload_n dX4_brush_1 rfl
theorem s103_2 {l : Launch} {G : KG} : kOpOK l G 103 2 (.inr (.inl (94, 2, 5))) := ⟨snd_callV (c := 4) dX4_brush_2 rfl mok_94 rfl rfl rfl rfl (by decide) rfl wM_4_76 wN_X4_isSieve wL_X4_isSieve wI_4 (by decide), rfl, mok_94⟩
theorem s103_5 {l : Launch} {G : KG} : kOpOK l G 103 5 (.inl (g_br1 (fun x => decide (x = 0)) 17 8)) := snd_if_eq dX4_brush_5 (by decide)
theorem s103_8 {l : Launch} {G : KG} : kOpOK l G 103 8 (.inl (g_ild 2 9)) := snd_iload_n dX4_brush_8 rfl
theorem s103_9 {l : Launch} {G : KG} : kOpOK l G 103 9 (.inl (g_push 0 10)) := snd_iconst dX4_brush_9 rfl
theorem s103_10 {l : Launch} {G : KG} : kOpOK l G 103 10 (.inl (g_push 1 11)) := snd_iconst dX4_brush_10 rfl
theorem s103_11 {l : Launch} {G : KG} : kOpOK l G 103 11 (.inr (.inl (66, 3, 14))) := ⟨snd_callS dX4_brush_11 rfl mok_66 rfl rfl rfl wM_4_30 wS_X4_in wI_4 (by decide), rfl, mok_66⟩
theorem s103_14 {l : Launch} {G : KG} : kOpOK l G 103 14 (.inl (g_br1 (fun x => decide (¬ x = 0)) 19 17)) := snd_if_ne dX4_brush_14 (by decide)
theorem s103_17 {l : Launch} {G : KG} : kOpOK l G 103 17 (.inl (g_push (-1) 18)) := snd_iconst dX4_brush_17 rfl
theorem s103_18 {l : Launch} {G : KG} : kOpOK l G 103 18 (.inr (.inr 1)) := ⟨rfl, Or.inr (Or.inl ⟨rfl, dX4_brush_18, rfl⟩)⟩
theorem s103_19 {l : Launch} {G : KG} : kOpOK l G 103 19 (.inl (g_ald 0 20)) := snd_aload_n dX4_brush_19 rfl
theorem s103_20 {l : Launch} {G : KG} : kOpOK l G 103 20 (.inl (g_gfr 4 0 23)) := snd_gfr (c := 4) (j := 0) (N := 8) dX4_brush_20 rfl hin4 (by decide) rfl (by decide) rfl wF_4_7
theorem s103_23 {l : Launch} {G : KG} : kOpOK l G 103 23 (.inl (g_push 49 25)) := snd_bipush dX4_brush_23 rfl
theorem s103_25 {l : Launch} {G : KG} : kOpOK l G 103 25 (.inl (g_pald 5 26)) := snd_pald5 dX4_brush_25
theorem s103_26 {l : Launch} {G : KG} : kOpOK l G 103 26 (.inl (g_br1 (fun x => decide (¬ x = 0)) 32 29)) := snd_if_ne dX4_brush_26 (by decide)
theorem s103_29 {l : Launch} {G : KG} : kOpOK l G 103 29 (.inl (g_push (-2) 31)) := snd_bipush dX4_brush_29 rfl
theorem s103_31 {l : Launch} {G : KG} : kOpOK l G 103 31 (.inr (.inr 1)) := ⟨rfl, Or.inr (Or.inl ⟨rfl, dX4_brush_31, rfl⟩)⟩
theorem s103_32 {l : Launch} {G : KG} : kOpOK l G 103 32 (.inl (g_ald 0 33)) := snd_aload_n dX4_brush_32 rfl
theorem s103_33 {l : Launch} {G : KG} : kOpOK l G 103 33 (.inr (.inl (67, 1, 36))) := ⟨snd_callV (c := 4) dX4_brush_33 rfl mok_67 rfl rfl rfl rfl (by decide) rfl wM_4_34 wN_X4_notes wL_X4_notes wI_4 (by decide), rfl, mok_67⟩
theorem s103_36 {l : Launch} {G : KG} : kOpOK l G 103 36 (.inl (g_ald 0 37)) := snd_aload_n dX4_brush_36 rfl
theorem s103_37 {l : Launch} {G : KG} : kOpOK l G 103 37 (.inl (g_gfr 4 0 40)) := snd_gfr (c := 4) (j := 0) (N := 8) dX4_brush_37 rfl hin4 (by decide) rfl (by decide) rfl wF_4_7
theorem s103_40 {l : Launch} {G : KG} : kOpOK l G 103 40 (.inl (g_ald 0 41)) := snd_aload_n dX4_brush_40 rfl
theorem s103_41 {l : Launch} {G : KG} : kOpOK l G 103 41 (.inl (g_ild 1 42)) := snd_iload_n dX4_brush_41 rfl
theorem s103_42 {l : Launch} {G : KG} : kOpOK l G 103 42 (.inr (.inl (84, 2, 45))) := ⟨snd_callV (c := 4) dX4_brush_42 rfl mok_84 rfl rfl rfl rfl (by decide) rfl wM_4_80 wN_X4_at wL_X4_at wI_4 (by decide), rfl, mok_84⟩
theorem s103_45 {l : Launch} {G : KG} : kOpOK l G 103 45 (.inl (g_push 10 47)) := snd_bipush dX4_brush_45 rfl
theorem s103_47 {l : Launch} {G : KG} : kOpOK l G 103 47 (.inl (g_iop (fun x y => x + y) 48)) := snd_iadd dX4_brush_47
theorem s103_48 {l : Launch} {G : KG} : kOpOK l G 103 48 (.inl (g_pald 5 49)) := snd_pald5 dX4_brush_48
theorem s103_49 {l : Launch} {G : KG} : kOpOK l G 103 49 (.inl (g_ist 3 50)) := snd_istore_n dX4_brush_49 rfl
theorem s103_50 {l : Launch} {G : KG} : kOpOK l G 103 50 (.inl (g_ald 0 51)) := snd_aload_n dX4_brush_50 rfl
theorem s103_51 {l : Launch} {G : KG} : kOpOK l G 103 51 (.inl (g_gfr 4 0 54)) := snd_gfr (c := 4) (j := 0) (N := 8) dX4_brush_51 rfl hin4 (by decide) rfl (by decide) rfl wF_4_7
theorem s103_54 {l : Launch} {G : KG} : kOpOK l G 103 54 (.inl (g_ald 0 55)) := snd_aload_n dX4_brush_54 rfl
theorem s103_55 {l : Launch} {G : KG} : kOpOK l G 103 55 (.inl (g_ild 1 56)) := snd_iload_n dX4_brush_55 rfl
theorem s103_56 {l : Launch} {G : KG} : kOpOK l G 103 56 (.inr (.inl (84, 2, 59))) := ⟨snd_callV (c := 4) dX4_brush_56 rfl mok_84 rfl rfl rfl rfl (by decide) rfl wM_4_80 wN_X4_at wL_X4_at wI_4 (by decide), rfl, mok_84⟩
theorem s103_59 {l : Launch} {G : KG} : kOpOK l G 103 59 (.inl (g_push 10 61)) := snd_bipush dX4_brush_59 rfl
theorem s103_61 {l : Launch} {G : KG} : kOpOK l G 103 61 (.inl (g_iop (fun x y => x + y) 62)) := snd_iadd dX4_brush_61
theorem s103_62 {l : Launch} {G : KG} : kOpOK l G 103 62 (.inl (g_push 0 63)) := snd_iconst dX4_brush_62 rfl
theorem s103_63 {l : Launch} {G : KG} : kOpOK l G 103 63 (.inl (g_past 5 64)) := snd_past5 dX4_brush_63
theorem s103_64 {l : Launch} {G : KG} : kOpOK l G 103 64 (.inl (g_ald 0 65)) := snd_aload_n dX4_brush_64 rfl
theorem s103_65 {l : Launch} {G : KG} : kOpOK l G 103 65 (.inl (g_gfr 4 0 68)) := snd_gfr (c := 4) (j := 0) (N := 8) dX4_brush_65 rfl hin4 (by decide) rfl (by decide) rfl wF_4_7
theorem s103_68 {l : Launch} {G : KG} : kOpOK l G 103 68 (.inl (g_ald 0 69)) := snd_aload_n dX4_brush_68 rfl
theorem s103_69 {l : Launch} {G : KG} : kOpOK l G 103 69 (.inl (g_ild 1 70)) := snd_iload_n dX4_brush_69 rfl
theorem s103_70 {l : Launch} {G : KG} : kOpOK l G 103 70 (.inr (.inl (84, 2, 73))) := ⟨snd_callV (c := 4) dX4_brush_70 rfl mok_84 rfl rfl rfl rfl (by decide) rfl wM_4_80 wN_X4_at wL_X4_at wI_4 (by decide), rfl, mok_84⟩
theorem s103_73 {l : Launch} {G : KG} : kOpOK l G 103 73 (.inl (g_push 11 75)) := snd_bipush dX4_brush_73 rfl
theorem s103_75 {l : Launch} {G : KG} : kOpOK l G 103 75 (.inl (g_iop (fun x y => x + y) 76)) := snd_iadd dX4_brush_75
theorem s103_76 {l : Launch} {G : KG} : kOpOK l G 103 76 (.inl (g_dup2 77)) := snd_dup2 dX4_brush_76
theorem s103_77 {l : Launch} {G : KG} : kOpOK l G 103 77 (.inl (g_pald 5 78)) := snd_pald5 dX4_brush_77
theorem s103_78 {l : Launch} {G : KG} : kOpOK l G 103 78 (.inl (g_ild 2 79)) := snd_iload_n dX4_brush_78 rfl
theorem s103_79 {l : Launch} {G : KG} : kOpOK l G 103 79 (.inl (g_push 1 80)) := snd_iconst dX4_brush_79 rfl
theorem s103_80 {l : Launch} {G : KG} : kOpOK l G 103 80 (.inl (g_br2 (fun x y => decide (¬ x = y)) 87 83)) := snd_icmp_ne dX4_brush_80 (by decide)
theorem s103_83 {l : Launch} {G : KG} : kOpOK l G 103 83 (.inl (g_ild 3 84)) := snd_iload_n dX4_brush_83 rfl
theorem s103_84 {l : Launch} {G : KG} : kOpOK l G 103 84 (.inl (g_goto 88)) := snd_goto dX4_brush_84 (by decide)
theorem s103_87 {l : Launch} {G : KG} : kOpOK l G 103 87 (.inl (g_push 0 88)) := snd_iconst dX4_brush_87 rfl
theorem s103_88 {l : Launch} {G : KG} : kOpOK l G 103 88 (.inl (g_iop (fun x y => x + y) 89)) := snd_iadd dX4_brush_88
theorem s103_89 {l : Launch} {G : KG} : kOpOK l G 103 89 (.inl (g_past 5 90)) := snd_past5 dX4_brush_89
theorem s103_90 {l : Launch} {G : KG} : kOpOK l G 103 90 (.inl (g_ild 3 91)) := snd_iload_n dX4_brush_90 rfl
theorem s103_91 {l : Launch} {G : KG} : kOpOK l G 103 91 (.inr (.inr 1)) := ⟨rfl, Or.inr (Or.inl ⟨rfl, dX4_brush_91, rfl⟩)⟩
theorem s104_0 {l : Launch} {G : KG} : kOpOK l G 104 0 (.inl (g_ald 0 1)) := snd_aload_n dX4_lost_0 rfl
theorem s104_1 {l : Launch} {G : KG} : kOpOK l G 104 1 (.inl (g_gfr 4 0 4)) := snd_gfr (c := 4) (j := 0) (N := 8) dX4_lost_1 rfl hin4 (by decide) rfl (by decide) rfl wF_4_7
theorem s104_4 {l : Launch} {G : KG} : kOpOK l G 104 4 (.inl (g_push 50 6)) := snd_bipush dX4_lost_4 rfl
theorem s104_6 {l : Launch} {G : KG} : kOpOK l G 104 6 (.inl (g_pald 5 7)) := snd_pald5 dX4_lost_6
theorem s104_7 {l : Launch} {G : KG} : kOpOK l G 104 7 (.inl (g_ist 1 8)) := snd_istore_n dX4_lost_7 rfl
theorem s104_8 {l : Launch} {G : KG} : kOpOK l G 104 8 (.inl (g_push 0 9)) := snd_iconst dX4_lost_8 rfl
theorem s104_9 {l : Launch} {G : KG} : kOpOK l G 104 9 (.inl (g_ist 2 10)) := snd_istore_n dX4_lost_9 rfl
theorem s104_10 {l : Launch} {G : KG} : kOpOK l G 104 10 (.inl (g_ild 2 11)) := snd_iload_n dX4_lost_10 rfl
theorem s104_11 {l : Launch} {G : KG} : kOpOK l G 104 11 (.inl (g_ald 0 12)) := snd_aload_n dX4_lost_11 rfl
theorem s104_12 {l : Launch} {G : KG} : kOpOK l G 104 12 (.inl (g_gfr 4 0 15)) := snd_gfr (c := 4) (j := 0) (N := 8) dX4_lost_12 rfl hin4 (by decide) rfl (by decide) rfl wF_4_7
theorem s104_15 {l : Launch} {G : KG} : kOpOK l G 104 15 (.inl (g_push 24 17)) := snd_bipush dX4_lost_15 rfl
theorem s104_17 {l : Launch} {G : KG} : kOpOK l G 104 17 (.inl (g_pald 5 18)) := snd_pald5 dX4_lost_17
theorem s104_18 {l : Launch} {G : KG} : kOpOK l G 104 18 (.inl (g_br2 (fun x y => decide (y < x)) 67 21)) := snd_icmp_gt dX4_lost_18 (by decide)
theorem s104_21 {l : Launch} {G : KG} : kOpOK l G 104 21 (.inl (g_ild 1 22)) := snd_iload_n dX4_lost_21 rfl
theorem s104_22 {l : Launch} {G : KG} : kOpOK l G 104 22 (.inl (g_ald 0 23)) := snd_aload_n dX4_lost_22 rfl
theorem s104_23 {l : Launch} {G : KG} : kOpOK l G 104 23 (.inl (g_ald 0 24)) := snd_aload_n dX4_lost_23 rfl
theorem s104_24 {l : Launch} {G : KG} : kOpOK l G 104 24 (.inl (g_ild 2 25)) := snd_iload_n dX4_lost_24 rfl
theorem s104_25 {l : Launch} {G : KG} : kOpOK l G 104 25 (.inr (.inl (84, 2, 28))) := ⟨snd_callV (c := 4) dX4_lost_25 rfl mok_84 rfl rfl rfl rfl (by decide) rfl wM_4_80 wN_X4_at wL_X4_at wI_4 (by decide), rfl, mok_84⟩
theorem s104_28 {l : Launch} {G : KG} : kOpOK l G 104 28 (.inr (.inl (69, 2, 31))) := ⟨snd_callV (c := 4) dX4_lost_28 rfl mok_69 rfl rfl rfl rfl (by decide) rfl wM_4_37 wN_X4_sum wL_X4_sum wI_4 (by decide), rfl, mok_69⟩
theorem s104_31 {l : Launch} {G : KG} : kOpOK l G 104 31 (.inl (g_ald 0 32)) := snd_aload_n dX4_lost_31 rfl
theorem s104_32 {l : Launch} {G : KG} : kOpOK l G 104 32 (.inl (g_gfr 4 0 35)) := snd_gfr (c := 4) (j := 0) (N := 8) dX4_lost_32 rfl hin4 (by decide) rfl (by decide) rfl wF_4_7
theorem s104_35 {l : Launch} {G : KG} : kOpOK l G 104 35 (.inl (g_ald 0 36)) := snd_aload_n dX4_lost_35 rfl
theorem s104_36 {l : Launch} {G : KG} : kOpOK l G 104 36 (.inl (g_ild 2 37)) := snd_iload_n dX4_lost_36 rfl
theorem s104_37 {l : Launch} {G : KG} : kOpOK l G 104 37 (.inr (.inl (84, 2, 40))) := ⟨snd_callV (c := 4) dX4_lost_37 rfl mok_84 rfl rfl rfl rfl (by decide) rfl wM_4_80 wN_X4_at wL_X4_at wI_4 (by decide), rfl, mok_84⟩
theorem s104_40 {l : Launch} {G : KG} : kOpOK l G 104 40 (.inl (g_push 10 42)) := snd_bipush dX4_lost_40 rfl
theorem s104_42 {l : Launch} {G : KG} : kOpOK l G 104 42 (.inl (g_iop (fun x y => x + y) 43)) := snd_iadd dX4_lost_42
theorem s104_43 {l : Launch} {G : KG} : kOpOK l G 104 43 (.inl (g_pald 5 44)) := snd_pald5 dX4_lost_43
theorem s104_44 {l : Launch} {G : KG} : kOpOK l G 104 44 (.inl (g_iop (fun x y => x + y) 45)) := snd_iadd dX4_lost_44
theorem s104_45 {l : Launch} {G : KG} : kOpOK l G 104 45 (.inl (g_ald 0 46)) := snd_aload_n dX4_lost_45 rfl
theorem s104_46 {l : Launch} {G : KG} : kOpOK l G 104 46 (.inl (g_gfr 4 0 49)) := snd_gfr (c := 4) (j := 0) (N := 8) dX4_lost_46 rfl hin4 (by decide) rfl (by decide) rfl wF_4_7
theorem s104_49 {l : Launch} {G : KG} : kOpOK l G 104 49 (.inl (g_ald 0 50)) := snd_aload_n dX4_lost_49 rfl
theorem s104_50 {l : Launch} {G : KG} : kOpOK l G 104 50 (.inl (g_ild 2 51)) := snd_iload_n dX4_lost_50 rfl
theorem s104_51 {l : Launch} {G : KG} : kOpOK l G 104 51 (.inr (.inl (84, 2, 54))) := ⟨snd_callV (c := 4) dX4_lost_51 rfl mok_84 rfl rfl rfl rfl (by decide) rfl wM_4_80 wN_X4_at wL_X4_at wI_4 (by decide), rfl, mok_84⟩
theorem s104_54 {l : Launch} {G : KG} : kOpOK l G 104 54 (.inl (g_push 11 56)) := snd_bipush dX4_lost_54 rfl
theorem s104_56 {l : Launch} {G : KG} : kOpOK l G 104 56 (.inl (g_iop (fun x y => x + y) 57)) := snd_iadd dX4_lost_56
theorem s104_57 {l : Launch} {G : KG} : kOpOK l G 104 57 (.inl (g_pald 5 58)) := snd_pald5 dX4_lost_57
theorem s104_58 {l : Launch} {G : KG} : kOpOK l G 104 58 (.inl (g_iop (fun x y => x + y) 59)) := snd_iadd dX4_lost_58
theorem s104_59 {l : Launch} {G : KG} : kOpOK l G 104 59 (.inl (g_iop (fun x y => x - y) 60)) := snd_isub dX4_lost_59
theorem s104_60 {l : Launch} {G : KG} : kOpOK l G 104 60 (.inl (g_ist 1 61)) := snd_istore_n dX4_lost_60 rfl
theorem s104_61 {l : Launch} {G : KG} : kOpOK l G 104 61 (.inl (g_iinc 2 1 64)) := snd_iinc dX4_lost_61 rfl
theorem s104_64 {l : Launch} {G : KG} : kOpOK l G 104 64 (.inl (g_goto 10)) := snd_goto dX4_lost_64 (by decide)
theorem s104_67 {l : Launch} {G : KG} : kOpOK l G 104 67 (.inl (g_ild 1 68)) := snd_iload_n dX4_lost_67 rfl
theorem s104_68 {l : Launch} {G : KG} : kOpOK l G 104 68 (.inr (.inr 1)) := ⟨rfl, Or.inr (Or.inl ⟨rfl, dX4_lost_68, rfl⟩)⟩
theorem s105_0 {l : Launch} {G : KG} : kOpOK l G 105 0 (.inl (g_ald 0 1)) := snd_aload_n dX4_loss_0 rfl
theorem s105_1 {l : Launch} {G : KG} : kOpOK l G 105 1 (.inl (g_gfr 4 0 4)) := snd_gfr (c := 4) (j := 0) (N := 8) dX4_loss_1 rfl hin4 (by decide) rfl (by decide) rfl wF_4_7
theorem s105_4 {l : Launch} {G : KG} : kOpOK l G 105 4 (.inl (g_push 49 6)) := snd_bipush dX4_loss_4 rfl
theorem s105_6 {l : Launch} {G : KG} : kOpOK l G 105 6 (.inl (g_pald 5 7)) := snd_pald5 dX4_loss_6
theorem s105_7 {l : Launch} {G : KG} : kOpOK l G 105 7 (.inl (g_br1 (fun x => decide (¬ x = 0)) 15 10)) := snd_if_ne dX4_loss_7 (by decide)
theorem s105_10 {l : Launch} {G : KG} : kOpOK l G 105 10 (.inl (g_push (-2) 12)) := snd_bipush dX4_loss_10 rfl
theorem s105_12 {l : Launch} {G : KG} : kOpOK l G 105 12 (.inl (g_goto 19)) := snd_goto dX4_loss_12 (by decide)
theorem s105_15 {l : Launch} {G : KG} : kOpOK l G 105 15 (.inl (g_ald 0 16)) := snd_aload_n dX4_loss_15 rfl
theorem s105_16 {l : Launch} {G : KG} : kOpOK l G 105 16 (.inr (.inl (104, 1, 19))) := ⟨snd_callV (c := 4) dX4_loss_16 rfl mok_104 rfl rfl rfl rfl (by decide) rfl wM_4_104 wN_X4_lost wL_X4_lost wI_4 (by decide), rfl, mok_104⟩
theorem s105_19 {l : Launch} {G : KG} : kOpOK l G 105 19 (.inr (.inr 1)) := ⟨rfl, Or.inr (Or.inl ⟨rfl, dX4_loss_19, rfl⟩)⟩
theorem s106_0 {l : Launch} {G : KG} : kOpOK l G 106 0 (.inl (g_ald 0 1)) := snd_aload_n dX4_isGood_0 rfl
theorem s106_1 {l : Launch} {G : KG} : kOpOK l G 106 1 (.inl (g_gfr 4 0 4)) := snd_gfr (c := 4) (j := 0) (N := 8) dX4_isGood_1 rfl hin4 (by decide) rfl (by decide) rfl wF_4_7
theorem s106_4 {l : Launch} {G : KG} : kOpOK l G 106 4 (.inl (g_push 49 6)) := snd_bipush dX4_isGood_4 rfl
theorem s106_6 {l : Launch} {G : KG} : kOpOK l G 106 6 (.inl (g_pald 5 7)) := snd_pald5 dX4_isGood_6
theorem s106_7 {l : Launch} {G : KG} : kOpOK l G 106 7 (.inl (g_br1 (fun x => decide (¬ x = 0)) 15 10)) := snd_if_ne dX4_isGood_7 (by decide)
theorem s106_10 {l : Launch} {G : KG} : kOpOK l G 106 10 (.inl (g_push (-2) 12)) := snd_bipush dX4_isGood_10 rfl
theorem s106_12 {l : Launch} {G : KG} : kOpOK l G 106 12 (.inl (g_goto 50)) := snd_goto dX4_isGood_12 (by decide)
theorem s106_15 {l : Launch} {G : KG} : kOpOK l G 106 15 (.inl (g_ald 0 16)) := snd_aload_n dX4_isGood_15 rfl
theorem s106_16 {l : Launch} {G : KG} : kOpOK l G 106 16 (.inr (.inl (104, 1, 19))) := ⟨snd_callV (c := 4) dX4_isGood_16 rfl mok_104 rfl rfl rfl rfl (by decide) rfl wM_4_104 wN_X4_lost wL_X4_lost wI_4 (by decide), rfl, mok_104⟩
theorem s106_19 {l : Launch} {G : KG} : kOpOK l G 106 19 (.inl (g_i2l 20)) := snd_i2l dX4_isGood_19
theorem s106_20 {l : Launch} {G : KG} : kOpOK l G 106 20 (.inl (g_pushl 1000 23)) := snd_ldc2 dX4_isGood_20 wK_4_107
theorem s106_23 {l : Launch} {G : KG} : kOpOK l G 106 23 (.inl (g_lop (fun x y => x * y) 24)) := snd_lmul dX4_isGood_23
theorem s106_24 {l : Launch} {G : KG} : kOpOK l G 106 24 (.inl (g_ald 0 25)) := snd_aload_n dX4_isGood_24 rfl
theorem s106_25 {l : Launch} {G : KG} : kOpOK l G 106 25 (.inl (g_gfr 4 0 28)) := snd_gfr (c := 4) (j := 0) (N := 8) dX4_isGood_25 rfl hin4 (by decide) rfl (by decide) rfl wF_4_7
theorem s106_28 {l : Launch} {G : KG} : kOpOK l G 106 28 (.inl (g_push 23 30)) := snd_bipush dX4_isGood_28 rfl
theorem s106_30 {l : Launch} {G : KG} : kOpOK l G 106 30 (.inl (g_pald 5 31)) := snd_pald5 dX4_isGood_30
theorem s106_31 {l : Launch} {G : KG} : kOpOK l G 106 31 (.inl (g_i2l 32)) := snd_i2l dX4_isGood_31
theorem s106_32 {l : Launch} {G : KG} : kOpOK l G 106 32 (.inl (g_ald 0 33)) := snd_aload_n dX4_isGood_32 rfl
theorem s106_33 {l : Launch} {G : KG} : kOpOK l G 106 33 (.inl (g_gfr 4 0 36)) := snd_gfr (c := 4) (j := 0) (N := 8) dX4_isGood_33 rfl hin4 (by decide) rfl (by decide) rfl wF_4_7
theorem s106_36 {l : Launch} {G : KG} : kOpOK l G 106 36 (.inl (g_push 50 38)) := snd_bipush dX4_isGood_36 rfl
theorem s106_38 {l : Launch} {G : KG} : kOpOK l G 106 38 (.inl (g_pald 5 39)) := snd_pald5 dX4_isGood_38
theorem s106_39 {l : Launch} {G : KG} : kOpOK l G 106 39 (.inl (g_i2l 40)) := snd_i2l dX4_isGood_39
theorem s106_40 {l : Launch} {G : KG} : kOpOK l G 106 40 (.inl (g_lop (fun x y => x * y) 41)) := snd_lmul dX4_isGood_40
theorem s106_41 {l : Launch} {G : KG} : kOpOK l G 106 41 (.inl (g_lcmp 42)) := snd_lcmp dX4_isGood_41
theorem s106_42 {l : Launch} {G : KG} : kOpOK l G 106 42 (.inl (g_br1 (fun x => decide (0 < x)) 49 45)) := snd_if_gt dX4_isGood_42 (by decide)
theorem s106_45 {l : Launch} {G : KG} : kOpOK l G 106 45 (.inl (g_push 1 46)) := snd_iconst dX4_isGood_45 rfl
theorem s106_46 {l : Launch} {G : KG} : kOpOK l G 106 46 (.inl (g_goto 50)) := snd_goto dX4_isGood_46 (by decide)
theorem s106_49 {l : Launch} {G : KG} : kOpOK l G 106 49 (.inl (g_push 0 50)) := snd_iconst dX4_isGood_49 rfl
theorem s106_50 {l : Launch} {G : KG} : kOpOK l G 106 50 (.inr (.inr 1)) := ⟨rfl, Or.inr (Or.inl ⟨rfl, dX4_isGood_50, rfl⟩)⟩
theorem s107_0 {l : Launch} {G : KG} : kOpOK l G 107 0 (.inl (g_push 0 1)) := snd_iconst dX4_collected_0 rfl
theorem s107_1 {l : Launch} {G : KG} : kOpOK l G 107 1 (.inl (g_ist 2 2)) := snd_istore_n dX4_collected_1 rfl
theorem s107_2 {l : Launch} {G : KG} : kOpOK l G 107 2 (.inl (g_ild 1 3)) := snd_iload_n dX4_collected_2 rfl
theorem s107_3 {l : Launch} {G : KG} : kOpOK l G 107 3 (.inl (g_ist 3 4)) := snd_istore_n dX4_collected_3 rfl
theorem s107_4 {l : Launch} {G : KG} : kOpOK l G 107 4 (.inl (g_ild 3 5)) := snd_iload_n dX4_collected_4 rfl
theorem s107_5 {l : Launch} {G : KG} : kOpOK l G 107 5 (.inl (g_ald 0 6)) := snd_aload_n dX4_collected_5 rfl
theorem s107_6 {l : Launch} {G : KG} : kOpOK l G 107 6 (.inl (g_gfr 4 0 9)) := snd_gfr (c := 4) (j := 0) (N := 8) dX4_collected_6 rfl hin4 (by decide) rfl (by decide) rfl wF_4_7
theorem s107_9 {l : Launch} {G : KG} : kOpOK l G 107 9 (.inl (g_push 24 11)) := snd_bipush dX4_collected_9 rfl
theorem s107_11 {l : Launch} {G : KG} : kOpOK l G 107 11 (.inl (g_pald 5 12)) := snd_pald5 dX4_collected_11
theorem s107_12 {l : Launch} {G : KG} : kOpOK l G 107 12 (.inl (g_br2 (fun x y => decide (y < x)) 37 15)) := snd_icmp_gt dX4_collected_12 (by decide)
theorem s107_15 {l : Launch} {G : KG} : kOpOK l G 107 15 (.inl (g_ild 2 16)) := snd_iload_n dX4_collected_15 rfl
theorem s107_16 {l : Launch} {G : KG} : kOpOK l G 107 16 (.inl (g_ald 0 17)) := snd_aload_n dX4_collected_16 rfl
theorem s107_17 {l : Launch} {G : KG} : kOpOK l G 107 17 (.inl (g_gfr 4 0 20)) := snd_gfr (c := 4) (j := 0) (N := 8) dX4_collected_17 rfl hin4 (by decide) rfl (by decide) rfl wF_4_7
theorem s107_20 {l : Launch} {G : KG} : kOpOK l G 107 20 (.inl (g_ald 0 21)) := snd_aload_n dX4_collected_20 rfl
theorem s107_21 {l : Launch} {G : KG} : kOpOK l G 107 21 (.inl (g_ild 3 22)) := snd_iload_n dX4_collected_21 rfl
theorem s107_22 {l : Launch} {G : KG} : kOpOK l G 107 22 (.inr (.inl (84, 2, 25))) := ⟨snd_callV (c := 4) dX4_collected_22 rfl mok_84 rfl rfl rfl rfl (by decide) rfl wM_4_80 wN_X4_at wL_X4_at wI_4 (by decide), rfl, mok_84⟩
theorem s107_25 {l : Launch} {G : KG} : kOpOK l G 107 25 (.inl (g_push 11 27)) := snd_bipush dX4_collected_25 rfl
theorem s107_27 {l : Launch} {G : KG} : kOpOK l G 107 27 (.inl (g_iop (fun x y => x + y) 28)) := snd_iadd dX4_collected_27
theorem s107_28 {l : Launch} {G : KG} : kOpOK l G 107 28 (.inl (g_pald 5 29)) := snd_pald5 dX4_collected_28
theorem s107_29 {l : Launch} {G : KG} : kOpOK l G 107 29 (.inl (g_iop (fun x y => x + y) 30)) := snd_iadd dX4_collected_29
theorem s107_30 {l : Launch} {G : KG} : kOpOK l G 107 30 (.inl (g_ist 2 31)) := snd_istore_n dX4_collected_30 rfl
theorem s107_31 {l : Launch} {G : KG} : kOpOK l G 107 31 (.inl (g_iinc 3 1 34)) := snd_iinc dX4_collected_31 rfl
theorem s107_34 {l : Launch} {G : KG} : kOpOK l G 107 34 (.inl (g_goto 4)) := snd_goto dX4_collected_34 (by decide)
theorem s107_37 {l : Launch} {G : KG} : kOpOK l G 107 37 (.inl (g_ild 2 38)) := snd_iload_n dX4_collected_37 rfl
theorem s107_38 {l : Launch} {G : KG} : kOpOK l G 107 38 (.inr (.inr 1)) := ⟨rfl, Or.inr (Or.inl ⟨rfl, dX4_collected_38, rfl⟩)⟩
theorem s108_0 {l : Launch} {G : KG} : kOpOK l G 108 0 (.inl (g_ald 0 1)) := snd_aload_n dX4_isTold_0 rfl
theorem s108_1 {l : Launch} {G : KG} : kOpOK l G 108 1 (.inl (g_gfr 4 0 4)) := snd_gfr (c := 4) (j := 0) (N := 8) dX4_isTold_1 rfl hin4 (by decide) rfl (by decide) rfl wF_4_7
theorem s108_4 {l : Launch} {G : KG} : kOpOK l G 108 4 (.inl (g_push 49 6)) := snd_bipush dX4_isTold_4 rfl
theorem s108_6 {l : Launch} {G : KG} : kOpOK l G 108 6 (.inl (g_pald 5 7)) := snd_pald5 dX4_isTold_6
theorem s108_7 {l : Launch} {G : KG} : kOpOK l G 108 7 (.inl (g_push 1 8)) := snd_iconst dX4_isTold_7 rfl
theorem s108_8 {l : Launch} {G : KG} : kOpOK l G 108 8 (.inl (g_br2 (fun x y => decide (¬ x = y)) 23 11)) := snd_icmp_ne dX4_isTold_8 (by decide)
theorem s108_11 {l : Launch} {G : KG} : kOpOK l G 108 11 (.inl (g_ald 0 12)) := snd_aload_n dX4_isTold_11 rfl
theorem s108_12 {l : Launch} {G : KG} : kOpOK l G 108 12 (.inl (g_push 0 13)) := snd_iconst dX4_isTold_12 rfl
theorem s108_13 {l : Launch} {G : KG} : kOpOK l G 108 13 (.inr (.inl (107, 2, 16))) := ⟨snd_callV (c := 4) dX4_isTold_13 rfl mok_107 rfl rfl rfl rfl (by decide) rfl wM_4_109 wN_X4_collected wL_X4_collected wI_4 (by decide), rfl, mok_107⟩
theorem s108_16 {l : Launch} {G : KG} : kOpOK l G 108 16 (.inl (g_br1 (fun x => decide (x ≤ 0)) 23 19)) := snd_if_le dX4_isTold_16 (by decide)
theorem s108_19 {l : Launch} {G : KG} : kOpOK l G 108 19 (.inl (g_push 1 20)) := snd_iconst dX4_isTold_19 rfl
theorem s108_20 {l : Launch} {G : KG} : kOpOK l G 108 20 (.inl (g_goto 24)) := snd_goto dX4_isTold_20 (by decide)
theorem s108_23 {l : Launch} {G : KG} : kOpOK l G 108 23 (.inl (g_push 0 24)) := snd_iconst dX4_isTold_23 rfl
theorem s108_24 {l : Launch} {G : KG} : kOpOK l G 108 24 (.inr (.inr 2)) := ⟨rfl, Or.inr (Or.inr ⟨rfl, dX4_isTold_24, rfl⟩)⟩
theorem s109_0 {l : Launch} {G : KG} : kOpOK l G 109 0 (.inl (g_ald 0 1)) := snd_aload_n dX4_passes_0 rfl
theorem s109_1 {l : Launch} {G : KG} : kOpOK l G 109 1 (.inl (g_ild 1 2)) := snd_iload_n dX4_passes_1 rfl
theorem s109_2 {l : Launch} {G : KG} : kOpOK l G 109 2 (.inl (g_push 1 3)) := snd_iconst dX4_passes_2 rfl
theorem s109_3 {l : Launch} {G : KG} : kOpOK l G 109 3 (.inl (g_iop (fun x y => x + y) 4)) := snd_iadd dX4_passes_3
theorem s109_4 {l : Launch} {G : KG} : kOpOK l G 109 4 (.inr (.inl (107, 2, 7))) := ⟨snd_callV (c := 4) dX4_passes_4 rfl mok_107 rfl rfl rfl rfl (by decide) rfl wM_4_109 wN_X4_collected wL_X4_collected wI_4 (by decide), rfl, mok_107⟩
theorem s109_7 {l : Launch} {G : KG} : kOpOK l G 109 7 (.inl (g_i2l 8)) := snd_i2l dX4_passes_7
theorem s109_8 {l : Launch} {G : KG} : kOpOK l G 109 8 (.inl (g_pushl 1000 11)) := snd_ldc2 dX4_passes_8 wK_4_107
theorem s109_11 {l : Launch} {G : KG} : kOpOK l G 109 11 (.inl (g_lop (fun x y => x * y) 12)) := snd_lmul dX4_passes_11
theorem s109_12 {l : Launch} {G : KG} : kOpOK l G 109 12 (.inl (g_ald 0 13)) := snd_aload_n dX4_passes_12 rfl
theorem s109_13 {l : Launch} {G : KG} : kOpOK l G 109 13 (.inl (g_push 0 14)) := snd_iconst dX4_passes_13 rfl
theorem s109_14 {l : Launch} {G : KG} : kOpOK l G 109 14 (.inr (.inl (107, 2, 17))) := ⟨snd_callV (c := 4) dX4_passes_14 rfl mok_107 rfl rfl rfl rfl (by decide) rfl wM_4_109 wN_X4_collected wL_X4_collected wI_4 (by decide), rfl, mok_107⟩
theorem s109_17 {l : Launch} {G : KG} : kOpOK l G 109 17 (.inl (g_i2l 18)) := snd_i2l dX4_passes_17
theorem s109_18 {l : Launch} {G : KG} : kOpOK l G 109 18 (.inl (g_ldiv 19)) := snd_ldiv dX4_passes_18
theorem s109_19 {l : Launch} {G : KG} : kOpOK l G 109 19 (.inl (g_l2i 20)) := snd_l2i dX4_passes_19
theorem s109_20 {l : Launch} {G : KG} : kOpOK l G 109 20 (.inr (.inr 1)) := ⟨rfl, Or.inr (Or.inl ⟨rfl, dX4_passes_20, rfl⟩)⟩
theorem s110_0 {l : Launch} {G : KG} : kOpOK l G 110 0 (.inl (g_ald 0 1)) := snd_aload_n dX4_passing_0 rfl
theorem s110_1 {l : Launch} {G : KG} : kOpOK l G 110 1 (.inl (g_ild 1 2)) := snd_iload_n dX4_passing_1 rfl
theorem s110_2 {l : Launch} {G : KG} : kOpOK l G 110 2 (.inr (.inl (94, 2, 5))) := ⟨snd_callV (c := 4) dX4_passing_2 rfl mok_94 rfl rfl rfl rfl (by decide) rfl wM_4_76 wN_X4_isSieve wL_X4_isSieve wI_4 (by decide), rfl, mok_94⟩
theorem s110_5 {l : Launch} {G : KG} : kOpOK l G 110 5 (.inl (g_br1 (fun x => decide (¬ x = 0)) 12 8)) := snd_if_ne dX4_passing_5 (by decide)
theorem s110_8 {l : Launch} {G : KG} : kOpOK l G 110 8 (.inl (g_push (-1) 9)) := snd_iconst dX4_passing_8 rfl
theorem s110_9 {l : Launch} {G : KG} : kOpOK l G 110 9 (.inl (g_goto 29)) := snd_goto dX4_passing_9 (by decide)
theorem s110_12 {l : Launch} {G : KG} : kOpOK l G 110 12 (.inl (g_ald 0 13)) := snd_aload_n dX4_passing_12 rfl
theorem s110_13 {l : Launch} {G : KG} : kOpOK l G 110 13 (.inr (.inl (108, 1, 16))) := ⟨snd_callV (c := 4) dX4_passing_13 rfl mok_108 rfl rfl rfl rfl (by decide) rfl wM_4_112 wN_X4_isTold wL_X4_isTold wI_4 (by decide), rfl, mok_108⟩
theorem s110_16 {l : Launch} {G : KG} : kOpOK l G 110 16 (.inl (g_br1 (fun x => decide (x = 0)) 27 19)) := snd_if_eq dX4_passing_16 (by decide)
theorem s110_19 {l : Launch} {G : KG} : kOpOK l G 110 19 (.inl (g_ald 0 20)) := snd_aload_n dX4_passing_19 rfl
theorem s110_20 {l : Launch} {G : KG} : kOpOK l G 110 20 (.inl (g_ild 1 21)) := snd_iload_n dX4_passing_20 rfl
theorem s110_21 {l : Launch} {G : KG} : kOpOK l G 110 21 (.inr (.inl (109, 2, 24))) := ⟨snd_callV (c := 4) dX4_passing_21 rfl mok_109 rfl rfl rfl rfl (by decide) rfl wM_4_115 wN_X4_passes wL_X4_passes wI_4 (by decide), rfl, mok_109⟩
theorem s110_24 {l : Launch} {G : KG} : kOpOK l G 110 24 (.inl (g_goto 29)) := snd_goto dX4_passing_24 (by decide)
theorem s110_27 {l : Launch} {G : KG} : kOpOK l G 110 27 (.inl (g_push (-2) 29)) := snd_bipush dX4_passing_27 rfl
theorem s110_29 {l : Launch} {G : KG} : kOpOK l G 110 29 (.inr (.inr 1)) := ⟨rfl, Or.inr (Or.inl ⟨rfl, dX4_passing_29, rfl⟩)⟩
theorem s111_0 {l : Launch} {G : KG} : kOpOK l G 111 0 (.inl (g_ald 0 1)) := snd_aload_n dX4_misses_0 rfl
theorem s111_1 {l : Launch} {G : KG} : kOpOK l G 111 1 (.inr (.inl (108, 1, 4))) := ⟨snd_callV (c := 4) dX4_misses_1 rfl mok_108 rfl rfl rfl rfl (by decide) rfl wM_4_112 wN_X4_isTold wL_X4_isTold wI_4 (by decide), rfl, mok_108⟩
theorem s111_4 {l : Launch} {G : KG} : kOpOK l G 111 4 (.inl (g_br1 (fun x => decide (¬ x = 0)) 10 7)) := snd_if_ne dX4_misses_4 (by decide)
theorem s111_7 {l : Launch} {G : KG} : kOpOK l G 111 7 (.inl (g_push (-2) 9)) := snd_bipush dX4_misses_7 rfl
theorem s111_9 {l : Launch} {G : KG} : kOpOK l G 111 9 (.inr (.inr 1)) := ⟨rfl, Or.inr (Or.inl ⟨rfl, dX4_misses_9, rfl⟩)⟩
theorem s111_10 {l : Launch} {G : KG} : kOpOK l G 111 10 (.inl (g_push 0 11)) := snd_iconst dX4_misses_10 rfl
theorem s111_11 {l : Launch} {G : KG} : kOpOK l G 111 11 (.inl (g_ist 1 12)) := snd_istore_n dX4_misses_11 rfl
theorem s111_12 {l : Launch} {G : KG} : kOpOK l G 111 12 (.inl (g_push 0 13)) := snd_iconst dX4_misses_12 rfl
theorem s111_13 {l : Launch} {G : KG} : kOpOK l G 111 13 (.inl (g_ist 2 14)) := snd_istore_n dX4_misses_13 rfl
theorem s111_14 {l : Launch} {G : KG} : kOpOK l G 111 14 (.inl (g_ild 2 15)) := snd_iload_n dX4_misses_14 rfl
theorem s111_15 {l : Launch} {G : KG} : kOpOK l G 111 15 (.inl (g_ald 0 16)) := snd_aload_n dX4_misses_15 rfl
theorem s111_16 {l : Launch} {G : KG} : kOpOK l G 111 16 (.inl (g_gfr 4 0 19)) := snd_gfr (c := 4) (j := 0) (N := 8) dX4_misses_16 rfl hin4 (by decide) rfl (by decide) rfl wF_4_7
theorem s111_19 {l : Launch} {G : KG} : kOpOK l G 111 19 (.inl (g_push 24 21)) := snd_bipush dX4_misses_19 rfl
theorem s111_21 {l : Launch} {G : KG} : kOpOK l G 111 21 (.inl (g_pald 5 22)) := snd_pald5 dX4_misses_21
theorem s111_22 {l : Launch} {G : KG} : kOpOK l G 111 22 (.inl (g_br2 (fun x y => decide (y ≤ x)) 81 25)) := snd_icmp_ge dX4_misses_22 (by decide)
theorem s111_25 {l : Launch} {G : KG} : kOpOK l G 111 25 (.inl (g_push 31 27)) := snd_bipush dX4_misses_25 rfl
theorem s111_27 {l : Launch} {G : KG} : kOpOK l G 111 27 (.inl (g_push 2 28)) := snd_iconst dX4_misses_27 rfl
theorem s111_28 {l : Launch} {G : KG} : kOpOK l G 111 28 (.inl (g_ald 0 29)) := snd_aload_n dX4_misses_28 rfl
theorem s111_29 {l : Launch} {G : KG} : kOpOK l G 111 29 (.inl (g_gfr 4 0 32)) := snd_gfr (c := 4) (j := 0) (N := 8) dX4_misses_29 rfl hin4 (by decide) rfl (by decide) rfl wF_4_7
theorem s111_32 {l : Launch} {G : KG} : kOpOK l G 111 32 (.inl (g_push 25 34)) := snd_bipush dX4_misses_32 rfl
theorem s111_34 {l : Launch} {G : KG} : kOpOK l G 111 34 (.inl (g_ild 2 35)) := snd_iload_n dX4_misses_34 rfl
theorem s111_35 {l : Launch} {G : KG} : kOpOK l G 111 35 (.inl (g_iop (fun x y => x + y) 36)) := snd_iadd dX4_misses_35
theorem s111_36 {l : Launch} {G : KG} : kOpOK l G 111 36 (.inl (g_pald 5 37)) := snd_pald5 dX4_misses_36
theorem s111_37 {l : Launch} {G : KG} : kOpOK l G 111 37 (.inl (g_iop (fun x y => x * y) 38)) := snd_imul dX4_misses_37
theorem s111_38 {l : Launch} {G : KG} : kOpOK l G 111 38 (.inl (g_iop (fun x y => x + y) 39)) := snd_iadd dX4_misses_38
theorem s111_39 {l : Launch} {G : KG} : kOpOK l G 111 39 (.inl (g_push 2 40)) := snd_iconst dX4_misses_39 rfl
theorem s111_40 {l : Launch} {G : KG} : kOpOK l G 111 40 (.inl (g_iop (fun x y => x - y) 41)) := snd_isub dX4_misses_40
theorem s111_41 {l : Launch} {G : KG} : kOpOK l G 111 41 (.inl (g_ist 3 42)) := snd_istore_n dX4_misses_41 rfl
theorem s111_42 {l : Launch} {G : KG} : kOpOK l G 111 42 (.inl (g_ild 1 43)) := snd_iload_n dX4_misses_42 rfl
theorem s111_43 {l : Launch} {G : KG} : kOpOK l G 111 43 (.inl (g_ald 0 44)) := snd_aload_n dX4_misses_43 rfl
theorem s111_44 {l : Launch} {G : KG} : kOpOK l G 111 44 (.inl (g_ild 2 45)) := snd_iload_n dX4_misses_44 rfl
theorem s111_45 {l : Launch} {G : KG} : kOpOK l G 111 45 (.inr (.inl (109, 2, 48))) := ⟨snd_callV (c := 4) dX4_misses_45 rfl mok_109 rfl rfl rfl rfl (by decide) rfl wM_4_115 wN_X4_passes wL_X4_passes wI_4 (by decide), rfl, mok_109⟩
theorem s111_48 {l : Launch} {G : KG} : kOpOK l G 111 48 (.inl (g_ald 0 49)) := snd_aload_n dX4_misses_48 rfl
theorem s111_49 {l : Launch} {G : KG} : kOpOK l G 111 49 (.inl (g_gfr 4 0 52)) := snd_gfr (c := 4) (j := 0) (N := 8) dX4_misses_49 rfl hin4 (by decide) rfl (by decide) rfl wF_4_7
theorem s111_52 {l : Launch} {G : KG} : kOpOK l G 111 52 (.inl (g_ild 3 53)) := snd_iload_n dX4_misses_52 rfl
theorem s111_53 {l : Launch} {G : KG} : kOpOK l G 111 53 (.inl (g_pald 5 54)) := snd_pald5 dX4_misses_53
theorem s111_54 {l : Launch} {G : KG} : kOpOK l G 111 54 (.inl (g_ald 0 55)) := snd_aload_n dX4_misses_54 rfl
theorem s111_55 {l : Launch} {G : KG} : kOpOK l G 111 55 (.inl (g_gfr 4 0 58)) := snd_gfr (c := 4) (j := 0) (N := 8) dX4_misses_55 rfl hin4 (by decide) rfl (by decide) rfl wF_4_7
theorem s111_58 {l : Launch} {G : KG} : kOpOK l G 111 58 (.inl (g_ild 3 59)) := snd_iload_n dX4_misses_58 rfl
theorem s111_59 {l : Launch} {G : KG} : kOpOK l G 111 59 (.inl (g_push 1 60)) := snd_iconst dX4_misses_59 rfl
theorem s111_60 {l : Launch} {G : KG} : kOpOK l G 111 60 (.inl (g_iop (fun x y => x + y) 61)) := snd_iadd dX4_misses_60
theorem s111_61 {l : Launch} {G : KG} : kOpOK l G 111 61 (.inl (g_pald 5 62)) := snd_pald5 dX4_misses_61
theorem s111_62 {l : Launch} {G : KG} : kOpOK l G 111 62 (.inr (.inl (66, 3, 65))) := ⟨snd_callS dX4_misses_62 rfl mok_66 rfl rfl rfl wM_4_30 wS_X4_in wI_4 (by decide), rfl, mok_66⟩
theorem s111_65 {l : Launch} {G : KG} : kOpOK l G 111 65 (.inl (g_br1 (fun x => decide (x = 0)) 72 68)) := snd_if_eq dX4_misses_65 (by decide)
theorem s111_68 {l : Launch} {G : KG} : kOpOK l G 111 68 (.inl (g_push 0 69)) := snd_iconst dX4_misses_68 rfl
theorem s111_69 {l : Launch} {G : KG} : kOpOK l G 111 69 (.inl (g_goto 73)) := snd_goto dX4_misses_69 (by decide)
theorem s111_72 {l : Launch} {G : KG} : kOpOK l G 111 72 (.inl (g_push 1 73)) := snd_iconst dX4_misses_72 rfl
theorem s111_73 {l : Launch} {G : KG} : kOpOK l G 111 73 (.inl (g_iop (fun x y => x + y) 74)) := snd_iadd dX4_misses_73
theorem s111_74 {l : Launch} {G : KG} : kOpOK l G 111 74 (.inl (g_ist 1 75)) := snd_istore_n dX4_misses_74 rfl
theorem s111_75 {l : Launch} {G : KG} : kOpOK l G 111 75 (.inl (g_iinc 2 1 78)) := snd_iinc dX4_misses_75 rfl
theorem s111_78 {l : Launch} {G : KG} : kOpOK l G 111 78 (.inl (g_goto 14)) := snd_goto dX4_misses_78 (by decide)
theorem s111_81 {l : Launch} {G : KG} : kOpOK l G 111 81 (.inl (g_ild 1 82)) := snd_iload_n dX4_misses_81 rfl
theorem s111_82 {l : Launch} {G : KG} : kOpOK l G 111 82 (.inr (.inr 1)) := ⟨rfl, Or.inr (Or.inl ⟨rfl, dX4_misses_82, rfl⟩)⟩
theorem s112_0 {l : Launch} {G : KG} : kOpOK l G 112 0 (.inl (g_ald 0 1)) := snd_aload_n dX4_modulus_0 rfl
theorem s112_1 {l : Launch} {G : KG} : kOpOK l G 112 1 (.inr (.inl (108, 1, 4))) := ⟨snd_callV (c := 4) dX4_modulus_1 rfl mok_108 rfl rfl rfl rfl (by decide) rfl wM_4_112 wN_X4_isTold wL_X4_isTold wI_4 (by decide), rfl, mok_108⟩
theorem s112_4 {l : Launch} {G : KG} : kOpOK l G 112 4 (.inl (g_br1 (fun x => decide (¬ x = 0)) 10 7)) := snd_if_ne dX4_modulus_4 (by decide)
theorem s112_7 {l : Launch} {G : KG} : kOpOK l G 112 7 (.inl (g_push (-2) 9)) := snd_bipush dX4_modulus_7 rfl
theorem s112_9 {l : Launch} {G : KG} : kOpOK l G 112 9 (.inr (.inr 1)) := ⟨rfl, Or.inr (Or.inl ⟨rfl, dX4_modulus_9, rfl⟩)⟩
theorem s112_10 {l : Launch} {G : KG} : kOpOK l G 112 10 (.inl (g_push 0 11)) := snd_iconst dX4_modulus_10 rfl
theorem s112_11 {l : Launch} {G : KG} : kOpOK l G 112 11 (.inl (g_ist 1 12)) := snd_istore_n dX4_modulus_11 rfl
theorem s112_12 {l : Launch} {G : KG} : kOpOK l G 112 12 (.inl (g_push 0 13)) := snd_iconst dX4_modulus_12 rfl
theorem s112_13 {l : Launch} {G : KG} : kOpOK l G 112 13 (.inl (g_ist 2 14)) := snd_istore_n dX4_modulus_13 rfl
theorem s112_14 {l : Launch} {G : KG} : kOpOK l G 112 14 (.inl (g_ild 2 15)) := snd_iload_n dX4_modulus_14 rfl
theorem s112_15 {l : Launch} {G : KG} : kOpOK l G 112 15 (.inl (g_ald 0 16)) := snd_aload_n dX4_modulus_15 rfl
theorem s112_16 {l : Launch} {G : KG} : kOpOK l G 112 16 (.inl (g_gfr 4 0 19)) := snd_gfr (c := 4) (j := 0) (N := 8) dX4_modulus_16 rfl hin4 (by decide) rfl (by decide) rfl wF_4_7
theorem s112_19 {l : Launch} {G : KG} : kOpOK l G 112 19 (.inl (g_push 24 21)) := snd_bipush dX4_modulus_19 rfl
theorem s112_21 {l : Launch} {G : KG} : kOpOK l G 112 21 (.inl (g_pald 5 22)) := snd_pald5 dX4_modulus_21
theorem s112_22 {l : Launch} {G : KG} : kOpOK l G 112 22 (.inl (g_br2 (fun x y => decide (y ≤ x)) 43 25)) := snd_icmp_ge dX4_modulus_22 (by decide)
theorem s112_25 {l : Launch} {G : KG} : kOpOK l G 112 25 (.inl (g_ild 1 26)) := snd_iload_n dX4_modulus_25 rfl
theorem s112_26 {l : Launch} {G : KG} : kOpOK l G 112 26 (.inl (g_push 1000 29)) := snd_sipush dX4_modulus_26 rfl
theorem s112_29 {l : Launch} {G : KG} : kOpOK l G 112 29 (.inl (g_ald 0 30)) := snd_aload_n dX4_modulus_29 rfl
theorem s112_30 {l : Launch} {G : KG} : kOpOK l G 112 30 (.inl (g_ild 2 31)) := snd_iload_n dX4_modulus_30 rfl
theorem s112_31 {l : Launch} {G : KG} : kOpOK l G 112 31 (.inr (.inl (109, 2, 34))) := ⟨snd_callV (c := 4) dX4_modulus_31 rfl mok_109 rfl rfl rfl rfl (by decide) rfl wM_4_115 wN_X4_passes wL_X4_passes wI_4 (by decide), rfl, mok_109⟩
theorem s112_34 {l : Launch} {G : KG} : kOpOK l G 112 34 (.inl (g_iop (fun x y => x - y) 35)) := snd_isub dX4_modulus_34
theorem s112_35 {l : Launch} {G : KG} : kOpOK l G 112 35 (.inl (g_iop (fun x y => x + y) 36)) := snd_iadd dX4_modulus_35
theorem s112_36 {l : Launch} {G : KG} : kOpOK l G 112 36 (.inl (g_ist 1 37)) := snd_istore_n dX4_modulus_36 rfl
theorem s112_37 {l : Launch} {G : KG} : kOpOK l G 112 37 (.inl (g_iinc 2 1 40)) := snd_iinc dX4_modulus_37 rfl
theorem s112_40 {l : Launch} {G : KG} : kOpOK l G 112 40 (.inl (g_goto 14)) := snd_goto dX4_modulus_40 (by decide)
theorem s112_43 {l : Launch} {G : KG} : kOpOK l G 112 43 (.inl (g_ild 1 44)) := snd_iload_n dX4_modulus_43 rfl
theorem s112_44 {l : Launch} {G : KG} : kOpOK l G 112 44 (.inl (g_push 10 46)) := snd_bipush dX4_modulus_44 rfl
theorem s112_46 {l : Launch} {G : KG} : kOpOK l G 112 46 (.inl (g_idiv (fun x y => x / y) 47)) := snd_idiv dX4_modulus_46
theorem s112_47 {l : Launch} {G : KG} : kOpOK l G 112 47 (.inr (.inr 1)) := ⟨rfl, Or.inr (Or.inl ⟨rfl, dX4_modulus_47, rfl⟩)⟩
theorem s113_0 {l : Launch} {G : KG} : kOpOK l G 113 0 (.inl (g_ild 1 1)) := snd_iload_n dX4_truePassing_0 rfl
theorem s113_1 {l : Launch} {G : KG} : kOpOK l G 113 1 (.inl (g_push 1 2)) := snd_iconst dX4_truePassing_1 rfl
theorem s113_2 {l : Launch} {G : KG} : kOpOK l G 113 2 (.inl (g_push 9 4)) := snd_bipush dX4_truePassing_2 rfl
theorem s113_4 {l : Launch} {G : KG} : kOpOK l G 113 4 (.inr (.inl (66, 3, 7))) := ⟨snd_callS dX4_truePassing_4 rfl mok_66 rfl rfl rfl wM_4_30 wS_X4_in wI_4 (by decide), rfl, mok_66⟩
theorem s113_7 {l : Launch} {G : KG} : kOpOK l G 113 7 (.inl (g_br1 (fun x => decide (¬ x = 0)) 12 10)) := snd_if_ne dX4_truePassing_7 (by decide)
theorem s113_10 {l : Launch} {G : KG} : kOpOK l G 113 10 (.inl (g_push (-1) 11)) := snd_iconst dX4_truePassing_10 rfl
theorem s113_11 {l : Launch} {G : KG} : kOpOK l G 113 11 (.inr (.inr 1)) := ⟨rfl, Or.inr (Or.inl ⟨rfl, dX4_truePassing_11, rfl⟩)⟩
theorem s113_12 {l : Launch} {G : KG} : kOpOK l G 113 12 (.inl (g_ald 0 13)) := snd_aload_n dX4_truePassing_12 rfl
theorem s113_13 {l : Launch} {G : KG} : kOpOK l G 113 13 (.inl (g_push 0 14)) := snd_iconst dX4_truePassing_13 rfl
theorem s113_14 {l : Launch} {G : KG} : kOpOK l G 113 14 (.inr (.inl (69, 2, 17))) := ⟨snd_callV (c := 4) dX4_truePassing_14 rfl mok_69 rfl rfl rfl rfl (by decide) rfl wM_4_37 wN_X4_sum wL_X4_sum wI_4 (by decide), rfl, mok_69⟩
theorem s113_17 {l : Launch} {G : KG} : kOpOK l G 113 17 (.inl (g_ist 2 18)) := snd_istore_n dX4_truePassing_17 rfl
theorem s113_18 {l : Launch} {G : KG} : kOpOK l G 113 18 (.inl (g_ild 2 19)) := snd_iload_n dX4_truePassing_18 rfl
theorem s113_19 {l : Launch} {G : KG} : kOpOK l G 113 19 (.inl (g_br1 (fun x => decide (¬ x = 0)) 25 22)) := snd_if_ne dX4_truePassing_19 (by decide)
theorem s113_22 {l : Launch} {G : KG} : kOpOK l G 113 22 (.inl (g_push (-2) 24)) := snd_bipush dX4_truePassing_22 rfl
theorem s113_24 {l : Launch} {G : KG} : kOpOK l G 113 24 (.inr (.inr 1)) := ⟨rfl, Or.inr (Or.inl ⟨rfl, dX4_truePassing_24, rfl⟩)⟩
theorem s113_25 {l : Launch} {G : KG} : kOpOK l G 113 25 (.inl (g_pushl 0 26)) := snd_lconst dX4_truePassing_25 rfl
theorem s113_26 {l : Launch} {G : KG} : kOpOK l G 113 26 (.inl (g_lst 3 27)) := snd_lstore_n dX4_truePassing_26 rfl
theorem s113_27 {l : Launch} {G : KG} : kOpOK l G 113 27 (.inl (g_push 0 28)) := snd_iconst dX4_truePassing_27 rfl
theorem s113_28 {l : Launch} {G : KG} : kOpOK l G 113 28 (.inl (g_ist 5 30)) := snd_istore dX4_truePassing_28
theorem s113_30 {l : Launch} {G : KG} : kOpOK l G 113 30 (.inl (g_ild 5 32)) := snd_iload dX4_truePassing_30
theorem s113_32 {l : Launch} {G : KG} : kOpOK l G 113 32 (.inl (g_ild 1 33)) := snd_iload_n dX4_truePassing_32 rfl
theorem s113_33 {l : Launch} {G : KG} : kOpOK l G 113 33 (.inl (g_br2 (fun x y => decide (y ≤ x)) 55 36)) := snd_icmp_ge dX4_truePassing_33 (by decide)
theorem s113_36 {l : Launch} {G : KG} : kOpOK l G 113 36 (.inl (g_lld 3 37)) := snd_lload_n dX4_truePassing_36 rfl
theorem s113_37 {l : Launch} {G : KG} : kOpOK l G 113 37 (.inl (g_ald 0 38)) := snd_aload_n dX4_truePassing_37 rfl
theorem s113_38 {l : Launch} {G : KG} : kOpOK l G 113 38 (.inl (g_gfr 4 0 41)) := snd_gfr (c := 4) (j := 0) (N := 8) dX4_truePassing_38 rfl hin4 (by decide) rfl (by decide) rfl wF_4_7
theorem s113_41 {l : Launch} {G : KG} : kOpOK l G 113 41 (.inl (g_push 0 42)) := snd_iconst dX4_truePassing_41 rfl
theorem s113_42 {l : Launch} {G : KG} : kOpOK l G 113 42 (.inl (g_ild 5 44)) := snd_iload dX4_truePassing_42
theorem s113_44 {l : Launch} {G : KG} : kOpOK l G 113 44 (.inl (g_iop (fun x y => x + y) 45)) := snd_iadd dX4_truePassing_44
theorem s113_45 {l : Launch} {G : KG} : kOpOK l G 113 45 (.inl (g_pald 5 46)) := snd_pald5 dX4_truePassing_45
theorem s113_46 {l : Launch} {G : KG} : kOpOK l G 113 46 (.inl (g_i2l 47)) := snd_i2l dX4_truePassing_46
theorem s113_47 {l : Launch} {G : KG} : kOpOK l G 113 47 (.inl (g_lop (fun x y => x + y) 48)) := snd_ladd dX4_truePassing_47
theorem s113_48 {l : Launch} {G : KG} : kOpOK l G 113 48 (.inl (g_lst 3 49)) := snd_lstore_n dX4_truePassing_48 rfl
theorem s113_49 {l : Launch} {G : KG} : kOpOK l G 113 49 (.inl (g_iinc 5 1 52)) := snd_iinc dX4_truePassing_49 rfl
theorem s113_52 {l : Launch} {G : KG} : kOpOK l G 113 52 (.inl (g_goto 30)) := snd_goto dX4_truePassing_52 (by decide)
theorem s113_55 {l : Launch} {G : KG} : kOpOK l G 113 55 (.inl (g_lld 3 56)) := snd_lload_n dX4_truePassing_55 rfl
theorem s113_56 {l : Launch} {G : KG} : kOpOK l G 113 56 (.inl (g_pushl 1000 59)) := snd_ldc2 dX4_truePassing_56 wK_4_107
theorem s113_59 {l : Launch} {G : KG} : kOpOK l G 113 59 (.inl (g_lop (fun x y => x * y) 60)) := snd_lmul dX4_truePassing_59
theorem s113_60 {l : Launch} {G : KG} : kOpOK l G 113 60 (.inl (g_ild 2 61)) := snd_iload_n dX4_truePassing_60 rfl
theorem s113_61 {l : Launch} {G : KG} : kOpOK l G 113 61 (.inl (g_i2l 62)) := snd_i2l dX4_truePassing_61
theorem s113_62 {l : Launch} {G : KG} : kOpOK l G 113 62 (.inl (g_ldiv 63)) := snd_ldiv dX4_truePassing_62
theorem s113_63 {l : Launch} {G : KG} : kOpOK l G 113 63 (.inl (g_l2i 64)) := snd_l2i dX4_truePassing_63
theorem s113_64 {l : Launch} {G : KG} : kOpOK l G 113 64 (.inr (.inr 1)) := ⟨rfl, Or.inr (Or.inl ⟨rfl, dX4_truePassing_64, rfl⟩)⟩
theorem s114_0 {l : Launch} {G : KG} : kOpOK l G 114 0 (.inl (g_push 0 1)) := snd_iconst dX4_keeps_0 rfl
theorem s114_1 {l : Launch} {G : KG} : kOpOK l G 114 1 (.inl (g_ist 1 2)) := snd_istore_n dX4_keeps_1 rfl
theorem s114_2 {l : Launch} {G : KG} : kOpOK l G 114 2 (.inl (g_ild 1 3)) := snd_iload_n dX4_keeps_2 rfl
theorem s114_3 {l : Launch} {G : KG} : kOpOK l G 114 3 (.inl (g_push 137 6)) := snd_sipush dX4_keeps_3 rfl
theorem s114_6 {l : Launch} {G : KG} : kOpOK l G 114 6 (.inl (g_br2 (fun x y => decide (y ≤ x)) 27 9)) := snd_icmp_ge dX4_keeps_6 (by decide)
theorem s114_9 {l : Launch} {G : KG} : kOpOK l G 114 9 (.inl (g_ald 0 10)) := snd_aload_n dX4_keeps_9 rfl
theorem s114_10 {l : Launch} {G : KG} : kOpOK l G 114 10 (.inl (g_gfr 4 5 13)) := snd_gfr (c := 4) (j := 5) (N := 8) dX4_keeps_10 rfl hin4 (by decide) rfl (by decide) rfl wF_4_20
theorem s114_13 {l : Launch} {G : KG} : kOpOK l G 114 13 (.inl (g_ild 1 14)) := snd_iload_n dX4_keeps_13 rfl
theorem s114_14 {l : Launch} {G : KG} : kOpOK l G 114 14 (.inl (g_ald 0 15)) := snd_aload_n dX4_keeps_14 rfl
theorem s114_15 {l : Launch} {G : KG} : kOpOK l G 114 15 (.inl (g_gfr 4 0 18)) := snd_gfr (c := 4) (j := 0) (N := 8) dX4_keeps_15 rfl hin4 (by decide) rfl (by decide) rfl wF_4_7
theorem s114_18 {l : Launch} {G : KG} : kOpOK l G 114 18 (.inl (g_ild 1 19)) := snd_iload_n dX4_keeps_18 rfl
theorem s114_19 {l : Launch} {G : KG} : kOpOK l G 114 19 (.inl (g_pald 5 20)) := snd_pald5 dX4_keeps_19
theorem s114_20 {l : Launch} {G : KG} : kOpOK l G 114 20 (.inl (g_past 5 21)) := snd_past5 dX4_keeps_20
theorem s114_21 {l : Launch} {G : KG} : kOpOK l G 114 21 (.inl (g_iinc 1 1 24)) := snd_iinc dX4_keeps_21 rfl
theorem s114_24 {l : Launch} {G : KG} : kOpOK l G 114 24 (.inl (g_goto 2)) := snd_goto dX4_keeps_24 (by decide)
theorem s114_27 {l : Launch} {G : KG} : kOpOK l G 114 27 (.inr (.inr 0)) := ⟨rfl, Or.inl ⟨rfl, dX4_keeps_27, rfl⟩⟩
theorem s115_0 {l : Launch} {G : KG} : kOpOK l G 115 0 (.inl (g_push 0 1)) := snd_iconst dX4_restores_0 rfl
theorem s115_1 {l : Launch} {G : KG} : kOpOK l G 115 1 (.inl (g_ist 1 2)) := snd_istore_n dX4_restores_1 rfl
theorem s115_2 {l : Launch} {G : KG} : kOpOK l G 115 2 (.inl (g_ild 1 3)) := snd_iload_n dX4_restores_2 rfl
theorem s115_3 {l : Launch} {G : KG} : kOpOK l G 115 3 (.inl (g_push 137 6)) := snd_sipush dX4_restores_3 rfl
theorem s115_6 {l : Launch} {G : KG} : kOpOK l G 115 6 (.inl (g_br2 (fun x y => decide (y ≤ x)) 27 9)) := snd_icmp_ge dX4_restores_6 (by decide)
theorem s115_9 {l : Launch} {G : KG} : kOpOK l G 115 9 (.inl (g_ald 0 10)) := snd_aload_n dX4_restores_9 rfl
theorem s115_10 {l : Launch} {G : KG} : kOpOK l G 115 10 (.inl (g_gfr 4 0 13)) := snd_gfr (c := 4) (j := 0) (N := 8) dX4_restores_10 rfl hin4 (by decide) rfl (by decide) rfl wF_4_7
theorem s115_13 {l : Launch} {G : KG} : kOpOK l G 115 13 (.inl (g_ild 1 14)) := snd_iload_n dX4_restores_13 rfl
theorem s115_14 {l : Launch} {G : KG} : kOpOK l G 115 14 (.inl (g_ald 0 15)) := snd_aload_n dX4_restores_14 rfl
theorem s115_15 {l : Launch} {G : KG} : kOpOK l G 115 15 (.inl (g_gfr 4 5 18)) := snd_gfr (c := 4) (j := 5) (N := 8) dX4_restores_15 rfl hin4 (by decide) rfl (by decide) rfl wF_4_20
theorem s115_18 {l : Launch} {G : KG} : kOpOK l G 115 18 (.inl (g_ild 1 19)) := snd_iload_n dX4_restores_18 rfl
theorem s115_19 {l : Launch} {G : KG} : kOpOK l G 115 19 (.inl (g_pald 5 20)) := snd_pald5 dX4_restores_19
theorem s115_20 {l : Launch} {G : KG} : kOpOK l G 115 20 (.inl (g_past 5 21)) := snd_past5 dX4_restores_20
theorem s115_21 {l : Launch} {G : KG} : kOpOK l G 115 21 (.inl (g_iinc 1 1 24)) := snd_iinc dX4_restores_21 rfl
theorem s115_24 {l : Launch} {G : KG} : kOpOK l G 115 24 (.inl (g_goto 2)) := snd_goto dX4_restores_24 (by decide)
theorem s115_27 {l : Launch} {G : KG} : kOpOK l G 115 27 (.inr (.inr 0)) := ⟨rfl, Or.inl ⟨rfl, dX4_restores_27, rfl⟩⟩
theorem s116_0 {l : Launch} {G : KG} : kOpOK l G 116 0 (.inl (g_ild 1 1)) := snd_iload_n dX4_minutesTo_0 rfl
theorem s116_1 {l : Launch} {G : KG} : kOpOK l G 116 1 (.inl (g_push 1 2)) := snd_iconst dX4_minutesTo_1 rfl
theorem s116_2 {l : Launch} {G : KG} : kOpOK l G 116 2 (.inl (g_push 9999 5)) := snd_sipush dX4_minutesTo_2 rfl
theorem s116_5 {l : Launch} {G : KG} : kOpOK l G 116 5 (.inr (.inl (66, 3, 8))) := ⟨snd_callS dX4_minutesTo_5 rfl mok_66 rfl rfl rfl wM_4_30 wS_X4_in wI_4 (by decide), rfl, mok_66⟩
theorem s116_8 {l : Launch} {G : KG} : kOpOK l G 116 8 (.inl (g_br1 (fun x => decide (¬ x = 0)) 13 11)) := snd_if_ne dX4_minutesTo_8 (by decide)
theorem s116_11 {l : Launch} {G : KG} : kOpOK l G 116 11 (.inl (g_push (-1) 12)) := snd_iconst dX4_minutesTo_11 rfl
theorem s116_12 {l : Launch} {G : KG} : kOpOK l G 116 12 (.inr (.inr 1)) := ⟨rfl, Or.inr (Or.inl ⟨rfl, dX4_minutesTo_12, rfl⟩)⟩
theorem s116_13 {l : Launch} {G : KG} : kOpOK l G 116 13 (.inl (g_ald 0 14)) := snd_aload_n dX4_minutesTo_13 rfl
theorem s116_14 {l : Launch} {G : KG} : kOpOK l G 116 14 (.inl (g_gfr 4 0 17)) := snd_gfr (c := 4) (j := 0) (N := 8) dX4_minutesTo_14 rfl hin4 (by decide) rfl (by decide) rfl wF_4_7
theorem s116_17 {l : Launch} {G : KG} : kOpOK l G 116 17 (.inl (g_push 49 19)) := snd_bipush dX4_minutesTo_17 rfl
theorem s116_19 {l : Launch} {G : KG} : kOpOK l G 116 19 (.inl (g_pald 5 20)) := snd_pald5 dX4_minutesTo_19
theorem s116_20 {l : Launch} {G : KG} : kOpOK l G 116 20 (.inl (g_br1 (fun x => decide (¬ x = 0)) 26 23)) := snd_if_ne dX4_minutesTo_20 (by decide)
theorem s116_23 {l : Launch} {G : KG} : kOpOK l G 116 23 (.inl (g_push (-2) 25)) := snd_bipush dX4_minutesTo_23 rfl
theorem s116_25 {l : Launch} {G : KG} : kOpOK l G 116 25 (.inr (.inr 1)) := ⟨rfl, Or.inr (Or.inl ⟨rfl, dX4_minutesTo_25, rfl⟩)⟩
theorem s116_26 {l : Launch} {G : KG} : kOpOK l G 116 26 (.inl (g_ald 0 27)) := snd_aload_n dX4_minutesTo_26 rfl
theorem s116_27 {l : Launch} {G : KG} : kOpOK l G 116 27 (.inr (.inl (114, 1, 30))) := ⟨snd_callV (c := 4) dX4_minutesTo_27 rfl mok_114 rfl rfl rfl rfl (by decide) rfl wM_4_118 wN_X4_keeps wL_X4_keeps wI_4 (by decide), rfl, mok_114⟩
theorem s116_30 {l : Launch} {G : KG} : kOpOK l G 116 30 (.inl (g_push (-9) 32)) := snd_bipush dX4_minutesTo_30 rfl
theorem s116_32 {l : Launch} {G : KG} : kOpOK l G 116 32 (.inl (g_ist 2 33)) := snd_istore_n dX4_minutesTo_32 rfl
theorem s116_33 {l : Launch} {G : KG} : kOpOK l G 116 33 (.inl (g_push 1 34)) := snd_iconst dX4_minutesTo_33 rfl
theorem s116_34 {l : Launch} {G : KG} : kOpOK l G 116 34 (.inl (g_ist 3 35)) := snd_istore_n dX4_minutesTo_34 rfl
theorem s116_35 {l : Launch} {G : KG} : kOpOK l G 116 35 (.inl (g_ild 3 36)) := snd_iload_n dX4_minutesTo_35 rfl
theorem s116_36 {l : Launch} {G : KG} : kOpOK l G 116 36 (.inl (g_push 500 39)) := snd_sipush dX4_minutesTo_36 rfl
theorem s116_39 {l : Launch} {G : KG} : kOpOK l G 116 39 (.inl (g_br2 (fun x y => decide (y < x)) 69 42)) := snd_icmp_gt dX4_minutesTo_39 (by decide)
theorem s116_42 {l : Launch} {G : KG} : kOpOK l G 116 42 (.inl (g_ild 2 43)) := snd_iload_n dX4_minutesTo_42 rfl
theorem s116_43 {l : Launch} {G : KG} : kOpOK l G 116 43 (.inl (g_push (-9) 45)) := snd_bipush dX4_minutesTo_43 rfl
theorem s116_45 {l : Launch} {G : KG} : kOpOK l G 116 45 (.inl (g_br2 (fun x y => decide (¬ x = y)) 69 48)) := snd_icmp_ne dX4_minutesTo_45 (by decide)
theorem s116_48 {l : Launch} {G : KG} : kOpOK l G 116 48 (.inl (g_ald 0 49)) := snd_aload_n dX4_minutesTo_48 rfl
theorem s116_49 {l : Launch} {G : KG} : kOpOK l G 116 49 (.inr (.inl (100, 1, 52))) := ⟨snd_callV (c := 4) dX4_minutesTo_49 rfl mok_100 rfl rfl rfl rfl (by decide) rfl wM_4_101 wN_X4_minute wL_X4_minute wI_4 (by decide), rfl, mok_100⟩
theorem s116_52 {l : Launch} {G : KG} : kOpOK l G 116 52 (.inl (g_ild 1 53)) := snd_iload_n dX4_minutesTo_52 rfl
theorem s116_53 {l : Launch} {G : KG} : kOpOK l G 116 53 (.inl (g_br2 (fun x y => decide (y ≤ x)) 60 56)) := snd_icmp_ge dX4_minutesTo_53 (by decide)
theorem s116_56 {l : Launch} {G : KG} : kOpOK l G 116 56 (.inl (g_ild 3 57)) := snd_iload_n dX4_minutesTo_56 rfl
theorem s116_57 {l : Launch} {G : KG} : kOpOK l G 116 57 (.inl (g_goto 62)) := snd_goto dX4_minutesTo_57 (by decide)
theorem s116_60 {l : Launch} {G : KG} : kOpOK l G 116 60 (.inl (g_push (-9) 62)) := snd_bipush dX4_minutesTo_60 rfl
theorem s116_62 {l : Launch} {G : KG} : kOpOK l G 116 62 (.inl (g_ist 2 63)) := snd_istore_n dX4_minutesTo_62 rfl
theorem s116_63 {l : Launch} {G : KG} : kOpOK l G 116 63 (.inl (g_iinc 3 1 66)) := snd_iinc dX4_minutesTo_63 rfl
theorem s116_66 {l : Launch} {G : KG} : kOpOK l G 116 66 (.inl (g_goto 35)) := snd_goto dX4_minutesTo_66 (by decide)
theorem s116_69 {l : Launch} {G : KG} : kOpOK l G 116 69 (.inl (g_ald 0 70)) := snd_aload_n dX4_minutesTo_69 rfl
theorem s116_70 {l : Launch} {G : KG} : kOpOK l G 116 70 (.inr (.inl (115, 1, 73))) := ⟨snd_callV (c := 4) dX4_minutesTo_70 rfl mok_115 rfl rfl rfl rfl (by decide) rfl wM_4_121 wN_X4_restores wL_X4_restores wI_4 (by decide), rfl, mok_115⟩
theorem s116_73 {l : Launch} {G : KG} : kOpOK l G 116 73 (.inl (g_ild 2 74)) := snd_iload_n dX4_minutesTo_73 rfl
theorem s116_74 {l : Launch} {G : KG} : kOpOK l G 116 74 (.inr (.inr 1)) := ⟨rfl, Or.inr (Or.inl ⟨rfl, dX4_minutesTo_74, rfl⟩)⟩
theorem s117_0 {l : Launch} {G : KG} : kOpOK l G 117 0 (.inl (g_ild 1 1)) := snd_iload_n dX4_dustIn_0 rfl
theorem s117_1 {l : Launch} {G : KG} : kOpOK l G 117 1 (.inl (g_push 1 2)) := snd_iconst dX4_dustIn_1 rfl
theorem s117_2 {l : Launch} {G : KG} : kOpOK l G 117 2 (.inl (g_push 500 5)) := snd_sipush dX4_dustIn_2 rfl
theorem s117_5 {l : Launch} {G : KG} : kOpOK l G 117 5 (.inr (.inl (66, 3, 8))) := ⟨snd_callS dX4_dustIn_5 rfl mok_66 rfl rfl rfl wM_4_30 wS_X4_in wI_4 (by decide), rfl, mok_66⟩
theorem s117_8 {l : Launch} {G : KG} : kOpOK l G 117 8 (.inl (g_br1 (fun x => decide (¬ x = 0)) 13 11)) := snd_if_ne dX4_dustIn_8 (by decide)
theorem s117_11 {l : Launch} {G : KG} : kOpOK l G 117 11 (.inl (g_push (-1) 12)) := snd_iconst dX4_dustIn_11 rfl
theorem s117_12 {l : Launch} {G : KG} : kOpOK l G 117 12 (.inr (.inr 1)) := ⟨rfl, Or.inr (Or.inl ⟨rfl, dX4_dustIn_12, rfl⟩)⟩
theorem s117_13 {l : Launch} {G : KG} : kOpOK l G 117 13 (.inl (g_ald 0 14)) := snd_aload_n dX4_dustIn_13 rfl
theorem s117_14 {l : Launch} {G : KG} : kOpOK l G 117 14 (.inl (g_gfr 4 0 17)) := snd_gfr (c := 4) (j := 0) (N := 8) dX4_dustIn_14 rfl hin4 (by decide) rfl (by decide) rfl wF_4_7
theorem s117_17 {l : Launch} {G : KG} : kOpOK l G 117 17 (.inl (g_push 49 19)) := snd_bipush dX4_dustIn_17 rfl
theorem s117_19 {l : Launch} {G : KG} : kOpOK l G 117 19 (.inl (g_pald 5 20)) := snd_pald5 dX4_dustIn_19
theorem s117_20 {l : Launch} {G : KG} : kOpOK l G 117 20 (.inl (g_br1 (fun x => decide (¬ x = 0)) 26 23)) := snd_if_ne dX4_dustIn_20 (by decide)
theorem s117_23 {l : Launch} {G : KG} : kOpOK l G 117 23 (.inl (g_push (-2) 25)) := snd_bipush dX4_dustIn_23 rfl
theorem s117_25 {l : Launch} {G : KG} : kOpOK l G 117 25 (.inr (.inr 1)) := ⟨rfl, Or.inr (Or.inl ⟨rfl, dX4_dustIn_25, rfl⟩)⟩
theorem s117_26 {l : Launch} {G : KG} : kOpOK l G 117 26 (.inl (g_ald 0 27)) := snd_aload_n dX4_dustIn_26 rfl
theorem s117_27 {l : Launch} {G : KG} : kOpOK l G 117 27 (.inr (.inl (114, 1, 30))) := ⟨snd_callV (c := 4) dX4_dustIn_27 rfl mok_114 rfl rfl rfl rfl (by decide) rfl wM_4_118 wN_X4_keeps wL_X4_keeps wI_4 (by decide), rfl, mok_114⟩
theorem s117_30 {l : Launch} {G : KG} : kOpOK l G 117 30 (.inl (g_ald 0 31)) := snd_aload_n dX4_dustIn_30 rfl
theorem s117_31 {l : Launch} {G : KG} : kOpOK l G 117 31 (.inr (.inl (104, 1, 34))) := ⟨snd_callV (c := 4) dX4_dustIn_31 rfl mok_104 rfl rfl rfl rfl (by decide) rfl wM_4_104 wN_X4_lost wL_X4_lost wI_4 (by decide), rfl, mok_104⟩
theorem s117_34 {l : Launch} {G : KG} : kOpOK l G 117 34 (.inl (g_ist 2 35)) := snd_istore_n dX4_dustIn_34 rfl
theorem s117_35 {l : Launch} {G : KG} : kOpOK l G 117 35 (.inl (g_push 0 36)) := snd_iconst dX4_dustIn_35 rfl
theorem s117_36 {l : Launch} {G : KG} : kOpOK l G 117 36 (.inl (g_ist 3 37)) := snd_istore_n dX4_dustIn_36 rfl
theorem s117_37 {l : Launch} {G : KG} : kOpOK l G 117 37 (.inl (g_push 0 38)) := snd_iconst dX4_dustIn_37 rfl
theorem s117_38 {l : Launch} {G : KG} : kOpOK l G 117 38 (.inl (g_ist 4 40)) := snd_istore dX4_dustIn_38
theorem s117_40 {l : Launch} {G : KG} : kOpOK l G 117 40 (.inl (g_ild 4 42)) := snd_iload dX4_dustIn_40
theorem s117_42 {l : Launch} {G : KG} : kOpOK l G 117 42 (.inl (g_ild 1 43)) := snd_iload_n dX4_dustIn_42 rfl
theorem s117_43 {l : Launch} {G : KG} : kOpOK l G 117 43 (.inl (g_br2 (fun x y => decide (y ≤ x)) 59 46)) := snd_icmp_ge dX4_dustIn_43 (by decide)
theorem s117_46 {l : Launch} {G : KG} : kOpOK l G 117 46 (.inl (g_ild 3 47)) := snd_iload_n dX4_dustIn_46 rfl
theorem s117_47 {l : Launch} {G : KG} : kOpOK l G 117 47 (.inl (g_ald 0 48)) := snd_aload_n dX4_dustIn_47 rfl
theorem s117_48 {l : Launch} {G : KG} : kOpOK l G 117 48 (.inr (.inl (100, 1, 51))) := ⟨snd_callV (c := 4) dX4_dustIn_48 rfl mok_100 rfl rfl rfl rfl (by decide) rfl wM_4_101 wN_X4_minute wL_X4_minute wI_4 (by decide), rfl, mok_100⟩
theorem s117_51 {l : Launch} {G : KG} : kOpOK l G 117 51 (.inl (g_iop (fun x y => x + y) 52)) := snd_iadd dX4_dustIn_51
theorem s117_52 {l : Launch} {G : KG} : kOpOK l G 117 52 (.inl (g_ist 3 53)) := snd_istore_n dX4_dustIn_52 rfl
theorem s117_53 {l : Launch} {G : KG} : kOpOK l G 117 53 (.inl (g_iinc 4 1 56)) := snd_iinc dX4_dustIn_53 rfl
theorem s117_56 {l : Launch} {G : KG} : kOpOK l G 117 56 (.inl (g_goto 40)) := snd_goto dX4_dustIn_56 (by decide)
theorem s117_59 {l : Launch} {G : KG} : kOpOK l G 117 59 (.inl (g_ald 0 60)) := snd_aload_n dX4_dustIn_59 rfl
theorem s117_60 {l : Launch} {G : KG} : kOpOK l G 117 60 (.inr (.inl (104, 1, 63))) := ⟨snd_callV (c := 4) dX4_dustIn_60 rfl mok_104 rfl rfl rfl rfl (by decide) rfl wM_4_104 wN_X4_lost wL_X4_lost wI_4 (by decide), rfl, mok_104⟩
theorem s117_63 {l : Launch} {G : KG} : kOpOK l G 117 63 (.inl (g_ild 2 64)) := snd_iload_n dX4_dustIn_63 rfl
theorem s117_64 {l : Launch} {G : KG} : kOpOK l G 117 64 (.inl (g_iop (fun x y => x - y) 65)) := snd_isub dX4_dustIn_64
theorem s117_65 {l : Launch} {G : KG} : kOpOK l G 117 65 (.inl (g_ist 4 67)) := snd_istore dX4_dustIn_65
theorem s117_67 {l : Launch} {G : KG} : kOpOK l G 117 67 (.inl (g_ald 0 68)) := snd_aload_n dX4_dustIn_67 rfl
theorem s117_68 {l : Launch} {G : KG} : kOpOK l G 117 68 (.inr (.inl (115, 1, 71))) := ⟨snd_callV (c := 4) dX4_dustIn_68 rfl mok_115 rfl rfl rfl rfl (by decide) rfl wM_4_121 wN_X4_restores wL_X4_restores wI_4 (by decide), rfl, mok_115⟩
theorem s117_71 {l : Launch} {G : KG} : kOpOK l G 117 71 (.inl (g_ild 3 72)) := snd_iload_n dX4_dustIn_71 rfl
theorem s117_72 {l : Launch} {G : KG} : kOpOK l G 117 72 (.inl (g_br1 (fun x => decide (0 ≤ x)) 79 75)) := snd_if_ge dX4_dustIn_72 (by decide)
theorem s117_75 {l : Launch} {G : KG} : kOpOK l G 117 75 (.inl (g_ild 3 76)) := snd_iload_n dX4_dustIn_75 rfl
theorem s117_76 {l : Launch} {G : KG} : kOpOK l G 117 76 (.inl (g_goto 81)) := snd_goto dX4_dustIn_76 (by decide)
theorem s117_79 {l : Launch} {G : KG} : kOpOK l G 117 79 (.inl (g_ild 4 81)) := snd_iload dX4_dustIn_79
theorem s117_81 {l : Launch} {G : KG} : kOpOK l G 117 81 (.inr (.inr 1)) := ⟨rfl, Or.inr (Or.inl ⟨rfl, dX4_dustIn_81, rfl⟩)⟩
