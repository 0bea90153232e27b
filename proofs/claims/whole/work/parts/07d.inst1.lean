theorem s43_94 {l : Launch} {G : KG} : kOpOK l G 43 94 (.inr (.inr 1)) := ⟨rfl, Or.inr (Or.inl ⟨rfl, dX3_tray_94, rfl⟩)⟩
theorem s43_95 {l : Launch} {G : KG} : kOpOK l G 43 95 (.inl (g_push (-1) 96)) := snd_iconst dX3_tray_95 rfl
theorem s43_96 {l : Launch} {G : KG} : kOpOK l G 43 96 (.inr (.inr 1)) := ⟨rfl, Or.inr (Or.inl ⟨rfl, dX3_tray_96, rfl⟩)⟩
theorem s44_0 {l : Launch} {G : KG} : kOpOK l G 44 0 (.inl (g_ald 0 1)) := snd_aload_n dX3_on_0 rfl
theorem s44_1 {l : Launch} {G : KG} : kOpOK l G 44 1 (.inl (g_gfr 3 0 4)) := snd_gfr (c := 3) (j := 0) (N := 6) dX3_on_1 rfl hin3 (by decide) rfl (by decide) rfl wF_3_10
theorem s44_4 {l : Launch} {G : KG} : kOpOK l G 44 4 (.inl (g_ild 1 5)) := snd_iload_n dX3_on_4 rfl
theorem s44_5 {l : Launch} {G : KG} : kOpOK l G 44 5 (.inr (.inl (9, 2, 8))) := ⟨snd_callV (c := 1) dX3_on_5 rfl mok_9 rfl rfl rfl rfl (by decide) rfl wM_3_127 wN_X1_isTray wL_X1_isTray wI_1 (by decide), rfl, mok_9⟩
theorem s44_8 {l : Launch} {G : KG} : kOpOK l G 44 8 (.inl (g_br1 (fun x => decide (x = 0)) 18 11)) := snd_if_eq dX3_on_8 (by decide)
theorem s44_11 {l : Launch} {G : KG} : kOpOK l G 44 11 (.inl (g_ild 2 12)) := snd_iload_n dX3_on_11 rfl
theorem s44_12 {l : Launch} {G : KG} : kOpOK l G 44 12 (.inr (.inl (60, 1, 15))) := ⟨snd_callS dX3_on_12 rfl mok_60 rfl rfl rfl wM_3_30 wS_X3_isClass wI_3 (by decide), rfl, mok_60⟩
theorem s44_15 {l : Launch} {G : KG} : kOpOK l G 44 15 (.inl (g_br1 (fun x => decide (¬ x = 0)) 20 18)) := snd_if_ne dX3_on_15 (by decide)
theorem s44_18 {l : Launch} {G : KG} : kOpOK l G 44 18 (.inl (g_push (-1) 19)) := snd_iconst dX3_on_18 rfl
theorem s44_19 {l : Launch} {G : KG} : kOpOK l G 44 19 (.inr (.inr 1)) := ⟨rfl, Or.inr (Or.inl ⟨rfl, dX3_on_19, rfl⟩)⟩
theorem s44_20 {l : Launch} {G : KG} : kOpOK l G 44 20 (.inl (g_ald 0 21)) := snd_aload_n dX3_on_20 rfl
theorem s44_21 {l : Launch} {G : KG} : kOpOK l G 44 21 (.inl (g_gfr 3 0 24)) := snd_gfr (c := 3) (j := 0) (N := 6) dX3_on_21 rfl hin3 (by decide) rfl (by decide) rfl wF_3_10
theorem s44_24 {l : Launch} {G : KG} : kOpOK l G 44 24 (.inl (g_gfr 1 2 27)) := snd_gfr (c := 1) (j := 2) (N := 14) dX3_on_24 rfl hin1 (by decide) rfl (by decide) rfl wF_3_130
theorem s44_27 {l : Launch} {G : KG} : kOpOK l G 44 27 (.inl (g_ild 1 28)) := snd_iload_n dX3_on_27 rfl
theorem s44_28 {l : Launch} {G : KG} : kOpOK l G 44 28 (.inl (g_aald 9 29)) := snd_aald9 dX3_on_28
theorem s44_29 {l : Launch} {G : KG} : kOpOK l G 44 29 (.inl (g_gfr 2 0 32)) := snd_gfr (c := 2) (j := 0) (N := 4) dX3_on_29 rfl hin2 (by decide) rfl (by decide) rfl wF_3_139
theorem s44_32 {l : Launch} {G : KG} : kOpOK l G 44 32 (.inl (g_ild 2 33)) := snd_iload_n dX3_on_32 rfl
theorem s44_33 {l : Launch} {G : KG} : kOpOK l G 44 33 (.inl (g_pald 5 34)) := snd_pald5 dX3_on_33
theorem s44_34 {l : Launch} {G : KG} : kOpOK l G 44 34 (.inr (.inr 1)) := ⟨rfl, Or.inr (Or.inl ⟨rfl, dX3_on_34, rfl⟩)⟩
theorem s45_0 {l : Launch} {G : KG} : kOpOK l G 45 0 (.inl (g_ald 0 1)) := snd_aload_n dX3_charge_0 rfl
theorem s45_1 {l : Launch} {G : KG} : kOpOK l G 45 1 (.inl (g_gfr 3 0 4)) := snd_gfr (c := 3) (j := 0) (N := 6) dX3_charge_1 rfl hin3 (by decide) rfl (by decide) rfl wF_3_10
theorem s45_4 {l : Launch} {G : KG} : kOpOK l G 45 4 (.inl (g_gfr 1 0 7)) := snd_gfr (c := 1) (j := 0) (N := 14) dX3_charge_4 rfl hin1 (by decide) rfl (by decide) rfl wF_3_41
theorem s45_7 {l : Launch} {G : KG} : kOpOK l G 45 7 (.inr (.inl (62, 1, 10))) := ⟨snd_callS dX3_charge_7 rfl mok_62 rfl rfl rfl wM_3_52 wS_X3_sumOf wI_3 (by decide), rfl, mok_62⟩
theorem s45_10 {l : Launch} {G : KG} : kOpOK l G 45 10 (.inl (g_ist 1 11)) := snd_istore_n dX3_charge_10 rfl
theorem s45_11 {l : Launch} {G : KG} : kOpOK l G 45 11 (.inl (g_ald 0 12)) := snd_aload_n dX3_charge_11 rfl
theorem s45_12 {l : Launch} {G : KG} : kOpOK l G 45 12 (.inl (g_gfr 3 0 15)) := snd_gfr (c := 3) (j := 0) (N := 6) dX3_charge_12 rfl hin3 (by decide) rfl (by decide) rfl wF_3_10
theorem s45_15 {l : Launch} {G : KG} : kOpOK l G 45 15 (.inl (g_gfi 1 5 18)) := snd_gfi (c := 1) (j := 5) (N := 14) dX3_charge_15 rfl hin1 (by decide) rfl (by decide) rfl wF_3_83
theorem s45_18 {l : Launch} {G : KG} : kOpOK l G 45 18 (.inl (g_br1 (fun x => decide (x = 0)) 25 21)) := snd_if_eq dX3_charge_18 (by decide)
theorem s45_21 {l : Launch} {G : KG} : kOpOK l G 45 21 (.inl (g_ild 1 22)) := snd_iload_n dX3_charge_21 rfl
theorem s45_22 {l : Launch} {G : KG} : kOpOK l G 45 22 (.inl (g_br1 (fun x => decide (¬ x = 0)) 28 25)) := snd_if_ne dX3_charge_22 (by decide)
theorem s45_25 {l : Launch} {G : KG} : kOpOK l G 45 25 (.inl (g_push (-2) 27)) := snd_bipush dX3_charge_25 rfl
theorem s45_27 {l : Launch} {G : KG} : kOpOK l G 45 27 (.inr (.inr 1)) := ⟨rfl, Or.inr (Or.inl ⟨rfl, dX3_charge_27, rfl⟩)⟩
theorem s45_28 {l : Launch} {G : KG} : kOpOK l G 45 28 (.inl (g_ald 0 29)) := snd_aload_n dX3_charge_28 rfl
theorem s45_29 {l : Launch} {G : KG} : kOpOK l G 45 29 (.inr (.inl (58, 1, 32))) := ⟨snd_callV (c := 3) dX3_charge_29 rfl mok_58 rfl rfl rfl rfl (by decide) rfl wM_3_38 wN_X3_saveState wL_X3_saveState wI_3 (by decide), rfl, mok_58⟩
theorem s45_32 {l : Launch} {G : KG} : kOpOK l G 45 32 (.inl (g_ald 0 33)) := snd_aload_n dX3_charge_32 rfl
theorem s45_33 {l : Launch} {G : KG} : kOpOK l G 45 33 (.inl (g_gfr 3 0 36)) := snd_gfr (c := 3) (j := 0) (N := 6) dX3_charge_33 rfl hin3 (by decide) rfl (by decide) rfl wF_3_10
theorem s45_36 {l : Launch} {G : KG} : kOpOK l G 45 36 (.inr (.inl (15, 1, 39))) := ⟨snd_callV (c := 1) dX3_charge_36 rfl mok_15 rfl rfl rfl rfl (by decide) rfl wM_3_86 wN_X1_endAnalysis wL_X1_endAnalysis wI_1 (by decide), rfl, mok_15⟩
theorem s45_39 {l : Launch} {G : KG} : kOpOK l G 45 39 (.inl (g_ald 0 40)) := snd_aload_n dX3_charge_39 rfl
theorem s45_40 {l : Launch} {G : KG} : kOpOK l G 45 40 (.inl (g_gfr 3 0 43)) := snd_gfr (c := 3) (j := 0) (N := 6) dX3_charge_40 rfl hin3 (by decide) rfl (by decide) rfl wF_3_10
theorem s45_43 {l : Launch} {G : KG} : kOpOK l G 45 43 (.inl (g_ild 1 44)) := snd_iload_n dX3_charge_43 rfl
theorem s45_44 {l : Launch} {G : KG} : kOpOK l G 45 44 (.inr (.inl (16, 2, 47))) := ⟨snd_callV (c := 1) dX3_charge_44 rfl mok_16 rfl rfl rfl rfl (by decide) rfl wM_3_151 wN_X1_beginAnalysis wL_X1_beginAnalysis wI_1 (by decide), rfl, mok_16⟩
theorem s45_47 {l : Launch} {G : KG} : kOpOK l G 45 47 (.inl (g_ild 1 48)) := snd_iload_n dX3_charge_47 rfl
theorem s45_48 {l : Launch} {G : KG} : kOpOK l G 45 48 (.inr (.inr 1)) := ⟨rfl, Or.inr (Or.inl ⟨rfl, dX3_charge_48, rfl⟩)⟩
theorem s46_0 {l : Launch} {G : KG} : kOpOK l G 46 0 (.inl (g_ild 1 1)) := snd_iload_n dX3_shake_0 rfl
theorem s46_1 {l : Launch} {G : KG} : kOpOK l G 46 1 (.inl (g_push 1 2)) := snd_iconst dX3_shake_1 rfl
theorem s46_2 {l : Launch} {G : KG} : kOpOK l G 46 2 (.inl (g_push 200 5)) := snd_sipush dX3_shake_2 rfl
theorem s46_5 {l : Launch} {G : KG} : kOpOK l G 46 5 (.inr (.inl (59, 3, 8))) := ⟨snd_callS dX3_shake_5 rfl mok_59 rfl rfl rfl wM_3_34 wS_X3_isIn wI_3 (by decide), rfl, mok_59⟩
theorem s46_8 {l : Launch} {G : KG} : kOpOK l G 46 8 (.inl (g_br1 (fun x => decide (¬ x = 0)) 13 11)) := snd_if_ne dX3_shake_8 (by decide)
theorem s46_11 {l : Launch} {G : KG} : kOpOK l G 46 11 (.inl (g_push (-1) 12)) := snd_iconst dX3_shake_11 rfl
theorem s46_12 {l : Launch} {G : KG} : kOpOK l G 46 12 (.inr (.inr 1)) := ⟨rfl, Or.inr (Or.inl ⟨rfl, dX3_shake_12, rfl⟩)⟩
theorem s46_13 {l : Launch} {G : KG} : kOpOK l G 46 13 (.inl (g_ald 0 14)) := snd_aload_n dX3_shake_13 rfl
theorem s46_14 {l : Launch} {G : KG} : kOpOK l G 46 14 (.inl (g_gfr 3 0 17)) := snd_gfr (c := 3) (j := 0) (N := 6) dX3_shake_14 rfl hin3 (by decide) rfl (by decide) rfl wF_3_10
theorem s46_17 {l : Launch} {G : KG} : kOpOK l G 46 17 (.inl (g_gfi 1 10 20)) := snd_gfi (c := 1) (j := 10) (N := 14) dX3_shake_17 rfl hin1 (by decide) rfl (by decide) rfl wF_3_114
theorem s46_20 {l : Launch} {G : KG} : kOpOK l G 46 20 (.inl (g_br1 (fun x => decide (¬ x = 0)) 26 23)) := snd_if_ne dX3_shake_20 (by decide)
theorem s46_23 {l : Launch} {G : KG} : kOpOK l G 46 23 (.inl (g_push (-2) 25)) := snd_bipush dX3_shake_23 rfl
theorem s46_25 {l : Launch} {G : KG} : kOpOK l G 46 25 (.inr (.inr 1)) := ⟨rfl, Or.inr (Or.inl ⟨rfl, dX3_shake_25, rfl⟩)⟩
theorem s46_26 {l : Launch} {G : KG} : kOpOK l G 46 26 (.inl (g_ald 0 27)) := snd_aload_n dX3_shake_26 rfl
theorem s46_27 {l : Launch} {G : KG} : kOpOK l G 46 27 (.inr (.inl (58, 1, 30))) := ⟨snd_callV (c := 3) dX3_shake_27 rfl mok_58 rfl rfl rfl rfl (by decide) rfl wM_3_38 wN_X3_saveState wL_X3_saveState wI_3 (by decide), rfl, mok_58⟩
theorem s46_30 {l : Launch} {G : KG} : kOpOK l G 46 30 (.inl (g_push 0 31)) := snd_iconst dX3_shake_30 rfl
theorem s46_31 {l : Launch} {G : KG} : kOpOK l G 46 31 (.inl (g_ist 2 32)) := snd_istore_n dX3_shake_31 rfl
theorem s46_32 {l : Launch} {G : KG} : kOpOK l G 46 32 (.inl (g_push 0 33)) := snd_iconst dX3_shake_32 rfl
theorem s46_33 {l : Launch} {G : KG} : kOpOK l G 46 33 (.inl (g_ist 3 34)) := snd_istore_n dX3_shake_33 rfl
theorem s46_34 {l : Launch} {G : KG} : kOpOK l G 46 34 (.inl (g_ild 3 35)) := snd_iload_n dX3_shake_34 rfl
theorem s46_35 {l : Launch} {G : KG} : kOpOK l G 46 35 (.inl (g_ild 1 36)) := snd_iload_n dX3_shake_35 rfl
theorem s46_36 {l : Launch} {G : KG} : kOpOK l G 46 36 (.inl (g_br2 (fun x y => decide (y ≤ x)) 55 39)) := snd_icmp_ge dX3_shake_36 (by decide)
theorem s46_39 {l : Launch} {G : KG} : kOpOK l G 46 39 (.inl (g_ild 2 40)) := snd_iload_n dX3_shake_39 rfl
theorem s46_40 {l : Launch} {G : KG} : kOpOK l G 46 40 (.inl (g_ald 0 41)) := snd_aload_n dX3_shake_40 rfl
theorem s46_41 {l : Launch} {G : KG} : kOpOK l G 46 41 (.inl (g_gfr 3 0 44)) := snd_gfr (c := 3) (j := 0) (N := 6) dX3_shake_41 rfl hin3 (by decide) rfl (by decide) rfl wF_3_10
theorem s46_44 {l : Launch} {G : KG} : kOpOK l G 46 44 (.inr (.inl (17, 1, 47))) := ⟨snd_callV (c := 1) dX3_shake_44 rfl mok_17 rfl rfl rfl rfl (by decide) rfl wM_3_154 wN_X1_shakeOneMinute wL_X1_shakeOneMinute wI_1 (by decide), rfl, mok_17⟩
theorem s46_47 {l : Launch} {G : KG} : kOpOK l G 46 47 (.inl (g_iop (fun x y => x + y) 48)) := snd_iadd dX3_shake_47
theorem s46_48 {l : Launch} {G : KG} : kOpOK l G 46 48 (.inl (g_ist 2 49)) := snd_istore_n dX3_shake_48 rfl
theorem s46_49 {l : Launch} {G : KG} : kOpOK l G 46 49 (.inl (g_iinc 3 1 52)) := snd_iinc dX3_shake_49 rfl
theorem s46_52 {l : Launch} {G : KG} : kOpOK l G 46 52 (.inl (g_goto 34)) := snd_goto dX3_shake_52 (by decide)
theorem s46_55 {l : Launch} {G : KG} : kOpOK l G 46 55 (.inl (g_ild 2 56)) := snd_iload_n dX3_shake_55 rfl
theorem s46_56 {l : Launch} {G : KG} : kOpOK l G 46 56 (.inr (.inr 1)) := ⟨rfl, Or.inr (Or.inl ⟨rfl, dX3_shake_56, rfl⟩)⟩
theorem s47_0 {l : Launch} {G : KG} : kOpOK l G 47 0 (.inl (g_ald 0 1)) := snd_aload_n dX3_collect_0 rfl
theorem s47_1 {l : Launch} {G : KG} : kOpOK l G 47 1 (.inl (g_gfr 3 0 4)) := snd_gfr (c := 3) (j := 0) (N := 6) dX3_collect_1 rfl hin3 (by decide) rfl (by decide) rfl wF_3_10
theorem s47_4 {l : Launch} {G : KG} : kOpOK l G 47 4 (.inl (g_ild 1 5)) := snd_iload_n dX3_collect_4 rfl
theorem s47_5 {l : Launch} {G : KG} : kOpOK l G 47 5 (.inr (.inl (9, 2, 8))) := ⟨snd_callV (c := 1) dX3_collect_5 rfl mok_9 rfl rfl rfl rfl (by decide) rfl wM_3_127 wN_X1_isTray wL_X1_isTray wI_1 (by decide), rfl, mok_9⟩
theorem s47_8 {l : Launch} {G : KG} : kOpOK l G 47 8 (.inl (g_br1 (fun x => decide (¬ x = 0)) 13 11)) := snd_if_ne dX3_collect_8 (by decide)
theorem s47_11 {l : Launch} {G : KG} : kOpOK l G 47 11 (.inl (g_push (-1) 12)) := snd_iconst dX3_collect_11 rfl
theorem s47_12 {l : Launch} {G : KG} : kOpOK l G 47 12 (.inr (.inr 1)) := ⟨rfl, Or.inr (Or.inl ⟨rfl, dX3_collect_12, rfl⟩)⟩
theorem s47_13 {l : Launch} {G : KG} : kOpOK l G 47 13 (.inl (g_ald 0 14)) := snd_aload_n dX3_collect_13 rfl
theorem s47_14 {l : Launch} {G : KG} : kOpOK l G 47 14 (.inl (g_gfr 3 0 17)) := snd_gfr (c := 3) (j := 0) (N := 6) dX3_collect_14 rfl hin3 (by decide) rfl (by decide) rfl wF_3_10
theorem s47_17 {l : Launch} {G : KG} : kOpOK l G 47 17 (.inl (g_gfi 1 10 20)) := snd_gfi (c := 1) (j := 10) (N := 14) dX3_collect_17 rfl hin1 (by decide) rfl (by decide) rfl wF_3_114
theorem s47_20 {l : Launch} {G : KG} : kOpOK l G 47 20 (.inl (g_br1 (fun x => decide (¬ x = 0)) 26 23)) := snd_if_ne dX3_collect_20 (by decide)
theorem s47_23 {l : Launch} {G : KG} : kOpOK l G 47 23 (.inl (g_push (-2) 25)) := snd_bipush dX3_collect_23 rfl
theorem s47_25 {l : Launch} {G : KG} : kOpOK l G 47 25 (.inr (.inr 1)) := ⟨rfl, Or.inr (Or.inl ⟨rfl, dX3_collect_25, rfl⟩)⟩
theorem s47_26 {l : Launch} {G : KG} : kOpOK l G 47 26 (.inl (g_ald 0 27)) := snd_aload_n dX3_collect_26 rfl
theorem s47_27 {l : Launch} {G : KG} : kOpOK l G 47 27 (.inr (.inl (58, 1, 30))) := ⟨snd_callV (c := 3) dX3_collect_27 rfl mok_58 rfl rfl rfl rfl (by decide) rfl wM_3_38 wN_X3_saveState wL_X3_saveState wI_3 (by decide), rfl, mok_58⟩
theorem s47_30 {l : Launch} {G : KG} : kOpOK l G 47 30 (.inl (g_ald 0 31)) := snd_aload_n dX3_collect_30 rfl
theorem s47_31 {l : Launch} {G : KG} : kOpOK l G 47 31 (.inl (g_gfr 3 0 34)) := snd_gfr (c := 3) (j := 0) (N := 6) dX3_collect_31 rfl hin3 (by decide) rfl (by decide) rfl wF_3_10
theorem s47_34 {l : Launch} {G : KG} : kOpOK l G 47 34 (.inl (g_gfr 1 2 37)) := snd_gfr (c := 1) (j := 2) (N := 14) dX3_collect_34 rfl hin1 (by decide) rfl (by decide) rfl wF_3_130
theorem s47_37 {l : Launch} {G : KG} : kOpOK l G 47 37 (.inl (g_ild 1 38)) := snd_iload_n dX3_collect_37 rfl
theorem s47_38 {l : Launch} {G : KG} : kOpOK l G 47 38 (.inl (g_aald 9 39)) := snd_aald9 dX3_collect_38
theorem s47_39 {l : Launch} {G : KG} : kOpOK l G 47 39 (.inl (g_ast 2 40)) := snd_astore_n dX3_collect_39 rfl
theorem s47_40 {l : Launch} {G : KG} : kOpOK l G 47 40 (.inl (g_ald 2 41)) := snd_aload_n dX3_collect_40 rfl
theorem s47_41 {l : Launch} {G : KG} : kOpOK l G 47 41 (.inl (g_gfr 2 0 44)) := snd_gfr (c := 2) (j := 0) (N := 4) dX3_collect_41 rfl hin2 (by decide) rfl (by decide) rfl wF_3_139
theorem s47_44 {l : Launch} {G : KG} : kOpOK l G 47 44 (.inr (.inl (62, 1, 47))) := ⟨snd_callS dX3_collect_44 rfl mok_62 rfl rfl rfl wM_3_52 wS_X3_sumOf wI_3 (by decide), rfl, mok_62⟩
theorem s47_47 {l : Launch} {G : KG} : kOpOK l G 47 47 (.inl (g_ist 3 48)) := snd_istore_n dX3_collect_47 rfl
theorem s47_48 {l : Launch} {G : KG} : kOpOK l G 47 48 (.inl (g_ald 2 49)) := snd_aload_n dX3_collect_48 rfl
theorem s47_49 {l : Launch} {G : KG} : kOpOK l G 47 49 (.inl (g_dup 50)) := snd_dup dX3_collect_49
theorem s47_50 {l : Launch} {G : KG} : kOpOK l G 47 50 (.inl (g_gfi 2 3 53)) := snd_gfi (c := 2) (j := 3) (N := 4) dX3_collect_50 rfl hin2 (by decide) rfl (by decide) rfl wF_3_145
theorem s47_53 {l : Launch} {G : KG} : kOpOK l G 47 53 (.inl (g_ild 3 54)) := snd_iload_n dX3_collect_53 rfl
theorem s47_54 {l : Launch} {G : KG} : kOpOK l G 47 54 (.inl (g_iop (fun x y => x + y) 55)) := snd_iadd dX3_collect_54
theorem s47_55 {l : Launch} {G : KG} : kOpOK l G 47 55 (.inl (g_pfi 2 3 58)) := snd_pfi (c := 2) (j := 3) (N := 4) dX3_collect_55 rfl hin2 (by decide) rfl (by decide) rfl wF_3_145 tyX2 tyX2_ok nmX2 rfl (by decide +kernel)
theorem s47_58 {l : Launch} {G : KG} : kOpOK l G 47 58 (.inl (g_ald 2 59)) := snd_aload_n dX3_collect_58 rfl
theorem s47_59 {l : Launch} {G : KG} : kOpOK l G 47 59 (.inl (g_gfr 2 0 62)) := snd_gfr (c := 2) (j := 0) (N := 4) dX3_collect_59 rfl hin2 (by decide) rfl (by decide) rfl wF_3_139
theorem s47_62 {l : Launch} {G : KG} : kOpOK l G 47 62 (.inr (.inl (63, 1, 65))) := ⟨snd_callS dX3_collect_62 rfl mok_63 rfl rfl rfl wM_3_157 wS_X3_clearRow wI_3 (by decide), rfl, mok_63⟩
theorem s47_65 {l : Launch} {G : KG} : kOpOK l G 47 65 (.inl (g_ild 3 66)) := snd_iload_n dX3_collect_65 rfl
theorem s47_66 {l : Launch} {G : KG} : kOpOK l G 47 66 (.inr (.inr 1)) := ⟨rfl, Or.inr (Or.inl ⟨rfl, dX3_collect_66, rfl⟩)⟩
theorem s48_0 {l : Launch} {G : KG} : kOpOK l G 48 0 (.inl (g_ald 0 1)) := snd_aload_n dX3_brush_0 rfl
theorem s48_1 {l : Launch} {G : KG} : kOpOK l G 48 1 (.inl (g_gfr 3 0 4)) := snd_gfr (c := 3) (j := 0) (N := 6) dX3_brush_1 rfl hin3 (by decide) rfl (by decide) rfl wF_3_10
theorem s48_4 {l : Launch} {G : KG} : kOpOK l G 48 4 (.inl (g_ild 1 5)) := snd_iload_n dX3_brush_4 rfl
theorem s48_5 {l : Launch} {G : KG} : kOpOK l G 48 5 (.inr (.inl (10, 2, 8))) := ⟨snd_callV (c := 1) dX3_brush_5 rfl mok_10 rfl rfl rfl rfl (by decide) rfl wM_3_161 wN_X1_isSieve wL_X1_isSieve wI_1 (by decide), rfl, mok_10⟩
theorem s48_8 {l : Launch} {G : KG} : kOpOK l G 48 8 (.inl (g_br1 (fun x => decide (x = 0)) 20 11)) := snd_if_eq dX3_brush_8 (by decide)
theorem s48_11 {l : Launch} {G : KG} : kOpOK l G 48 11 (.inl (g_ild 2 12)) := snd_iload_n dX3_brush_11 rfl
theorem s48_12 {l : Launch} {G : KG} : kOpOK l G 48 12 (.inl (g_push 0 13)) := snd_iconst dX3_brush_12 rfl
theorem s48_13 {l : Launch} {G : KG} : kOpOK l G 48 13 (.inl (g_push 1 14)) := snd_iconst dX3_brush_13 rfl
theorem s48_14 {l : Launch} {G : KG} : kOpOK l G 48 14 (.inr (.inl (59, 3, 17))) := ⟨snd_callS dX3_brush_14 rfl mok_59 rfl rfl rfl wM_3_34 wS_X3_isIn wI_3 (by decide), rfl, mok_59⟩
theorem s48_17 {l : Launch} {G : KG} : kOpOK l G 48 17 (.inl (g_br1 (fun x => decide (¬ x = 0)) 22 20)) := snd_if_ne dX3_brush_17 (by decide)
theorem s48_20 {l : Launch} {G : KG} : kOpOK l G 48 20 (.inl (g_push (-1) 21)) := snd_iconst dX3_brush_20 rfl
theorem s48_21 {l : Launch} {G : KG} : kOpOK l G 48 21 (.inr (.inr 1)) := ⟨rfl, Or.inr (Or.inl ⟨rfl, dX3_brush_21, rfl⟩)⟩
theorem s48_22 {l : Launch} {G : KG} : kOpOK l G 48 22 (.inl (g_ald 0 23)) := snd_aload_n dX3_brush_22 rfl
theorem s48_23 {l : Launch} {G : KG} : kOpOK l G 48 23 (.inl (g_gfr 3 0 26)) := snd_gfr (c := 3) (j := 0) (N := 6) dX3_brush_23 rfl hin3 (by decide) rfl (by decide) rfl wF_3_10
theorem s48_26 {l : Launch} {G : KG} : kOpOK l G 48 26 (.inl (g_gfi 1 10 29)) := snd_gfi (c := 1) (j := 10) (N := 14) dX3_brush_26 rfl hin1 (by decide) rfl (by decide) rfl wF_3_114
theorem s48_29 {l : Launch} {G : KG} : kOpOK l G 48 29 (.inl (g_br1 (fun x => decide (¬ x = 0)) 35 32)) := snd_if_ne dX3_brush_29 (by decide)
theorem s48_32 {l : Launch} {G : KG} : kOpOK l G 48 32 (.inl (g_push (-2) 34)) := snd_bipush dX3_brush_32 rfl
theorem s48_34 {l : Launch} {G : KG} : kOpOK l G 48 34 (.inr (.inr 1)) := ⟨rfl, Or.inr (Or.inl ⟨rfl, dX3_brush_34, rfl⟩)⟩
theorem s48_35 {l : Launch} {G : KG} : kOpOK l G 48 35 (.inl (g_ald 0 36)) := snd_aload_n dX3_brush_35 rfl
theorem s48_36 {l : Launch} {G : KG} : kOpOK l G 48 36 (.inr (.inl (58, 1, 39))) := ⟨snd_callV (c := 3) dX3_brush_36 rfl mok_58 rfl rfl rfl rfl (by decide) rfl wM_3_38 wN_X3_saveState wL_X3_saveState wI_3 (by decide), rfl, mok_58⟩
theorem s48_39 {l : Launch} {G : KG} : kOpOK l G 48 39 (.inl (g_ald 0 40)) := snd_aload_n dX3_brush_39 rfl
theorem s48_40 {l : Launch} {G : KG} : kOpOK l G 48 40 (.inl (g_gfr 3 0 43)) := snd_gfr (c := 3) (j := 0) (N := 6) dX3_brush_40 rfl hin3 (by decide) rfl (by decide) rfl wF_3_10
theorem s48_43 {l : Launch} {G : KG} : kOpOK l G 48 43 (.inl (g_gfr 1 2 46)) := snd_gfr (c := 1) (j := 2) (N := 14) dX3_brush_43 rfl hin1 (by decide) rfl (by decide) rfl wF_3_130
theorem s48_46 {l : Launch} {G : KG} : kOpOK l G 48 46 (.inl (g_ild 1 47)) := snd_iload_n dX3_brush_46 rfl
theorem s48_47 {l : Launch} {G : KG} : kOpOK l G 48 47 (.inl (g_aald 9 48)) := snd_aald9 dX3_brush_47
theorem s48_48 {l : Launch} {G : KG} : kOpOK l G 48 48 (.inl (g_ast 3 49)) := snd_astore_n dX3_brush_48 rfl
theorem s48_49 {l : Launch} {G : KG} : kOpOK l G 48 49 (.inl (g_ald 3 50)) := snd_aload_n dX3_brush_49 rfl
theorem s48_50 {l : Launch} {G : KG} : kOpOK l G 48 50 (.inl (g_gfi 2 2 53)) := snd_gfi (c := 2) (j := 2) (N := 4) dX3_brush_50 rfl hin2 (by decide) rfl (by decide) rfl wF_3_142
theorem s48_53 {l : Launch} {G : KG} : kOpOK l G 48 53 (.inl (g_ist 4 55)) := snd_istore dX3_brush_53
theorem s48_55 {l : Launch} {G : KG} : kOpOK l G 48 55 (.inl (g_ald 3 56)) := snd_aload_n dX3_brush_55 rfl
theorem s48_56 {l : Launch} {G : KG} : kOpOK l G 48 56 (.inl (g_push 0 57)) := snd_iconst dX3_brush_56 rfl
theorem s48_57 {l : Launch} {G : KG} : kOpOK l G 48 57 (.inl (g_pfi 2 2 60)) := snd_pfi (c := 2) (j := 2) (N := 4) dX3_brush_57 rfl hin2 (by decide) rfl (by decide) rfl wF_3_142 tyX2 tyX2_ok nmX2 rfl (by decide +kernel)
theorem s48_60 {l : Launch} {G : KG} : kOpOK l G 48 60 (.inl (g_ild 2 61)) := snd_iload_n dX3_brush_60 rfl
theorem s48_61 {l : Launch} {G : KG} : kOpOK l G 48 61 (.inl (g_push 1 62)) := snd_iconst dX3_brush_61 rfl
theorem s48_62 {l : Launch} {G : KG} : kOpOK l G 48 62 (.inl (g_br2 (fun x y => decide (¬ x = y)) 76 65)) := snd_icmp_ne dX3_brush_62 (by decide)
theorem s48_65 {l : Launch} {G : KG} : kOpOK l G 48 65 (.inl (g_ald 3 66)) := snd_aload_n dX3_brush_65 rfl
theorem s48_66 {l : Launch} {G : KG} : kOpOK l G 48 66 (.inl (g_dup 67)) := snd_dup dX3_brush_66
theorem s48_67 {l : Launch} {G : KG} : kOpOK l G 48 67 (.inl (g_gfi 2 3 70)) := snd_gfi (c := 2) (j := 3) (N := 4) dX3_brush_67 rfl hin2 (by decide) rfl (by decide) rfl wF_3_145
theorem s48_70 {l : Launch} {G : KG} : kOpOK l G 48 70 (.inl (g_ild 4 72)) := snd_iload dX3_brush_70
theorem s48_72 {l : Launch} {G : KG} : kOpOK l G 48 72 (.inl (g_iop (fun x y => x + y) 73)) := snd_iadd dX3_brush_72
theorem s48_73 {l : Launch} {G : KG} : kOpOK l G 48 73 (.inl (g_pfi 2 3 76)) := snd_pfi (c := 2) (j := 3) (N := 4) dX3_brush_73 rfl hin2 (by decide) rfl (by decide) rfl wF_3_145 tyX2 tyX2_ok nmX2 rfl (by decide +kernel)
theorem s48_76 {l : Launch} {G : KG} : kOpOK l G 48 76 (.inl (g_ild 4 78)) := snd_iload dX3_brush_76
theorem s48_78 {l : Launch} {G : KG} : kOpOK l G 48 78 (.inr (.inr 1)) := ⟨rfl, Or.inr (Or.inl ⟨rfl, dX3_brush_78, rfl⟩)⟩
theorem s49_0 {l : Launch} {G : KG} : kOpOK l G 49 0 (.inl (g_ald 0 1)) := snd_aload_n dX3_loss_0 rfl
theorem s49_1 {l : Launch} {G : KG} : kOpOK l G 49 1 (.inl (g_gfr 3 0 4)) := snd_gfr (c := 3) (j := 0) (N := 6) dX3_loss_1 rfl hin3 (by decide) rfl (by decide) rfl wF_3_10
theorem s49_4 {l : Launch} {G : KG} : kOpOK l G 49 4 (.inl (g_gfi 1 10 7)) := snd_gfi (c := 1) (j := 10) (N := 14) dX3_loss_4 rfl hin1 (by decide) rfl (by decide) rfl wF_3_114
theorem s49_7 {l : Launch} {G : KG} : kOpOK l G 49 7 (.inl (g_br1 (fun x => decide (¬ x = 0)) 13 10)) := snd_if_ne dX3_loss_7 (by decide)
theorem s49_10 {l : Launch} {G : KG} : kOpOK l G 49 10 (.inl (g_push (-2) 12)) := snd_bipush dX3_loss_10 rfl
theorem s49_12 {l : Launch} {G : KG} : kOpOK l G 49 12 (.inr (.inr 1)) := ⟨rfl, Or.inr (Or.inl ⟨rfl, dX3_loss_12, rfl⟩)⟩
theorem s49_13 {l : Launch} {G : KG} : kOpOK l G 49 13 (.inl (g_ald 0 14)) := snd_aload_n dX3_loss_13 rfl
theorem s49_14 {l : Launch} {G : KG} : kOpOK l G 49 14 (.inl (g_gfr 3 0 17)) := snd_gfr (c := 3) (j := 0) (N := 6) dX3_loss_14 rfl hin3 (by decide) rfl (by decide) rfl wF_3_10
theorem s49_17 {l : Launch} {G : KG} : kOpOK l G 49 17 (.inr (.inl (18, 1, 20))) := ⟨snd_callV (c := 1) dX3_loss_17 rfl mok_18 rfl rfl rfl rfl (by decide) rfl wM_3_164 wN_X1_lostMass wL_X1_lostMass wI_1 (by decide), rfl, mok_18⟩
theorem s49_20 {l : Launch} {G : KG} : kOpOK l G 49 20 (.inr (.inr 1)) := ⟨rfl, Or.inr (Or.inl ⟨rfl, dX3_loss_20, rfl⟩)⟩
theorem s50_0 {l : Launch} {G : KG} : kOpOK l G 50 0 (.inl (g_ald 0 1)) := snd_aload_n dX3_isGood_0 rfl
theorem s50_1 {l : Launch} {G : KG} : kOpOK l G 50 1 (.inl (g_gfr 3 0 4)) := snd_gfr (c := 3) (j := 0) (N := 6) dX3_isGood_1 rfl hin3 (by decide) rfl (by decide) rfl wF_3_10
theorem s50_4 {l : Launch} {G : KG} : kOpOK l G 50 4 (.inl (g_gfi 1 10 7)) := snd_gfi (c := 1) (j := 10) (N := 14) dX3_isGood_4 rfl hin1 (by decide) rfl (by decide) rfl wF_3_114
theorem s50_7 {l : Launch} {G : KG} : kOpOK l G 50 7 (.inl (g_br1 (fun x => decide (¬ x = 0)) 13 10)) := snd_if_ne dX3_isGood_7 (by decide)
theorem s50_10 {l : Launch} {G : KG} : kOpOK l G 50 10 (.inl (g_push (-2) 12)) := snd_bipush dX3_isGood_10 rfl
theorem s50_12 {l : Launch} {G : KG} : kOpOK l G 50 12 (.inr (.inr 1)) := ⟨rfl, Or.inr (Or.inl ⟨rfl, dX3_isGood_12, rfl⟩)⟩
theorem s50_13 {l : Launch} {G : KG} : kOpOK l G 50 13 (.inl (g_ald 0 14)) := snd_aload_n dX3_isGood_13 rfl
theorem s50_14 {l : Launch} {G : KG} : kOpOK l G 50 14 (.inl (g_gfr 3 0 17)) := snd_gfr (c := 3) (j := 0) (N := 6) dX3_isGood_14 rfl hin3 (by decide) rfl (by decide) rfl wF_3_10
theorem s50_17 {l : Launch} {G : KG} : kOpOK l G 50 17 (.inr (.inl (18, 1, 20))) := ⟨snd_callV (c := 1) dX3_isGood_17 rfl mok_18 rfl rfl rfl rfl (by decide) rfl wM_3_164 wN_X1_lostMass wL_X1_lostMass wI_1 (by decide), rfl, mok_18⟩
theorem s50_20 {l : Launch} {G : KG} : kOpOK l G 50 20 (.inl (g_push 1000 23)) := snd_sipush dX3_isGood_20 rfl
theorem s50_23 {l : Launch} {G : KG} : kOpOK l G 50 23 (.inl (g_iop (fun x y => x * y) 24)) := snd_imul dX3_isGood_23
theorem s50_24 {l : Launch} {G : KG} : kOpOK l G 50 24 (.inl (g_ald 0 25)) := snd_aload_n dX3_isGood_24 rfl
theorem s50_25 {l : Launch} {G : KG} : kOpOK l G 50 25 (.inl (g_gfr 3 0 28)) := snd_gfr (c := 3) (j := 0) (N := 6) dX3_isGood_25 rfl hin3 (by decide) rfl (by decide) rfl wF_3_10
theorem s50_28 {l : Launch} {G : KG} : kOpOK l G 50 28 (.inl (g_gfi 1 9 31)) := snd_gfi (c := 1) (j := 9) (N := 14) dX3_isGood_28 rfl hin1 (by decide) rfl (by decide) rfl wF_3_105
theorem s50_31 {l : Launch} {G : KG} : kOpOK l G 50 31 (.inl (g_ald 0 32)) := snd_aload_n dX3_isGood_31 rfl
theorem s50_32 {l : Launch} {G : KG} : kOpOK l G 50 32 (.inl (g_gfr 3 0 35)) := snd_gfr (c := 3) (j := 0) (N := 6) dX3_isGood_32 rfl hin3 (by decide) rfl (by decide) rfl wF_3_10
theorem s50_35 {l : Launch} {G : KG} : kOpOK l G 50 35 (.inl (g_gfi 1 11 38)) := snd_gfi (c := 1) (j := 11) (N := 14) dX3_isGood_35 rfl hin1 (by decide) rfl (by decide) rfl wF_3_167
theorem s50_38 {l : Launch} {G : KG} : kOpOK l G 50 38 (.inl (g_iop (fun x y => x * y) 39)) := snd_imul dX3_isGood_38
theorem s50_39 {l : Launch} {G : KG} : kOpOK l G 50 39 (.inl (g_br2 (fun x y => decide (y < x)) 46 42)) := snd_icmp_gt dX3_isGood_39 (by decide)
theorem s50_42 {l : Launch} {G : KG} : kOpOK l G 50 42 (.inl (g_push 1 43)) := snd_iconst dX3_isGood_42 rfl
theorem s50_43 {l : Launch} {G : KG} : kOpOK l G 50 43 (.inl (g_goto 47)) := snd_goto dX3_isGood_43 (by decide)
theorem s50_46 {l : Launch} {G : KG} : kOpOK l G 50 46 (.inl (g_push 0 47)) := snd_iconst dX3_isGood_46 rfl
theorem s50_47 {l : Launch} {G : KG} : kOpOK l G 50 47 (.inr (.inr 1)) := ⟨rfl, Or.inr (Or.inl ⟨rfl, dX3_isGood_47, rfl⟩)⟩
theorem s51_0 {l : Launch} {G : KG} : kOpOK l G 51 0 (.inl (g_ald 0 1)) := snd_aload_n dX3_passing_0 rfl
theorem s51_1 {l : Launch} {G : KG} : kOpOK l G 51 1 (.inl (g_gfr 3 0 4)) := snd_gfr (c := 3) (j := 0) (N := 6) dX3_passing_1 rfl hin3 (by decide) rfl (by decide) rfl wF_3_10
theorem s51_4 {l : Launch} {G : KG} : kOpOK l G 51 4 (.inl (g_ild 1 5)) := snd_iload_n dX3_passing_4 rfl
theorem s51_5 {l : Launch} {G : KG} : kOpOK l G 51 5 (.inr (.inl (10, 2, 8))) := ⟨snd_callV (c := 1) dX3_passing_5 rfl mok_10 rfl rfl rfl rfl (by decide) rfl wM_3_161 wN_X1_isSieve wL_X1_isSieve wI_1 (by decide), rfl, mok_10⟩
theorem s51_8 {l : Launch} {G : KG} : kOpOK l G 51 8 (.inl (g_br1 (fun x => decide (¬ x = 0)) 13 11)) := snd_if_ne dX3_passing_8 (by decide)
theorem s51_11 {l : Launch} {G : KG} : kOpOK l G 51 11 (.inl (g_push (-1) 12)) := snd_iconst dX3_passing_11 rfl
theorem s51_12 {l : Launch} {G : KG} : kOpOK l G 51 12 (.inr (.inr 1)) := ⟨rfl, Or.inr (Or.inl ⟨rfl, dX3_passing_12, rfl⟩)⟩
theorem s51_13 {l : Launch} {G : KG} : kOpOK l G 51 13 (.inl (g_ald 0 14)) := snd_aload_n dX3_passing_13 rfl
theorem s51_14 {l : Launch} {G : KG} : kOpOK l G 51 14 (.inl (g_gfr 3 0 17)) := snd_gfr (c := 3) (j := 0) (N := 6) dX3_passing_14 rfl hin3 (by decide) rfl (by decide) rfl wF_3_10
theorem s51_17 {l : Launch} {G : KG} : kOpOK l G 51 17 (.inr (.inl (19, 1, 20))) := ⟨snd_callV (c := 1) dX3_passing_17 rfl mok_19 rfl rfl rfl rfl (by decide) rfl wM_3_170 wN_X1_hasCollected wL_X1_hasCollected wI_1 (by decide), rfl, mok_19⟩
theorem s51_20 {l : Launch} {G : KG} : kOpOK l G 51 20 (.inl (g_br1 (fun x => decide (¬ x = 0)) 26 23)) := snd_if_ne dX3_passing_20 (by decide)
theorem s51_23 {l : Launch} {G : KG} : kOpOK l G 51 23 (.inl (g_push (-2) 25)) := snd_bipush dX3_passing_23 rfl
theorem s51_25 {l : Launch} {G : KG} : kOpOK l G 51 25 (.inr (.inr 1)) := ⟨rfl, Or.inr (Or.inl ⟨rfl, dX3_passing_25, rfl⟩)⟩
theorem s51_26 {l : Launch} {G : KG} : kOpOK l G 51 26 (.inl (g_ald 0 27)) := snd_aload_n dX3_passing_26 rfl
theorem s51_27 {l : Launch} {G : KG} : kOpOK l G 51 27 (.inl (g_gfr 3 0 30)) := snd_gfr (c := 3) (j := 0) (N := 6) dX3_passing_27 rfl hin3 (by decide) rfl (by decide) rfl wF_3_10
theorem s51_30 {l : Launch} {G : KG} : kOpOK l G 51 30 (.inl (g_ild 1 31)) := snd_iload_n dX3_passing_30 rfl
theorem s51_31 {l : Launch} {G : KG} : kOpOK l G 51 31 (.inr (.inl (20, 2, 34))) := ⟨snd_callV (c := 1) dX3_passing_31 rfl mok_20 rfl rfl rfl rfl (by decide) rfl wM_3_174 wN_X1_passingOf wL_X1_passingOf wI_1 (by decide), rfl, mok_20⟩
theorem s51_34 {l : Launch} {G : KG} : kOpOK l G 51 34 (.inr (.inr 1)) := ⟨rfl, Or.inr (Or.inl ⟨rfl, dX3_passing_34, rfl⟩)⟩
theorem s52_0 {l : Launch} {G : KG} : kOpOK l G 52 0 (.inl (g_ald 0 1)) := snd_aload_n dX3_misses_0 rfl
theorem s52_1 {l : Launch} {G : KG} : kOpOK l G 52 1 (.inl (g_gfr 3 0 4)) := snd_gfr (c := 3) (j := 0) (N := 6) dX3_misses_1 rfl hin3 (by decide) rfl (by decide) rfl wF_3_10
theorem s52_4 {l : Launch} {G : KG} : kOpOK l G 52 4 (.inr (.inl (19, 1, 7))) := ⟨snd_callV (c := 1) dX3_misses_4 rfl mok_19 rfl rfl rfl rfl (by decide) rfl wM_3_170 wN_X1_hasCollected wL_X1_hasCollected wI_1 (by decide), rfl, mok_19⟩
theorem s52_7 {l : Launch} {G : KG} : kOpOK l G 52 7 (.inl (g_br1 (fun x => decide (¬ x = 0)) 13 10)) := snd_if_ne dX3_misses_7 (by decide)
theorem s52_10 {l : Launch} {G : KG} : kOpOK l G 52 10 (.inl (g_push (-2) 12)) := snd_bipush dX3_misses_10 rfl
theorem s52_12 {l : Launch} {G : KG} : kOpOK l G 52 12 (.inr (.inr 1)) := ⟨rfl, Or.inr (Or.inl ⟨rfl, dX3_misses_12, rfl⟩)⟩
theorem s52_13 {l : Launch} {G : KG} : kOpOK l G 52 13 (.inl (g_push 0 14)) := snd_iconst dX3_misses_13 rfl
theorem s52_14 {l : Launch} {G : KG} : kOpOK l G 52 14 (.inl (g_ist 1 15)) := snd_istore_n dX3_misses_14 rfl
theorem s52_15 {l : Launch} {G : KG} : kOpOK l G 52 15 (.inl (g_push 0 16)) := snd_iconst dX3_misses_15 rfl
theorem s52_16 {l : Launch} {G : KG} : kOpOK l G 52 16 (.inl (g_ist 2 17)) := snd_istore_n dX3_misses_16 rfl
theorem s52_17 {l : Launch} {G : KG} : kOpOK l G 52 17 (.inl (g_ild 2 18)) := snd_iload_n dX3_misses_17 rfl
theorem s52_18 {l : Launch} {G : KG} : kOpOK l G 52 18 (.inl (g_ald 0 19)) := snd_aload_n dX3_misses_18 rfl
theorem s52_19 {l : Launch} {G : KG} : kOpOK l G 52 19 (.inl (g_gfr 3 0 22)) := snd_gfr (c := 3) (j := 0) (N := 6) dX3_misses_19 rfl hin3 (by decide) rfl (by decide) rfl wF_3_10
theorem s52_22 {l : Launch} {G : KG} : kOpOK l G 52 22 (.inl (g_gfi 1 5 25)) := snd_gfi (c := 1) (j := 5) (N := 14) dX3_misses_22 rfl hin1 (by decide) rfl (by decide) rfl wF_3_83
theorem s52_25 {l : Launch} {G : KG} : kOpOK l G 52 25 (.inl (g_br2 (fun x y => decide (y ≤ x)) 82 28)) := snd_icmp_ge dX3_misses_25 (by decide)
theorem s52_28 {l : Launch} {G : KG} : kOpOK l G 52 28 (.inl (g_ald 0 29)) := snd_aload_n dX3_misses_28 rfl
theorem s52_29 {l : Launch} {G : KG} : kOpOK l G 52 29 (.inl (g_gfr 3 0 32)) := snd_gfr (c := 3) (j := 0) (N := 6) dX3_misses_29 rfl hin3 (by decide) rfl (by decide) rfl wF_3_10
theorem s52_32 {l : Launch} {G : KG} : kOpOK l G 52 32 (.inl (g_gfr 1 2 35)) := snd_gfr (c := 1) (j := 2) (N := 14) dX3_misses_32 rfl hin1 (by decide) rfl (by decide) rfl wF_3_130
theorem s52_35 {l : Launch} {G : KG} : kOpOK l G 52 35 (.inl (g_ild 2 36)) := snd_iload_n dX3_misses_35 rfl
theorem s52_36 {l : Launch} {G : KG} : kOpOK l G 52 36 (.inl (g_aald 9 37)) := snd_aald9 dX3_misses_36
theorem s52_37 {l : Launch} {G : KG} : kOpOK l G 52 37 (.inl (g_gfi 2 1 40)) := snd_gfi (c := 2) (j := 1) (N := 4) dX3_misses_37 rfl hin2 (by decide) rfl (by decide) rfl wF_3_134
theorem s52_40 {l : Launch} {G : KG} : kOpOK l G 52 40 (.inl (g_ist 3 41)) := snd_istore_n dX3_misses_40 rfl
theorem s52_41 {l : Launch} {G : KG} : kOpOK l G 52 41 (.inl (g_ald 0 42)) := snd_aload_n dX3_misses_41 rfl
theorem s52_42 {l : Launch} {G : KG} : kOpOK l G 52 42 (.inl (g_gfr 3 0 45)) := snd_gfr (c := 3) (j := 0) (N := 6) dX3_misses_42 rfl hin3 (by decide) rfl (by decide) rfl wF_3_10
theorem s52_45 {l : Launch} {G : KG} : kOpOK l G 52 45 (.inl (g_ild 2 46)) := snd_iload_n dX3_misses_45 rfl
theorem s52_46 {l : Launch} {G : KG} : kOpOK l G 52 46 (.inr (.inl (20, 2, 49))) := ⟨snd_callV (c := 1) dX3_misses_46 rfl mok_20 rfl rfl rfl rfl (by decide) rfl wM_3_174 wN_X1_passingOf wL_X1_passingOf wI_1 (by decide), rfl, mok_20⟩
theorem s52_49 {l : Launch} {G : KG} : kOpOK l G 52 49 (.inl (g_ald 0 50)) := snd_aload_n dX3_misses_49 rfl
theorem s52_50 {l : Launch} {G : KG} : kOpOK l G 52 50 (.inl (g_gfr 3 0 53)) := snd_gfr (c := 3) (j := 0) (N := 6) dX3_misses_50 rfl hin3 (by decide) rfl (by decide) rfl wF_3_10
theorem s52_53 {l : Launch} {G : KG} : kOpOK l G 52 53 (.inl (g_gfr 1 3 56)) := snd_gfr (c := 1) (j := 3) (N := 14) dX3_misses_53 rfl hin1 (by decide) rfl (by decide) rfl wF_3_108
theorem s52_56 {l : Launch} {G : KG} : kOpOK l G 52 56 (.inl (g_ild 3 57)) := snd_iload_n dX3_misses_56 rfl
theorem s52_57 {l : Launch} {G : KG} : kOpOK l G 52 57 (.inl (g_pald 5 58)) := snd_pald5 dX3_misses_57
theorem s52_58 {l : Launch} {G : KG} : kOpOK l G 52 58 (.inl (g_ald 0 59)) := snd_aload_n dX3_misses_58 rfl
theorem s52_59 {l : Launch} {G : KG} : kOpOK l G 52 59 (.inl (g_gfr 3 0 62)) := snd_gfr (c := 3) (j := 0) (N := 6) dX3_misses_59 rfl hin3 (by decide) rfl (by decide) rfl wF_3_10
theorem s52_62 {l : Launch} {G : KG} : kOpOK l G 52 62 (.inl (g_gfr 1 4 65)) := snd_gfr (c := 1) (j := 4) (N := 14) dX3_misses_62 rfl hin1 (by decide) rfl (by decide) rfl wF_3_111
theorem s52_65 {l : Launch} {G : KG} : kOpOK l G 52 65 (.inl (g_ild 3 66)) := snd_iload_n dX3_misses_65 rfl
theorem s52_66 {l : Launch} {G : KG} : kOpOK l G 52 66 (.inl (g_pald 5 67)) := snd_pald5 dX3_misses_66
theorem s52_67 {l : Launch} {G : KG} : kOpOK l G 52 67 (.inr (.inl (59, 3, 70))) := ⟨snd_callS dX3_misses_67 rfl mok_59 rfl rfl rfl wM_3_34 wS_X3_isIn wI_3 (by decide), rfl, mok_59⟩
theorem s52_70 {l : Launch} {G : KG} : kOpOK l G 52 70 (.inl (g_br1 (fun x => decide (¬ x = 0)) 76 73)) := snd_if_ne dX3_misses_70 (by decide)
theorem s52_73 {l : Launch} {G : KG} : kOpOK l G 52 73 (.inl (g_iinc 1 1 76)) := snd_iinc dX3_misses_73 rfl
theorem s52_76 {l : Launch} {G : KG} : kOpOK l G 52 76 (.inl (g_iinc 2 1 79)) := snd_iinc dX3_misses_76 rfl
theorem s52_79 {l : Launch} {G : KG} : kOpOK l G 52 79 (.inl (g_goto 17)) := snd_goto dX3_misses_79 (by decide)
theorem s52_82 {l : Launch} {G : KG} : kOpOK l G 52 82 (.inl (g_ild 1 83)) := snd_iload_n dX3_misses_82 rfl
theorem s52_83 {l : Launch} {G : KG} : kOpOK l G 52 83 (.inr (.inr 1)) := ⟨rfl, Or.inr (Or.inl ⟨rfl, dX3_misses_83, rfl⟩)⟩
theorem s53_0 {l : Launch} {G : KG} : kOpOK l G 53 0 (.inl (g_ald 0 1)) := snd_aload_n dX3_modulus_0 rfl
theorem s53_1 {l : Launch} {G : KG} : kOpOK l G 53 1 (.inl (g_gfr 3 0 4)) := snd_gfr (c := 3) (j := 0) (N := 6) dX3_modulus_1 rfl hin3 (by decide) rfl (by decide) rfl wF_3_10
theorem s53_4 {l : Launch} {G : KG} : kOpOK l G 53 4 (.inr (.inl (19, 1, 7))) := ⟨snd_callV (c := 1) dX3_modulus_4 rfl mok_19 rfl rfl rfl rfl (by decide) rfl wM_3_170 wN_X1_hasCollected wL_X1_hasCollected wI_1 (by decide), rfl, mok_19⟩
theorem s53_7 {l : Launch} {G : KG} : kOpOK l G 53 7 (.inl (g_br1 (fun x => decide (¬ x = 0)) 13 10)) := snd_if_ne dX3_modulus_7 (by decide)
theorem s53_10 {l : Launch} {G : KG} : kOpOK l G 53 10 (.inl (g_push (-2) 12)) := snd_bipush dX3_modulus_10 rfl
theorem s53_12 {l : Launch} {G : KG} : kOpOK l G 53 12 (.inr (.inr 1)) := ⟨rfl, Or.inr (Or.inl ⟨rfl, dX3_modulus_12, rfl⟩)⟩
theorem s53_13 {l : Launch} {G : KG} : kOpOK l G 53 13 (.inl (g_push 0 14)) := snd_iconst dX3_modulus_13 rfl
theorem s53_14 {l : Launch} {G : KG} : kOpOK l G 53 14 (.inl (g_ist 1 15)) := snd_istore_n dX3_modulus_14 rfl
theorem s53_15 {l : Launch} {G : KG} : kOpOK l G 53 15 (.inl (g_push 0 16)) := snd_iconst dX3_modulus_15 rfl
theorem s53_16 {l : Launch} {G : KG} : kOpOK l G 53 16 (.inl (g_ist 2 17)) := snd_istore_n dX3_modulus_16 rfl
theorem s53_17 {l : Launch} {G : KG} : kOpOK l G 53 17 (.inl (g_ild 2 18)) := snd_iload_n dX3_modulus_17 rfl
theorem s53_18 {l : Launch} {G : KG} : kOpOK l G 53 18 (.inl (g_ald 0 19)) := snd_aload_n dX3_modulus_18 rfl
theorem s53_19 {l : Launch} {G : KG} : kOpOK l G 53 19 (.inl (g_gfr 3 0 22)) := snd_gfr (c := 3) (j := 0) (N := 6) dX3_modulus_19 rfl hin3 (by decide) rfl (by decide) rfl wF_3_10
theorem s53_22 {l : Launch} {G : KG} : kOpOK l G 53 22 (.inl (g_gfi 1 5 25)) := snd_gfi (c := 1) (j := 5) (N := 14) dX3_modulus_22 rfl hin1 (by decide) rfl (by decide) rfl wF_3_83
theorem s53_25 {l : Launch} {G : KG} : kOpOK l G 53 25 (.inl (g_br2 (fun x y => decide (y ≤ x)) 49 28)) := snd_icmp_ge dX3_modulus_25 (by decide)
theorem s53_28 {l : Launch} {G : KG} : kOpOK l G 53 28 (.inl (g_ild 1 29)) := snd_iload_n dX3_modulus_28 rfl
theorem s53_29 {l : Launch} {G : KG} : kOpOK l G 53 29 (.inl (g_push 1000 32)) := snd_sipush dX3_modulus_29 rfl
theorem s53_32 {l : Launch} {G : KG} : kOpOK l G 53 32 (.inl (g_ald 0 33)) := snd_aload_n dX3_modulus_32 rfl
theorem s53_33 {l : Launch} {G : KG} : kOpOK l G 53 33 (.inl (g_gfr 3 0 36)) := snd_gfr (c := 3) (j := 0) (N := 6) dX3_modulus_33 rfl hin3 (by decide) rfl (by decide) rfl wF_3_10
theorem s53_36 {l : Launch} {G : KG} : kOpOK l G 53 36 (.inl (g_ild 2 37)) := snd_iload_n dX3_modulus_36 rfl
theorem s53_37 {l : Launch} {G : KG} : kOpOK l G 53 37 (.inr (.inl (20, 2, 40))) := ⟨snd_callV (c := 1) dX3_modulus_37 rfl mok_20 rfl rfl rfl rfl (by decide) rfl wM_3_174 wN_X1_passingOf wL_X1_passingOf wI_1 (by decide), rfl, mok_20⟩
theorem s53_40 {l : Launch} {G : KG} : kOpOK l G 53 40 (.inl (g_iop (fun x y => x - y) 41)) := snd_isub dX3_modulus_40
theorem s53_41 {l : Launch} {G : KG} : kOpOK l G 53 41 (.inl (g_iop (fun x y => x + y) 42)) := snd_iadd dX3_modulus_41
theorem s53_42 {l : Launch} {G : KG} : kOpOK l G 53 42 (.inl (g_ist 1 43)) := snd_istore_n dX3_modulus_42 rfl
theorem s53_43 {l : Launch} {G : KG} : kOpOK l G 53 43 (.inl (g_iinc 2 1 46)) := snd_iinc dX3_modulus_43 rfl
theorem s53_46 {l : Launch} {G : KG} : kOpOK l G 53 46 (.inl (g_goto 17)) := snd_goto dX3_modulus_46 (by decide)
theorem s53_49 {l : Launch} {G : KG} : kOpOK l G 53 49 (.inl (g_ild 1 50)) := snd_iload_n dX3_modulus_49 rfl
theorem s53_50 {l : Launch} {G : KG} : kOpOK l G 53 50 (.inl (g_push 10 52)) := snd_bipush dX3_modulus_50 rfl
theorem s53_52 {l : Launch} {G : KG} : kOpOK l G 53 52 (.inl (g_idiv (fun x y => x / y) 53)) := snd_idiv dX3_modulus_52
theorem s53_53 {l : Launch} {G : KG} : kOpOK l G 53 53 (.inr (.inr 1)) := ⟨rfl, Or.inr (Or.inl ⟨rfl, dX3_modulus_53, rfl⟩)⟩
theorem s54_0 {l : Launch} {G : KG} : kOpOK l G 54 0 (.inl (g_ild 1 1)) := snd_iload_n dX3_truePassing_0 rfl
theorem s54_1 {l : Launch} {G : KG} : kOpOK l G 54 1 (.inl (g_push 1 2)) := snd_iconst dX3_truePassing_1 rfl
theorem s54_2 {l : Launch} {G : KG} : kOpOK l G 54 2 (.inl (g_push 9 4)) := snd_bipush dX3_truePassing_2 rfl
theorem s54_4 {l : Launch} {G : KG} : kOpOK l G 54 4 (.inr (.inl (59, 3, 7))) := ⟨snd_callS dX3_truePassing_4 rfl mok_59 rfl rfl rfl wM_3_34 wS_X3_isIn wI_3 (by decide), rfl, mok_59⟩
theorem s54_7 {l : Launch} {G : KG} : kOpOK l G 54 7 (.inl (g_br1 (fun x => decide (¬ x = 0)) 12 10)) := snd_if_ne dX3_truePassing_7 (by decide)
theorem s54_10 {l : Launch} {G : KG} : kOpOK l G 54 10 (.inl (g_push (-1) 11)) := snd_iconst dX3_truePassing_10 rfl
theorem s54_11 {l : Launch} {G : KG} : kOpOK l G 54 11 (.inr (.inr 1)) := ⟨rfl, Or.inr (Or.inl ⟨rfl, dX3_truePassing_11, rfl⟩)⟩
theorem s54_12 {l : Launch} {G : KG} : kOpOK l G 54 12 (.inl (g_ald 0 13)) := snd_aload_n dX3_truePassing_12 rfl
theorem s54_13 {l : Launch} {G : KG} : kOpOK l G 54 13 (.inl (g_gfr 3 0 16)) := snd_gfr (c := 3) (j := 0) (N := 6) dX3_truePassing_13 rfl hin3 (by decide) rfl (by decide) rfl wF_3_10
theorem s54_16 {l : Launch} {G : KG} : kOpOK l G 54 16 (.inl (g_gfr 1 0 19)) := snd_gfr (c := 1) (j := 0) (N := 14) dX3_truePassing_16 rfl hin1 (by decide) rfl (by decide) rfl wF_3_41
theorem s54_19 {l : Launch} {G : KG} : kOpOK l G 54 19 (.inr (.inl (62, 1, 22))) := ⟨snd_callS dX3_truePassing_19 rfl mok_62 rfl rfl rfl wM_3_52 wS_X3_sumOf wI_3 (by decide), rfl, mok_62⟩
theorem s54_22 {l : Launch} {G : KG} : kOpOK l G 54 22 (.inl (g_ist 2 23)) := snd_istore_n dX3_truePassing_22 rfl
theorem s54_23 {l : Launch} {G : KG} : kOpOK l G 54 23 (.inl (g_ild 2 24)) := snd_iload_n dX3_truePassing_23 rfl
theorem s54_24 {l : Launch} {G : KG} : kOpOK l G 54 24 (.inl (g_br1 (fun x => decide (¬ x = 0)) 30 27)) := snd_if_ne dX3_truePassing_24 (by decide)
theorem s54_27 {l : Launch} {G : KG} : kOpOK l G 54 27 (.inl (g_push (-2) 29)) := snd_bipush dX3_truePassing_27 rfl
theorem s54_29 {l : Launch} {G : KG} : kOpOK l G 54 29 (.inr (.inr 1)) := ⟨rfl, Or.inr (Or.inl ⟨rfl, dX3_truePassing_29, rfl⟩)⟩
theorem s54_30 {l : Launch} {G : KG} : kOpOK l G 54 30 (.inl (g_push 0 31)) := snd_iconst dX3_truePassing_30 rfl
theorem s54_31 {l : Launch} {G : KG} : kOpOK l G 54 31 (.inl (g_ist 3 32)) := snd_istore_n dX3_truePassing_31 rfl
theorem s54_32 {l : Launch} {G : KG} : kOpOK l G 54 32 (.inl (g_push 0 33)) := snd_iconst dX3_truePassing_32 rfl
theorem s54_33 {l : Launch} {G : KG} : kOpOK l G 54 33 (.inl (g_ist 4 35)) := snd_istore dX3_truePassing_33
theorem s54_35 {l : Launch} {G : KG} : kOpOK l G 54 35 (.inl (g_ild 4 37)) := snd_iload dX3_truePassing_35
theorem s54_37 {l : Launch} {G : KG} : kOpOK l G 54 37 (.inl (g_ild 1 38)) := snd_iload_n dX3_truePassing_37 rfl
theorem s54_38 {l : Launch} {G : KG} : kOpOK l G 54 38 (.inl (g_br2 (fun x y => decide (y ≤ x)) 60 41)) := snd_icmp_ge dX3_truePassing_38 (by decide)
theorem s54_41 {l : Launch} {G : KG} : kOpOK l G 54 41 (.inl (g_ild 3 42)) := snd_iload_n dX3_truePassing_41 rfl
theorem s54_42 {l : Launch} {G : KG} : kOpOK l G 54 42 (.inl (g_ald 0 43)) := snd_aload_n dX3_truePassing_42 rfl
theorem s54_43 {l : Launch} {G : KG} : kOpOK l G 54 43 (.inl (g_gfr 3 0 46)) := snd_gfr (c := 3) (j := 0) (N := 6) dX3_truePassing_43 rfl hin3 (by decide) rfl (by decide) rfl wF_3_10
theorem s54_46 {l : Launch} {G : KG} : kOpOK l G 54 46 (.inl (g_gfr 1 0 49)) := snd_gfr (c := 1) (j := 0) (N := 14) dX3_truePassing_46 rfl hin1 (by decide) rfl (by decide) rfl wF_3_41
theorem s54_49 {l : Launch} {G : KG} : kOpOK l G 54 49 (.inl (g_ild 4 51)) := snd_iload dX3_truePassing_49
theorem s54_51 {l : Launch} {G : KG} : kOpOK l G 54 51 (.inl (g_pald 5 52)) := snd_pald5 dX3_truePassing_51
theorem s54_52 {l : Launch} {G : KG} : kOpOK l G 54 52 (.inl (g_iop (fun x y => x + y) 53)) := snd_iadd dX3_truePassing_52
theorem s54_53 {l : Launch} {G : KG} : kOpOK l G 54 53 (.inl (g_ist 3 54)) := snd_istore_n dX3_truePassing_53 rfl
theorem s54_54 {l : Launch} {G : KG} : kOpOK l G 54 54 (.inl (g_iinc 4 1 57)) := snd_iinc dX3_truePassing_54 rfl
theorem s54_57 {l : Launch} {G : KG} : kOpOK l G 54 57 (.inl (g_goto 35)) := snd_goto dX3_truePassing_57 (by decide)
theorem s54_60 {l : Launch} {G : KG} : kOpOK l G 54 60 (.inl (g_ild 3 61)) := snd_iload_n dX3_truePassing_60 rfl
theorem s54_61 {l : Launch} {G : KG} : kOpOK l G 54 61 (.inl (g_ild 2 62)) := snd_iload_n dX3_truePassing_61 rfl
theorem s54_62 {l : Launch} {G : KG} : kOpOK l G 54 62 (.inr (.inl (65, 2, 65))) := ⟨snd_callS dX3_truePassing_62 rfl mok_65 rfl rfl rfl wM_3_177 wS_X3_perThousand wI_3 (by decide), rfl, mok_65⟩
theorem s54_65 {l : Launch} {G : KG} : kOpOK l G 54 65 (.inr (.inr 1)) := ⟨rfl, Or.inr (Or.inl ⟨rfl, dX3_truePassing_65, rfl⟩)⟩
theorem s55_0 {l : Launch} {G : KG} : kOpOK l G 55 0 (.inl (g_ild 1 1)) := snd_iload_n dX3_minutesTo_0 rfl
theorem s55_1 {l : Launch} {G : KG} : kOpOK l G 55 1 (.inl (g_push 1 2)) := snd_iconst dX3_minutesTo_1 rfl
theorem s55_2 {l : Launch} {G : KG} : kOpOK l G 55 2 (.inl (g_push 9999 5)) := snd_sipush dX3_minutesTo_2 rfl
theorem s55_5 {l : Launch} {G : KG} : kOpOK l G 55 5 (.inr (.inl (59, 3, 8))) := ⟨snd_callS dX3_minutesTo_5 rfl mok_59 rfl rfl rfl wM_3_34 wS_X3_isIn wI_3 (by decide), rfl, mok_59⟩
theorem s55_8 {l : Launch} {G : KG} : kOpOK l G 55 8 (.inl (g_br1 (fun x => decide (¬ x = 0)) 13 11)) := snd_if_ne dX3_minutesTo_8 (by decide)
theorem s55_11 {l : Launch} {G : KG} : kOpOK l G 55 11 (.inl (g_push (-1) 12)) := snd_iconst dX3_minutesTo_11 rfl
theorem s55_12 {l : Launch} {G : KG} : kOpOK l G 55 12 (.inr (.inr 1)) := ⟨rfl, Or.inr (Or.inl ⟨rfl, dX3_minutesTo_12, rfl⟩)⟩
theorem s55_13 {l : Launch} {G : KG} : kOpOK l G 55 13 (.inl (g_ald 0 14)) := snd_aload_n dX3_minutesTo_13 rfl
theorem s55_14 {l : Launch} {G : KG} : kOpOK l G 55 14 (.inl (g_gfr 3 0 17)) := snd_gfr (c := 3) (j := 0) (N := 6) dX3_minutesTo_14 rfl hin3 (by decide) rfl (by decide) rfl wF_3_10
theorem s55_17 {l : Launch} {G : KG} : kOpOK l G 55 17 (.inl (g_gfi 1 10 20)) := snd_gfi (c := 1) (j := 10) (N := 14) dX3_minutesTo_17 rfl hin1 (by decide) rfl (by decide) rfl wF_3_114
theorem s55_20 {l : Launch} {G : KG} : kOpOK l G 55 20 (.inl (g_br1 (fun x => decide (¬ x = 0)) 26 23)) := snd_if_ne dX3_minutesTo_20 (by decide)
theorem s55_23 {l : Launch} {G : KG} : kOpOK l G 55 23 (.inl (g_push (-2) 25)) := snd_bipush dX3_minutesTo_23 rfl
theorem s55_25 {l : Launch} {G : KG} : kOpOK l G 55 25 (.inr (.inr 1)) := ⟨rfl, Or.inr (Or.inl ⟨rfl, dX3_minutesTo_25, rfl⟩)⟩
theorem s55_26 {l : Launch} {G : KG} : kOpOK l G 55 26 (.inl (g_ald 0 27)) := snd_aload_n dX3_minutesTo_26 rfl
theorem s55_27 {l : Launch} {G : KG} : kOpOK l G 55 27 (.inl (g_gfr 3 1 30)) := snd_gfr (c := 3) (j := 1) (N := 6) dX3_minutesTo_27 rfl hin3 (by decide) rfl (by decide) rfl wF_3_16
theorem s55_30 {l : Launch} {G : KG} : kOpOK l G 55 30 (.inl (g_ald 0 31)) := snd_aload_n dX3_minutesTo_30 rfl
theorem s55_31 {l : Launch} {G : KG} : kOpOK l G 55 31 (.inl (g_gfr 3 0 34)) := snd_gfr (c := 3) (j := 0) (N := 6) dX3_minutesTo_31 rfl hin3 (by decide) rfl (by decide) rfl wF_3_10
theorem s55_34 {l : Launch} {G : KG} : kOpOK l G 55 34 (.inr (.inl (8, 2, 37))) := ⟨snd_callV (c := 1) dX3_minutesTo_34 rfl mok_8 rfl rfl rfl rfl (by decide) rfl wM_3_181 wN_X1_copyFrom wL_X1_copyFrom wI_1 (by decide), rfl, mok_8⟩
theorem s55_37 {l : Launch} {G : KG} : kOpOK l G 55 37 (.inl (g_push 1 38)) := snd_iconst dX3_minutesTo_37 rfl
theorem s55_38 {l : Launch} {G : KG} : kOpOK l G 55 38 (.inl (g_ist 2 39)) := snd_istore_n dX3_minutesTo_38 rfl
theorem s55_39 {l : Launch} {G : KG} : kOpOK l G 55 39 (.inl (g_ild 2 40)) := snd_iload_n dX3_minutesTo_39 rfl
theorem s55_40 {l : Launch} {G : KG} : kOpOK l G 55 40 (.inl (g_push 500 43)) := snd_sipush dX3_minutesTo_40 rfl
theorem s55_43 {l : Launch} {G : KG} : kOpOK l G 55 43 (.inl (g_br2 (fun x y => decide (y < x)) 65 46)) := snd_icmp_gt dX3_minutesTo_43 (by decide)
theorem s55_46 {l : Launch} {G : KG} : kOpOK l G 55 46 (.inl (g_ald 0 47)) := snd_aload_n dX3_minutesTo_46 rfl
theorem s55_47 {l : Launch} {G : KG} : kOpOK l G 55 47 (.inl (g_gfr 3 1 50)) := snd_gfr (c := 3) (j := 1) (N := 6) dX3_minutesTo_47 rfl hin3 (by decide) rfl (by decide) rfl wF_3_16
theorem s55_50 {l : Launch} {G : KG} : kOpOK l G 55 50 (.inr (.inl (17, 1, 53))) := ⟨snd_callV (c := 1) dX3_minutesTo_50 rfl mok_17 rfl rfl rfl rfl (by decide) rfl wM_3_154 wN_X1_shakeOneMinute wL_X1_shakeOneMinute wI_1 (by decide), rfl, mok_17⟩
theorem s55_53 {l : Launch} {G : KG} : kOpOK l G 55 53 (.inl (g_ild 1 54)) := snd_iload_n dX3_minutesTo_53 rfl
theorem s55_54 {l : Launch} {G : KG} : kOpOK l G 55 54 (.inl (g_br2 (fun x y => decide (y ≤ x)) 59 57)) := snd_icmp_ge dX3_minutesTo_54 (by decide)
theorem s55_57 {l : Launch} {G : KG} : kOpOK l G 55 57 (.inl (g_ild 2 58)) := snd_iload_n dX3_minutesTo_57 rfl
theorem s55_58 {l : Launch} {G : KG} : kOpOK l G 55 58 (.inr (.inr 1)) := ⟨rfl, Or.inr (Or.inl ⟨rfl, dX3_minutesTo_58, rfl⟩)⟩
theorem s55_59 {l : Launch} {G : KG} : kOpOK l G 55 59 (.inl (g_iinc 2 1 62)) := snd_iinc dX3_minutesTo_59 rfl
theorem s55_62 {l : Launch} {G : KG} : kOpOK l G 55 62 (.inl (g_goto 39)) := snd_goto dX3_minutesTo_62 (by decide)
theorem s55_65 {l : Launch} {G : KG} : kOpOK l G 55 65 (.inl (g_push (-9) 67)) := snd_bipush dX3_minutesTo_65 rfl
theorem s55_67 {l : Launch} {G : KG} : kOpOK l G 55 67 (.inr (.inr 1)) := ⟨rfl, Or.inr (Or.inl ⟨rfl, dX3_minutesTo_67, rfl⟩)⟩
theorem s56_0 {l : Launch} {G : KG} : kOpOK l G 56 0 (.inl (g_ild 1 1)) := snd_iload_n dX3_dustIn_0 rfl
theorem s56_1 {l : Launch} {G : KG} : kOpOK l G 56 1 (.inl (g_push 1 2)) := snd_iconst dX3_dustIn_1 rfl
theorem s56_2 {l : Launch} {G : KG} : kOpOK l G 56 2 (.inl (g_push 500 5)) := snd_sipush dX3_dustIn_2 rfl
theorem s56_5 {l : Launch} {G : KG} : kOpOK l G 56 5 (.inr (.inl (59, 3, 8))) := ⟨snd_callS dX3_dustIn_5 rfl mok_59 rfl rfl rfl wM_3_34 wS_X3_isIn wI_3 (by decide), rfl, mok_59⟩
theorem s56_8 {l : Launch} {G : KG} : kOpOK l G 56 8 (.inl (g_br1 (fun x => decide (¬ x = 0)) 13 11)) := snd_if_ne dX3_dustIn_8 (by decide)
theorem s56_11 {l : Launch} {G : KG} : kOpOK l G 56 11 (.inl (g_push (-1) 12)) := snd_iconst dX3_dustIn_11 rfl
theorem s56_12 {l : Launch} {G : KG} : kOpOK l G 56 12 (.inr (.inr 1)) := ⟨rfl, Or.inr (Or.inl ⟨rfl, dX3_dustIn_12, rfl⟩)⟩
theorem s56_13 {l : Launch} {G : KG} : kOpOK l G 56 13 (.inl (g_ald 0 14)) := snd_aload_n dX3_dustIn_13 rfl
theorem s56_14 {l : Launch} {G : KG} : kOpOK l G 56 14 (.inl (g_gfr 3 0 17)) := snd_gfr (c := 3) (j := 0) (N := 6) dX3_dustIn_14 rfl hin3 (by decide) rfl (by decide) rfl wF_3_10
theorem s56_17 {l : Launch} {G : KG} : kOpOK l G 56 17 (.inl (g_gfi 1 10 20)) := snd_gfi (c := 1) (j := 10) (N := 14) dX3_dustIn_17 rfl hin1 (by decide) rfl (by decide) rfl wF_3_114
theorem s56_20 {l : Launch} {G : KG} : kOpOK l G 56 20 (.inl (g_br1 (fun x => decide (¬ x = 0)) 26 23)) := snd_if_ne dX3_dustIn_20 (by decide)
theorem s56_23 {l : Launch} {G : KG} : kOpOK l G 56 23 (.inl (g_push (-2) 25)) := snd_bipush dX3_dustIn_23 rfl
theorem s56_25 {l : Launch} {G : KG} : kOpOK l G 56 25 (.inr (.inr 1)) := ⟨rfl, Or.inr (Or.inl ⟨rfl, dX3_dustIn_25, rfl⟩)⟩
theorem s56_26 {l : Launch} {G : KG} : kOpOK l G 56 26 (.inl (g_ald 0 27)) := snd_aload_n dX3_dustIn_26 rfl
theorem s56_27 {l : Launch} {G : KG} : kOpOK l G 56 27 (.inl (g_gfr 3 1 30)) := snd_gfr (c := 3) (j := 1) (N := 6) dX3_dustIn_27 rfl hin3 (by decide) rfl (by decide) rfl wF_3_16
theorem s56_30 {l : Launch} {G : KG} : kOpOK l G 56 30 (.inl (g_ald 0 31)) := snd_aload_n dX3_dustIn_30 rfl
theorem s56_31 {l : Launch} {G : KG} : kOpOK l G 56 31 (.inl (g_gfr 3 0 34)) := snd_gfr (c := 3) (j := 0) (N := 6) dX3_dustIn_31 rfl hin3 (by decide) rfl (by decide) rfl wF_3_10
theorem s56_34 {l : Launch} {G : KG} : kOpOK l G 56 34 (.inr (.inl (8, 2, 37))) := ⟨snd_callV (c := 1) dX3_dustIn_34 rfl mok_8 rfl rfl rfl rfl (by decide) rfl wM_3_181 wN_X1_copyFrom wL_X1_copyFrom wI_1 (by decide), rfl, mok_8⟩
theorem s56_37 {l : Launch} {G : KG} : kOpOK l G 56 37 (.inl (g_push 0 38)) := snd_iconst dX3_dustIn_37 rfl
theorem s56_38 {l : Launch} {G : KG} : kOpOK l G 56 38 (.inl (g_ist 2 39)) := snd_istore_n dX3_dustIn_38 rfl
theorem s56_39 {l : Launch} {G : KG} : kOpOK l G 56 39 (.inl (g_ild 2 40)) := snd_iload_n dX3_dustIn_39 rfl
theorem s56_40 {l : Launch} {G : KG} : kOpOK l G 56 40 (.inl (g_ild 1 41)) := snd_iload_n dX3_dustIn_40 rfl
theorem s56_41 {l : Launch} {G : KG} : kOpOK l G 56 41 (.inl (g_br2 (fun x y => decide (y ≤ x)) 58 44)) := snd_icmp_ge dX3_dustIn_41 (by decide)
theorem s56_44 {l : Launch} {G : KG} : kOpOK l G 56 44 (.inl (g_ald 0 45)) := snd_aload_n dX3_dustIn_44 rfl
theorem s56_45 {l : Launch} {G : KG} : kOpOK l G 56 45 (.inl (g_gfr 3 1 48)) := snd_gfr (c := 3) (j := 1) (N := 6) dX3_dustIn_45 rfl hin3 (by decide) rfl (by decide) rfl wF_3_16
theorem s56_48 {l : Launch} {G : KG} : kOpOK l G 56 48 (.inr (.inl (17, 1, 51))) := ⟨snd_callV (c := 1) dX3_dustIn_48 rfl mok_17 rfl rfl rfl rfl (by decide) rfl wM_3_154 wN_X1_shakeOneMinute wL_X1_shakeOneMinute wI_1 (by decide), rfl, mok_17⟩
theorem s56_51 {l : Launch} {G : KG} : kOpOK l G 56 51 (.inl (g_pop 52)) := snd_pop dX3_dustIn_51
theorem s56_52 {l : Launch} {G : KG} : kOpOK l G 56 52 (.inl (g_iinc 2 1 55)) := snd_iinc dX3_dustIn_52 rfl
theorem s56_55 {l : Launch} {G : KG} : kOpOK l G 56 55 (.inl (g_goto 39)) := snd_goto dX3_dustIn_55 (by decide)
theorem s56_58 {l : Launch} {G : KG} : kOpOK l G 56 58 (.inl (g_ald 0 59)) := snd_aload_n dX3_dustIn_58 rfl
theorem s56_59 {l : Launch} {G : KG} : kOpOK l G 56 59 (.inl (g_gfr 3 1 62)) := snd_gfr (c := 3) (j := 1) (N := 6) dX3_dustIn_59 rfl hin3 (by decide) rfl (by decide) rfl wF_3_16
theorem s56_62 {l : Launch} {G : KG} : kOpOK l G 56 62 (.inr (.inl (18, 1, 65))) := ⟨snd_callV (c := 1) dX3_dustIn_62 rfl mok_18 rfl rfl rfl rfl (by decide) rfl wM_3_164 wN_X1_lostMass wL_X1_lostMass wI_1 (by decide), rfl, mok_18⟩
theorem s56_65 {l : Launch} {G : KG} : kOpOK l G 56 65 (.inl (g_ald 0 66)) := snd_aload_n dX3_dustIn_65 rfl
theorem s56_66 {l : Launch} {G : KG} : kOpOK l G 56 66 (.inl (g_gfr 3 0 69)) := snd_gfr (c := 3) (j := 0) (N := 6) dX3_dustIn_66 rfl hin3 (by decide) rfl (by decide) rfl wF_3_10
theorem s56_69 {l : Launch} {G : KG} : kOpOK l G 56 69 (.inr (.inl (18, 1, 72))) := ⟨snd_callV (c := 1) dX3_dustIn_69 rfl mok_18 rfl rfl rfl rfl (by decide) rfl wM_3_164 wN_X1_lostMass wL_X1_lostMass wI_1 (by decide), rfl, mok_18⟩
theorem s56_72 {l : Launch} {G : KG} : kOpOK l G 56 72 (.inl (g_iop (fun x y => x - y) 73)) := snd_isub dX3_dustIn_72
theorem s56_73 {l : Launch} {G : KG} : kOpOK l G 56 73 (.inr (.inr 1)) := ⟨rfl, Or.inr (Or.inl ⟨rfl, dX3_dustIn_73, rfl⟩)⟩
theorem s57_0 {l : Launch} {G : KG} : kOpOK l G 57 0 (.inl (g_ald 0 1)) := snd_aload_n dX3_undo_0 rfl
theorem s57_1 {l : Launch} {G : KG} : kOpOK l G 57 1 (.inl (g_gfi 3 5 4)) := snd_gfi (c := 3) (j := 5) (N := 6) dX3_undo_1 rfl hin3 (by decide) rfl (by decide) rfl wF_3_124
theorem s57_4 {l : Launch} {G : KG} : kOpOK l G 57 4 (.inl (g_br1 (fun x => decide (¬ x = 0)) 10 7)) := snd_if_ne dX3_undo_4 (by decide)
theorem s57_7 {l : Launch} {G : KG} : kOpOK l G 57 7 (.inl (g_push (-2) 9)) := snd_bipush dX3_undo_7 rfl
theorem s57_9 {l : Launch} {G : KG} : kOpOK l G 57 9 (.inr (.inr 1)) := ⟨rfl, Or.inr (Or.inl ⟨rfl, dX3_undo_9, rfl⟩)⟩
theorem s57_10 {l : Launch} {G : KG} : kOpOK l G 57 10 (.inl (g_ald 0 11)) := snd_aload_n dX3_undo_10 rfl
theorem s57_11 {l : Launch} {G : KG} : kOpOK l G 57 11 (.inl (g_ald 0 12)) := snd_aload_n dX3_undo_11 rfl
theorem s57_12 {l : Launch} {G : KG} : kOpOK l G 57 12 (.inl (g_gfi 3 4 15)) := snd_gfi (c := 3) (j := 4) (N := 6) dX3_undo_12 rfl hin3 (by decide) rfl (by decide) rfl wF_3_185
theorem s57_15 {l : Launch} {G : KG} : kOpOK l G 57 15 (.inl (g_br1 (fun x => decide (¬ x = 0)) 22 18)) := snd_if_ne dX3_undo_15 (by decide)
theorem s57_18 {l : Launch} {G : KG} : kOpOK l G 57 18 (.inl (g_push 5 19)) := snd_iconst dX3_undo_18 rfl
theorem s57_19 {l : Launch} {G : KG} : kOpOK l G 57 19 (.inl (g_goto 28)) := snd_goto dX3_undo_19 (by decide)
theorem s57_22 {l : Launch} {G : KG} : kOpOK l G 57 22 (.inl (g_ald 0 23)) := snd_aload_n dX3_undo_22 rfl
theorem s57_23 {l : Launch} {G : KG} : kOpOK l G 57 23 (.inl (g_gfi 3 4 26)) := snd_gfi (c := 3) (j := 4) (N := 6) dX3_undo_23 rfl hin3 (by decide) rfl (by decide) rfl wF_3_185
theorem s57_26 {l : Launch} {G : KG} : kOpOK l G 57 26 (.inl (g_push 1 27)) := snd_iconst dX3_undo_26 rfl
theorem s57_27 {l : Launch} {G : KG} : kOpOK l G 57 27 (.inl (g_iop (fun x y => x - y) 28)) := snd_isub dX3_undo_27
theorem s57_28 {l : Launch} {G : KG} : kOpOK l G 57 28 (.inl (g_pfi 3 4 31)) := snd_pfi (c := 3) (j := 4) (N := 6) dX3_undo_28 rfl hin3 (by decide) rfl (by decide) rfl wF_3_185 tyX3 tyX3_ok nmX3 rfl (by decide +kernel)
theorem s57_31 {l : Launch} {G : KG} : kOpOK l G 57 31 (.inl (g_ald 0 32)) := snd_aload_n dX3_undo_31 rfl
theorem s57_32 {l : Launch} {G : KG} : kOpOK l G 57 32 (.inl (g_gfr 3 0 35)) := snd_gfr (c := 3) (j := 0) (N := 6) dX3_undo_32 rfl hin3 (by decide) rfl (by decide) rfl wF_3_10
theorem s57_35 {l : Launch} {G : KG} : kOpOK l G 57 35 (.inl (g_ald 0 36)) := snd_aload_n dX3_undo_35 rfl
theorem s57_36 {l : Launch} {G : KG} : kOpOK l G 57 36 (.inl (g_gfr 3 2 39)) := snd_gfr (c := 3) (j := 2) (N := 6) dX3_undo_36 rfl hin3 (by decide) rfl (by decide) rfl wF_3_19
theorem s57_39 {l : Launch} {G : KG} : kOpOK l G 57 39 (.inl (g_ald 0 40)) := snd_aload_n dX3_undo_39 rfl
theorem s57_40 {l : Launch} {G : KG} : kOpOK l G 57 40 (.inl (g_gfi 3 4 43)) := snd_gfi (c := 3) (j := 4) (N := 6) dX3_undo_40 rfl hin3 (by decide) rfl (by decide) rfl wF_3_185
theorem s57_43 {l : Launch} {G : KG} : kOpOK l G 57 43 (.inl (g_aald 10 44)) := snd_aald10 dX3_undo_43
theorem s57_44 {l : Launch} {G : KG} : kOpOK l G 57 44 (.inr (.inl (8, 2, 47))) := ⟨snd_callV (c := 1) dX3_undo_44 rfl mok_8 rfl rfl rfl rfl (by decide) rfl wM_3_181 wN_X1_copyFrom wL_X1_copyFrom wI_1 (by decide), rfl, mok_8⟩
theorem s57_47 {l : Launch} {G : KG} : kOpOK l G 57 47 (.inl (g_ald 0 48)) := snd_aload_n dX3_undo_47 rfl
theorem s57_48 {l : Launch} {G : KG} : kOpOK l G 57 48 (.inl (g_dup 49)) := snd_dup dX3_undo_48
theorem s57_49 {l : Launch} {G : KG} : kOpOK l G 57 49 (.inl (g_gfi 3 5 52)) := snd_gfi (c := 3) (j := 5) (N := 6) dX3_undo_49 rfl hin3 (by decide) rfl (by decide) rfl wF_3_124
theorem s57_52 {l : Launch} {G : KG} : kOpOK l G 57 52 (.inl (g_push 1 53)) := snd_iconst dX3_undo_52 rfl
theorem s57_53 {l : Launch} {G : KG} : kOpOK l G 57 53 (.inl (g_iop (fun x y => x - y) 54)) := snd_isub dX3_undo_53
theorem s57_54 {l : Launch} {G : KG} : kOpOK l G 57 54 (.inl (g_pfi 3 5 57)) := snd_pfi (c := 3) (j := 5) (N := 6) dX3_undo_54 rfl hin3 (by decide) rfl (by decide) rfl wF_3_124 tyX3 tyX3_ok nmX3 rfl (by decide +kernel)
theorem s57_57 {l : Launch} {G : KG} : kOpOK l G 57 57 (.inl (g_ald 0 58)) := snd_aload_n dX3_undo_57 rfl
theorem s57_58 {l : Launch} {G : KG} : kOpOK l G 57 58 (.inl (g_gfi 3 5 61)) := snd_gfi (c := 3) (j := 5) (N := 6) dX3_undo_58 rfl hin3 (by decide) rfl (by decide) rfl wF_3_124
theorem s57_61 {l : Launch} {G : KG} : kOpOK l G 57 61 (.inr (.inr 1)) := ⟨rfl, Or.inr (Or.inl ⟨rfl, dX3_undo_61, rfl⟩)⟩
theorem s58_0 {l : Launch} {G : KG} : kOpOK l G 58 0 (.inl (g_ald 0 1)) := snd_aload_n dX3_saveState_0 rfl
theorem s58_1 {l : Launch} {G : KG} : kOpOK l G 58 1 (.inl (g_gfr 3 2 4)) := snd_gfr (c := 3) (j := 2) (N := 6) dX3_saveState_1 rfl hin3 (by decide) rfl (by decide) rfl wF_3_19
theorem s58_4 {l : Launch} {G : KG} : kOpOK l G 58 4 (.inl (g_ald 0 5)) := snd_aload_n dX3_saveState_4 rfl
theorem s58_5 {l : Launch} {G : KG} : kOpOK l G 58 5 (.inl (g_gfi 3 4 8)) := snd_gfi (c := 3) (j := 4) (N := 6) dX3_saveState_5 rfl hin3 (by decide) rfl (by decide) rfl wF_3_185
theorem s58_8 {l : Launch} {G : KG} : kOpOK l G 58 8 (.inl (g_aald 10 9)) := snd_aald10 dX3_saveState_8
theorem s58_9 {l : Launch} {G : KG} : kOpOK l G 58 9 (.inl (g_ald 0 10)) := snd_aload_n dX3_saveState_9 rfl
theorem s58_10 {l : Launch} {G : KG} : kOpOK l G 58 10 (.inl (g_gfr 3 0 13)) := snd_gfr (c := 3) (j := 0) (N := 6) dX3_saveState_10 rfl hin3 (by decide) rfl (by decide) rfl wF_3_10
theorem s58_13 {l : Launch} {G : KG} : kOpOK l G 58 13 (.inr (.inl (8, 2, 16))) := ⟨snd_callV (c := 1) dX3_saveState_13 rfl mok_8 rfl rfl rfl rfl (by decide) rfl wM_3_181 wN_X1_copyFrom wL_X1_copyFrom wI_1 (by decide), rfl, mok_8⟩
theorem s58_16 {l : Launch} {G : KG} : kOpOK l G 58 16 (.inl (g_ald 0 17)) := snd_aload_n dX3_saveState_16 rfl
theorem s58_17 {l : Launch} {G : KG} : kOpOK l G 58 17 (.inl (g_ald 0 18)) := snd_aload_n dX3_saveState_17 rfl
theorem s58_18 {l : Launch} {G : KG} : kOpOK l G 58 18 (.inl (g_gfi 3 4 21)) := snd_gfi (c := 3) (j := 4) (N := 6) dX3_saveState_18 rfl hin3 (by decide) rfl (by decide) rfl wF_3_185
theorem s58_21 {l : Launch} {G : KG} : kOpOK l G 58 21 (.inl (g_push 5 22)) := snd_iconst dX3_saveState_21 rfl
theorem s58_22 {l : Launch} {G : KG} : kOpOK l G 58 22 (.inl (g_br2 (fun x y => decide (¬ x = y)) 29 25)) := snd_icmp_ne dX3_saveState_22 (by decide)
theorem s58_25 {l : Launch} {G : KG} : kOpOK l G 58 25 (.inl (g_push 0 26)) := snd_iconst dX3_saveState_25 rfl
theorem s58_26 {l : Launch} {G : KG} : kOpOK l G 58 26 (.inl (g_goto 35)) := snd_goto dX3_saveState_26 (by decide)
theorem s58_29 {l : Launch} {G : KG} : kOpOK l G 58 29 (.inl (g_ald 0 30)) := snd_aload_n dX3_saveState_29 rfl
theorem s58_30 {l : Launch} {G : KG} : kOpOK l G 58 30 (.inl (g_gfi 3 4 33)) := snd_gfi (c := 3) (j := 4) (N := 6) dX3_saveState_30 rfl hin3 (by decide) rfl (by decide) rfl wF_3_185
theorem s58_33 {l : Launch} {G : KG} : kOpOK l G 58 33 (.inl (g_push 1 34)) := snd_iconst dX3_saveState_33 rfl
theorem s58_34 {l : Launch} {G : KG} : kOpOK l G 58 34 (.inl (g_iop (fun x y => x + y) 35)) := snd_iadd dX3_saveState_34
theorem s58_35 {l : Launch} {G : KG} : kOpOK l G 58 35 (.inl (g_pfi 3 4 38)) := snd_pfi (c := 3) (j := 4) (N := 6) dX3_saveState_35 rfl hin3 (by decide) rfl (by decide) rfl wF_3_185 tyX3 tyX3_ok nmX3 rfl (by decide +kernel)
theorem s58_38 {l : Launch} {G : KG} : kOpOK l G 58 38 (.inl (g_ald 0 39)) := snd_aload_n dX3_saveState_38 rfl
theorem s58_39 {l : Launch} {G : KG} : kOpOK l G 58 39 (.inl (g_gfi 3 5 42)) := snd_gfi (c := 3) (j := 5) (N := 6) dX3_saveState_39 rfl hin3 (by decide) rfl (by decide) rfl wF_3_124
theorem s58_42 {l : Launch} {G : KG} : kOpOK l G 58 42 (.inl (g_push 6 44)) := snd_bipush dX3_saveState_42 rfl
theorem s58_44 {l : Launch} {G : KG} : kOpOK l G 58 44 (.inl (g_br2 (fun x y => decide (y ≤ x)) 57 47)) := snd_icmp_ge dX3_saveState_44 (by decide)
theorem s58_47 {l : Launch} {G : KG} : kOpOK l G 58 47 (.inl (g_ald 0 48)) := snd_aload_n dX3_saveState_47 rfl
theorem s58_48 {l : Launch} {G : KG} : kOpOK l G 58 48 (.inl (g_dup 49)) := snd_dup dX3_saveState_48
theorem s58_49 {l : Launch} {G : KG} : kOpOK l G 58 49 (.inl (g_gfi 3 5 52)) := snd_gfi (c := 3) (j := 5) (N := 6) dX3_saveState_49 rfl hin3 (by decide) rfl (by decide) rfl wF_3_124
theorem s58_52 {l : Launch} {G : KG} : kOpOK l G 58 52 (.inl (g_push 1 53)) := snd_iconst dX3_saveState_52 rfl
theorem s58_53 {l : Launch} {G : KG} : kOpOK l G 58 53 (.inl (g_iop (fun x y => x + y) 54)) := snd_iadd dX3_saveState_53
theorem s58_54 {l : Launch} {G : KG} : kOpOK l G 58 54 (.inl (g_pfi 3 5 57)) := snd_pfi (c := 3) (j := 5) (N := 6) dX3_saveState_54 rfl hin3 (by decide) rfl (by decide) rfl wF_3_124 tyX3 tyX3_ok nmX3 rfl (by decide +kernel)
theorem s58_57 {l : Launch} {G : KG} : kOpOK l G 58 57 (.inr (.inr 0)) := ⟨rfl, Or.inl ⟨rfl, dX3_saveState_57, rfl⟩⟩
theorem s59_0 {l : Launch} {G : KG} : kOpOK l G 59 0 (.inl (g_ild 0 1)) := snd_iload_n dX3_isIn_0 rfl
theorem s59_1 {l : Launch} {G : KG} : kOpOK l G 59 1 (.inl (g_ild 1 2)) := snd_iload_n dX3_isIn_1 rfl
theorem s59_2 {l : Launch} {G : KG} : kOpOK l G 59 2 (.inl (g_br2 (fun x y => decide (x < y)) 14 5)) := snd_icmp_lt dX3_isIn_2 (by decide)
theorem s59_5 {l : Launch} {G : KG} : kOpOK l G 59 5 (.inl (g_ild 0 6)) := snd_iload_n dX3_isIn_5 rfl
theorem s59_6 {l : Launch} {G : KG} : kOpOK l G 59 6 (.inl (g_ild 2 7)) := snd_iload_n dX3_isIn_6 rfl
theorem s59_7 {l : Launch} {G : KG} : kOpOK l G 59 7 (.inl (g_br2 (fun x y => decide (y < x)) 14 10)) := snd_icmp_gt dX3_isIn_7 (by decide)
theorem s59_10 {l : Launch} {G : KG} : kOpOK l G 59 10 (.inl (g_push 1 11)) := snd_iconst dX3_isIn_10 rfl
theorem s59_11 {l : Launch} {G : KG} : kOpOK l G 59 11 (.inl (g_goto 15)) := snd_goto dX3_isIn_11 (by decide)
theorem s59_14 {l : Launch} {G : KG} : kOpOK l G 59 14 (.inl (g_push 0 15)) := snd_iconst dX3_isIn_14 rfl
theorem s59_15 {l : Launch} {G : KG} : kOpOK l G 59 15 (.inr (.inr 2)) := ⟨rfl, Or.inr (Or.inr ⟨rfl, dX3_isIn_15, rfl⟩)⟩
theorem s60_0 {l : Launch} {G : KG} : kOpOK l G 60 0 (.inl (g_ild 0 1)) := snd_iload_n dX3_isClass_0 rfl
theorem s60_1 {l : Launch} {G : KG} : kOpOK l G 60 1 (.inl (g_push 0 2)) := snd_iconst dX3_isClass_1 rfl
theorem s60_2 {l : Launch} {G : KG} : kOpOK l G 60 2 (.inl (g_push 9 4)) := snd_bipush dX3_isClass_2 rfl
theorem s60_4 {l : Launch} {G : KG} : kOpOK l G 60 4 (.inr (.inl (59, 3, 7))) := ⟨snd_callS dX3_isClass_4 rfl mok_59 rfl rfl rfl wM_3_34 wS_X3_isIn wI_3 (by decide), rfl, mok_59⟩
theorem s60_7 {l : Launch} {G : KG} : kOpOK l G 60 7 (.inr (.inr 2)) := ⟨rfl, Or.inr (Or.inr ⟨rfl, dX3_isClass_7, rfl⟩)⟩
theorem s61_0 {l : Launch} {G : KG} : kOpOK l G 61 0 (.inl (g_ild 1 1)) := snd_iload_n dX3_massIn_0 rfl
theorem s61_1 {l : Launch} {G : KG} : kOpOK l G 61 1 (.inl (g_push (-1) 2)) := snd_iconst dX3_massIn_1 rfl
theorem s61_2 {l : Launch} {G : KG} : kOpOK l G 61 2 (.inl (g_br2 (fun x y => decide (¬ x = y)) 10 5)) := snd_icmp_ne dX3_massIn_2 (by decide)
theorem s61_5 {l : Launch} {G : KG} : kOpOK l G 61 5 (.inl (g_ald 0 6)) := snd_aload_n dX3_massIn_5 rfl
theorem s61_6 {l : Launch} {G : KG} : kOpOK l G 61 6 (.inr (.inl (62, 1, 9))) := ⟨snd_callS dX3_massIn_6 rfl mok_62 rfl rfl rfl wM_3_52 wS_X3_sumOf wI_3 (by decide), rfl, mok_62⟩
theorem s61_9 {l : Launch} {G : KG} : kOpOK l G 61 9 (.inr (.inr 1)) := ⟨rfl, Or.inr (Or.inl ⟨rfl, dX3_massIn_9, rfl⟩)⟩
theorem s61_10 {l : Launch} {G : KG} : kOpOK l G 61 10 (.inl (g_ild 1 11)) := snd_iload_n dX3_massIn_10 rfl
theorem s61_11 {l : Launch} {G : KG} : kOpOK l G 61 11 (.inr (.inl (60, 1, 14))) := ⟨snd_callS dX3_massIn_11 rfl mok_60 rfl rfl rfl wM_3_30 wS_X3_isClass wI_3 (by decide), rfl, mok_60⟩
theorem s61_14 {l : Launch} {G : KG} : kOpOK l G 61 14 (.inl (g_br1 (fun x => decide (x = 0)) 23 17)) := snd_if_eq dX3_massIn_14 (by decide)
theorem s61_17 {l : Launch} {G : KG} : kOpOK l G 61 17 (.inl (g_ald 0 18)) := snd_aload_n dX3_massIn_17 rfl
theorem s61_18 {l : Launch} {G : KG} : kOpOK l G 61 18 (.inl (g_ild 1 19)) := snd_iload_n dX3_massIn_18 rfl
theorem s61_19 {l : Launch} {G : KG} : kOpOK l G 61 19 (.inl (g_pald 5 20)) := snd_pald5 dX3_massIn_19
theorem s61_20 {l : Launch} {G : KG} : kOpOK l G 61 20 (.inl (g_goto 24)) := snd_goto dX3_massIn_20 (by decide)
theorem s61_23 {l : Launch} {G : KG} : kOpOK l G 61 23 (.inl (g_push (-1) 24)) := snd_iconst dX3_massIn_23 rfl
theorem s61_24 {l : Launch} {G : KG} : kOpOK l G 61 24 (.inr (.inr 1)) := ⟨rfl, Or.inr (Or.inl ⟨rfl, dX3_massIn_24, rfl⟩)⟩
theorem s62_0 {l : Launch} {G : KG} : kOpOK l G 62 0 (.inl (g_push 0 1)) := snd_iconst dX3_sumOf_0 rfl
theorem s62_1 {l : Launch} {G : KG} : kOpOK l G 62 1 (.inl (g_ist 1 2)) := snd_istore_n dX3_sumOf_1 rfl
theorem s62_2 {l : Launch} {G : KG} : kOpOK l G 62 2 (.inl (g_ald 0 3)) := snd_aload_n dX3_sumOf_2 rfl
theorem s62_3 {l : Launch} {G : KG} : kOpOK l G 62 3 (.inl (g_ast 2 4)) := snd_astore_n dX3_sumOf_3 rfl
theorem s62_4 {l : Launch} {G : KG} : kOpOK l G 62 4 (.inl (g_ald 2 5)) := snd_aload_n dX3_sumOf_4 rfl
theorem s62_5 {l : Launch} {G : KG} : kOpOK l G 62 5 (.inl (g_alen 6)) := snd_alen dX3_sumOf_5
theorem s62_6 {l : Launch} {G : KG} : kOpOK l G 62 6 (.inl (g_ist 3 7)) := snd_istore_n dX3_sumOf_6 rfl
theorem s62_7 {l : Launch} {G : KG} : kOpOK l G 62 7 (.inl (g_push 0 8)) := snd_iconst dX3_sumOf_7 rfl
theorem s62_8 {l : Launch} {G : KG} : kOpOK l G 62 8 (.inl (g_ist 4 10)) := snd_istore dX3_sumOf_8
theorem s62_10 {l : Launch} {G : KG} : kOpOK l G 62 10 (.inl (g_ild 4 12)) := snd_iload dX3_sumOf_10
theorem s62_12 {l : Launch} {G : KG} : kOpOK l G 62 12 (.inl (g_ild 3 13)) := snd_iload_n dX3_sumOf_12 rfl
theorem s62_13 {l : Launch} {G : KG} : kOpOK l G 62 13 (.inl (g_br2 (fun x y => decide (y ≤ x)) 33 16)) := snd_icmp_ge dX3_sumOf_13 (by decide)
theorem s62_16 {l : Launch} {G : KG} : kOpOK l G 62 16 (.inl (g_ald 2 17)) := snd_aload_n dX3_sumOf_16 rfl
theorem s62_17 {l : Launch} {G : KG} : kOpOK l G 62 17 (.inl (g_ild 4 19)) := snd_iload dX3_sumOf_17
theorem s62_19 {l : Launch} {G : KG} : kOpOK l G 62 19 (.inl (g_pald 5 20)) := snd_pald5 dX3_sumOf_19
theorem s62_20 {l : Launch} {G : KG} : kOpOK l G 62 20 (.inl (g_ist 5 22)) := snd_istore dX3_sumOf_20
theorem s62_22 {l : Launch} {G : KG} : kOpOK l G 62 22 (.inl (g_ild 1 23)) := snd_iload_n dX3_sumOf_22 rfl
theorem s62_23 {l : Launch} {G : KG} : kOpOK l G 62 23 (.inl (g_ild 5 25)) := snd_iload dX3_sumOf_23
theorem s62_25 {l : Launch} {G : KG} : kOpOK l G 62 25 (.inl (g_iop (fun x y => x + y) 26)) := snd_iadd dX3_sumOf_25
theorem s62_26 {l : Launch} {G : KG} : kOpOK l G 62 26 (.inl (g_ist 1 27)) := snd_istore_n dX3_sumOf_26 rfl
theorem s62_27 {l : Launch} {G : KG} : kOpOK l G 62 27 (.inl (g_iinc 4 1 30)) := snd_iinc dX3_sumOf_27 rfl
theorem s62_30 {l : Launch} {G : KG} : kOpOK l G 62 30 (.inl (g_goto 10)) := snd_goto dX3_sumOf_30 (by decide)
theorem s62_33 {l : Launch} {G : KG} : kOpOK l G 62 33 (.inl (g_ild 1 34)) := snd_iload_n dX3_sumOf_33 rfl
theorem s62_34 {l : Launch} {G : KG} : kOpOK l G 62 34 (.inr (.inr 1)) := ⟨rfl, Or.inr (Or.inl ⟨rfl, dX3_sumOf_34, rfl⟩)⟩
theorem s63_0 {l : Launch} {G : KG} : kOpOK l G 63 0 (.inl (g_push 0 1)) := snd_iconst dX3_clearRow_0 rfl
theorem s63_1 {l : Launch} {G : KG} : kOpOK l G 63 1 (.inl (g_ist 1 2)) := snd_istore_n dX3_clearRow_1 rfl
theorem s63_2 {l : Launch} {G : KG} : kOpOK l G 63 2 (.inl (g_ild 1 3)) := snd_iload_n dX3_clearRow_2 rfl
theorem s63_3 {l : Launch} {G : KG} : kOpOK l G 63 3 (.inl (g_ald 0 4)) := snd_aload_n dX3_clearRow_3 rfl
theorem s63_4 {l : Launch} {G : KG} : kOpOK l G 63 4 (.inl (g_alen 5)) := snd_alen dX3_clearRow_4
theorem s63_5 {l : Launch} {G : KG} : kOpOK l G 63 5 (.inl (g_br2 (fun x y => decide (y ≤ x)) 18 8)) := snd_icmp_ge dX3_clearRow_5 (by decide)
theorem s63_8 {l : Launch} {G : KG} : kOpOK l G 63 8 (.inl (g_ald 0 9)) := snd_aload_n dX3_clearRow_8 rfl
theorem s63_9 {l : Launch} {G : KG} : kOpOK l G 63 9 (.inl (g_ild 1 10)) := snd_iload_n dX3_clearRow_9 rfl
theorem s63_10 {l : Launch} {G : KG} : kOpOK l G 63 10 (.inl (g_push 0 11)) := snd_iconst dX3_clearRow_10 rfl
theorem s63_11 {l : Launch} {G : KG} : kOpOK l G 63 11 (.inl (g_past 5 12)) := snd_past5 dX3_clearRow_11
theorem s63_12 {l : Launch} {G : KG} : kOpOK l G 63 12 (.inl (g_iinc 1 1 15)) := snd_iinc dX3_clearRow_12 rfl
theorem s63_15 {l : Launch} {G : KG} : kOpOK l G 63 15 (.inl (g_goto 2)) := snd_goto dX3_clearRow_15 (by decide)
theorem s63_18 {l : Launch} {G : KG} : kOpOK l G 63 18 (.inr (.inr 0)) := ⟨rfl, Or.inl ⟨rfl, dX3_clearRow_18, rfl⟩⟩
theorem s64_0 {l : Launch} {G : KG} : kOpOK l G 64 0 (.inl (g_ald 0 1)) := snd_aload_n dX3_copyRow_0 rfl
theorem s64_1 {l : Launch} {G : KG} : kOpOK l G 64 1 (.inl (g_push 0 2)) := snd_iconst dX3_copyRow_1 rfl
theorem s64_2 {l : Launch} {G : KG} : kOpOK l G 64 2 (.inl (g_ald 1 3)) := snd_aload_n dX3_copyRow_2 rfl
theorem s64_3 {l : Launch} {G : KG} : kOpOK l G 64 3 (.inl (g_push 0 4)) := snd_iconst dX3_copyRow_3 rfl
theorem s64_4 {l : Launch} {G : KG} : kOpOK l G 64 4 (.inl (g_ald 0 5)) := snd_aload_n dX3_copyRow_4 rfl
theorem s64_5 {l : Launch} {G : KG} : kOpOK l G 64 5 (.inl (g_alen 6)) := snd_alen dX3_copyRow_5
theorem s64_6 {l : Launch} {G : KG} : kOpOK l G 64 6 (.inl (g_ald 1 7)) := snd_aload_n dX3_copyRow_6 rfl
theorem s64_7 {l : Launch} {G : KG} : kOpOK l G 64 7 (.inl (g_alen 8)) := snd_alen dX3_copyRow_7
theorem s64_8 {l : Launch} {G : KG} : kOpOK l G 64 8 (.inl (g_imin 11)) := snd_imin dX3_copyRow_8 wM_3_188 wS_snd_imin wI_math wC_snd_imin (by decide) (by decide)
theorem s64_11 {l : Launch} {G : KG} : kOpOK l G 64 11 (.inl (g_acp 14)) := snd_acp dX3_copyRow_11 wM_3_193 wV_acp wS_acp wI_sys (by decide) (by decide)
theorem s64_14 {l : Launch} {G : KG} : kOpOK l G 64 14 (.inr (.inr 0)) := ⟨rfl, Or.inl ⟨rfl, dX3_copyRow_14, rfl⟩⟩
theorem s65_0 {l : Launch} {G : KG} : kOpOK l G 65 0 (.inl (g_ild 1 1)) := snd_iload_n dX3_perThousand_0 rfl
theorem s65_1 {l : Launch} {G : KG} : kOpOK l G 65 1 (.inl (g_br1 (fun x => decide (x ≤ 0)) 14 4)) := snd_if_le dX3_perThousand_1 (by decide)
theorem s65_4 {l : Launch} {G : KG} : kOpOK l G 65 4 (.inl (g_ild 0 5)) := snd_iload_n dX3_perThousand_4 rfl
theorem s65_5 {l : Launch} {G : KG} : kOpOK l G 65 5 (.inl (g_push 1000 8)) := snd_sipush dX3_perThousand_5 rfl
theorem s65_8 {l : Launch} {G : KG} : kOpOK l G 65 8 (.inl (g_iop (fun x y => x * y) 9)) := snd_imul dX3_perThousand_8
theorem s65_9 {l : Launch} {G : KG} : kOpOK l G 65 9 (.inl (g_ild 1 10)) := snd_iload_n dX3_perThousand_9 rfl
theorem s65_10 {l : Launch} {G : KG} : kOpOK l G 65 10 (.inl (g_idiv (fun x y => x / y) 11)) := snd_idiv dX3_perThousand_10
theorem s65_11 {l : Launch} {G : KG} : kOpOK l G 65 11 (.inl (g_goto 15)) := snd_goto dX3_perThousand_11 (by decide)
theorem s65_14 {l : Launch} {G : KG} : kOpOK l G 65 14 (.inl (g_push 0 15)) := snd_iconst dX3_perThousand_14 rfl
theorem s65_15 {l : Launch} {G : KG} : kOpOK l G 65 15 (.inr (.inr 1)) := ⟨rfl, Or.inr (Or.inl ⟨rfl, dX3_perThousand_15, rfl⟩)⟩
theorem s66_0 {l : Launch} {G : KG} : kOpOK l G 66 0 (.inl (g_ild 0 1)) := snd_iload_n dX4_in_0 rfl
theorem s66_1 {l : Launch} {G : KG} : kOpOK l G 66 1 (.inl (g_ild 1 2)) := snd_iload_n dX4_in_1 rfl
theorem s66_2 {l : Launch} {G : KG} : kOpOK l G 66 2 (.inl (g_br2 (fun x y => decide (x < y)) 14 5)) := snd_icmp_lt dX4_in_2 (by decide)
theorem s66_5 {l : Launch} {G : KG} : kOpOK l G 66 5 (.inl (g_ild 0 6)) := snd_iload_n dX4_in_5 rfl
theorem s66_6 {l : Launch} {G : KG} : kOpOK l G 66 6 (.inl (g_ild 2 7)) := snd_iload_n dX4_in_6 rfl
theorem s66_7 {l : Launch} {G : KG} : kOpOK l G 66 7 (.inl (g_br2 (fun x y => decide (y < x)) 14 10)) := snd_icmp_gt dX4_in_7 (by decide)
theorem s66_10 {l : Launch} {G : KG} : kOpOK l G 66 10 (.inl (g_push 1 11)) := snd_iconst dX4_in_10 rfl
theorem s66_11 {l : Launch} {G : KG} : kOpOK l G 66 11 (.inl (g_goto 15)) := snd_goto dX4_in_11 (by decide)
theorem s66_14 {l : Launch} {G : KG} : kOpOK l G 66 14 (.inl (g_push 0 15)) := snd_iconst dX4_in_14 rfl
theorem s66_15 {l : Launch} {G : KG} : kOpOK l G 66 15 (.inr (.inr 2)) := ⟨rfl, Or.inr (Or.inr ⟨rfl, dX4_in_15, rfl⟩)⟩
theorem s67_0 {l : Launch} {G : KG} : kOpOK l G 67 0 (.inl (g_ald 0 1)) := snd_aload_n dX4_notes_0 rfl
theorem s67_1 {l : Launch} {G : KG} : kOpOK l G 67 1 (.inl (g_gfi 4 2 4)) := snd_gfi (c := 4) (j := 2) (N := 8) dX4_notes_1 rfl hin4 (by decide) rfl (by decide) rfl wF_4_26
theorem s67_4 {l : Launch} {G : KG} : kOpOK l G 67 4 (.inl (g_push 6 6)) := snd_bipush dX4_notes_4 rfl
theorem s67_6 {l : Launch} {G : KG} : kOpOK l G 67 6 (.inl (g_br2 (fun x y => decide (¬ x = y)) 50 9)) := snd_icmp_ne dX4_notes_6 (by decide)
theorem s67_9 {l : Launch} {G : KG} : kOpOK l G 67 9 (.inl (g_push 0 10)) := snd_iconst dX4_notes_9 rfl
theorem s67_10 {l : Launch} {G : KG} : kOpOK l G 67 10 (.inl (g_ist 1 11)) := snd_istore_n dX4_notes_10 rfl
theorem s67_11 {l : Launch} {G : KG} : kOpOK l G 67 11 (.inl (g_ild 1 12)) := snd_iload_n dX4_notes_11 rfl
theorem s67_12 {l : Launch} {G : KG} : kOpOK l G 67 12 (.inl (g_push 685 15)) := snd_sipush dX4_notes_12 rfl
theorem s67_15 {l : Launch} {G : KG} : kOpOK l G 67 15 (.inl (g_br2 (fun x y => decide (y ≤ x)) 40 18)) := snd_icmp_ge dX4_notes_15 (by decide)
theorem s67_18 {l : Launch} {G : KG} : kOpOK l G 67 18 (.inl (g_ald 0 19)) := snd_aload_n dX4_notes_18 rfl
theorem s67_19 {l : Launch} {G : KG} : kOpOK l G 67 19 (.inl (g_gfr 4 1 22)) := snd_gfr (c := 4) (j := 1) (N := 8) dX4_notes_19 rfl hin4 (by decide) rfl (by decide) rfl wF_4_13
theorem s67_22 {l : Launch} {G : KG} : kOpOK l G 67 22 (.inl (g_ild 1 23)) := snd_iload_n dX4_notes_22 rfl
theorem s67_23 {l : Launch} {G : KG} : kOpOK l G 67 23 (.inl (g_ald 0 24)) := snd_aload_n dX4_notes_23 rfl
theorem s67_24 {l : Launch} {G : KG} : kOpOK l G 67 24 (.inl (g_gfr 4 1 27)) := snd_gfr (c := 4) (j := 1) (N := 8) dX4_notes_24 rfl hin4 (by decide) rfl (by decide) rfl wF_4_13
theorem s67_27 {l : Launch} {G : KG} : kOpOK l G 67 27 (.inl (g_ild 1 28)) := snd_iload_n dX4_notes_27 rfl
theorem s67_28 {l : Launch} {G : KG} : kOpOK l G 67 28 (.inl (g_push 137 31)) := snd_sipush dX4_notes_28 rfl
theorem s67_31 {l : Launch} {G : KG} : kOpOK l G 67 31 (.inl (g_iop (fun x y => x + y) 32)) := snd_iadd dX4_notes_31
theorem s67_32 {l : Launch} {G : KG} : kOpOK l G 67 32 (.inl (g_pald 5 33)) := snd_pald5 dX4_notes_32
theorem s67_33 {l : Launch} {G : KG} : kOpOK l G 67 33 (.inl (g_past 5 34)) := snd_past5 dX4_notes_33
theorem s67_34 {l : Launch} {G : KG} : kOpOK l G 67 34 (.inl (g_iinc 1 1 37)) := snd_iinc dX4_notes_34 rfl
theorem s67_37 {l : Launch} {G : KG} : kOpOK l G 67 37 (.inl (g_goto 11)) := snd_goto dX4_notes_37 (by decide)
theorem s67_40 {l : Launch} {G : KG} : kOpOK l G 67 40 (.inl (g_ald 0 41)) := snd_aload_n dX4_notes_40 rfl
theorem s67_41 {l : Launch} {G : KG} : kOpOK l G 67 41 (.inl (g_dup 42)) := snd_dup dX4_notes_41
theorem s67_42 {l : Launch} {G : KG} : kOpOK l G 67 42 (.inl (g_gfi 4 2 45)) := snd_gfi (c := 4) (j := 2) (N := 8) dX4_notes_42 rfl hin4 (by decide) rfl (by decide) rfl wF_4_26
theorem s67_45 {l : Launch} {G : KG} : kOpOK l G 67 45 (.inl (g_push 1 46)) := snd_iconst dX4_notes_45 rfl
theorem s67_46 {l : Launch} {G : KG} : kOpOK l G 67 46 (.inl (g_iop (fun x y => x - y) 47)) := snd_isub dX4_notes_46
theorem s67_47 {l : Launch} {G : KG} : kOpOK l G 67 47 (.inl (g_pfi 4 2 50)) := snd_pfi (c := 4) (j := 2) (N := 8) dX4_notes_47 rfl hin4 (by decide) rfl (by decide) rfl wF_4_26 tyX4 tyX4_ok nmX4 rfl (by decide +kernel)
theorem s67_50 {l : Launch} {G : KG} : kOpOK l G 67 50 (.inl (g_push 0 51)) := snd_iconst dX4_notes_50 rfl
theorem s67_51 {l : Launch} {G : KG} : kOpOK l G 67 51 (.inl (g_ist 1 52)) := snd_istore_n dX4_notes_51 rfl
theorem s67_52 {l : Launch} {G : KG} : kOpOK l G 67 52 (.inl (g_ild 1 53)) := snd_iload_n dX4_notes_52 rfl
theorem s67_53 {l : Launch} {G : KG} : kOpOK l G 67 53 (.inl (g_push 137 56)) := snd_sipush dX4_notes_53 rfl
theorem s67_56 {l : Launch} {G : KG} : kOpOK l G 67 56 (.inl (g_br2 (fun x y => decide (y ≤ x)) 86 59)) := snd_icmp_ge dX4_notes_56 (by decide)
theorem s67_59 {l : Launch} {G : KG} : kOpOK l G 67 59 (.inl (g_ald 0 60)) := snd_aload_n dX4_notes_59 rfl
theorem s67_60 {l : Launch} {G : KG} : kOpOK l G 67 60 (.inl (g_gfr 4 1 63)) := snd_gfr (c := 4) (j := 1) (N := 8) dX4_notes_60 rfl hin4 (by decide) rfl (by decide) rfl wF_4_13
theorem s67_63 {l : Launch} {G : KG} : kOpOK l G 67 63 (.inl (g_push 137 66)) := snd_sipush dX4_notes_63 rfl
theorem s67_66 {l : Launch} {G : KG} : kOpOK l G 67 66 (.inl (g_ald 0 67)) := snd_aload_n dX4_notes_66 rfl
theorem s67_67 {l : Launch} {G : KG} : kOpOK l G 67 67 (.inl (g_gfi 4 2 70)) := snd_gfi (c := 4) (j := 2) (N := 8) dX4_notes_67 rfl hin4 (by decide) rfl (by decide) rfl wF_4_26
theorem s67_70 {l : Launch} {G : KG} : kOpOK l G 67 70 (.inl (g_iop (fun x y => x * y) 71)) := snd_imul dX4_notes_70
theorem s67_71 {l : Launch} {G : KG} : kOpOK l G 67 71 (.inl (g_ild 1 72)) := snd_iload_n dX4_notes_71 rfl
theorem s67_72 {l : Launch} {G : KG} : kOpOK l G 67 72 (.inl (g_iop (fun x y => x + y) 73)) := snd_iadd dX4_notes_72
theorem s67_73 {l : Launch} {G : KG} : kOpOK l G 67 73 (.inl (g_ald 0 74)) := snd_aload_n dX4_notes_73 rfl
theorem s67_74 {l : Launch} {G : KG} : kOpOK l G 67 74 (.inl (g_gfr 4 0 77)) := snd_gfr (c := 4) (j := 0) (N := 8) dX4_notes_74 rfl hin4 (by decide) rfl (by decide) rfl wF_4_7
theorem s67_77 {l : Launch} {G : KG} : kOpOK l G 67 77 (.inl (g_ild 1 78)) := snd_iload_n dX4_notes_77 rfl
theorem s67_78 {l : Launch} {G : KG} : kOpOK l G 67 78 (.inl (g_pald 5 79)) := snd_pald5 dX4_notes_78
theorem s67_79 {l : Launch} {G : KG} : kOpOK l G 67 79 (.inl (g_past 5 80)) := snd_past5 dX4_notes_79
theorem s67_80 {l : Launch} {G : KG} : kOpOK l G 67 80 (.inl (g_iinc 1 1 83)) := snd_iinc dX4_notes_80 rfl
theorem s67_83 {l : Launch} {G : KG} : kOpOK l G 67 83 (.inl (g_goto 52)) := snd_goto dX4_notes_83 (by decide)
theorem s67_86 {l : Launch} {G : KG} : kOpOK l G 67 86 (.inl (g_ald 0 87)) := snd_aload_n dX4_notes_86 rfl
theorem s67_87 {l : Launch} {G : KG} : kOpOK l G 67 87 (.inl (g_dup 88)) := snd_dup dX4_notes_87
theorem s67_88 {l : Launch} {G : KG} : kOpOK l G 67 88 (.inl (g_gfi 4 2 91)) := snd_gfi (c := 4) (j := 2) (N := 8) dX4_notes_88 rfl hin4 (by decide) rfl (by decide) rfl wF_4_26
theorem s67_91 {l : Launch} {G : KG} : kOpOK l G 67 91 (.inl (g_push 1 92)) := snd_iconst dX4_notes_91 rfl
theorem s67_92 {l : Launch} {G : KG} : kOpOK l G 67 92 (.inl (g_iop (fun x y => x + y) 93)) := snd_iadd dX4_notes_92
theorem s67_93 {l : Launch} {G : KG} : kOpOK l G 67 93 (.inl (g_pfi 4 2 96)) := snd_pfi (c := 4) (j := 2) (N := 8) dX4_notes_93 rfl hin4 (by decide) rfl (by decide) rfl wF_4_26 tyX4 tyX4_ok nmX4 rfl (by decide +kernel)
theorem s67_96 {l : Launch} {G : KG} : kOpOK l G 67 96 (.inr (.inr 0)) := ⟨rfl, Or.inl ⟨rfl, dX4_notes_96, rfl⟩⟩
theorem s68_0 {l : Launch} {G : KG} : kOpOK l G 68 0 (.inl (g_ald 0 1)) := snd_aload_n dX4_undo_0 rfl
theorem s68_1 {l : Launch} {G : KG} : kOpOK l G 68 1 (.inl (g_gfi 4 2 4)) := snd_gfi (c := 4) (j := 2) (N := 8) dX4_undo_1 rfl hin4 (by decide) rfl (by decide) rfl wF_4_26
theorem s68_4 {l : Launch} {G : KG} : kOpOK l G 68 4 (.inl (g_br1 (fun x => decide (¬ x = 0)) 10 7)) := snd_if_ne dX4_undo_4 (by decide)
theorem s68_7 {l : Launch} {G : KG} : kOpOK l G 68 7 (.inl (g_push (-2) 9)) := snd_bipush dX4_undo_7 rfl
theorem s68_9 {l : Launch} {G : KG} : kOpOK l G 68 9 (.inr (.inr 1)) := ⟨rfl, Or.inr (Or.inl ⟨rfl, dX4_undo_9, rfl⟩)⟩
theorem s68_10 {l : Launch} {G : KG} : kOpOK l G 68 10 (.inl (g_ald 0 11)) := snd_aload_n dX4_undo_10 rfl
theorem s68_11 {l : Launch} {G : KG} : kOpOK l G 68 11 (.inl (g_dup 12)) := snd_dup dX4_undo_11
theorem s68_12 {l : Launch} {G : KG} : kOpOK l G 68 12 (.inl (g_gfi 4 2 15)) := snd_gfi (c := 4) (j := 2) (N := 8) dX4_undo_12 rfl hin4 (by decide) rfl (by decide) rfl wF_4_26
theorem s68_15 {l : Launch} {G : KG} : kOpOK l G 68 15 (.inl (g_push 1 16)) := snd_iconst dX4_undo_15 rfl
theorem s68_16 {l : Launch} {G : KG} : kOpOK l G 68 16 (.inl (g_iop (fun x y => x - y) 17)) := snd_isub dX4_undo_16
theorem s68_17 {l : Launch} {G : KG} : kOpOK l G 68 17 (.inl (g_pfi 4 2 20)) := snd_pfi (c := 4) (j := 2) (N := 8) dX4_undo_17 rfl hin4 (by decide) rfl (by decide) rfl wF_4_26 tyX4 tyX4_ok nmX4 rfl (by decide +kernel)
theorem s68_20 {l : Launch} {G : KG} : kOpOK l G 68 20 (.inl (g_push 0 21)) := snd_iconst dX4_undo_20 rfl
theorem s68_21 {l : Launch} {G : KG} : kOpOK l G 68 21 (.inl (g_ist 1 22)) := snd_istore_n dX4_undo_21 rfl
theorem s68_22 {l : Launch} {G : KG} : kOpOK l G 68 22 (.inl (g_ild 1 23)) := snd_iload_n dX4_undo_22 rfl
theorem s68_23 {l : Launch} {G : KG} : kOpOK l G 68 23 (.inl (g_push 137 26)) := snd_sipush dX4_undo_23 rfl
theorem s68_26 {l : Launch} {G : KG} : kOpOK l G 68 26 (.inl (g_br2 (fun x y => decide (y ≤ x)) 56 29)) := snd_icmp_ge dX4_undo_26 (by decide)
theorem s68_29 {l : Launch} {G : KG} : kOpOK l G 68 29 (.inl (g_ald 0 30)) := snd_aload_n dX4_undo_29 rfl
theorem s68_30 {l : Launch} {G : KG} : kOpOK l G 68 30 (.inl (g_gfr 4 0 33)) := snd_gfr (c := 4) (j := 0) (N := 8) dX4_undo_30 rfl hin4 (by decide) rfl (by decide) rfl wF_4_7
theorem s68_33 {l : Launch} {G : KG} : kOpOK l G 68 33 (.inl (g_ild 1 34)) := snd_iload_n dX4_undo_33 rfl
theorem s68_34 {l : Launch} {G : KG} : kOpOK l G 68 34 (.inl (g_ald 0 35)) := snd_aload_n dX4_undo_34 rfl
theorem s68_35 {l : Launch} {G : KG} : kOpOK l G 68 35 (.inl (g_gfr 4 1 38)) := snd_gfr (c := 4) (j := 1) (N := 8) dX4_undo_35 rfl hin4 (by decide) rfl (by decide) rfl wF_4_13
theorem s68_38 {l : Launch} {G : KG} : kOpOK l G 68 38 (.inl (g_push 137 41)) := snd_sipush dX4_undo_38 rfl
theorem s68_41 {l : Launch} {G : KG} : kOpOK l G 68 41 (.inl (g_ald 0 42)) := snd_aload_n dX4_undo_41 rfl
theorem s68_42 {l : Launch} {G : KG} : kOpOK l G 68 42 (.inl (g_gfi 4 2 45)) := snd_gfi (c := 4) (j := 2) (N := 8) dX4_undo_42 rfl hin4 (by decide) rfl (by decide) rfl wF_4_26
theorem s68_45 {l : Launch} {G : KG} : kOpOK l G 68 45 (.inl (g_iop (fun x y => x * y) 46)) := snd_imul dX4_undo_45
theorem s68_46 {l : Launch} {G : KG} : kOpOK l G 68 46 (.inl (g_ild 1 47)) := snd_iload_n dX4_undo_46 rfl
theorem s68_47 {l : Launch} {G : KG} : kOpOK l G 68 47 (.inl (g_iop (fun x y => x + y) 48)) := snd_iadd dX4_undo_47
theorem s68_48 {l : Launch} {G : KG} : kOpOK l G 68 48 (.inl (g_pald 5 49)) := snd_pald5 dX4_undo_48
theorem s68_49 {l : Launch} {G : KG} : kOpOK l G 68 49 (.inl (g_past 5 50)) := snd_past5 dX4_undo_49
theorem s68_50 {l : Launch} {G : KG} : kOpOK l G 68 50 (.inl (g_iinc 1 1 53)) := snd_iinc dX4_undo_50 rfl
theorem s68_53 {l : Launch} {G : KG} : kOpOK l G 68 53 (.inl (g_goto 22)) := snd_goto dX4_undo_53 (by decide)
theorem s68_56 {l : Launch} {G : KG} : kOpOK l G 68 56 (.inl (g_ald 0 57)) := snd_aload_n dX4_undo_56 rfl
theorem s68_57 {l : Launch} {G : KG} : kOpOK l G 68 57 (.inl (g_gfi 4 2 60)) := snd_gfi (c := 4) (j := 2) (N := 8) dX4_undo_57 rfl hin4 (by decide) rfl (by decide) rfl wF_4_26
theorem s68_60 {l : Launch} {G : KG} : kOpOK l G 68 60 (.inr (.inr 1)) := ⟨rfl, Or.inr (Or.inl ⟨rfl, dX4_undo_60, rfl⟩)⟩
theorem s69_0 {l : Launch} {G : KG} : kOpOK l G 69 0 (.inl (g_push 0 1)) := snd_iconst dX4_sum_0 rfl
theorem s69_1 {l : Launch} {G : KG} : kOpOK l G 69 1 (.inl (g_ist 2 2)) := snd_istore_n dX4_sum_1 rfl
theorem s69_2 {l : Launch} {G : KG} : kOpOK l G 69 2 (.inl (g_push 0 3)) := snd_iconst dX4_sum_2 rfl
theorem s69_3 {l : Launch} {G : KG} : kOpOK l G 69 3 (.inl (g_ist 3 4)) := snd_istore_n dX4_sum_3 rfl
theorem s69_4 {l : Launch} {G : KG} : kOpOK l G 69 4 (.inl (g_ild 3 5)) := snd_iload_n dX4_sum_4 rfl
theorem s69_5 {l : Launch} {G : KG} : kOpOK l G 69 5 (.inl (g_push 10 7)) := snd_bipush dX4_sum_5 rfl
theorem s69_7 {l : Launch} {G : KG} : kOpOK l G 69 7 (.inl (g_br2 (fun x y => decide (y ≤ x)) 27 10)) := snd_icmp_ge dX4_sum_7 (by decide)
theorem s69_10 {l : Launch} {G : KG} : kOpOK l G 69 10 (.inl (g_ild 2 11)) := snd_iload_n dX4_sum_10 rfl
theorem s69_11 {l : Launch} {G : KG} : kOpOK l G 69 11 (.inl (g_ald 0 12)) := snd_aload_n dX4_sum_11 rfl
theorem s69_12 {l : Launch} {G : KG} : kOpOK l G 69 12 (.inl (g_gfr 4 0 15)) := snd_gfr (c := 4) (j := 0) (N := 8) dX4_sum_12 rfl hin4 (by decide) rfl (by decide) rfl wF_4_7
theorem s69_15 {l : Launch} {G : KG} : kOpOK l G 69 15 (.inl (g_ild 1 16)) := snd_iload_n dX4_sum_15 rfl
theorem s69_16 {l : Launch} {G : KG} : kOpOK l G 69 16 (.inl (g_ild 3 17)) := snd_iload_n dX4_sum_16 rfl
theorem s69_17 {l : Launch} {G : KG} : kOpOK l G 69 17 (.inl (g_iop (fun x y => x + y) 18)) := snd_iadd dX4_sum_17
theorem s69_18 {l : Launch} {G : KG} : kOpOK l G 69 18 (.inl (g_pald 5 19)) := snd_pald5 dX4_sum_18
theorem s69_19 {l : Launch} {G : KG} : kOpOK l G 69 19 (.inl (g_iop (fun x y => x + y) 20)) := snd_iadd dX4_sum_19
theorem s69_20 {l : Launch} {G : KG} : kOpOK l G 69 20 (.inl (g_ist 2 21)) := snd_istore_n dX4_sum_20 rfl
theorem s69_21 {l : Launch} {G : KG} : kOpOK l G 69 21 (.inl (g_iinc 3 1 24)) := snd_iinc dX4_sum_21 rfl
theorem s69_24 {l : Launch} {G : KG} : kOpOK l G 69 24 (.inl (g_goto 4)) := snd_goto dX4_sum_24 (by decide)
theorem s69_27 {l : Launch} {G : KG} : kOpOK l G 69 27 (.inl (g_ild 2 28)) := snd_iload_n dX4_sum_27 rfl
theorem s69_28 {l : Launch} {G : KG} : kOpOK l G 69 28 (.inr (.inr 1)) := ⟨rfl, Or.inr (Or.inl ⟨rfl, dX4_sum_28, rfl⟩)⟩
theorem s70_0 {l : Launch} {G : KG} : kOpOK l G 70 0 (.inl (g_ild 1 1)) := snd_iload_n dX4_setMass_0 rfl
theorem s70_1 {l : Launch} {G : KG} : kOpOK l G 70 1 (.inl (g_push 0 2)) := snd_iconst dX4_setMass_1 rfl
theorem s70_2 {l : Launch} {G : KG} : kOpOK l G 70 2 (.inl (g_push 9 4)) := snd_bipush dX4_setMass_2 rfl
theorem s70_4 {l : Launch} {G : KG} : kOpOK l G 70 4 (.inr (.inl (66, 3, 7))) := ⟨snd_callS dX4_setMass_4 rfl mok_66 rfl rfl rfl wM_4_30 wS_X4_in wI_4 (by decide), rfl, mok_66⟩
theorem s70_7 {l : Launch} {G : KG} : kOpOK l G 70 7 (.inl (g_br1 (fun x => decide (x = 0)) 21 10)) := snd_if_eq dX4_setMass_7 (by decide)
theorem s70_10 {l : Launch} {G : KG} : kOpOK l G 70 10 (.inl (g_ild 2 11)) := snd_iload_n dX4_setMass_10 rfl
theorem s70_11 {l : Launch} {G : KG} : kOpOK l G 70 11 (.inl (g_push 0 12)) := snd_iconst dX4_setMass_11 rfl
theorem s70_12 {l : Launch} {G : KG} : kOpOK l G 70 12 (.inl (g_push 9999 15)) := snd_sipush dX4_setMass_12 rfl
theorem s70_15 {l : Launch} {G : KG} : kOpOK l G 70 15 (.inr (.inl (66, 3, 18))) := ⟨snd_callS dX4_setMass_15 rfl mok_66 rfl rfl rfl wM_4_30 wS_X4_in wI_4 (by decide), rfl, mok_66⟩
theorem s70_18 {l : Launch} {G : KG} : kOpOK l G 70 18 (.inl (g_br1 (fun x => decide (¬ x = 0)) 23 21)) := snd_if_ne dX4_setMass_18 (by decide)
theorem s70_21 {l : Launch} {G : KG} : kOpOK l G 70 21 (.inl (g_push (-1) 22)) := snd_iconst dX4_setMass_21 rfl
theorem s70_22 {l : Launch} {G : KG} : kOpOK l G 70 22 (.inr (.inr 1)) := ⟨rfl, Or.inr (Or.inl ⟨rfl, dX4_setMass_22, rfl⟩)⟩
theorem s70_23 {l : Launch} {G : KG} : kOpOK l G 70 23 (.inl (g_ald 0 24)) := snd_aload_n dX4_setMass_23 rfl
theorem s70_24 {l : Launch} {G : KG} : kOpOK l G 70 24 (.inr (.inl (67, 1, 27))) := ⟨snd_callV (c := 4) dX4_setMass_24 rfl mok_67 rfl rfl rfl rfl (by decide) rfl wM_4_34 wN_X4_notes wL_X4_notes wI_4 (by decide), rfl, mok_67⟩
theorem s70_27 {l : Launch} {G : KG} : kOpOK l G 70 27 (.inl (g_ald 0 28)) := snd_aload_n dX4_setMass_27 rfl
theorem s70_28 {l : Launch} {G : KG} : kOpOK l G 70 28 (.inl (g_gfr 4 0 31)) := snd_gfr (c := 4) (j := 0) (N := 8) dX4_setMass_28 rfl hin4 (by decide) rfl (by decide) rfl wF_4_7
theorem s70_31 {l : Launch} {G : KG} : kOpOK l G 70 31 (.inl (g_push 0 32)) := snd_iconst dX4_setMass_31 rfl
theorem s70_32 {l : Launch} {G : KG} : kOpOK l G 70 32 (.inl (g_ild 1 33)) := snd_iload_n dX4_setMass_32 rfl
theorem s70_33 {l : Launch} {G : KG} : kOpOK l G 70 33 (.inl (g_iop (fun x y => x + y) 34)) := snd_iadd dX4_setMass_33
theorem s70_34 {l : Launch} {G : KG} : kOpOK l G 70 34 (.inl (g_pald 5 35)) := snd_pald5 dX4_setMass_34
theorem s70_35 {l : Launch} {G : KG} : kOpOK l G 70 35 (.inl (g_ist 3 36)) := snd_istore_n dX4_setMass_35 rfl
theorem s70_36 {l : Launch} {G : KG} : kOpOK l G 70 36 (.inl (g_ald 0 37)) := snd_aload_n dX4_setMass_36 rfl
theorem s70_37 {l : Launch} {G : KG} : kOpOK l G 70 37 (.inl (g_gfr 4 0 40)) := snd_gfr (c := 4) (j := 0) (N := 8) dX4_setMass_37 rfl hin4 (by decide) rfl (by decide) rfl wF_4_7
theorem s70_40 {l : Launch} {G : KG} : kOpOK l G 70 40 (.inl (g_push 0 41)) := snd_iconst dX4_setMass_40 rfl
theorem s70_41 {l : Launch} {G : KG} : kOpOK l G 70 41 (.inl (g_ild 1 42)) := snd_iload_n dX4_setMass_41 rfl
theorem s70_42 {l : Launch} {G : KG} : kOpOK l G 70 42 (.inl (g_iop (fun x y => x + y) 43)) := snd_iadd dX4_setMass_42
theorem s70_43 {l : Launch} {G : KG} : kOpOK l G 70 43 (.inl (g_ild 2 44)) := snd_iload_n dX4_setMass_43 rfl
theorem s70_44 {l : Launch} {G : KG} : kOpOK l G 70 44 (.inl (g_past 5 45)) := snd_past5 dX4_setMass_44
theorem s70_45 {l : Launch} {G : KG} : kOpOK l G 70 45 (.inl (g_ild 3 46)) := snd_iload_n dX4_setMass_45 rfl
theorem s70_46 {l : Launch} {G : KG} : kOpOK l G 70 46 (.inr (.inr 1)) := ⟨rfl, Or.inr (Or.inl ⟨rfl, dX4_setMass_46, rfl⟩)⟩
theorem s71_0 {l : Launch} {G : KG} : kOpOK l G 71 0 (.inl (g_ild 2 1)) := snd_iload_n dX4_massAt_0 rfl
theorem s71_1 {l : Launch} {G : KG} : kOpOK l G 71 1 (.inl (g_push (-1) 2)) := snd_iconst dX4_massAt_1 rfl
theorem s71_2 {l : Launch} {G : KG} : kOpOK l G 71 2 (.inl (g_push 9 4)) := snd_bipush dX4_massAt_2 rfl
theorem s71_4 {l : Launch} {G : KG} : kOpOK l G 71 4 (.inr (.inl (66, 3, 7))) := ⟨snd_callS dX4_massAt_4 rfl mok_66 rfl rfl rfl wM_4_30 wS_X4_in wI_4 (by decide), rfl, mok_66⟩
theorem s71_7 {l : Launch} {G : KG} : kOpOK l G 71 7 (.inl (g_br1 (fun x => decide (¬ x = 0)) 14 10)) := snd_if_ne dX4_massAt_7 (by decide)
theorem s71_10 {l : Launch} {G : KG} : kOpOK l G 71 10 (.inl (g_push (-1) 11)) := snd_iconst dX4_massAt_10 rfl
theorem s71_11 {l : Launch} {G : KG} : kOpOK l G 71 11 (.inl (g_goto 34)) := snd_goto dX4_massAt_11 (by decide)
theorem s71_14 {l : Launch} {G : KG} : kOpOK l G 71 14 (.inl (g_ild 2 15)) := snd_iload_n dX4_massAt_14 rfl
theorem s71_15 {l : Launch} {G : KG} : kOpOK l G 71 15 (.inl (g_br1 (fun x => decide (0 ≤ x)) 26 18)) := snd_if_ge dX4_massAt_15 (by decide)
theorem s71_18 {l : Launch} {G : KG} : kOpOK l G 71 18 (.inl (g_ald 0 19)) := snd_aload_n dX4_massAt_18 rfl
theorem s71_19 {l : Launch} {G : KG} : kOpOK l G 71 19 (.inl (g_ild 1 20)) := snd_iload_n dX4_massAt_19 rfl
theorem s71_20 {l : Launch} {G : KG} : kOpOK l G 71 20 (.inr (.inl (69, 2, 23))) := ⟨snd_callV (c := 4) dX4_massAt_20 rfl mok_69 rfl rfl rfl rfl (by decide) rfl wM_4_37 wN_X4_sum wL_X4_sum wI_4 (by decide), rfl, mok_69⟩
theorem s71_23 {l : Launch} {G : KG} : kOpOK l G 71 23 (.inl (g_goto 34)) := snd_goto dX4_massAt_23 (by decide)
theorem s71_26 {l : Launch} {G : KG} : kOpOK l G 71 26 (.inl (g_ald 0 27)) := snd_aload_n dX4_massAt_26 rfl
theorem s71_27 {l : Launch} {G : KG} : kOpOK l G 71 27 (.inl (g_gfr 4 0 30)) := snd_gfr (c := 4) (j := 0) (N := 8) dX4_massAt_27 rfl hin4 (by decide) rfl (by decide) rfl wF_4_7
theorem s71_30 {l : Launch} {G : KG} : kOpOK l G 71 30 (.inl (g_ild 1 31)) := snd_iload_n dX4_massAt_30 rfl
theorem s71_31 {l : Launch} {G : KG} : kOpOK l G 71 31 (.inl (g_ild 2 32)) := snd_iload_n dX4_massAt_31 rfl
theorem s71_32 {l : Launch} {G : KG} : kOpOK l G 71 32 (.inl (g_iop (fun x y => x + y) 33)) := snd_iadd dX4_massAt_32
theorem s71_33 {l : Launch} {G : KG} : kOpOK l G 71 33 (.inl (g_pald 5 34)) := snd_pald5 dX4_massAt_33
theorem s71_34 {l : Launch} {G : KG} : kOpOK l G 71 34 (.inr (.inr 1)) := ⟨rfl, Or.inr (Or.inl ⟨rfl, dX4_massAt_34, rfl⟩)⟩
theorem s72_0 {l : Launch} {G : KG} : kOpOK l G 72 0 (.inl (g_ald 0 1)) := snd_aload_n dX4_mass_0 rfl
theorem s72_1 {l : Launch} {G : KG} : kOpOK l G 72 1 (.inl (g_push 0 2)) := snd_iconst dX4_mass_1 rfl
theorem s72_2 {l : Launch} {G : KG} : kOpOK l G 72 2 (.inl (g_ild 1 3)) := snd_iload_n dX4_mass_2 rfl
theorem s72_3 {l : Launch} {G : KG} : kOpOK l G 72 3 (.inr (.inl (71, 3, 6))) := ⟨snd_callV (c := 4) dX4_mass_3 rfl mok_71 rfl rfl rfl rfl (by decide) rfl wM_4_41 wN_X4_massAt wL_X4_massAt wI_4 (by decide), rfl, mok_71⟩
theorem s72_6 {l : Launch} {G : KG} : kOpOK l G 72 6 (.inr (.inr 1)) := ⟨rfl, Or.inr (Or.inl ⟨rfl, dX4_mass_6, rfl⟩)⟩
theorem s73_0 {l : Launch} {G : KG} : kOpOK l G 73 0 (.inl (g_ald 0 1)) := snd_aload_n dX4_reserve_0 rfl
theorem s73_1 {l : Launch} {G : KG} : kOpOK l G 73 1 (.inl (g_push 10 3)) := snd_bipush dX4_reserve_1 rfl
theorem s73_3 {l : Launch} {G : KG} : kOpOK l G 73 3 (.inl (g_ild 1 4)) := snd_iload_n dX4_reserve_3 rfl
theorem s73_4 {l : Launch} {G : KG} : kOpOK l G 73 4 (.inr (.inl (71, 3, 7))) := ⟨snd_callV (c := 4) dX4_reserve_4 rfl mok_71 rfl rfl rfl rfl (by decide) rfl wM_4_41 wN_X4_massAt wL_X4_massAt wI_4 (by decide), rfl, mok_71⟩
theorem s73_7 {l : Launch} {G : KG} : kOpOK l G 73 7 (.inr (.inr 1)) := ⟨rfl, Or.inr (Or.inl ⟨rfl, dX4_reserve_7, rfl⟩)⟩
theorem s74_0 {l : Launch} {G : KG} : kOpOK l G 74 0 (.inl (g_push 0 1)) := snd_iconst dX4_divides_0 rfl
theorem s74_1 {l : Launch} {G : KG} : kOpOK l G 74 1 (.inl (g_ist 2 2)) := snd_istore_n dX4_divides_1 rfl
theorem s74_2 {l : Launch} {G : KG} : kOpOK l G 74 2 (.inl (g_push 0 3)) := snd_iconst dX4_divides_2 rfl
theorem s74_3 {l : Launch} {G : KG} : kOpOK l G 74 3 (.inl (g_ist 3 4)) := snd_istore_n dX4_divides_3 rfl
theorem s74_4 {l : Launch} {G : KG} : kOpOK l G 74 4 (.inl (g_ild 3 5)) := snd_iload_n dX4_divides_4 rfl
theorem s74_5 {l : Launch} {G : KG} : kOpOK l G 74 5 (.inl (g_push 10 7)) := snd_bipush dX4_divides_5 rfl
theorem s74_7 {l : Launch} {G : KG} : kOpOK l G 74 7 (.inl (g_br2 (fun x y => decide (y ≤ x)) 107 10)) := snd_icmp_ge dX4_divides_7 (by decide)
theorem s74_10 {l : Launch} {G : KG} : kOpOK l G 74 10 (.inl (g_ald 0 11)) := snd_aload_n dX4_divides_10 rfl
theorem s74_11 {l : Launch} {G : KG} : kOpOK l G 74 11 (.inl (g_gfr 4 0 14)) := snd_gfr (c := 4) (j := 0) (N := 8) dX4_divides_11 rfl hin4 (by decide) rfl (by decide) rfl wF_4_7
theorem s74_14 {l : Launch} {G : KG} : kOpOK l G 74 14 (.inl (g_push 0 15)) := snd_iconst dX4_divides_14 rfl
theorem s74_15 {l : Launch} {G : KG} : kOpOK l G 74 15 (.inl (g_ild 3 16)) := snd_iload_n dX4_divides_15 rfl
theorem s74_16 {l : Launch} {G : KG} : kOpOK l G 74 16 (.inl (g_iop (fun x y => x + y) 17)) := snd_iadd dX4_divides_16
theorem s74_17 {l : Launch} {G : KG} : kOpOK l G 74 17 (.inl (g_pald 5 18)) := snd_pald5 dX4_divides_17
theorem s74_18 {l : Launch} {G : KG} : kOpOK l G 74 18 (.inl (g_ist 4 20)) := snd_istore dX4_divides_18
theorem s74_20 {l : Launch} {G : KG} : kOpOK l G 74 20 (.inl (g_ild 4 22)) := snd_iload dX4_divides_20
theorem s74_22 {l : Launch} {G : KG} : kOpOK l G 74 22 (.inl (g_push 2 23)) := snd_iconst dX4_divides_22 rfl
theorem s74_23 {l : Launch} {G : KG} : kOpOK l G 74 23 (.inl (g_idiv (fun x y => x / y) 24)) := snd_idiv dX4_divides_23
theorem s74_24 {l : Launch} {G : KG} : kOpOK l G 74 24 (.inl (g_ild 4 26)) := snd_iload dX4_divides_24
theorem s74_26 {l : Launch} {G : KG} : kOpOK l G 74 26 (.inl (g_push 2 27)) := snd_iconst dX4_divides_26 rfl
theorem s74_27 {l : Launch} {G : KG} : kOpOK l G 74 27 (.inl (g_idiv k_irem 28)) := snd_irem dX4_divides_27
theorem s74_28 {l : Launch} {G : KG} : kOpOK l G 74 28 (.inl (g_push 1 29)) := snd_iconst dX4_divides_28 rfl
theorem s74_29 {l : Launch} {G : KG} : kOpOK l G 74 29 (.inl (g_br2 (fun x y => decide (¬ x = y)) 42 32)) := snd_icmp_ne dX4_divides_29 (by decide)
theorem s74_32 {l : Launch} {G : KG} : kOpOK l G 74 32 (.inl (g_ild 2 33)) := snd_iload_n dX4_divides_32 rfl
theorem s74_33 {l : Launch} {G : KG} : kOpOK l G 74 33 (.inl (g_push 2 34)) := snd_iconst dX4_divides_33 rfl
theorem s74_34 {l : Launch} {G : KG} : kOpOK l G 74 34 (.inl (g_idiv k_irem 35)) := snd_irem dX4_divides_34
theorem s74_35 {l : Launch} {G : KG} : kOpOK l G 74 35 (.inl (g_br1 (fun x => decide (¬ x = 0)) 42 38)) := snd_if_ne dX4_divides_35 (by decide)
theorem s74_38 {l : Launch} {G : KG} : kOpOK l G 74 38 (.inl (g_push 1 39)) := snd_iconst dX4_divides_38 rfl
theorem s74_39 {l : Launch} {G : KG} : kOpOK l G 74 39 (.inl (g_goto 43)) := snd_goto dX4_divides_39 (by decide)
theorem s74_42 {l : Launch} {G : KG} : kOpOK l G 74 42 (.inl (g_push 0 43)) := snd_iconst dX4_divides_42 rfl
theorem s74_43 {l : Launch} {G : KG} : kOpOK l G 74 43 (.inl (g_iop (fun x y => x + y) 44)) := snd_iadd dX4_divides_43
theorem s74_44 {l : Launch} {G : KG} : kOpOK l G 74 44 (.inl (g_ist 5 46)) := snd_istore dX4_divides_44
theorem s74_46 {l : Launch} {G : KG} : kOpOK l G 74 46 (.inl (g_ild 2 47)) := snd_iload_n dX4_divides_46 rfl
theorem s74_47 {l : Launch} {G : KG} : kOpOK l G 74 47 (.inl (g_ild 4 49)) := snd_iload dX4_divides_47
theorem s74_49 {l : Launch} {G : KG} : kOpOK l G 74 49 (.inl (g_push 2 50)) := snd_iconst dX4_divides_49 rfl
theorem s74_50 {l : Launch} {G : KG} : kOpOK l G 74 50 (.inl (g_idiv k_irem 51)) := snd_irem dX4_divides_50
theorem s74_51 {l : Launch} {G : KG} : kOpOK l G 74 51 (.inl (g_iop (fun x y => x + y) 52)) := snd_iadd dX4_divides_51
theorem s74_52 {l : Launch} {G : KG} : kOpOK l G 74 52 (.inl (g_ist 2 53)) := snd_istore_n dX4_divides_52 rfl
theorem s74_53 {l : Launch} {G : KG} : kOpOK l G 74 53 (.inl (g_ald 0 54)) := snd_aload_n dX4_divides_53 rfl
theorem s74_54 {l : Launch} {G : KG} : kOpOK l G 74 54 (.inl (g_gfr 4 0 57)) := snd_gfr (c := 4) (j := 0) (N := 8) dX4_divides_54 rfl hin4 (by decide) rfl (by decide) rfl wF_4_7
theorem s74_57 {l : Launch} {G : KG} : kOpOK l G 74 57 (.inl (g_push 0 58)) := snd_iconst dX4_divides_57 rfl
theorem s74_58 {l : Launch} {G : KG} : kOpOK l G 74 58 (.inl (g_ild 3 59)) := snd_iload_n dX4_divides_58 rfl
theorem s74_59 {l : Launch} {G : KG} : kOpOK l G 74 59 (.inl (g_iop (fun x y => x + y) 60)) := snd_iadd dX4_divides_59
theorem s74_60 {l : Launch} {G : KG} : kOpOK l G 74 60 (.inl (g_ild 1 61)) := snd_iload_n dX4_divides_60 rfl
theorem s74_61 {l : Launch} {G : KG} : kOpOK l G 74 61 (.inl (g_br1 (fun x => decide (¬ x = 0)) 69 64)) := snd_if_ne dX4_divides_61 (by decide)
theorem s74_64 {l : Launch} {G : KG} : kOpOK l G 74 64 (.inl (g_ild 5 66)) := snd_iload dX4_divides_64
theorem s74_66 {l : Launch} {G : KG} : kOpOK l G 74 66 (.inl (g_goto 74)) := snd_goto dX4_divides_66 (by decide)
theorem s74_69 {l : Launch} {G : KG} : kOpOK l G 74 69 (.inl (g_ild 4 71)) := snd_iload dX4_divides_69
theorem s74_71 {l : Launch} {G : KG} : kOpOK l G 74 71 (.inl (g_ild 5 73)) := snd_iload dX4_divides_71
theorem s74_73 {l : Launch} {G : KG} : kOpOK l G 74 73 (.inl (g_iop (fun x y => x - y) 74)) := snd_isub dX4_divides_73
theorem s74_74 {l : Launch} {G : KG} : kOpOK l G 74 74 (.inl (g_past 5 75)) := snd_past5 dX4_divides_74
theorem s74_75 {l : Launch} {G : KG} : kOpOK l G 74 75 (.inl (g_ald 0 76)) := snd_aload_n dX4_divides_75 rfl
theorem s74_76 {l : Launch} {G : KG} : kOpOK l G 74 76 (.inl (g_gfr 4 0 79)) := snd_gfr (c := 4) (j := 0) (N := 8) dX4_divides_76 rfl hin4 (by decide) rfl (by decide) rfl wF_4_7
theorem s74_79 {l : Launch} {G : KG} : kOpOK l G 74 79 (.inl (g_push 10 81)) := snd_bipush dX4_divides_79 rfl
theorem s74_81 {l : Launch} {G : KG} : kOpOK l G 74 81 (.inl (g_ild 3 82)) := snd_iload_n dX4_divides_81 rfl
theorem s74_82 {l : Launch} {G : KG} : kOpOK l G 74 82 (.inl (g_iop (fun x y => x + y) 83)) := snd_iadd dX4_divides_82
theorem s74_83 {l : Launch} {G : KG} : kOpOK l G 74 83 (.inl (g_dup2 84)) := snd_dup2 dX4_divides_83
theorem s74_84 {l : Launch} {G : KG} : kOpOK l G 74 84 (.inl (g_pald 5 85)) := snd_pald5 dX4_divides_84
theorem s74_85 {l : Launch} {G : KG} : kOpOK l G 74 85 (.inl (g_ild 1 86)) := snd_iload_n dX4_divides_85 rfl
theorem s74_86 {l : Launch} {G : KG} : kOpOK l G 74 86 (.inl (g_br1 (fun x => decide (¬ x = 0)) 97 89)) := snd_if_ne dX4_divides_86 (by decide)
theorem s74_89 {l : Launch} {G : KG} : kOpOK l G 74 89 (.inl (g_ild 4 91)) := snd_iload dX4_divides_89
theorem s74_91 {l : Launch} {G : KG} : kOpOK l G 74 91 (.inl (g_ild 5 93)) := snd_iload dX4_divides_91
theorem s74_93 {l : Launch} {G : KG} : kOpOK l G 74 93 (.inl (g_iop (fun x y => x - y) 94)) := snd_isub dX4_divides_93
theorem s74_94 {l : Launch} {G : KG} : kOpOK l G 74 94 (.inl (g_goto 99)) := snd_goto dX4_divides_94 (by decide)
theorem s74_97 {l : Launch} {G : KG} : kOpOK l G 74 97 (.inl (g_ild 5 99)) := snd_iload dX4_divides_97
theorem s74_99 {l : Launch} {G : KG} : kOpOK l G 74 99 (.inl (g_iop (fun x y => x + y) 100)) := snd_iadd dX4_divides_99
theorem s74_100 {l : Launch} {G : KG} : kOpOK l G 74 100 (.inl (g_past 5 101)) := snd_past5 dX4_divides_100
theorem s74_101 {l : Launch} {G : KG} : kOpOK l G 74 101 (.inl (g_iinc 3 1 104)) := snd_iinc dX4_divides_101 rfl
theorem s74_104 {l : Launch} {G : KG} : kOpOK l G 74 104 (.inl (g_goto 4)) := snd_goto dX4_divides_104 (by decide)
theorem s74_107 {l : Launch} {G : KG} : kOpOK l G 74 107 (.inr (.inr 0)) := ⟨rfl, Or.inl ⟨rfl, dX4_divides_107, rfl⟩⟩
theorem s75_0 {l : Launch} {G : KG} : kOpOK l G 75 0 (.inl (g_ild 1 1)) := snd_iload_n dX4_split_0 rfl
theorem s75_1 {l : Launch} {G : KG} : kOpOK l G 75 1 (.inl (g_push 0 2)) := snd_iconst dX4_split_1 rfl
theorem s75_2 {l : Launch} {G : KG} : kOpOK l G 75 2 (.inl (g_push 1 3)) := snd_iconst dX4_split_2 rfl
theorem s75_3 {l : Launch} {G : KG} : kOpOK l G 75 3 (.inr (.inl (66, 3, 6))) := ⟨snd_callS dX4_split_3 rfl mok_66 rfl rfl rfl wM_4_30 wS_X4_in wI_4 (by decide), rfl, mok_66⟩
theorem s75_6 {l : Launch} {G : KG} : kOpOK l G 75 6 (.inl (g_br1 (fun x => decide (¬ x = 0)) 11 9)) := snd_if_ne dX4_split_6 (by decide)
theorem s75_9 {l : Launch} {G : KG} : kOpOK l G 75 9 (.inl (g_push (-1) 10)) := snd_iconst dX4_split_9 rfl
theorem s75_10 {l : Launch} {G : KG} : kOpOK l G 75 10 (.inr (.inr 1)) := ⟨rfl, Or.inr (Or.inl ⟨rfl, dX4_split_10, rfl⟩)⟩
theorem s75_11 {l : Launch} {G : KG} : kOpOK l G 75 11 (.inl (g_ald 0 12)) := snd_aload_n dX4_split_11 rfl
theorem s75_12 {l : Launch} {G : KG} : kOpOK l G 75 12 (.inl (g_push 0 13)) := snd_iconst dX4_split_12 rfl
theorem s75_13 {l : Launch} {G : KG} : kOpOK l G 75 13 (.inr (.inl (69, 2, 16))) := ⟨snd_callV (c := 4) dX4_split_13 rfl mok_69 rfl rfl rfl rfl (by decide) rfl wM_4_37 wN_X4_sum wL_X4_sum wI_4 (by decide), rfl, mok_69⟩
theorem s75_16 {l : Launch} {G : KG} : kOpOK l G 75 16 (.inl (g_br1 (fun x => decide (¬ x = 0)) 22 19)) := snd_if_ne dX4_split_16 (by decide)
theorem s75_19 {l : Launch} {G : KG} : kOpOK l G 75 19 (.inl (g_push (-2) 21)) := snd_bipush dX4_split_19 rfl
theorem s75_21 {l : Launch} {G : KG} : kOpOK l G 75 21 (.inr (.inr 1)) := ⟨rfl, Or.inr (Or.inl ⟨rfl, dX4_split_21, rfl⟩)⟩
theorem s75_22 {l : Launch} {G : KG} : kOpOK l G 75 22 (.inl (g_ald 0 23)) := snd_aload_n dX4_split_22 rfl
theorem s75_23 {l : Launch} {G : KG} : kOpOK l G 75 23 (.inr (.inl (67, 1, 26))) := ⟨snd_callV (c := 4) dX4_split_23 rfl mok_67 rfl rfl rfl rfl (by decide) rfl wM_4_34 wN_X4_notes wL_X4_notes wI_4 (by decide), rfl, mok_67⟩
theorem s75_26 {l : Launch} {G : KG} : kOpOK l G 75 26 (.inl (g_ald 0 27)) := snd_aload_n dX4_split_26 rfl
theorem s75_27 {l : Launch} {G : KG} : kOpOK l G 75 27 (.inl (g_ild 1 28)) := snd_iload_n dX4_split_27 rfl
theorem s75_28 {l : Launch} {G : KG} : kOpOK l G 75 28 (.inr (.inl (74, 2, 31))) := ⟨snd_callV (c := 4) dX4_split_28 rfl mok_74 rfl rfl rfl rfl (by decide) rfl wM_4_45 wN_X4_divides wL_X4_divides wI_4 (by decide), rfl, mok_74⟩
theorem s75_31 {l : Launch} {G : KG} : kOpOK l G 75 31 (.inl (g_ald 0 32)) := snd_aload_n dX4_split_31 rfl
theorem s75_32 {l : Launch} {G : KG} : kOpOK l G 75 32 (.inl (g_push 0 33)) := snd_iconst dX4_split_32 rfl
theorem s75_33 {l : Launch} {G : KG} : kOpOK l G 75 33 (.inr (.inl (69, 2, 36))) := ⟨snd_callV (c := 4) dX4_split_33 rfl mok_69 rfl rfl rfl rfl (by decide) rfl wM_4_37 wN_X4_sum wL_X4_sum wI_4 (by decide), rfl, mok_69⟩
theorem s75_36 {l : Launch} {G : KG} : kOpOK l G 75 36 (.inr (.inr 1)) := ⟨rfl, Or.inr (Or.inl ⟨rfl, dX4_split_36, rfl⟩)⟩
theorem s76_0 {l : Launch} {G : KG} : kOpOK l G 76 0 (.inl (g_ild 1 1)) := snd_iload_n dX4_splitTo_0 rfl
theorem s76_1 {l : Launch} {G : KG} : kOpOK l G 76 1 (.inl (g_push 1 2)) := snd_iconst dX4_splitTo_1 rfl
theorem s76_2 {l : Launch} {G : KG} : kOpOK l G 76 2 (.inl (g_push 9999 5)) := snd_sipush dX4_splitTo_2 rfl
theorem s76_5 {l : Launch} {G : KG} : kOpOK l G 76 5 (.inr (.inl (66, 3, 8))) := ⟨snd_callS dX4_splitTo_5 rfl mok_66 rfl rfl rfl wM_4_30 wS_X4_in wI_4 (by decide), rfl, mok_66⟩
theorem s76_8 {l : Launch} {G : KG} : kOpOK l G 76 8 (.inl (g_br1 (fun x => decide (¬ x = 0)) 13 11)) := snd_if_ne dX4_splitTo_8 (by decide)
theorem s76_11 {l : Launch} {G : KG} : kOpOK l G 76 11 (.inl (g_push (-1) 12)) := snd_iconst dX4_splitTo_11 rfl
theorem s76_12 {l : Launch} {G : KG} : kOpOK l G 76 12 (.inr (.inr 1)) := ⟨rfl, Or.inr (Or.inl ⟨rfl, dX4_splitTo_12, rfl⟩)⟩
theorem s76_13 {l : Launch} {G : KG} : kOpOK l G 76 13 (.inl (g_ald 0 14)) := snd_aload_n dX4_splitTo_13 rfl
theorem s76_14 {l : Launch} {G : KG} : kOpOK l G 76 14 (.inr (.inl (67, 1, 17))) := ⟨snd_callV (c := 4) dX4_splitTo_14 rfl mok_67 rfl rfl rfl rfl (by decide) rfl wM_4_34 wN_X4_notes wL_X4_notes wI_4 (by decide), rfl, mok_67⟩
theorem s76_17 {l : Launch} {G : KG} : kOpOK l G 76 17 (.inl (g_push 0 18)) := snd_iconst dX4_splitTo_17 rfl
theorem s76_18 {l : Launch} {G : KG} : kOpOK l G 76 18 (.inl (g_ist 2 19)) := snd_istore_n dX4_splitTo_18 rfl
theorem s76_19 {l : Launch} {G : KG} : kOpOK l G 76 19 (.inl (g_ald 0 20)) := snd_aload_n dX4_splitTo_19 rfl
theorem s76_20 {l : Launch} {G : KG} : kOpOK l G 76 20 (.inl (g_push 0 21)) := snd_iconst dX4_splitTo_20 rfl
theorem s76_21 {l : Launch} {G : KG} : kOpOK l G 76 21 (.inr (.inl (69, 2, 24))) := ⟨snd_callV (c := 4) dX4_splitTo_21 rfl mok_69 rfl rfl rfl rfl (by decide) rfl wM_4_37 wN_X4_sum wL_X4_sum wI_4 (by decide), rfl, mok_69⟩
theorem s76_24 {l : Launch} {G : KG} : kOpOK l G 76 24 (.inl (g_ild 1 25)) := snd_iload_n dX4_splitTo_24 rfl
theorem s76_25 {l : Launch} {G : KG} : kOpOK l G 76 25 (.inl (g_br2 (fun x y => decide (x ≤ y)) 39 28)) := snd_icmp_le dX4_splitTo_25 (by decide)
theorem s76_28 {l : Launch} {G : KG} : kOpOK l G 76 28 (.inl (g_ald 0 29)) := snd_aload_n dX4_splitTo_28 rfl
theorem s76_29 {l : Launch} {G : KG} : kOpOK l G 76 29 (.inl (g_push 0 30)) := snd_iconst dX4_splitTo_29 rfl
theorem s76_30 {l : Launch} {G : KG} : kOpOK l G 76 30 (.inr (.inl (74, 2, 33))) := ⟨snd_callV (c := 4) dX4_splitTo_30 rfl mok_74 rfl rfl rfl rfl (by decide) rfl wM_4_45 wN_X4_divides wL_X4_divides wI_4 (by decide), rfl, mok_74⟩
theorem s76_33 {l : Launch} {G : KG} : kOpOK l G 76 33 (.inl (g_iinc 2 1 36)) := snd_iinc dX4_splitTo_33 rfl
theorem s76_36 {l : Launch} {G : KG} : kOpOK l G 76 36 (.inl (g_goto 19)) := snd_goto dX4_splitTo_36 (by decide)
theorem s76_39 {l : Launch} {G : KG} : kOpOK l G 76 39 (.inl (g_ild 2 40)) := snd_iload_n dX4_splitTo_39 rfl
theorem s76_40 {l : Launch} {G : KG} : kOpOK l G 76 40 (.inr (.inr 1)) := ⟨rfl, Or.inr (Or.inl ⟨rfl, dX4_splitTo_40, rfl⟩)⟩
theorem s77_0 {l : Launch} {G : KG} : kOpOK l G 77 0 (.inl (g_push 0 1)) := snd_iconst dX4_combine_0 rfl
theorem s77_1 {l : Launch} {G : KG} : kOpOK l G 77 1 (.inl (g_ist 1 2)) := snd_istore_n dX4_combine_1 rfl
theorem s77_2 {l : Launch} {G : KG} : kOpOK l G 77 2 (.inl (g_ild 1 3)) := snd_iload_n dX4_combine_2 rfl
theorem s77_3 {l : Launch} {G : KG} : kOpOK l G 77 3 (.inl (g_push 10 5)) := snd_bipush dX4_combine_3 rfl
theorem s77_5 {l : Launch} {G : KG} : kOpOK l G 77 5 (.inl (g_br2 (fun x y => decide (y ≤ x)) 41 8)) := snd_icmp_ge dX4_combine_5 (by decide)
theorem s77_8 {l : Launch} {G : KG} : kOpOK l G 77 8 (.inl (g_ald 0 9)) := snd_aload_n dX4_combine_8 rfl
theorem s77_9 {l : Launch} {G : KG} : kOpOK l G 77 9 (.inl (g_gfr 4 0 12)) := snd_gfr (c := 4) (j := 0) (N := 8) dX4_combine_9 rfl hin4 (by decide) rfl (by decide) rfl wF_4_7
theorem s77_12 {l : Launch} {G : KG} : kOpOK l G 77 12 (.inl (g_push 0 13)) := snd_iconst dX4_combine_12 rfl
theorem s77_13 {l : Launch} {G : KG} : kOpOK l G 77 13 (.inl (g_ild 1 14)) := snd_iload_n dX4_combine_13 rfl
theorem s77_14 {l : Launch} {G : KG} : kOpOK l G 77 14 (.inl (g_iop (fun x y => x + y) 15)) := snd_iadd dX4_combine_14
theorem s77_15 {l : Launch} {G : KG} : kOpOK l G 77 15 (.inl (g_pald 5 16)) := snd_pald5 dX4_combine_15
theorem s77_16 {l : Launch} {G : KG} : kOpOK l G 77 16 (.inl (g_ald 0 17)) := snd_aload_n dX4_combine_16 rfl
theorem s77_17 {l : Launch} {G : KG} : kOpOK l G 77 17 (.inl (g_gfr 4 0 20)) := snd_gfr (c := 4) (j := 0) (N := 8) dX4_combine_17 rfl hin4 (by decide) rfl (by decide) rfl wF_4_7
theorem s77_20 {l : Launch} {G : KG} : kOpOK l G 77 20 (.inl (g_push 10 22)) := snd_bipush dX4_combine_20 rfl
theorem s77_22 {l : Launch} {G : KG} : kOpOK l G 77 22 (.inl (g_ild 1 23)) := snd_iload_n dX4_combine_22 rfl
theorem s77_23 {l : Launch} {G : KG} : kOpOK l G 77 23 (.inl (g_iop (fun x y => x + y) 24)) := snd_iadd dX4_combine_23
theorem s77_24 {l : Launch} {G : KG} : kOpOK l G 77 24 (.inl (g_pald 5 25)) := snd_pald5 dX4_combine_24
theorem s77_25 {l : Launch} {G : KG} : kOpOK l G 77 25 (.inl (g_iop (fun x y => x + y) 26)) := snd_iadd dX4_combine_25
theorem s77_26 {l : Launch} {G : KG} : kOpOK l G 77 26 (.inl (g_push 9999 29)) := snd_sipush dX4_combine_26 rfl
theorem s77_29 {l : Launch} {G : KG} : kOpOK l G 77 29 (.inl (g_br2 (fun x y => decide (x ≤ y)) 35 32)) := snd_icmp_le dX4_combine_29 (by decide)
theorem s77_32 {l : Launch} {G : KG} : kOpOK l G 77 32 (.inl (g_push (-3) 34)) := snd_bipush dX4_combine_32 rfl
theorem s77_34 {l : Launch} {G : KG} : kOpOK l G 77 34 (.inr (.inr 1)) := ⟨rfl, Or.inr (Or.inl ⟨rfl, dX4_combine_34, rfl⟩)⟩
theorem s77_35 {l : Launch} {G : KG} : kOpOK l G 77 35 (.inl (g_iinc 1 1 38)) := snd_iinc dX4_combine_35 rfl
theorem s77_38 {l : Launch} {G : KG} : kOpOK l G 77 38 (.inl (g_goto 2)) := snd_goto dX4_combine_38 (by decide)
theorem s77_41 {l : Launch} {G : KG} : kOpOK l G 77 41 (.inl (g_ald 0 42)) := snd_aload_n dX4_combine_41 rfl
theorem s77_42 {l : Launch} {G : KG} : kOpOK l G 77 42 (.inr (.inl (67, 1, 45))) := ⟨snd_callV (c := 4) dX4_combine_42 rfl mok_67 rfl rfl rfl rfl (by decide) rfl wM_4_34 wN_X4_notes wL_X4_notes wI_4 (by decide), rfl, mok_67⟩
theorem s77_45 {l : Launch} {G : KG} : kOpOK l G 77 45 (.inl (g_push 0 46)) := snd_iconst dX4_combine_45 rfl
theorem s77_46 {l : Launch} {G : KG} : kOpOK l G 77 46 (.inl (g_ist 1 47)) := snd_istore_n dX4_combine_46 rfl
theorem s77_47 {l : Launch} {G : KG} : kOpOK l G 77 47 (.inl (g_ild 1 48)) := snd_iload_n dX4_combine_47 rfl
theorem s77_48 {l : Launch} {G : KG} : kOpOK l G 77 48 (.inl (g_push 10 50)) := snd_bipush dX4_combine_48 rfl
theorem s77_50 {l : Launch} {G : KG} : kOpOK l G 77 50 (.inl (g_br2 (fun x y => decide (y ≤ x)) 89 53)) := snd_icmp_ge dX4_combine_50 (by decide)
theorem s77_53 {l : Launch} {G : KG} : kOpOK l G 77 53 (.inl (g_ald 0 54)) := snd_aload_n dX4_combine_53 rfl
theorem s77_54 {l : Launch} {G : KG} : kOpOK l G 77 54 (.inl (g_gfr 4 0 57)) := snd_gfr (c := 4) (j := 0) (N := 8) dX4_combine_54 rfl hin4 (by decide) rfl (by decide) rfl wF_4_7
theorem s77_57 {l : Launch} {G : KG} : kOpOK l G 77 57 (.inl (g_push 0 58)) := snd_iconst dX4_combine_57 rfl
theorem s77_58 {l : Launch} {G : KG} : kOpOK l G 77 58 (.inl (g_ild 1 59)) := snd_iload_n dX4_combine_58 rfl
theorem s77_59 {l : Launch} {G : KG} : kOpOK l G 77 59 (.inl (g_iop (fun x y => x + y) 60)) := snd_iadd dX4_combine_59
theorem s77_60 {l : Launch} {G : KG} : kOpOK l G 77 60 (.inl (g_dup2 61)) := snd_dup2 dX4_combine_60
theorem s77_61 {l : Launch} {G : KG} : kOpOK l G 77 61 (.inl (g_pald 5 62)) := snd_pald5 dX4_combine_61
theorem s77_62 {l : Launch} {G : KG} : kOpOK l G 77 62 (.inl (g_ald 0 63)) := snd_aload_n dX4_combine_62 rfl
theorem s77_63 {l : Launch} {G : KG} : kOpOK l G 77 63 (.inl (g_gfr 4 0 66)) := snd_gfr (c := 4) (j := 0) (N := 8) dX4_combine_63 rfl hin4 (by decide) rfl (by decide) rfl wF_4_7
theorem s77_66 {l : Launch} {G : KG} : kOpOK l G 77 66 (.inl (g_push 10 68)) := snd_bipush dX4_combine_66 rfl
theorem s77_68 {l : Launch} {G : KG} : kOpOK l G 77 68 (.inl (g_ild 1 69)) := snd_iload_n dX4_combine_68 rfl
theorem s77_69 {l : Launch} {G : KG} : kOpOK l G 77 69 (.inl (g_iop (fun x y => x + y) 70)) := snd_iadd dX4_combine_69
theorem s77_70 {l : Launch} {G : KG} : kOpOK l G 77 70 (.inl (g_pald 5 71)) := snd_pald5 dX4_combine_70
theorem s77_71 {l : Launch} {G : KG} : kOpOK l G 77 71 (.inl (g_iop (fun x y => x + y) 72)) := snd_iadd dX4_combine_71
theorem s77_72 {l : Launch} {G : KG} : kOpOK l G 77 72 (.inl (g_past 5 73)) := snd_past5 dX4_combine_72
theorem s77_73 {l : Launch} {G : KG} : kOpOK l G 77 73 (.inl (g_ald 0 74)) := snd_aload_n dX4_combine_73 rfl
theorem s77_74 {l : Launch} {G : KG} : kOpOK l G 77 74 (.inl (g_gfr 4 0 77)) := snd_gfr (c := 4) (j := 0) (N := 8) dX4_combine_74 rfl hin4 (by decide) rfl (by decide) rfl wF_4_7
theorem s77_77 {l : Launch} {G : KG} : kOpOK l G 77 77 (.inl (g_push 10 79)) := snd_bipush dX4_combine_77 rfl
theorem s77_79 {l : Launch} {G : KG} : kOpOK l G 77 79 (.inl (g_ild 1 80)) := snd_iload_n dX4_combine_79 rfl
theorem s77_80 {l : Launch} {G : KG} : kOpOK l G 77 80 (.inl (g_iop (fun x y => x + y) 81)) := snd_iadd dX4_combine_80
theorem s77_81 {l : Launch} {G : KG} : kOpOK l G 77 81 (.inl (g_push 0 82)) := snd_iconst dX4_combine_81 rfl
theorem s77_82 {l : Launch} {G : KG} : kOpOK l G 77 82 (.inl (g_past 5 83)) := snd_past5 dX4_combine_82
theorem s77_83 {l : Launch} {G : KG} : kOpOK l G 77 83 (.inl (g_iinc 1 1 86)) := snd_iinc dX4_combine_83 rfl
theorem s77_86 {l : Launch} {G : KG} : kOpOK l G 77 86 (.inl (g_goto 47)) := snd_goto dX4_combine_86 (by decide)
theorem s77_89 {l : Launch} {G : KG} : kOpOK l G 77 89 (.inl (g_ald 0 90)) := snd_aload_n dX4_combine_89 rfl
theorem s77_90 {l : Launch} {G : KG} : kOpOK l G 77 90 (.inl (g_push 0 91)) := snd_iconst dX4_combine_90 rfl
theorem s77_91 {l : Launch} {G : KG} : kOpOK l G 77 91 (.inr (.inl (69, 2, 94))) := ⟨snd_callV (c := 4) dX4_combine_91 rfl mok_69 rfl rfl rfl rfl (by decide) rfl wM_4_37 wN_X4_sum wL_X4_sum wI_4 (by decide), rfl, mok_69⟩
theorem s77_94 {l : Launch} {G : KG} : kOpOK l G 77 94 (.inr (.inr 1)) := ⟨rfl, Or.inr (Or.inl ⟨rfl, dX4_combine_94, rfl⟩)⟩
theorem s78_0 {l : Launch} {G : KG} : kOpOK l G 78 0 (.inl (g_ild 1 1)) := snd_iload_n dX4_appendCharacter_0 rfl
theorem s78_1 {l : Launch} {G : KG} : kOpOK l G 78 1 (.inl (g_push 0 2)) := snd_iconst dX4_appendCharacter_1 rfl
theorem s78_2 {l : Launch} {G : KG} : kOpOK l G 78 2 (.inl (g_push 255 5)) := snd_sipush dX4_appendCharacter_2 rfl
theorem s78_5 {l : Launch} {G : KG} : kOpOK l G 78 5 (.inr (.inl (66, 3, 8))) := ⟨snd_callS dX4_appendCharacter_5 rfl mok_66 rfl rfl rfl wM_4_30 wS_X4_in wI_4 (by decide), rfl, mok_66⟩
theorem s78_8 {l : Launch} {G : KG} : kOpOK l G 78 8 (.inl (g_br1 (fun x => decide (¬ x = 0)) 13 11)) := snd_if_ne dX4_appendCharacter_8 (by decide)
theorem s78_11 {l : Launch} {G : KG} : kOpOK l G 78 11 (.inl (g_push (-1) 12)) := snd_iconst dX4_appendCharacter_11 rfl
theorem s78_12 {l : Launch} {G : KG} : kOpOK l G 78 12 (.inr (.inr 1)) := ⟨rfl, Or.inr (Or.inl ⟨rfl, dX4_appendCharacter_12, rfl⟩)⟩
theorem s78_13 {l : Launch} {G : KG} : kOpOK l G 78 13 (.inl (g_ald 0 14)) := snd_aload_n dX4_appendCharacter_13 rfl
theorem s78_14 {l : Launch} {G : KG} : kOpOK l G 78 14 (.inl (g_gfi 4 4 17)) := snd_gfi (c := 4) (j := 4) (N := 8) dX4_appendCharacter_14 rfl hin4 (by decide) rfl (by decide) rfl wF_4_49
theorem s78_17 {l : Launch} {G : KG} : kOpOK l G 78 17 (.inl (g_push 80 19)) := snd_bipush dX4_appendCharacter_17 rfl
theorem s78_19 {l : Launch} {G : KG} : kOpOK l G 78 19 (.inl (g_br2 (fun x y => decide (¬ x = y)) 25 22)) := snd_icmp_ne dX4_appendCharacter_19 (by decide)
theorem s78_22 {l : Launch} {G : KG} : kOpOK l G 78 22 (.inl (g_push (-3) 24)) := snd_bipush dX4_appendCharacter_22 rfl
theorem s78_24 {l : Launch} {G : KG} : kOpOK l G 78 24 (.inr (.inr 1)) := ⟨rfl, Or.inr (Or.inl ⟨rfl, dX4_appendCharacter_24, rfl⟩)⟩
theorem s78_25 {l : Launch} {G : KG} : kOpOK l G 78 25 (.inl (g_ald 0 26)) := snd_aload_n dX4_appendCharacter_25 rfl
theorem s78_26 {l : Launch} {G : KG} : kOpOK l G 78 26 (.inl (g_gfr 4 3 29)) := snd_gfr (c := 4) (j := 3) (N := 8) dX4_appendCharacter_26 rfl hin4 (by decide) rfl (by decide) rfl wF_4_16
theorem s78_29 {l : Launch} {G : KG} : kOpOK l G 78 29 (.inl (g_ald 0 30)) := snd_aload_n dX4_appendCharacter_29 rfl
theorem s78_30 {l : Launch} {G : KG} : kOpOK l G 78 30 (.inl (g_gfi 4 4 33)) := snd_gfi (c := 4) (j := 4) (N := 8) dX4_appendCharacter_30 rfl hin4 (by decide) rfl (by decide) rfl wF_4_49
theorem s78_33 {l : Launch} {G : KG} : kOpOK l G 78 33 (.inl (g_ild 1 34)) := snd_iload_n dX4_appendCharacter_33 rfl
theorem s78_34 {l : Launch} {G : KG} : kOpOK l G 78 34 (.inl (g_i2i k_i2b 35)) := snd_i2b dX4_appendCharacter_34
theorem s78_35 {l : Launch} {G : KG} : kOpOK l G 78 35 (.inl (g_past 8 36)) := snd_past8 dX4_appendCharacter_35
theorem s78_36 {l : Launch} {G : KG} : kOpOK l G 78 36 (.inl (g_ald 0 37)) := snd_aload_n dX4_appendCharacter_36 rfl
theorem s78_37 {l : Launch} {G : KG} : kOpOK l G 78 37 (.inl (g_dup 38)) := snd_dup dX4_appendCharacter_37
theorem s78_38 {l : Launch} {G : KG} : kOpOK l G 78 38 (.inl (g_gfi 4 4 41)) := snd_gfi (c := 4) (j := 4) (N := 8) dX4_appendCharacter_38 rfl hin4 (by decide) rfl (by decide) rfl wF_4_49
theorem s78_41 {l : Launch} {G : KG} : kOpOK l G 78 41 (.inl (g_push 1 42)) := snd_iconst dX4_appendCharacter_41 rfl
theorem s78_42 {l : Launch} {G : KG} : kOpOK l G 78 42 (.inl (g_iop (fun x y => x + y) 43)) := snd_iadd dX4_appendCharacter_42
theorem s78_43 {l : Launch} {G : KG} : kOpOK l G 78 43 (.inl (g_pfi 4 4 46)) := snd_pfi (c := 4) (j := 4) (N := 8) dX4_appendCharacter_43 rfl hin4 (by decide) rfl (by decide) rfl wF_4_49 tyX4 tyX4_ok nmX4 rfl (by decide +kernel)
theorem s78_46 {l : Launch} {G : KG} : kOpOK l G 78 46 (.inl (g_ald 0 47)) := snd_aload_n dX4_appendCharacter_46 rfl
theorem s78_47 {l : Launch} {G : KG} : kOpOK l G 78 47 (.inl (g_gfi 4 4 50)) := snd_gfi (c := 4) (j := 4) (N := 8) dX4_appendCharacter_47 rfl hin4 (by decide) rfl (by decide) rfl wF_4_49
theorem s78_50 {l : Launch} {G : KG} : kOpOK l G 78 50 (.inr (.inr 1)) := ⟨rfl, Or.inr (Or.inl ⟨rfl, dX4_appendCharacter_50, rfl⟩)⟩
theorem s79_0 {l : Launch} {G : KG} : kOpOK l G 79 0 (.inl (g_ald 0 1)) := snd_aload_n dX4_clearText_0 rfl
theorem s79_1 {l : Launch} {G : KG} : kOpOK l G 79 1 (.inl (g_gfi 4 4 4)) := snd_gfi (c := 4) (j := 4) (N := 8) dX4_clearText_1 rfl hin4 (by decide) rfl (by decide) rfl wF_4_49
theorem s79_4 {l : Launch} {G : KG} : kOpOK l G 79 4 (.inl (g_ist 1 5)) := snd_istore_n dX4_clearText_4 rfl
theorem s79_5 {l : Launch} {G : KG} : kOpOK l G 79 5 (.inl (g_ald 0 6)) := snd_aload_n dX4_clearText_5 rfl
theorem s79_6 {l : Launch} {G : KG} : kOpOK l G 79 6 (.inl (g_push 0 7)) := snd_iconst dX4_clearText_6 rfl
theorem s79_7 {l : Launch} {G : KG} : kOpOK l G 79 7 (.inl (g_pfi 4 4 10)) := snd_pfi (c := 4) (j := 4) (N := 8) dX4_clearText_7 rfl hin4 (by decide) rfl (by decide) rfl wF_4_49 tyX4 tyX4_ok nmX4 rfl (by decide +kernel)
theorem s79_10 {l : Launch} {G : KG} : kOpOK l G 79 10 (.inl (g_ild 1 11)) := snd_iload_n dX4_clearText_10 rfl
theorem s79_11 {l : Launch} {G : KG} : kOpOK l G 79 11 (.inr (.inr 1)) := ⟨rfl, Or.inr (Or.inl ⟨rfl, dX4_clearText_11, rfl⟩)⟩
theorem s80_0 {l : Launch} {G : KG} : kOpOK l G 80 0 (.inl (g_ald 0 1)) := snd_aload_n dX4_here_0 rfl
theorem s80_1 {l : Launch} {G : KG} : kOpOK l G 80 1 (.inl (g_gfi 4 7 4)) := snd_gfi (c := 4) (j := 7) (N := 8) dX4_here_1 rfl hin4 (by decide) rfl (by decide) rfl wF_4_52
theorem s80_4 {l : Launch} {G : KG} : kOpOK l G 80 4 (.inl (g_ald 0 5)) := snd_aload_n dX4_here_4 rfl
theorem s80_5 {l : Launch} {G : KG} : kOpOK l G 80 5 (.inl (g_gfi 4 4 8)) := snd_gfi (c := 4) (j := 4) (N := 8) dX4_here_5 rfl hin4 (by decide) rfl (by decide) rfl wF_4_49
theorem s80_8 {l : Launch} {G : KG} : kOpOK l G 80 8 (.inl (g_br2 (fun x y => decide (y ≤ x)) 38 11)) := snd_icmp_ge dX4_here_8 (by decide)
theorem s80_11 {l : Launch} {G : KG} : kOpOK l G 80 11 (.inl (g_ald 0 12)) := snd_aload_n dX4_here_11 rfl
theorem s80_12 {l : Launch} {G : KG} : kOpOK l G 80 12 (.inl (g_gfr 4 3 15)) := snd_gfr (c := 4) (j := 3) (N := 8) dX4_here_12 rfl hin4 (by decide) rfl (by decide) rfl wF_4_16
theorem s80_15 {l : Launch} {G : KG} : kOpOK l G 80 15 (.inl (g_ald 0 16)) := snd_aload_n dX4_here_15 rfl
theorem s80_16 {l : Launch} {G : KG} : kOpOK l G 80 16 (.inl (g_gfi 4 7 19)) := snd_gfi (c := 4) (j := 7) (N := 8) dX4_here_16 rfl hin4 (by decide) rfl (by decide) rfl wF_4_52
theorem s80_19 {l : Launch} {G : KG} : kOpOK l G 80 19 (.inl (g_pald 8 20)) := snd_pald8 dX4_here_19
theorem s80_20 {l : Launch} {G : KG} : kOpOK l G 80 20 (.inl (g_push 32 22)) := snd_bipush dX4_here_20 rfl
theorem s80_22 {l : Launch} {G : KG} : kOpOK l G 80 22 (.inl (g_br2 (fun x y => decide (¬ x = y)) 38 25)) := snd_icmp_ne dX4_here_22 (by decide)
theorem s80_25 {l : Launch} {G : KG} : kOpOK l G 80 25 (.inl (g_ald 0 26)) := snd_aload_n dX4_here_25 rfl
theorem s80_26 {l : Launch} {G : KG} : kOpOK l G 80 26 (.inl (g_dup 27)) := snd_dup dX4_here_26
theorem s80_27 {l : Launch} {G : KG} : kOpOK l G 80 27 (.inl (g_gfi 4 7 30)) := snd_gfi (c := 4) (j := 7) (N := 8) dX4_here_27 rfl hin4 (by decide) rfl (by decide) rfl wF_4_52
theorem s80_30 {l : Launch} {G : KG} : kOpOK l G 80 30 (.inl (g_push 1 31)) := snd_iconst dX4_here_30 rfl
theorem s80_31 {l : Launch} {G : KG} : kOpOK l G 80 31 (.inl (g_iop (fun x y => x + y) 32)) := snd_iadd dX4_here_31
theorem s80_32 {l : Launch} {G : KG} : kOpOK l G 80 32 (.inl (g_pfi 4 7 35)) := snd_pfi (c := 4) (j := 7) (N := 8) dX4_here_32 rfl hin4 (by decide) rfl (by decide) rfl wF_4_52 tyX4 tyX4_ok nmX4 rfl (by decide +kernel)
theorem s80_35 {l : Launch} {G : KG} : kOpOK l G 80 35 (.inl (g_goto 0)) := snd_goto dX4_here_35 (by decide)
theorem s80_38 {l : Launch} {G : KG} : kOpOK l G 80 38 (.inl (g_ald 0 39)) := snd_aload_n dX4_here_38 rfl
theorem s80_39 {l : Launch} {G : KG} : kOpOK l G 80 39 (.inl (g_gfi 4 7 42)) := snd_gfi (c := 4) (j := 7) (N := 8) dX4_here_39 rfl hin4 (by decide) rfl (by decide) rfl wF_4_52
theorem s80_42 {l : Launch} {G : KG} : kOpOK l G 80 42 (.inl (g_ald 0 43)) := snd_aload_n dX4_here_42 rfl
theorem s80_43 {l : Launch} {G : KG} : kOpOK l G 80 43 (.inl (g_gfi 4 4 46)) := snd_gfi (c := 4) (j := 4) (N := 8) dX4_here_43 rfl hin4 (by decide) rfl (by decide) rfl wF_4_49
theorem s80_46 {l : Launch} {G : KG} : kOpOK l G 80 46 (.inl (g_br2 (fun x y => decide (y ≤ x)) 65 49)) := snd_icmp_ge dX4_here_46 (by decide)
theorem s80_49 {l : Launch} {G : KG} : kOpOK l G 80 49 (.inl (g_ald 0 50)) := snd_aload_n dX4_here_49 rfl
theorem s80_50 {l : Launch} {G : KG} : kOpOK l G 80 50 (.inl (g_gfr 4 3 53)) := snd_gfr (c := 4) (j := 3) (N := 8) dX4_here_50 rfl hin4 (by decide) rfl (by decide) rfl wF_4_16
theorem s80_53 {l : Launch} {G : KG} : kOpOK l G 80 53 (.inl (g_ald 0 54)) := snd_aload_n dX4_here_53 rfl
theorem s80_54 {l : Launch} {G : KG} : kOpOK l G 80 54 (.inl (g_gfi 4 7 57)) := snd_gfi (c := 4) (j := 7) (N := 8) dX4_here_54 rfl hin4 (by decide) rfl (by decide) rfl wF_4_52
theorem s80_57 {l : Launch} {G : KG} : kOpOK l G 80 57 (.inl (g_pald 8 58)) := snd_pald8 dX4_here_57
theorem s80_58 {l : Launch} {G : KG} : kOpOK l G 80 58 (.inl (g_push 255 61)) := snd_sipush dX4_here_58 rfl
theorem s80_61 {l : Launch} {G : KG} : kOpOK l G 80 61 (.inl (g_iop (fun x y => x &&& y) 62)) := snd_iand dX4_here_61
theorem s80_62 {l : Launch} {G : KG} : kOpOK l G 80 62 (.inl (g_goto 66)) := snd_goto dX4_here_62 (by decide)
theorem s80_65 {l : Launch} {G : KG} : kOpOK l G 80 65 (.inl (g_push (-1) 66)) := snd_iconst dX4_here_65 rfl
theorem s80_66 {l : Launch} {G : KG} : kOpOK l G 80 66 (.inr (.inr 1)) := ⟨rfl, Or.inr (Or.inl ⟨rfl, dX4_here_66, rfl⟩)⟩
theorem s81_0 {l : Launch} {G : KG} : kOpOK l G 81 0 (.inl (g_ald 0 1)) := snd_aload_n dX4_readsPair_0 rfl
theorem s81_1 {l : Launch} {G : KG} : kOpOK l G 81 1 (.inr (.inl (80, 1, 4))) := ⟨snd_callV (c := 4) dX4_readsPair_1 rfl mok_80 rfl rfl rfl rfl (by decide) rfl wM_4_55 wN_X4_here wL_X4_here wI_4 (by decide), rfl, mok_80⟩
theorem s81_4 {l : Launch} {G : KG} : kOpOK l G 81 4 (.inl (g_push 48 6)) := snd_bipush dX4_readsPair_4 rfl
theorem s81_6 {l : Launch} {G : KG} : kOpOK l G 81 6 (.inl (g_iop (fun x y => x - y) 7)) := snd_isub dX4_readsPair_6
theorem s81_7 {l : Launch} {G : KG} : kOpOK l G 81 7 (.inl (g_ist 1 8)) := snd_istore_n dX4_readsPair_7 rfl
theorem s81_8 {l : Launch} {G : KG} : kOpOK l G 81 8 (.inl (g_ild 1 9)) := snd_iload_n dX4_readsPair_8 rfl
theorem s81_9 {l : Launch} {G : KG} : kOpOK l G 81 9 (.inl (g_push 0 10)) := snd_iconst dX4_readsPair_9 rfl
theorem s81_10 {l : Launch} {G : KG} : kOpOK l G 81 10 (.inl (g_push 9 12)) := snd_bipush dX4_readsPair_10 rfl
theorem s81_12 {l : Launch} {G : KG} : kOpOK l G 81 12 (.inr (.inl (66, 3, 15))) := ⟨snd_callS dX4_readsPair_12 rfl mok_66 rfl rfl rfl wM_4_30 wS_X4_in wI_4 (by decide), rfl, mok_66⟩
theorem s81_15 {l : Launch} {G : KG} : kOpOK l G 81 15 (.inl (g_br1 (fun x => decide (x = 0)) 27 18)) := snd_if_eq dX4_readsPair_15 (by decide)
theorem s81_18 {l : Launch} {G : KG} : kOpOK l G 81 18 (.inl (g_ald 0 19)) := snd_aload_n dX4_readsPair_18 rfl
theorem s81_19 {l : Launch} {G : KG} : kOpOK l G 81 19 (.inl (g_gfr 4 6 22)) := snd_gfr (c := 4) (j := 6) (N := 8) dX4_readsPair_19 rfl hin4 (by decide) rfl (by decide) rfl wF_4_23
theorem s81_22 {l : Launch} {G : KG} : kOpOK l G 81 22 (.inl (g_ild 1 23)) := snd_iload_n dX4_readsPair_22 rfl
theorem s81_23 {l : Launch} {G : KG} : kOpOK l G 81 23 (.inl (g_pald 5 24)) := snd_pald5 dX4_readsPair_23
theorem s81_24 {l : Launch} {G : KG} : kOpOK l G 81 24 (.inl (g_br1 (fun x => decide (x < 0)) 29 27)) := snd_if_lt dX4_readsPair_24 (by decide)
theorem s81_27 {l : Launch} {G : KG} : kOpOK l G 81 27 (.inl (g_push 0 28)) := snd_iconst dX4_readsPair_27 rfl
theorem s81_28 {l : Launch} {G : KG} : kOpOK l G 81 28 (.inr (.inr 2)) := ⟨rfl, Or.inr (Or.inr ⟨rfl, dX4_readsPair_28, rfl⟩)⟩
theorem s81_29 {l : Launch} {G : KG} : kOpOK l G 81 29 (.inl (g_ald 0 30)) := snd_aload_n dX4_readsPair_29 rfl
theorem s81_30 {l : Launch} {G : KG} : kOpOK l G 81 30 (.inl (g_dup 31)) := snd_dup dX4_readsPair_30
theorem s81_31 {l : Launch} {G : KG} : kOpOK l G 81 31 (.inl (g_gfi 4 7 34)) := snd_gfi (c := 4) (j := 7) (N := 8) dX4_readsPair_31 rfl hin4 (by decide) rfl (by decide) rfl wF_4_52
theorem s81_34 {l : Launch} {G : KG} : kOpOK l G 81 34 (.inl (g_push 1 35)) := snd_iconst dX4_readsPair_34 rfl
theorem s81_35 {l : Launch} {G : KG} : kOpOK l G 81 35 (.inl (g_iop (fun x y => x + y) 36)) := snd_iadd dX4_readsPair_35
theorem s81_36 {l : Launch} {G : KG} : kOpOK l G 81 36 (.inl (g_pfi 4 7 39)) := snd_pfi (c := 4) (j := 7) (N := 8) dX4_readsPair_36 rfl hin4 (by decide) rfl (by decide) rfl wF_4_52 tyX4 tyX4_ok nmX4 rfl (by decide +kernel)
theorem s81_39 {l : Launch} {G : KG} : kOpOK l G 81 39 (.inl (g_ald 0 40)) := snd_aload_n dX4_readsPair_39 rfl
theorem s81_40 {l : Launch} {G : KG} : kOpOK l G 81 40 (.inr (.inl (80, 1, 43))) := ⟨snd_callV (c := 4) dX4_readsPair_40 rfl mok_80 rfl rfl rfl rfl (by decide) rfl wM_4_55 wN_X4_here wL_X4_here wI_4 (by decide), rfl, mok_80⟩
theorem s81_43 {l : Launch} {G : KG} : kOpOK l G 81 43 (.inl (g_push 58 45)) := snd_bipush dX4_readsPair_43 rfl
theorem s81_45 {l : Launch} {G : KG} : kOpOK l G 81 45 (.inl (g_br2 (fun x y => decide (x = y)) 50 48)) := snd_icmp_eq dX4_readsPair_45 (by decide)
theorem s81_48 {l : Launch} {G : KG} : kOpOK l G 81 48 (.inl (g_push 0 49)) := snd_iconst dX4_readsPair_48 rfl
theorem s81_49 {l : Launch} {G : KG} : kOpOK l G 81 49 (.inr (.inr 2)) := ⟨rfl, Or.inr (Or.inr ⟨rfl, dX4_readsPair_49, rfl⟩)⟩
theorem s81_50 {l : Launch} {G : KG} : kOpOK l G 81 50 (.inl (g_ald 0 51)) := snd_aload_n dX4_readsPair_50 rfl
theorem s81_51 {l : Launch} {G : KG} : kOpOK l G 81 51 (.inl (g_dup 52)) := snd_dup dX4_readsPair_51
theorem s81_52 {l : Launch} {G : KG} : kOpOK l G 81 52 (.inl (g_gfi 4 7 55)) := snd_gfi (c := 4) (j := 7) (N := 8) dX4_readsPair_52 rfl hin4 (by decide) rfl (by decide) rfl wF_4_52
theorem s81_55 {l : Launch} {G : KG} : kOpOK l G 81 55 (.inl (g_push 1 56)) := snd_iconst dX4_readsPair_55 rfl
theorem s81_56 {l : Launch} {G : KG} : kOpOK l G 81 56 (.inl (g_iop (fun x y => x + y) 57)) := snd_iadd dX4_readsPair_56
theorem s81_57 {l : Launch} {G : KG} : kOpOK l G 81 57 (.inl (g_pfi 4 7 60)) := snd_pfi (c := 4) (j := 7) (N := 8) dX4_readsPair_57 rfl hin4 (by decide) rfl (by decide) rfl wF_4_52 tyX4 tyX4_ok nmX4 rfl (by decide +kernel)
theorem s81_60 {l : Launch} {G : KG} : kOpOK l G 81 60 (.inl (g_ald 0 61)) := snd_aload_n dX4_readsPair_60 rfl
theorem s81_61 {l : Launch} {G : KG} : kOpOK l G 81 61 (.inr (.inl (80, 1, 64))) := ⟨snd_callV (c := 4) dX4_readsPair_61 rfl mok_80 rfl rfl rfl rfl (by decide) rfl wM_4_55 wN_X4_here wL_X4_here wI_4 (by decide), rfl, mok_80⟩
theorem s81_64 {l : Launch} {G : KG} : kOpOK l G 81 64 (.inl (g_ist 2 65)) := snd_istore_n dX4_readsPair_64 rfl
theorem s81_65 {l : Launch} {G : KG} : kOpOK l G 81 65 (.inl (g_ald 0 66)) := snd_aload_n dX4_readsPair_65 rfl
theorem s81_66 {l : Launch} {G : KG} : kOpOK l G 81 66 (.inl (g_gfi 4 7 69)) := snd_gfi (c := 4) (j := 7) (N := 8) dX4_readsPair_66 rfl hin4 (by decide) rfl (by decide) rfl wF_4_52
theorem s81_69 {l : Launch} {G : KG} : kOpOK l G 81 69 (.inl (g_ist 3 70)) := snd_istore_n dX4_readsPair_69 rfl
theorem s81_70 {l : Launch} {G : KG} : kOpOK l G 81 70 (.inl (g_push 0 71)) := snd_iconst dX4_readsPair_70 rfl
theorem s81_71 {l : Launch} {G : KG} : kOpOK l G 81 71 (.inl (g_ist 4 73)) := snd_istore dX4_readsPair_71
theorem s81_73 {l : Launch} {G : KG} : kOpOK l G 81 73 (.inl (g_ald 0 74)) := snd_aload_n dX4_readsPair_73 rfl
theorem s81_74 {l : Launch} {G : KG} : kOpOK l G 81 74 (.inl (g_gfi 4 7 77)) := snd_gfi (c := 4) (j := 7) (N := 8) dX4_readsPair_74 rfl hin4 (by decide) rfl (by decide) rfl wF_4_52
theorem s81_77 {l : Launch} {G : KG} : kOpOK l G 81 77 (.inl (g_ald 0 78)) := snd_aload_n dX4_readsPair_77 rfl
theorem s81_78 {l : Launch} {G : KG} : kOpOK l G 81 78 (.inl (g_gfi 4 4 81)) := snd_gfi (c := 4) (j := 4) (N := 8) dX4_readsPair_78 rfl hin4 (by decide) rfl (by decide) rfl wF_4_49
theorem s81_81 {l : Launch} {G : KG} : kOpOK l G 81 81 (.inl (g_br2 (fun x y => decide (y ≤ x)) 148 84)) := snd_icmp_ge dX4_readsPair_81 (by decide)
theorem s81_84 {l : Launch} {G : KG} : kOpOK l G 81 84 (.inl (g_ald 0 85)) := snd_aload_n dX4_readsPair_84 rfl
theorem s81_85 {l : Launch} {G : KG} : kOpOK l G 81 85 (.inl (g_gfr 4 3 88)) := snd_gfr (c := 4) (j := 3) (N := 8) dX4_readsPair_85 rfl hin4 (by decide) rfl (by decide) rfl wF_4_16
theorem s81_88 {l : Launch} {G : KG} : kOpOK l G 81 88 (.inl (g_ald 0 89)) := snd_aload_n dX4_readsPair_88 rfl
theorem s81_89 {l : Launch} {G : KG} : kOpOK l G 81 89 (.inl (g_gfi 4 7 92)) := snd_gfi (c := 4) (j := 7) (N := 8) dX4_readsPair_89 rfl hin4 (by decide) rfl (by decide) rfl wF_4_52
theorem s81_92 {l : Launch} {G : KG} : kOpOK l G 81 92 (.inl (g_pald 8 93)) := snd_pald8 dX4_readsPair_92
theorem s81_93 {l : Launch} {G : KG} : kOpOK l G 81 93 (.inl (g_push 48 95)) := snd_bipush dX4_readsPair_93 rfl
theorem s81_95 {l : Launch} {G : KG} : kOpOK l G 81 95 (.inl (g_push 57 97)) := snd_bipush dX4_readsPair_95 rfl
theorem s81_97 {l : Launch} {G : KG} : kOpOK l G 81 97 (.inr (.inl (66, 3, 100))) := ⟨snd_callS dX4_readsPair_97 rfl mok_66 rfl rfl rfl wM_4_30 wS_X4_in wI_4 (by decide), rfl, mok_66⟩
theorem s81_100 {l : Launch} {G : KG} : kOpOK l G 81 100 (.inl (g_br1 (fun x => decide (x = 0)) 148 103)) := snd_if_eq dX4_readsPair_100 (by decide)
theorem s81_103 {l : Launch} {G : KG} : kOpOK l G 81 103 (.inl (g_ild 4 105)) := snd_iload dX4_readsPair_103
theorem s81_105 {l : Launch} {G : KG} : kOpOK l G 81 105 (.inl (g_push 100000 107)) := snd_ldc dX4_readsPair_105 wK_4_59
theorem s81_107 {l : Launch} {G : KG} : kOpOK l G 81 107 (.inl (g_br2 (fun x y => decide (y ≤ x)) 131 110)) := snd_icmp_ge dX4_readsPair_107 (by decide)
theorem s81_110 {l : Launch} {G : KG} : kOpOK l G 81 110 (.inl (g_push 10 112)) := snd_bipush dX4_readsPair_110 rfl
theorem s81_112 {l : Launch} {G : KG} : kOpOK l G 81 112 (.inl (g_ild 4 114)) := snd_iload dX4_readsPair_112
theorem s81_114 {l : Launch} {G : KG} : kOpOK l G 81 114 (.inl (g_iop (fun x y => x * y) 115)) := snd_imul dX4_readsPair_114
theorem s81_115 {l : Launch} {G : KG} : kOpOK l G 81 115 (.inl (g_ald 0 116)) := snd_aload_n dX4_readsPair_115 rfl
theorem s81_116 {l : Launch} {G : KG} : kOpOK l G 81 116 (.inl (g_gfr 4 3 119)) := snd_gfr (c := 4) (j := 3) (N := 8) dX4_readsPair_116 rfl hin4 (by decide) rfl (by decide) rfl wF_4_16
theorem s81_119 {l : Launch} {G : KG} : kOpOK l G 81 119 (.inl (g_ald 0 120)) := snd_aload_n dX4_readsPair_119 rfl
theorem s81_120 {l : Launch} {G : KG} : kOpOK l G 81 120 (.inl (g_gfi 4 7 123)) := snd_gfi (c := 4) (j := 7) (N := 8) dX4_readsPair_120 rfl hin4 (by decide) rfl (by decide) rfl wF_4_52
theorem s81_123 {l : Launch} {G : KG} : kOpOK l G 81 123 (.inl (g_pald 8 124)) := snd_pald8 dX4_readsPair_123
theorem s81_124 {l : Launch} {G : KG} : kOpOK l G 81 124 (.inl (g_iop (fun x y => x + y) 125)) := snd_iadd dX4_readsPair_124
theorem s81_125 {l : Launch} {G : KG} : kOpOK l G 81 125 (.inl (g_push 48 127)) := snd_bipush dX4_readsPair_125 rfl
theorem s81_127 {l : Launch} {G : KG} : kOpOK l G 81 127 (.inl (g_iop (fun x y => x - y) 128)) := snd_isub dX4_readsPair_127
theorem s81_128 {l : Launch} {G : KG} : kOpOK l G 81 128 (.inl (g_goto 133)) := snd_goto dX4_readsPair_128 (by decide)
theorem s81_131 {l : Launch} {G : KG} : kOpOK l G 81 131 (.inl (g_ild 4 133)) := snd_iload dX4_readsPair_131
theorem s81_133 {l : Launch} {G : KG} : kOpOK l G 81 133 (.inl (g_ist 4 135)) := snd_istore dX4_readsPair_133
theorem s81_135 {l : Launch} {G : KG} : kOpOK l G 81 135 (.inl (g_ald 0 136)) := snd_aload_n dX4_readsPair_135 rfl
theorem s81_136 {l : Launch} {G : KG} : kOpOK l G 81 136 (.inl (g_dup 137)) := snd_dup dX4_readsPair_136
theorem s81_137 {l : Launch} {G : KG} : kOpOK l G 81 137 (.inl (g_gfi 4 7 140)) := snd_gfi (c := 4) (j := 7) (N := 8) dX4_readsPair_137 rfl hin4 (by decide) rfl (by decide) rfl wF_4_52
theorem s81_140 {l : Launch} {G : KG} : kOpOK l G 81 140 (.inl (g_push 1 141)) := snd_iconst dX4_readsPair_140 rfl
theorem s81_141 {l : Launch} {G : KG} : kOpOK l G 81 141 (.inl (g_iop (fun x y => x + y) 142)) := snd_iadd dX4_readsPair_141
theorem s81_142 {l : Launch} {G : KG} : kOpOK l G 81 142 (.inl (g_pfi 4 7 145)) := snd_pfi (c := 4) (j := 7) (N := 8) dX4_readsPair_142 rfl hin4 (by decide) rfl (by decide) rfl wF_4_52 tyX4 tyX4_ok nmX4 rfl (by decide +kernel)
theorem s81_145 {l : Launch} {G : KG} : kOpOK l G 81 145 (.inl (g_goto 73)) := snd_goto dX4_readsPair_145 (by decide)
theorem s81_148 {l : Launch} {G : KG} : kOpOK l G 81 148 (.inl (g_ald 0 149)) := snd_aload_n dX4_readsPair_148 rfl
theorem s81_149 {l : Launch} {G : KG} : kOpOK l G 81 149 (.inl (g_gfi 4 7 152)) := snd_gfi (c := 4) (j := 7) (N := 8) dX4_readsPair_149 rfl hin4 (by decide) rfl (by decide) rfl wF_4_52
theorem s81_152 {l : Launch} {G : KG} : kOpOK l G 81 152 (.inl (g_ild 3 153)) := snd_iload_n dX4_readsPair_152 rfl
theorem s81_153 {l : Launch} {G : KG} : kOpOK l G 81 153 (.inl (g_iop (fun x y => x - y) 154)) := snd_isub dX4_readsPair_153
theorem s81_154 {l : Launch} {G : KG} : kOpOK l G 81 154 (.inl (g_push 1 155)) := snd_iconst dX4_readsPair_154 rfl
theorem s81_155 {l : Launch} {G : KG} : kOpOK l G 81 155 (.inl (g_push 4 156)) := snd_iconst dX4_readsPair_155 rfl
theorem s81_156 {l : Launch} {G : KG} : kOpOK l G 81 156 (.inr (.inl (66, 3, 159))) := ⟨snd_callS dX4_readsPair_156 rfl mok_66 rfl rfl rfl wM_4_30 wS_X4_in wI_4 (by decide), rfl, mok_66⟩
theorem s81_159 {l : Launch} {G : KG} : kOpOK l G 81 159 (.inl (g_br1 (fun x => decide (x = 0)) 182 162)) := snd_if_eq dX4_readsPair_159 (by decide)
theorem s81_162 {l : Launch} {G : KG} : kOpOK l G 81 162 (.inl (g_ild 2 163)) := snd_iload_n dX4_readsPair_162 rfl
theorem s81_163 {l : Launch} {G : KG} : kOpOK l G 81 163 (.inl (g_push 48 165)) := snd_bipush dX4_readsPair_163 rfl
theorem s81_165 {l : Launch} {G : KG} : kOpOK l G 81 165 (.inl (g_br2 (fun x y => decide (¬ x = y)) 178 168)) := snd_icmp_ne dX4_readsPair_165 (by decide)
theorem s81_168 {l : Launch} {G : KG} : kOpOK l G 81 168 (.inl (g_ald 0 169)) := snd_aload_n dX4_readsPair_168 rfl
theorem s81_169 {l : Launch} {G : KG} : kOpOK l G 81 169 (.inl (g_gfi 4 7 172)) := snd_gfi (c := 4) (j := 7) (N := 8) dX4_readsPair_169 rfl hin4 (by decide) rfl (by decide) rfl wF_4_52
theorem s81_172 {l : Launch} {G : KG} : kOpOK l G 81 172 (.inl (g_ild 3 173)) := snd_iload_n dX4_readsPair_172 rfl
theorem s81_173 {l : Launch} {G : KG} : kOpOK l G 81 173 (.inl (g_push 1 174)) := snd_iconst dX4_readsPair_173 rfl
theorem s81_174 {l : Launch} {G : KG} : kOpOK l G 81 174 (.inl (g_iop (fun x y => x + y) 175)) := snd_iadd dX4_readsPair_174
theorem s81_175 {l : Launch} {G : KG} : kOpOK l G 81 175 (.inl (g_br2 (fun x y => decide (¬ x = y)) 182 178)) := snd_icmp_ne dX4_readsPair_175 (by decide)
theorem s81_178 {l : Launch} {G : KG} : kOpOK l G 81 178 (.inl (g_push 1 179)) := snd_iconst dX4_readsPair_178 rfl
theorem s81_179 {l : Launch} {G : KG} : kOpOK l G 81 179 (.inl (g_goto 183)) := snd_goto dX4_readsPair_179 (by decide)
theorem s81_182 {l : Launch} {G : KG} : kOpOK l G 81 182 (.inl (g_push 0 183)) := snd_iconst dX4_readsPair_182 rfl
theorem s81_183 {l : Launch} {G : KG} : kOpOK l G 81 183 (.inl (g_ist 5 185)) := snd_istore dX4_readsPair_183
theorem s81_185 {l : Launch} {G : KG} : kOpOK l G 81 185 (.inl (g_ald 0 186)) := snd_aload_n dX4_readsPair_185 rfl
theorem s81_186 {l : Launch} {G : KG} : kOpOK l G 81 186 (.inl (g_gfr 4 6 189)) := snd_gfr (c := 4) (j := 6) (N := 8) dX4_readsPair_186 rfl hin4 (by decide) rfl (by decide) rfl wF_4_23
theorem s81_189 {l : Launch} {G : KG} : kOpOK l G 81 189 (.inl (g_ild 1 190)) := snd_iload_n dX4_readsPair_189 rfl
theorem s81_190 {l : Launch} {G : KG} : kOpOK l G 81 190 (.inl (g_ild 5 192)) := snd_iload dX4_readsPair_190
theorem s81_192 {l : Launch} {G : KG} : kOpOK l G 81 192 (.inl (g_br1 (fun x => decide (x = 0)) 200 195)) := snd_if_eq dX4_readsPair_192 (by decide)
theorem s81_195 {l : Launch} {G : KG} : kOpOK l G 81 195 (.inl (g_ild 4 197)) := snd_iload dX4_readsPair_195
theorem s81_197 {l : Launch} {G : KG} : kOpOK l G 81 197 (.inl (g_goto 201)) := snd_goto dX4_readsPair_197 (by decide)
theorem s81_200 {l : Launch} {G : KG} : kOpOK l G 81 200 (.inl (g_push (-1) 201)) := snd_iconst dX4_readsPair_200 rfl
theorem s81_201 {l : Launch} {G : KG} : kOpOK l G 81 201 (.inl (g_past 5 202)) := snd_past5 dX4_readsPair_201
theorem s81_202 {l : Launch} {G : KG} : kOpOK l G 81 202 (.inl (g_ald 0 203)) := snd_aload_n dX4_readsPair_202 rfl
theorem s81_203 {l : Launch} {G : KG} : kOpOK l G 81 203 (.inl (g_ild 5 205)) := snd_iload dX4_readsPair_203
theorem s81_205 {l : Launch} {G : KG} : kOpOK l G 81 205 (.inl (g_br1 (fun x => decide (x = 0)) 215 208)) := snd_if_eq dX4_readsPair_205 (by decide)
theorem s81_208 {l : Launch} {G : KG} : kOpOK l G 81 208 (.inl (g_ald 0 209)) := snd_aload_n dX4_readsPair_208 rfl
theorem s81_209 {l : Launch} {G : KG} : kOpOK l G 81 209 (.inl (g_gfi 4 7 212)) := snd_gfi (c := 4) (j := 7) (N := 8) dX4_readsPair_209 rfl hin4 (by decide) rfl (by decide) rfl wF_4_52
theorem s81_212 {l : Launch} {G : KG} : kOpOK l G 81 212 (.inl (g_goto 216)) := snd_goto dX4_readsPair_212 (by decide)
theorem s81_215 {l : Launch} {G : KG} : kOpOK l G 81 215 (.inl (g_ild 3 216)) := snd_iload_n dX4_readsPair_215 rfl
theorem s81_216 {l : Launch} {G : KG} : kOpOK l G 81 216 (.inl (g_pfi 4 7 219)) := snd_pfi (c := 4) (j := 7) (N := 8) dX4_readsPair_216 rfl hin4 (by decide) rfl (by decide) rfl wF_4_52 tyX4 tyX4_ok nmX4 rfl (by decide +kernel)
theorem s81_219 {l : Launch} {G : KG} : kOpOK l G 81 219 (.inl (g_ild 5 221)) := snd_iload dX4_readsPair_219
theorem s81_221 {l : Launch} {G : KG} : kOpOK l G 81 221 (.inr (.inr 2)) := ⟨rfl, Or.inr (Or.inr ⟨rfl, dX4_readsPair_221, rfl⟩)⟩
theorem s82_0 {l : Launch} {G : KG} : kOpOK l G 82 0 (.inl (g_ald 0 1)) := snd_aload_n dX4_reads_0 rfl
theorem s82_1 {l : Launch} {G : KG} : kOpOK l G 82 1 (.inl (g_push 0 2)) := snd_iconst dX4_reads_1 rfl
theorem s82_2 {l : Launch} {G : KG} : kOpOK l G 82 2 (.inl (g_pfi 4 7 5)) := snd_pfi (c := 4) (j := 7) (N := 8) dX4_reads_2 rfl hin4 (by decide) rfl (by decide) rfl wF_4_52 tyX4 tyX4_ok nmX4 rfl (by decide +kernel)
theorem s82_5 {l : Launch} {G : KG} : kOpOK l G 82 5 (.inl (g_push 0 6)) := snd_iconst dX4_reads_5 rfl
theorem s82_6 {l : Launch} {G : KG} : kOpOK l G 82 6 (.inl (g_ist 1 7)) := snd_istore_n dX4_reads_6 rfl
theorem s82_7 {l : Launch} {G : KG} : kOpOK l G 82 7 (.inl (g_ild 1 8)) := snd_iload_n dX4_reads_7 rfl
theorem s82_8 {l : Launch} {G : KG} : kOpOK l G 82 8 (.inl (g_push 10 10)) := snd_bipush dX4_reads_8 rfl
theorem s82_10 {l : Launch} {G : KG} : kOpOK l G 82 10 (.inl (g_br2 (fun x y => decide (y ≤ x)) 26 13)) := snd_icmp_ge dX4_reads_10 (by decide)
theorem s82_13 {l : Launch} {G : KG} : kOpOK l G 82 13 (.inl (g_ald 0 14)) := snd_aload_n dX4_reads_13 rfl
theorem s82_14 {l : Launch} {G : KG} : kOpOK l G 82 14 (.inl (g_gfr 4 6 17)) := snd_gfr (c := 4) (j := 6) (N := 8) dX4_reads_14 rfl hin4 (by decide) rfl (by decide) rfl wF_4_23
theorem s82_17 {l : Launch} {G : KG} : kOpOK l G 82 17 (.inl (g_ild 1 18)) := snd_iload_n dX4_reads_17 rfl
theorem s82_18 {l : Launch} {G : KG} : kOpOK l G 82 18 (.inl (g_push (-1) 19)) := snd_iconst dX4_reads_18 rfl
theorem s82_19 {l : Launch} {G : KG} : kOpOK l G 82 19 (.inl (g_past 5 20)) := snd_past5 dX4_reads_19
theorem s82_20 {l : Launch} {G : KG} : kOpOK l G 82 20 (.inl (g_iinc 1 1 23)) := snd_iinc dX4_reads_20 rfl
theorem s82_23 {l : Launch} {G : KG} : kOpOK l G 82 23 (.inl (g_goto 7)) := snd_goto dX4_reads_23 (by decide)
theorem s82_26 {l : Launch} {G : KG} : kOpOK l G 82 26 (.inl (g_ald 0 27)) := snd_aload_n dX4_reads_26 rfl
theorem s82_27 {l : Launch} {G : KG} : kOpOK l G 82 27 (.inr (.inl (80, 1, 30))) := ⟨snd_callV (c := 4) dX4_reads_27 rfl mok_80 rfl rfl rfl rfl (by decide) rfl wM_4_55 wN_X4_here wL_X4_here wI_4 (by decide), rfl, mok_80⟩
theorem s82_30 {l : Launch} {G : KG} : kOpOK l G 82 30 (.inl (g_br1 (fun x => decide (x < 0)) 37 33)) := snd_if_lt dX4_reads_30 (by decide)
theorem s82_33 {l : Launch} {G : KG} : kOpOK l G 82 33 (.inl (g_push 1 34)) := snd_iconst dX4_reads_33 rfl
theorem s82_34 {l : Launch} {G : KG} : kOpOK l G 82 34 (.inl (g_goto 38)) := snd_goto dX4_reads_34 (by decide)
theorem s82_37 {l : Launch} {G : KG} : kOpOK l G 82 37 (.inl (g_push 0 38)) := snd_iconst dX4_reads_37 rfl
theorem s82_38 {l : Launch} {G : KG} : kOpOK l G 82 38 (.inl (g_ist 1 39)) := snd_istore_n dX4_reads_38 rfl
theorem s82_39 {l : Launch} {G : KG} : kOpOK l G 82 39 (.inl (g_ild 1 40)) := snd_iload_n dX4_reads_39 rfl
theorem s82_40 {l : Launch} {G : KG} : kOpOK l G 82 40 (.inl (g_br1 (fun x => decide (x = 0)) 101 43)) := snd_if_eq dX4_reads_40 (by decide)
theorem s82_43 {l : Launch} {G : KG} : kOpOK l G 82 43 (.inl (g_ald 0 44)) := snd_aload_n dX4_reads_43 rfl
theorem s82_44 {l : Launch} {G : KG} : kOpOK l G 82 44 (.inr (.inl (81, 1, 47))) := ⟨snd_callV (c := 4) dX4_reads_44 rfl mok_81 rfl rfl rfl rfl (by decide) rfl wM_4_60 wN_X4_readsPair wL_X4_readsPair wI_4 (by decide), rfl, mok_81⟩
theorem s82_47 {l : Launch} {G : KG} : kOpOK l G 82 47 (.inl (g_br1 (fun x => decide (¬ x = 0)) 52 50)) := snd_if_ne dX4_reads_47 (by decide)
theorem s82_50 {l : Launch} {G : KG} : kOpOK l G 82 50 (.inl (g_push 0 51)) := snd_iconst dX4_reads_50 rfl
theorem s82_51 {l : Launch} {G : KG} : kOpOK l G 82 51 (.inr (.inr 2)) := ⟨rfl, Or.inr (Or.inr ⟨rfl, dX4_reads_51, rfl⟩)⟩
theorem s82_52 {l : Launch} {G : KG} : kOpOK l G 82 52 (.inl (g_ald 0 53)) := snd_aload_n dX4_reads_52 rfl
theorem s82_53 {l : Launch} {G : KG} : kOpOK l G 82 53 (.inr (.inl (80, 1, 56))) := ⟨snd_callV (c := 4) dX4_reads_53 rfl mok_80 rfl rfl rfl rfl (by decide) rfl wM_4_55 wN_X4_here wL_X4_here wI_4 (by decide), rfl, mok_80⟩
theorem s82_56 {l : Launch} {G : KG} : kOpOK l G 82 56 (.inl (g_br1 (fun x => decide (x < 0)) 63 59)) := snd_if_lt dX4_reads_56 (by decide)
theorem s82_59 {l : Launch} {G : KG} : kOpOK l G 82 59 (.inl (g_push 1 60)) := snd_iconst dX4_reads_59 rfl
theorem s82_60 {l : Launch} {G : KG} : kOpOK l G 82 60 (.inl (g_goto 64)) := snd_goto dX4_reads_60 (by decide)
theorem s82_63 {l : Launch} {G : KG} : kOpOK l G 82 63 (.inl (g_push 0 64)) := snd_iconst dX4_reads_63 rfl
theorem s82_64 {l : Launch} {G : KG} : kOpOK l G 82 64 (.inl (g_ist 1 65)) := snd_istore_n dX4_reads_64 rfl
theorem s82_65 {l : Launch} {G : KG} : kOpOK l G 82 65 (.inl (g_ild 1 66)) := snd_iload_n dX4_reads_65 rfl
theorem s82_66 {l : Launch} {G : KG} : kOpOK l G 82 66 (.inl (g_br1 (fun x => decide (x = 0)) 80 69)) := snd_if_eq dX4_reads_66 (by decide)
theorem s82_69 {l : Launch} {G : KG} : kOpOK l G 82 69 (.inl (g_ald 0 70)) := snd_aload_n dX4_reads_69 rfl
theorem s82_70 {l : Launch} {G : KG} : kOpOK l G 82 70 (.inr (.inl (80, 1, 73))) := ⟨snd_callV (c := 4) dX4_reads_70 rfl mok_80 rfl rfl rfl rfl (by decide) rfl wM_4_55 wN_X4_here wL_X4_here wI_4 (by decide), rfl, mok_80⟩
theorem s82_73 {l : Launch} {G : KG} : kOpOK l G 82 73 (.inl (g_push 44 75)) := snd_bipush dX4_reads_73 rfl
theorem s82_75 {l : Launch} {G : KG} : kOpOK l G 82 75 (.inl (g_br2 (fun x y => decide (x = y)) 80 78)) := snd_icmp_eq dX4_reads_75 (by decide)
theorem s82_78 {l : Launch} {G : KG} : kOpOK l G 82 78 (.inl (g_push 0 79)) := snd_iconst dX4_reads_78 rfl
theorem s82_79 {l : Launch} {G : KG} : kOpOK l G 82 79 (.inr (.inr 2)) := ⟨rfl, Or.inr (Or.inr ⟨rfl, dX4_reads_79, rfl⟩)⟩
theorem s82_80 {l : Launch} {G : KG} : kOpOK l G 82 80 (.inl (g_ald 0 81)) := snd_aload_n dX4_reads_80 rfl
theorem s82_81 {l : Launch} {G : KG} : kOpOK l G 82 81 (.inl (g_dup 82)) := snd_dup dX4_reads_81
theorem s82_82 {l : Launch} {G : KG} : kOpOK l G 82 82 (.inl (g_gfi 4 7 85)) := snd_gfi (c := 4) (j := 7) (N := 8) dX4_reads_82 rfl hin4 (by decide) rfl (by decide) rfl wF_4_52
theorem s82_85 {l : Launch} {G : KG} : kOpOK l G 82 85 (.inl (g_ild 1 86)) := snd_iload_n dX4_reads_85 rfl
theorem s82_86 {l : Launch} {G : KG} : kOpOK l G 82 86 (.inl (g_br1 (fun x => decide (x = 0)) 93 89)) := snd_if_eq dX4_reads_86 (by decide)
theorem s82_89 {l : Launch} {G : KG} : kOpOK l G 82 89 (.inl (g_push 1 90)) := snd_iconst dX4_reads_89 rfl
theorem s82_90 {l : Launch} {G : KG} : kOpOK l G 82 90 (.inl (g_goto 94)) := snd_goto dX4_reads_90 (by decide)
theorem s82_93 {l : Launch} {G : KG} : kOpOK l G 82 93 (.inl (g_push 0 94)) := snd_iconst dX4_reads_93 rfl
theorem s82_94 {l : Launch} {G : KG} : kOpOK l G 82 94 (.inl (g_iop (fun x y => x + y) 95)) := snd_iadd dX4_reads_94
theorem s82_95 {l : Launch} {G : KG} : kOpOK l G 82 95 (.inl (g_pfi 4 7 98)) := snd_pfi (c := 4) (j := 7) (N := 8) dX4_reads_95 rfl hin4 (by decide) rfl (by decide) rfl wF_4_52 tyX4 tyX4_ok nmX4 rfl (by decide +kernel)
theorem s82_98 {l : Launch} {G : KG} : kOpOK l G 82 98 (.inl (g_goto 39)) := snd_goto dX4_reads_98 (by decide)
theorem s82_101 {l : Launch} {G : KG} : kOpOK l G 82 101 (.inl (g_push 1 102)) := snd_iconst dX4_reads_101 rfl
theorem s82_102 {l : Launch} {G : KG} : kOpOK l G 82 102 (.inr (.inr 2)) := ⟨rfl, Or.inr (Or.inr ⟨rfl, dX4_reads_102, rfl⟩)⟩
theorem s83_0 {l : Launch} {G : KG} : kOpOK l G 83 0 (.inl (g_ald 0 1)) := snd_aload_n dX4_load_0 rfl
theorem s83_1 {l : Launch} {G : KG} : kOpOK l G 83 1 (.inr (.inl (82, 1, 4))) := ⟨snd_callV (c := 4) dX4_load_1 rfl mok_82 rfl rfl rfl rfl (by decide) rfl wM_4_64 wN_X4_reads wL_X4_reads wI_4 (by decide), rfl, mok_82⟩
theorem s83_4 {l : Launch} {G : KG} : kOpOK l G 83 4 (.inl (g_br1 (fun x => decide (¬ x = 0)) 15 7)) := snd_if_ne dX4_load_4 (by decide)
theorem s83_7 {l : Launch} {G : KG} : kOpOK l G 83 7 (.inl (g_push (-10) 9)) := snd_bipush dX4_load_7 rfl
theorem s83_9 {l : Launch} {G : KG} : kOpOK l G 83 9 (.inl (g_ald 0 10)) := snd_aload_n dX4_load_9 rfl
theorem s83_10 {l : Launch} {G : KG} : kOpOK l G 83 10 (.inl (g_gfi 4 7 13)) := snd_gfi (c := 4) (j := 7) (N := 8) dX4_load_10 rfl hin4 (by decide) rfl (by decide) rfl wF_4_52
theorem s83_13 {l : Launch} {G : KG} : kOpOK l G 83 13 (.inl (g_iop (fun x y => x - y) 14)) := snd_isub dX4_load_13
theorem s83_14 {l : Launch} {G : KG} : kOpOK l G 83 14 (.inr (.inr 1)) := ⟨rfl, Or.inr (Or.inl ⟨rfl, dX4_load_14, rfl⟩)⟩
theorem s83_15 {l : Launch} {G : KG} : kOpOK l G 83 15 (.inl (g_ald 0 16)) := snd_aload_n dX4_load_15 rfl
theorem s83_16 {l : Launch} {G : KG} : kOpOK l G 83 16 (.inr (.inl (67, 1, 19))) := ⟨snd_callV (c := 4) dX4_load_16 rfl mok_67 rfl rfl rfl rfl (by decide) rfl wM_4_34 wN_X4_notes wL_X4_notes wI_4 (by decide), rfl, mok_67⟩
theorem s83_19 {l : Launch} {G : KG} : kOpOK l G 83 19 (.inl (g_push 0 20)) := snd_iconst dX4_load_19 rfl
theorem s83_20 {l : Launch} {G : KG} : kOpOK l G 83 20 (.inl (g_ist 1 21)) := snd_istore_n dX4_load_20 rfl
theorem s83_21 {l : Launch} {G : KG} : kOpOK l G 83 21 (.inl (g_ild 1 22)) := snd_iload_n dX4_load_21 rfl
theorem s83_22 {l : Launch} {G : KG} : kOpOK l G 83 22 (.inl (g_push 10 24)) := snd_bipush dX4_load_22 rfl
theorem s83_24 {l : Launch} {G : KG} : kOpOK l G 83 24 (.inl (g_br2 (fun x y => decide (y ≤ x)) 60 27)) := snd_icmp_ge dX4_load_24 (by decide)
theorem s83_27 {l : Launch} {G : KG} : kOpOK l G 83 27 (.inl (g_ald 0 28)) := snd_aload_n dX4_load_27 rfl
theorem s83_28 {l : Launch} {G : KG} : kOpOK l G 83 28 (.inl (g_gfr 4 0 31)) := snd_gfr (c := 4) (j := 0) (N := 8) dX4_load_28 rfl hin4 (by decide) rfl (by decide) rfl wF_4_7
theorem s83_31 {l : Launch} {G : KG} : kOpOK l G 83 31 (.inl (g_push 0 32)) := snd_iconst dX4_load_31 rfl
theorem s83_32 {l : Launch} {G : KG} : kOpOK l G 83 32 (.inl (g_ild 1 33)) := snd_iload_n dX4_load_32 rfl
theorem s83_33 {l : Launch} {G : KG} : kOpOK l G 83 33 (.inl (g_iop (fun x y => x + y) 34)) := snd_iadd dX4_load_33
theorem s83_34 {l : Launch} {G : KG} : kOpOK l G 83 34 (.inl (g_ald 0 35)) := snd_aload_n dX4_load_34 rfl
theorem s83_35 {l : Launch} {G : KG} : kOpOK l G 83 35 (.inl (g_gfr 4 6 38)) := snd_gfr (c := 4) (j := 6) (N := 8) dX4_load_35 rfl hin4 (by decide) rfl (by decide) rfl wF_4_23
theorem s83_38 {l : Launch} {G : KG} : kOpOK l G 83 38 (.inl (g_ild 1 39)) := snd_iload_n dX4_load_38 rfl
theorem s83_39 {l : Launch} {G : KG} : kOpOK l G 83 39 (.inl (g_pald 5 40)) := snd_pald5 dX4_load_39
theorem s83_40 {l : Launch} {G : KG} : kOpOK l G 83 40 (.inl (g_br1 (fun x => decide (0 ≤ x)) 47 43)) := snd_if_ge dX4_load_40 (by decide)
theorem s83_43 {l : Launch} {G : KG} : kOpOK l G 83 43 (.inl (g_push 0 44)) := snd_iconst dX4_load_43 rfl
theorem s83_44 {l : Launch} {G : KG} : kOpOK l G 83 44 (.inl (g_goto 53)) := snd_goto dX4_load_44 (by decide)
theorem s83_47 {l : Launch} {G : KG} : kOpOK l G 83 47 (.inl (g_ald 0 48)) := snd_aload_n dX4_load_47 rfl
theorem s83_48 {l : Launch} {G : KG} : kOpOK l G 83 48 (.inl (g_gfr 4 6 51)) := snd_gfr (c := 4) (j := 6) (N := 8) dX4_load_48 rfl hin4 (by decide) rfl (by decide) rfl wF_4_23
theorem s83_51 {l : Launch} {G : KG} : kOpOK l G 83 51 (.inl (g_ild 1 52)) := snd_iload_n dX4_load_51 rfl
theorem s83_52 {l : Launch} {G : KG} : kOpOK l G 83 52 (.inl (g_pald 5 53)) := snd_pald5 dX4_load_52
theorem s83_53 {l : Launch} {G : KG} : kOpOK l G 83 53 (.inl (g_past 5 54)) := snd_past5 dX4_load_53
theorem s83_54 {l : Launch} {G : KG} : kOpOK l G 83 54 (.inl (g_iinc 1 1 57)) := snd_iinc dX4_load_54 rfl
theorem s83_57 {l : Launch} {G : KG} : kOpOK l G 83 57 (.inl (g_goto 21)) := snd_goto dX4_load_57 (by decide)
theorem s83_60 {l : Launch} {G : KG} : kOpOK l G 83 60 (.inl (g_ald 0 61)) := snd_aload_n dX4_load_60 rfl
theorem s83_61 {l : Launch} {G : KG} : kOpOK l G 83 61 (.inl (g_push 0 62)) := snd_iconst dX4_load_61 rfl
theorem s83_62 {l : Launch} {G : KG} : kOpOK l G 83 62 (.inl (g_pfi 4 4 65)) := snd_pfi (c := 4) (j := 4) (N := 8) dX4_load_62 rfl hin4 (by decide) rfl (by decide) rfl wF_4_49 tyX4 tyX4_ok nmX4 rfl (by decide +kernel)
theorem s83_65 {l : Launch} {G : KG} : kOpOK l G 83 65 (.inl (g_ald 0 66)) := snd_aload_n dX4_load_65 rfl
theorem s83_66 {l : Launch} {G : KG} : kOpOK l G 83 66 (.inl (g_push 0 67)) := snd_iconst dX4_load_66 rfl
theorem s83_67 {l : Launch} {G : KG} : kOpOK l G 83 67 (.inr (.inl (69, 2, 70))) := ⟨snd_callV (c := 4) dX4_load_67 rfl mok_69 rfl rfl rfl rfl (by decide) rfl wM_4_37 wN_X4_sum wL_X4_sum wI_4 (by decide), rfl, mok_69⟩
theorem s83_70 {l : Launch} {G : KG} : kOpOK l G 83 70 (.inr (.inr 1)) := ⟨rfl, Or.inr (Or.inl ⟨rfl, dX4_load_70, rfl⟩)⟩
theorem s84_0 {l : Launch} {G : KG} : kOpOK l G 84 0 (.inl (g_push 53 2)) := snd_bipush dX4_at_0 rfl
theorem s84_2 {l : Launch} {G : KG} : kOpOK l G 84 2 (.inl (g_push 12 4)) := snd_bipush dX4_at_2 rfl
theorem s84_4 {l : Launch} {G : KG} : kOpOK l G 84 4 (.inl (g_ild 1 5)) := snd_iload_n dX4_at_4 rfl
theorem s84_5 {l : Launch} {G : KG} : kOpOK l G 84 5 (.inl (g_iop (fun x y => x * y) 6)) := snd_imul dX4_at_5
theorem s84_6 {l : Launch} {G : KG} : kOpOK l G 84 6 (.inl (g_iop (fun x y => x + y) 7)) := snd_iadd dX4_at_6
theorem s84_7 {l : Launch} {G : KG} : kOpOK l G 84 7 (.inr (.inr 1)) := ⟨rfl, Or.inr (Or.inl ⟨rfl, dX4_at_7, rfl⟩)⟩
theorem s85_0 {l : Launch} {G : KG} : kOpOK l G 85 0 (.inl (g_push 0 1)) := snd_iconst dX4_trayWith_0 rfl
theorem s85_1 {l : Launch} {G : KG} : kOpOK l G 85 1 (.inl (g_ist 2 2)) := snd_istore_n dX4_trayWith_1 rfl
theorem s85_2 {l : Launch} {G : KG} : kOpOK l G 85 2 (.inl (g_ild 2 3)) := snd_iload_n dX4_trayWith_2 rfl
theorem s85_3 {l : Launch} {G : KG} : kOpOK l G 85 3 (.inl (g_ald 0 4)) := snd_aload_n dX4_trayWith_3 rfl
theorem s85_4 {l : Launch} {G : KG} : kOpOK l G 85 4 (.inl (g_gfr 4 0 7)) := snd_gfr (c := 4) (j := 0) (N := 8) dX4_trayWith_4 rfl hin4 (by decide) rfl (by decide) rfl wF_4_7
theorem s85_7 {l : Launch} {G : KG} : kOpOK l G 85 7 (.inl (g_push 24 9)) := snd_bipush dX4_trayWith_7 rfl
theorem s85_9 {l : Launch} {G : KG} : kOpOK l G 85 9 (.inl (g_pald 5 10)) := snd_pald5 dX4_trayWith_9
theorem s85_10 {l : Launch} {G : KG} : kOpOK l G 85 10 (.inl (g_br2 (fun x y => decide (y ≤ x)) 34 13)) := snd_icmp_ge dX4_trayWith_10 (by decide)
theorem s85_13 {l : Launch} {G : KG} : kOpOK l G 85 13 (.inl (g_ald 0 14)) := snd_aload_n dX4_trayWith_13 rfl
theorem s85_14 {l : Launch} {G : KG} : kOpOK l G 85 14 (.inl (g_gfr 4 0 17)) := snd_gfr (c := 4) (j := 0) (N := 8) dX4_trayWith_14 rfl hin4 (by decide) rfl (by decide) rfl wF_4_7
theorem s85_17 {l : Launch} {G : KG} : kOpOK l G 85 17 (.inl (g_push 25 19)) := snd_bipush dX4_trayWith_17 rfl
theorem s85_19 {l : Launch} {G : KG} : kOpOK l G 85 19 (.inl (g_ild 2 20)) := snd_iload_n dX4_trayWith_19 rfl
theorem s85_20 {l : Launch} {G : KG} : kOpOK l G 85 20 (.inl (g_iop (fun x y => x + y) 21)) := snd_iadd dX4_trayWith_20
theorem s85_21 {l : Launch} {G : KG} : kOpOK l G 85 21 (.inl (g_pald 5 22)) := snd_pald5 dX4_trayWith_21
theorem s85_22 {l : Launch} {G : KG} : kOpOK l G 85 22 (.inl (g_ild 1 23)) := snd_iload_n dX4_trayWith_22 rfl
theorem s85_23 {l : Launch} {G : KG} : kOpOK l G 85 23 (.inl (g_br2 (fun x y => decide (¬ x = y)) 28 26)) := snd_icmp_ne dX4_trayWith_23 (by decide)
theorem s85_26 {l : Launch} {G : KG} : kOpOK l G 85 26 (.inl (g_ild 2 27)) := snd_iload_n dX4_trayWith_26 rfl
theorem s85_27 {l : Launch} {G : KG} : kOpOK l G 85 27 (.inr (.inr 1)) := ⟨rfl, Or.inr (Or.inl ⟨rfl, dX4_trayWith_27, rfl⟩)⟩
theorem s85_28 {l : Launch} {G : KG} : kOpOK l G 85 28 (.inl (g_iinc 2 1 31)) := snd_iinc dX4_trayWith_28 rfl
theorem s85_31 {l : Launch} {G : KG} : kOpOK l G 85 31 (.inl (g_goto 2)) := snd_goto dX4_trayWith_31 (by decide)
theorem s85_34 {l : Launch} {G : KG} : kOpOK l G 85 34 (.inl (g_push (-9) 36)) := snd_bipush dX4_trayWith_34 rfl
theorem s85_36 {l : Launch} {G : KG} : kOpOK l G 85 36 (.inr (.inr 1)) := ⟨rfl, Or.inr (Or.inl ⟨rfl, dX4_trayWith_36, rfl⟩)⟩
theorem s86_0 {l : Launch} {G : KG} : kOpOK l G 86 0 (.inl (g_push 49 2)) := snd_bipush dX4_ends_0 rfl
theorem s86_2 {l : Launch} {G : KG} : kOpOK l G 86 2 (.inl (g_ist 1 3)) := snd_istore_n dX4_ends_2 rfl
theorem s86_3 {l : Launch} {G : KG} : kOpOK l G 86 3 (.inl (g_ild 1 4)) := snd_iload_n dX4_ends_3 rfl
theorem s86_4 {l : Launch} {G : KG} : kOpOK l G 86 4 (.inl (g_push 137 7)) := snd_sipush dX4_ends_4 rfl
theorem s86_7 {l : Launch} {G : KG} : kOpOK l G 86 7 (.inl (g_br2 (fun x y => decide (y ≤ x)) 23 10)) := snd_icmp_ge dX4_ends_7 (by decide)
theorem s86_10 {l : Launch} {G : KG} : kOpOK l G 86 10 (.inl (g_ald 0 11)) := snd_aload_n dX4_ends_10 rfl
theorem s86_11 {l : Launch} {G : KG} : kOpOK l G 86 11 (.inl (g_gfr 4 0 14)) := snd_gfr (c := 4) (j := 0) (N := 8) dX4_ends_11 rfl hin4 (by decide) rfl (by decide) rfl wF_4_7
theorem s86_14 {l : Launch} {G : KG} : kOpOK l G 86 14 (.inl (g_ild 1 15)) := snd_iload_n dX4_ends_14 rfl
theorem s86_15 {l : Launch} {G : KG} : kOpOK l G 86 15 (.inl (g_push 0 16)) := snd_iconst dX4_ends_15 rfl
theorem s86_16 {l : Launch} {G : KG} : kOpOK l G 86 16 (.inl (g_past 5 17)) := snd_past5 dX4_ends_16
theorem s86_17 {l : Launch} {G : KG} : kOpOK l G 86 17 (.inl (g_iinc 1 1 20)) := snd_iinc dX4_ends_17 rfl
theorem s86_20 {l : Launch} {G : KG} : kOpOK l G 86 20 (.inl (g_goto 3)) := snd_goto dX4_ends_20 (by decide)
theorem s86_23 {l : Launch} {G : KG} : kOpOK l G 86 23 (.inr (.inr 0)) := ⟨rfl, Or.inl ⟨rfl, dX4_ends_23, rfl⟩⟩
theorem s87_0 {l : Launch} {G : KG} : kOpOK l G 87 0 (.inl (g_ild 1 1)) := snd_iload_n dX4_addSieve_0 rfl
theorem s87_1 {l : Launch} {G : KG} : kOpOK l G 87 1 (.inl (g_push 1 2)) := snd_iconst dX4_addSieve_1 rfl
theorem s87_2 {l : Launch} {G : KG} : kOpOK l G 87 2 (.inl (g_push 9 4)) := snd_bipush dX4_addSieve_2 rfl
theorem s87_4 {l : Launch} {G : KG} : kOpOK l G 87 4 (.inr (.inl (66, 3, 7))) := ⟨snd_callS dX4_addSieve_4 rfl mok_66 rfl rfl rfl wM_4_30 wS_X4_in wI_4 (by decide), rfl, mok_66⟩
theorem s87_7 {l : Launch} {G : KG} : kOpOK l G 87 7 (.inl (g_br1 (fun x => decide (¬ x = 0)) 12 10)) := snd_if_ne dX4_addSieve_7 (by decide)
theorem s87_10 {l : Launch} {G : KG} : kOpOK l G 87 10 (.inl (g_push (-1) 11)) := snd_iconst dX4_addSieve_10 rfl
theorem s87_11 {l : Launch} {G : KG} : kOpOK l G 87 11 (.inr (.inr 1)) := ⟨rfl, Or.inr (Or.inl ⟨rfl, dX4_addSieve_11, rfl⟩)⟩
theorem s87_12 {l : Launch} {G : KG} : kOpOK l G 87 12 (.inl (g_ald 0 13)) := snd_aload_n dX4_addSieve_12 rfl
theorem s87_13 {l : Launch} {G : KG} : kOpOK l G 87 13 (.inl (g_ild 1 14)) := snd_iload_n dX4_addSieve_13 rfl
theorem s87_14 {l : Launch} {G : KG} : kOpOK l G 87 14 (.inr (.inl (85, 2, 17))) := ⟨snd_callV (c := 4) dX4_addSieve_14 rfl mok_85 rfl rfl rfl rfl (by decide) rfl wM_4_67 wN_X4_trayWith wL_X4_trayWith wI_4 (by decide), rfl, mok_85⟩
theorem s87_17 {l : Launch} {G : KG} : kOpOK l G 87 17 (.inl (g_push (-9) 19)) := snd_bipush dX4_addSieve_17 rfl
theorem s87_19 {l : Launch} {G : KG} : kOpOK l G 87 19 (.inl (g_br2 (fun x y => decide (x = y)) 25 22)) := snd_icmp_eq dX4_addSieve_19 (by decide)
theorem s87_22 {l : Launch} {G : KG} : kOpOK l G 87 22 (.inl (g_push (-2) 24)) := snd_bipush dX4_addSieve_22 rfl
theorem s87_24 {l : Launch} {G : KG} : kOpOK l G 87 24 (.inr (.inr 1)) := ⟨rfl, Or.inr (Or.inl ⟨rfl, dX4_addSieve_24, rfl⟩)⟩
theorem s87_25 {l : Launch} {G : KG} : kOpOK l G 87 25 (.inl (g_ald 0 26)) := snd_aload_n dX4_addSieve_25 rfl
theorem s87_26 {l : Launch} {G : KG} : kOpOK l G 87 26 (.inl (g_gfr 4 0 29)) := snd_gfr (c := 4) (j := 0) (N := 8) dX4_addSieve_26 rfl hin4 (by decide) rfl (by decide) rfl wF_4_7
theorem s87_29 {l : Launch} {G : KG} : kOpOK l G 87 29 (.inl (g_push 24 31)) := snd_bipush dX4_addSieve_29 rfl
theorem s87_31 {l : Launch} {G : KG} : kOpOK l G 87 31 (.inl (g_pald 5 32)) := snd_pald5 dX4_addSieve_31
theorem s87_32 {l : Launch} {G : KG} : kOpOK l G 87 32 (.inl (g_push 6 34)) := snd_bipush dX4_addSieve_32 rfl
theorem s87_34 {l : Launch} {G : KG} : kOpOK l G 87 34 (.inl (g_br2 (fun x y => decide (¬ x = y)) 40 37)) := snd_icmp_ne dX4_addSieve_34 (by decide)
theorem s87_37 {l : Launch} {G : KG} : kOpOK l G 87 37 (.inl (g_push (-3) 39)) := snd_bipush dX4_addSieve_37 rfl
theorem s87_39 {l : Launch} {G : KG} : kOpOK l G 87 39 (.inr (.inr 1)) := ⟨rfl, Or.inr (Or.inl ⟨rfl, dX4_addSieve_39, rfl⟩)⟩
theorem s87_40 {l : Launch} {G : KG} : kOpOK l G 87 40 (.inl (g_ald 0 41)) := snd_aload_n dX4_addSieve_40 rfl
theorem s87_41 {l : Launch} {G : KG} : kOpOK l G 87 41 (.inr (.inl (67, 1, 44))) := ⟨snd_callV (c := 4) dX4_addSieve_41 rfl mok_67 rfl rfl rfl rfl (by decide) rfl wM_4_34 wN_X4_notes wL_X4_notes wI_4 (by decide), rfl, mok_67⟩
theorem s87_44 {l : Launch} {G : KG} : kOpOK l G 87 44 (.inl (g_ald 0 45)) := snd_aload_n dX4_addSieve_44 rfl
theorem s87_45 {l : Launch} {G : KG} : kOpOK l G 87 45 (.inr (.inl (86, 1, 48))) := ⟨snd_callV (c := 4) dX4_addSieve_45 rfl mok_86 rfl rfl rfl rfl (by decide) rfl wM_4_70 wN_X4_ends wL_X4_ends wI_4 (by decide), rfl, mok_86⟩
theorem s87_48 {l : Launch} {G : KG} : kOpOK l G 87 48 (.inl (g_ald 0 49)) := snd_aload_n dX4_addSieve_48 rfl
theorem s87_49 {l : Launch} {G : KG} : kOpOK l G 87 49 (.inl (g_gfr 4 0 52)) := snd_gfr (c := 4) (j := 0) (N := 8) dX4_addSieve_49 rfl hin4 (by decide) rfl (by decide) rfl wF_4_7
theorem s87_52 {l : Launch} {G : KG} : kOpOK l G 87 52 (.inl (g_push 24 54)) := snd_bipush dX4_addSieve_52 rfl
theorem s87_54 {l : Launch} {G : KG} : kOpOK l G 87 54 (.inl (g_pald 5 55)) := snd_pald5 dX4_addSieve_54
theorem s87_55 {l : Launch} {G : KG} : kOpOK l G 87 55 (.inl (g_ist 2 56)) := snd_istore_n dX4_addSieve_55 rfl
theorem s87_56 {l : Launch} {G : KG} : kOpOK l G 87 56 (.inl (g_ild 2 57)) := snd_iload_n dX4_addSieve_56 rfl
theorem s87_57 {l : Launch} {G : KG} : kOpOK l G 87 57 (.inl (g_br1 (fun x => decide (x ≤ 0)) 101 60)) := snd_if_le dX4_addSieve_57 (by decide)
theorem s87_60 {l : Launch} {G : KG} : kOpOK l G 87 60 (.inl (g_ald 0 61)) := snd_aload_n dX4_addSieve_60 rfl
theorem s87_61 {l : Launch} {G : KG} : kOpOK l G 87 61 (.inl (g_gfr 4 0 64)) := snd_gfr (c := 4) (j := 0) (N := 8) dX4_addSieve_61 rfl hin4 (by decide) rfl (by decide) rfl wF_4_7
theorem s87_64 {l : Launch} {G : KG} : kOpOK l G 87 64 (.inl (g_push 25 66)) := snd_bipush dX4_addSieve_64 rfl
theorem s87_66 {l : Launch} {G : KG} : kOpOK l G 87 66 (.inl (g_ild 2 67)) := snd_iload_n dX4_addSieve_66 rfl
theorem s87_67 {l : Launch} {G : KG} : kOpOK l G 87 67 (.inl (g_iop (fun x y => x + y) 68)) := snd_iadd dX4_addSieve_67
theorem s87_68 {l : Launch} {G : KG} : kOpOK l G 87 68 (.inl (g_push 1 69)) := snd_iconst dX4_addSieve_68 rfl
theorem s87_69 {l : Launch} {G : KG} : kOpOK l G 87 69 (.inl (g_iop (fun x y => x - y) 70)) := snd_isub dX4_addSieve_69
theorem s87_70 {l : Launch} {G : KG} : kOpOK l G 87 70 (.inl (g_pald 5 71)) := snd_pald5 dX4_addSieve_70
theorem s87_71 {l : Launch} {G : KG} : kOpOK l G 87 71 (.inl (g_ild 1 72)) := snd_iload_n dX4_addSieve_71 rfl
theorem s87_72 {l : Launch} {G : KG} : kOpOK l G 87 72 (.inl (g_br2 (fun x y => decide (y ≤ x)) 101 75)) := snd_icmp_ge dX4_addSieve_72 (by decide)
theorem s87_75 {l : Launch} {G : KG} : kOpOK l G 87 75 (.inl (g_ald 0 76)) := snd_aload_n dX4_addSieve_75 rfl
theorem s87_76 {l : Launch} {G : KG} : kOpOK l G 87 76 (.inl (g_gfr 4 0 79)) := snd_gfr (c := 4) (j := 0) (N := 8) dX4_addSieve_76 rfl hin4 (by decide) rfl (by decide) rfl wF_4_7
theorem s87_79 {l : Launch} {G : KG} : kOpOK l G 87 79 (.inl (g_push 25 81)) := snd_bipush dX4_addSieve_79 rfl
theorem s87_81 {l : Launch} {G : KG} : kOpOK l G 87 81 (.inl (g_ild 2 82)) := snd_iload_n dX4_addSieve_81 rfl
theorem s87_82 {l : Launch} {G : KG} : kOpOK l G 87 82 (.inl (g_iop (fun x y => x + y) 83)) := snd_iadd dX4_addSieve_82
theorem s87_83 {l : Launch} {G : KG} : kOpOK l G 87 83 (.inl (g_ald 0 84)) := snd_aload_n dX4_addSieve_83 rfl
theorem s87_84 {l : Launch} {G : KG} : kOpOK l G 87 84 (.inl (g_gfr 4 0 87)) := snd_gfr (c := 4) (j := 0) (N := 8) dX4_addSieve_84 rfl hin4 (by decide) rfl (by decide) rfl wF_4_7
theorem s87_87 {l : Launch} {G : KG} : kOpOK l G 87 87 (.inl (g_push 25 89)) := snd_bipush dX4_addSieve_87 rfl
theorem s87_89 {l : Launch} {G : KG} : kOpOK l G 87 89 (.inl (g_ild 2 90)) := snd_iload_n dX4_addSieve_89 rfl
theorem s87_90 {l : Launch} {G : KG} : kOpOK l G 87 90 (.inl (g_iop (fun x y => x + y) 91)) := snd_iadd dX4_addSieve_90
theorem s87_91 {l : Launch} {G : KG} : kOpOK l G 87 91 (.inl (g_push 1 92)) := snd_iconst dX4_addSieve_91 rfl
theorem s87_92 {l : Launch} {G : KG} : kOpOK l G 87 92 (.inl (g_iop (fun x y => x - y) 93)) := snd_isub dX4_addSieve_92
theorem s87_93 {l : Launch} {G : KG} : kOpOK l G 87 93 (.inl (g_pald 5 94)) := snd_pald5 dX4_addSieve_93
theorem s87_94 {l : Launch} {G : KG} : kOpOK l G 87 94 (.inl (g_past 5 95)) := snd_past5 dX4_addSieve_94
theorem s87_95 {l : Launch} {G : KG} : kOpOK l G 87 95 (.inl (g_iinc 2 (-1) 98)) := snd_iinc dX4_addSieve_95 rfl
theorem s87_98 {l : Launch} {G : KG} : kOpOK l G 87 98 (.inl (g_goto 56)) := snd_goto dX4_addSieve_98 (by decide)
theorem s87_101 {l : Launch} {G : KG} : kOpOK l G 87 101 (.inl (g_ald 0 102)) := snd_aload_n dX4_addSieve_101 rfl
theorem s87_102 {l : Launch} {G : KG} : kOpOK l G 87 102 (.inl (g_gfr 4 0 105)) := snd_gfr (c := 4) (j := 0) (N := 8) dX4_addSieve_102 rfl hin4 (by decide) rfl (by decide) rfl wF_4_7
theorem s87_105 {l : Launch} {G : KG} : kOpOK l G 87 105 (.inl (g_push 25 107)) := snd_bipush dX4_addSieve_105 rfl
theorem s87_107 {l : Launch} {G : KG} : kOpOK l G 87 107 (.inl (g_ild 2 108)) := snd_iload_n dX4_addSieve_107 rfl
theorem s87_108 {l : Launch} {G : KG} : kOpOK l G 87 108 (.inl (g_iop (fun x y => x + y) 109)) := snd_iadd dX4_addSieve_108
theorem s87_109 {l : Launch} {G : KG} : kOpOK l G 87 109 (.inl (g_ild 1 110)) := snd_iload_n dX4_addSieve_109 rfl
theorem s87_110 {l : Launch} {G : KG} : kOpOK l G 87 110 (.inl (g_past 5 111)) := snd_past5 dX4_addSieve_110
theorem s87_111 {l : Launch} {G : KG} : kOpOK l G 87 111 (.inl (g_ald 0 112)) := snd_aload_n dX4_addSieve_111 rfl
theorem s87_112 {l : Launch} {G : KG} : kOpOK l G 87 112 (.inl (g_gfr 4 0 115)) := snd_gfr (c := 4) (j := 0) (N := 8) dX4_addSieve_112 rfl hin4 (by decide) rfl (by decide) rfl wF_4_7
theorem s87_115 {l : Launch} {G : KG} : kOpOK l G 87 115 (.inl (g_push 24 117)) := snd_bipush dX4_addSieve_115 rfl
theorem s87_117 {l : Launch} {G : KG} : kOpOK l G 87 117 (.inl (g_dup2 118)) := snd_dup2 dX4_addSieve_117
theorem s87_118 {l : Launch} {G : KG} : kOpOK l G 87 118 (.inl (g_pald 5 119)) := snd_pald5 dX4_addSieve_118
theorem s87_119 {l : Launch} {G : KG} : kOpOK l G 87 119 (.inl (g_push 1 120)) := snd_iconst dX4_addSieve_119 rfl
theorem s87_120 {l : Launch} {G : KG} : kOpOK l G 87 120 (.inl (g_iop (fun x y => x + y) 121)) := snd_iadd dX4_addSieve_120
theorem s87_121 {l : Launch} {G : KG} : kOpOK l G 87 121 (.inl (g_past 5 122)) := snd_past5 dX4_addSieve_121
theorem s87_122 {l : Launch} {G : KG} : kOpOK l G 87 122 (.inl (g_ild 2 123)) := snd_iload_n dX4_addSieve_122 rfl
theorem s87_123 {l : Launch} {G : KG} : kOpOK l G 87 123 (.inr (.inr 1)) := ⟨rfl, Or.inr (Or.inl ⟨rfl, dX4_addSieve_123, rfl⟩)⟩
theorem s88_0 {l : Launch} {G : KG} : kOpOK l G 88 0 (.inl (g_ild 1 1)) := snd_iload_n dX4_removeSieve_0 rfl
